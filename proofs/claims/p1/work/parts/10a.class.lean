theorem dfv_X0 : ∀ j, j < 2 → defaultValue (tyX0 j) = vp_V [.null, .null] j := by decide +kernel
theorem dfv_X1 : ∀ j, j < 8 → defaultValue (tyX1 j) = vp_V [.null, .null, .null, .null, .null, .int 0, .int 0, .int 0] j := by decide +kernel
theorem dfv_X2 : ∀ j, j < 3 → defaultValue (tyX2 j) = vp_V [.null, .int 0, .int 0] j := by decide +kernel
theorem dfv_X3 : ∀ j, j < 2 → defaultValue (tyX3 j) = vp_V [.null, .int 0] j := by decide +kernel
theorem dfv_X4 : ∀ j, j < 5 → defaultValue (tyX4 j) = vp_V [.null, .null, .null, .null, .null] j := by decide +kernel
theorem dfv_X5 : ∀ j, j < 6 → defaultValue (tyX5 j) = vp_V [.null, .null, .null, .null, .null, .null] j := by decide +kernel
theorem dfv_X6 : ∀ j, j < 5 → defaultValue (tyX6 j) = vp_V [.null, .null, .int 0, .int 0, .int 0] j := by decide +kernel
theorem dfv_X7 : ∀ j, j < 4 → defaultValue (tyX7 j) = vp_V [.null, .null, .int 0, .int 0] j := by decide +kernel
theorem dfv_X8 : ∀ j, j < 6 → defaultValue (tyX8 j) = vp_V [.null, .int 0, .int 0, .int 0, .int 0, .int 0] j := by decide +kernel
theorem dfv_X9 : ∀ j, j < 10 → defaultValue (tyX9 j) = vp_V [.null, .null, .null, .null, .int 0, .int 0, .int 0, .int 0, .int 0, .int 0] j := by decide +kernel
theorem dfv_X10 : ∀ j, j < 1 → defaultValue (tyX10 j) = vp_V [.null] j := by decide +kernel
theorem dfv_X11 : ∀ j, j < 17 → defaultValue (tyX11 j) = vp_V [.null, .null, .null, .null, .null, .null, .null, .null, .null, .null, .null, .null, .null, .int 0, .int 0, .int 0, .int 0] j := by decide +kernel
theorem dfv_X12 : ∀ j, j < 60 → defaultValue (tyX12 j) = vp_V [.int 0, .int 0, .null, .null, .null, .null, .null, .null, .int 0, .null, .null, .int 0, .null, .int 0, .int 0, .int 0, .int 0, .long 0, .int 0, .int 0, .int 0, .int 0, .null, .int 0, .null, .null, .int 0, .null, .null, .int 0, .int 0, .null, .null, .null, .int 0, .null, .null, .null, .int 0, .long 0, .long 0, .null, .null, .null, .null, .null, .null, .null, .null, .null, .null, .null, .int 0, .int 0, .int 0, .int 0, .long 0, .null, .int 0, .int 0] j := by decide +kernel
theorem dX11_within_0 : decode cX11_within 0 = .ok (.iload_n 0, 1) := by decide +kernel
theorem dX11_within_1 : decode cX11_within 1 = .ok (.iload_n 1, 1) := by decide +kernel
theorem dX11_within_2 : decode cX11_within 2 = .ok (.if_icmp .lt 12, 3) := by decide +kernel
theorem dX11_within_14 : decode cX11_within 14 = .ok (.iconst 0, 1) := by decide +kernel
theorem dX11_within_15 : decode cX11_within 15 = .ok (.ireturn, 1) := by decide +kernel
theorem dX11_within_5 : decode cX11_within 5 = .ok (.iload_n 0, 1) := by decide +kernel
theorem dX11_within_6 : decode cX11_within 6 = .ok (.iload_n 2, 1) := by decide +kernel
theorem dX11_within_7 : decode cX11_within 7 = .ok (.if_icmp .gt 7, 3) := by decide +kernel
theorem dX11_within_10 : decode cX11_within 10 = .ok (.iconst 1, 1) := by decide +kernel
theorem dX11_within_11 : decode cX11_within 11 = .ok (.goto 4, 3) := by decide +kernel
theorem dX9_has_0 : decode cX9_has 0 = .ok (.iload_n 1, 1) := by decide +kernel
theorem dX9_has_1 : decode cX9_has 1 = .ok (.ifCond .lt 15, 3) := by decide +kernel
theorem dX9_has_16 : decode cX9_has 16 = .ok (.iconst 0, 1) := by decide +kernel
theorem dX9_has_17 : decode cX9_has 17 = .ok (.ireturn, 1) := by decide +kernel
theorem dX9_has_4 : decode cX9_has 4 = .ok (.iload_n 1, 1) := by decide +kernel
theorem dX9_has_5 : decode cX9_has 5 = .ok (.aload_n 0, 1) := by decide +kernel
theorem dX9_has_6 : decode cX9_has 6 = .ok (.getfield 27, 3) := by decide +kernel
theorem dX9_has_9 : decode cX9_has 9 = .ok (.if_icmp .ge 7, 3) := by decide +kernel
theorem dX11_accept_0 : decode cX11_accept 0 = .ok (.aload_n 0, 1) := by decide +kernel
theorem dX11_accept_1 : decode cX11_accept 1 = .ok (.iconst 0, 1) := by decide +kernel
theorem dX11_accept_2 : decode cX11_accept 2 = .ok (.putfield 83, 3) := by decide +kernel
theorem dX11_accept_5 : decode cX11_accept 5 = .ok (.iload_n 1, 1) := by decide +kernel
theorem dX11_accept_6 : decode cX11_accept 6 = .ok (.ireturn, 1) := by decide +kernel
theorem dX11_refuse_0 : decode cX11_refuse 0 = .ok (.iload_n 1, 1) := by decide +kernel
theorem dX11_refuse_1 : decode cX11_refuse 1 = .ok (.bipush (-4), 2) := by decide +kernel
theorem dX11_refuse_3 : decode cX11_refuse 3 = .ok (.if_icmp .le 10, 3) := by decide +kernel
theorem dX11_refuse_6 : decode cX11_refuse 6 = .ok (.iload_n 1, 1) := by decide +kernel
theorem dX11_refuse_7 : decode cX11_refuse 7 = .ok (.ineg, 1) := by decide +kernel
theorem dX11_refuse_8 : decode cX11_refuse 8 = .ok (.iconst 1, 1) := by decide +kernel
theorem dX11_refuse_9 : decode cX11_refuse 9 = .ok (.isub, 1) := by decide +kernel
theorem dX11_refuse_10 : decode cX11_refuse 10 = .ok (.goto 7, 3) := by decide +kernel
theorem dX11_refuse_17 : decode cX11_refuse 17 = .ok (.istore_n 2, 1) := by decide +kernel
theorem dX11_refuse_18 : decode cX11_refuse 18 = .ok (.iload_n 2, 1) := by decide +kernel
theorem dX11_refuse_19 : decode cX11_refuse 19 = .ok (.iconst 0, 1) := by decide +kernel
theorem dX11_refuse_20 : decode cX11_refuse 20 = .ok (.aload_n 0, 1) := by decide +kernel
theorem dX11_refuse_21 : decode cX11_refuse 21 = .ok (.getfield 79, 3) := by decide +kernel
theorem dX11_refuse_24 : decode cX11_refuse 24 = .ok (.arraylength, 1) := by decide +kernel
theorem dX11_refuse_25 : decode cX11_refuse 25 = .ok (.iconst 1, 1) := by decide +kernel
theorem dX11_refuse_26 : decode cX11_refuse 26 = .ok (.isub, 1) := by decide +kernel
theorem dX11_refuse_27 : decode cX11_refuse 27 = .ok (.invokestatic 97, 3) := by decide +kernel
theorem dX11_refuse_30 : decode cX11_refuse 30 = .ok (.ifCond .eq 13, 3) := by decide +kernel
theorem dX11_refuse_33 : decode cX11_refuse 33 = .ok (.aload_n 0, 1) := by decide +kernel
theorem dX11_refuse_34 : decode cX11_refuse 34 = .ok (.getfield 79, 3) := by decide +kernel
theorem dX11_refuse_37 : decode cX11_refuse 37 = .ok (.iload_n 2, 1) := by decide +kernel
theorem dX11_refuse_38 : decode cX11_refuse 38 = .ok (.dup2, 1) := by decide +kernel
theorem dX11_refuse_39 : decode cX11_refuse 39 = .ok (.iaload, 1) := by decide +kernel
theorem dX11_refuse_40 : decode cX11_refuse 40 = .ok (.iconst 1, 1) := by decide +kernel
theorem dX11_refuse_41 : decode cX11_refuse 41 = .ok (.iadd, 1) := by decide +kernel
theorem dX11_refuse_42 : decode cX11_refuse 42 = .ok (.iastore, 1) := by decide +kernel
theorem dX11_refuse_43 : decode cX11_refuse 43 = .ok (.aload_n 0, 1) := by decide +kernel
theorem dX11_refuse_44 : decode cX11_refuse 44 = .ok (.iload_n 1, 1) := by decide +kernel
theorem dX11_refuse_45 : decode cX11_refuse 45 = .ok (.putfield 83, 3) := by decide +kernel
theorem dX11_refuse_48 : decode cX11_refuse 48 = .ok (.iload_n 1, 1) := by decide +kernel
theorem dX11_refuse_49 : decode cX11_refuse 49 = .ok (.ireturn, 1) := by decide +kernel
theorem dX11_refuse_13 : decode cX11_refuse 13 = .ok (.iload_n 1, 1) := by decide +kernel
theorem dX11_refuse_14 : decode cX11_refuse 14 = .ok (.ineg, 1) := by decide +kernel
theorem dX11_refuse_15 : decode cX11_refuse 15 = .ok (.iconst 2, 1) := by decide +kernel
theorem dX11_refuse_16 : decode cX11_refuse 16 = .ok (.isub, 1) := by decide +kernel
theorem dX11_status_0 : decode cX11_status 0 = .ok (.aload_n 0, 1) := by decide +kernel
theorem dX11_status_1 : decode cX11_status 1 = .ok (.getfield 83, 3) := by decide +kernel
theorem dX11_status_4 : decode cX11_status 4 = .ok (.ireturn, 1) := by decide +kernel
theorem dX11_ash_0 : decode cX11_ash 0 = .ok (.aload_n 0, 1) := by decide +kernel
theorem dX11_ash_1 : decode cX11_ash 1 = .ok (.getfield 87, 3) := by decide +kernel
theorem dX11_ash_4 : decode cX11_ash 4 = .ok (.ireturn, 1) := by decide +kernel
theorem dX11_hear_0 : decode cX11_hear 0 = .ok (.iload_n 1, 1) := by decide +kernel
theorem dX11_hear_1 : decode cX11_hear 1 = .ok (.iconst 0, 1) := by decide +kernel
theorem dX11_hear_2 : decode cX11_hear 2 = .ok (.bipush 127, 2) := by decide +kernel
theorem dX11_hear_4 : decode cX11_hear 4 = .ok (.invokestatic 97, 3) := by decide +kernel
theorem dX11_hear_7 : decode cX11_hear 7 = .ok (.ifCond .ne 9, 3) := by decide +kernel
theorem dX11_hear_16 : decode cX11_hear 16 = .ok (.aload_n 0, 1) := by decide +kernel
theorem dX11_hear_17 : decode cX11_hear 17 = .ok (.getfield 10, 3) := by decide +kernel
theorem dX11_hear_20 : decode cX11_hear 20 = .ok (.getfield 258, 3) := by decide +kernel
theorem dX11_hear_23 : decode cX11_hear 23 = .ok (.bipush 6, 2) := by decide +kernel
theorem dX11_hear_25 : decode cX11_hear 25 = .ok (.if_icmp .lt 10, 3) := by decide +kernel
theorem dX11_hear_35 : decode cX11_hear 35 = .ok (.aload_n 0, 1) := by decide +kernel
theorem dX11_hear_36 : decode cX11_hear 36 = .ok (.getfield 10, 3) := by decide +kernel
theorem dX11_hear_39 : decode cX11_hear 39 = .ok (.dup, 1) := by decide +kernel
theorem dX11_hear_40 : decode cX11_hear 40 = .ok (.getfield 261, 3) := by decide +kernel
theorem dX11_hear_43 : decode cX11_hear 43 = .ok (.iload_n 1, 1) := by decide +kernel
theorem dX11_hear_44 : decode cX11_hear 44 = .ok (.ior, 1) := by decide +kernel
theorem dX11_hear_45 : decode cX11_hear 45 = .ok (.putfield 261, 3) := by decide +kernel
theorem dX11_hear_48 : decode cX11_hear 48 = .ok (.aload_n 0, 1) := by decide +kernel
theorem dX11_hear_49 : decode cX11_hear 49 = .ok (.getfield 10, 3) := by decide +kernel
theorem dX11_hear_52 : decode cX11_hear 52 = .ok (.dup, 1) := by decide +kernel
theorem dX11_hear_53 : decode cX11_hear 53 = .ok (.getfield 258, 3) := by decide +kernel
theorem dX11_hear_56 : decode cX11_hear 56 = .ok (.iconst 1, 1) := by decide +kernel
theorem dX11_hear_57 : decode cX11_hear 57 = .ok (.iadd, 1) := by decide +kernel
theorem dX11_hear_58 : decode cX11_hear 58 = .ok (.putfield 258, 3) := by decide +kernel
theorem dX11_hear_61 : decode cX11_hear 61 = .ok (.aload_n 0, 1) := by decide +kernel
theorem dX11_hear_62 : decode cX11_hear 62 = .ok (.aload_n 0, 1) := by decide +kernel
theorem dX11_hear_63 : decode cX11_hear 63 = .ok (.getfield 10, 3) := by decide +kernel
theorem dX11_hear_66 : decode cX11_hear 66 = .ok (.getfield 258, 3) := by decide +kernel
theorem dX11_hear_69 : decode cX11_hear 69 = .ok (.invokevirtual 118, 3) := by decide +kernel
theorem dX11_hear_72 : decode cX11_hear 72 = .ok (.ireturn, 1) := by decide +kernel
theorem dX11_hear_10 : decode cX11_hear 10 = .ok (.aload_n 0, 1) := by decide +kernel
theorem dX11_hear_11 : decode cX11_hear 11 = .ok (.iconst (-1), 1) := by decide +kernel
theorem dX11_hear_12 : decode cX11_hear 12 = .ok (.invokevirtual 101, 3) := by decide +kernel
theorem dX11_hear_15 : decode cX11_hear 15 = .ok (.ireturn, 1) := by decide +kernel
theorem dX11_forget_0 : decode cX11_forget 0 = .ok (.aload_n 0, 1) := by decide +kernel
theorem dX11_forget_1 : decode cX11_forget 1 = .ok (.getfield 10, 3) := by decide +kernel
theorem dX11_forget_4 : decode cX11_forget 4 = .ok (.getfield 258, 3) := by decide +kernel
theorem dX11_forget_7 : decode cX11_forget 7 = .ok (.istore_n 1, 1) := by decide +kernel
theorem dX11_forget_8 : decode cX11_forget 8 = .ok (.aload_n 0, 1) := by decide +kernel
theorem dX11_forget_9 : decode cX11_forget 9 = .ok (.getfield 10, 3) := by decide +kernel
theorem dX11_forget_12 : decode cX11_forget 12 = .ok (.iconst 0, 1) := by decide +kernel
theorem dX11_forget_13 : decode cX11_forget 13 = .ok (.putfield 258, 3) := by decide +kernel
theorem dX11_forget_16 : decode cX11_forget 16 = .ok (.aload_n 0, 1) := by decide +kernel
theorem dX11_forget_17 : decode cX11_forget 17 = .ok (.getfield 10, 3) := by decide +kernel
theorem dX11_forget_20 : decode cX11_forget 20 = .ok (.iconst 0, 1) := by decide +kernel
theorem dX11_forget_21 : decode cX11_forget 21 = .ok (.putfield 261, 3) := by decide +kernel
theorem dX11_forget_24 : decode cX11_forget 24 = .ok (.iload_n 1, 1) := by decide +kernel
theorem dX11_forget_25 : decode cX11_forget 25 = .ok (.ireturn, 1) := by decide +kernel
theorem dX11_fault_0 : decode cX11_fault 0 = .ok (.aload_n 0, 1) := by decide +kernel
theorem dX11_fault_1 : decode cX11_fault 1 = .ok (.getfield 30, 3) := by decide +kernel
theorem dX11_fault_4 : decode cX11_fault 4 = .ok (.getfield 200, 3) := by decide +kernel
theorem dX11_fault_7 : decode cX11_fault 7 = .ok (.ireturn, 1) := by decide +kernel
theorem dX11_stopped_0 : decode cX11_stopped 0 = .ok (.aload_n 0, 1) := by decide +kernel
theorem dX11_stopped_1 : decode cX11_stopped 1 = .ok (.getfield 42, 3) := by decide +kernel
theorem dX11_stopped_4 : decode cX11_stopped 4 = .ok (.getfield 193, 3) := by decide +kernel
theorem dX11_stopped_7 : decode cX11_stopped 7 = .ok (.ireturn, 1) := by decide +kernel
set_option maxRecDepth 20000 in
theorem ggX11_refuse_X11_within : GoodIn wsX11_refuse wsX11_within := goodIn_r _ [6] (by decide +kernel) (by decide +kernel)
set_option maxRecDepth 20000 in
theorem gX11_refuse_X11_within : GoodIn wsX11_refuse (va_wsS RX11 97 yX11_within wsX11_within) := goodIn_app (goodIn_of _ (by decide +kernel)) ggX11_refuse_X11_within
set_option maxRecDepth 20000 in
theorem ggX11_hear_X11_within : GoodIn wsX11_hear wsX11_within := goodIn_r _ [5] (by decide +kernel) (by decide +kernel)
set_option maxRecDepth 20000 in
theorem gX11_hear_X11_within : GoodIn wsX11_hear (va_wsS RX11 97 yX11_within wsX11_within) := goodIn_app (goodIn_of _ (by decide +kernel)) ggX11_hear_X11_within
set_option maxRecDepth 20000 in
theorem ggX11_hear_X11_accept : GoodIn wsX11_hear wsX11_accept := goodIn_r _ [15, 11, 16, 17, 18, 19, 20, 21, 22, 23, 24, 25, 26, 27, 28, 29, 30, 31, 32] (by decide +kernel) (by decide +kernel)
set_option maxRecDepth 20000 in
theorem gX11_hear_X11_accept : GoodIn wsX11_hear (wsV RX11 118 RX11 yX11_accept wsX11_accept) := goodIn_app (goodIn_of _ (by decide +kernel)) ggX11_hear_X11_accept
set_option maxRecDepth 20000 in
theorem ggX11_hear_X11_refuse : GoodIn wsX11_hear wsX11_refuse := goodIn_r _ [9, 10, 11, 2, 3, 4, 5, 16, 17, 18, 19, 20, 21, 22, 23, 24, 25, 26, 27, 28, 29, 30, 31, 32] (by decide +kernel) (by decide +kernel)
set_option maxRecDepth 20000 in
theorem gX11_hear_X11_refuse : GoodIn wsX11_hear (wsV RX11 101 RX11 yX11_refuse wsX11_refuse) := goodIn_app (goodIn_of _ (by decide +kernel)) ggX11_hear_X11_refuse
set_option maxHeartbeats 4000000 in
set_option maxRecDepth 100000 in
theorem c_within (l : Launch) (D : va_G) (K : Nat → ClassId) (v : Int32) (lo : Int32) (hi : Int32) (V : Int) (LO : Int) (HI : Int) (sz : Nat) (qv : v.toInt = V) (qlo : lo.toInt = LO) (qhi : hi.toInt = HI) : Met l yX11_within wsX11_within ({ frames := 0, cells := 0, slots := 0, locals := 0 }) (va_Pc [.int v, .int lo, .int hi] (Pre D K [] sz)) (vp_Si (fun r : Int32 => (r = 1 ∧ LO ≤ V ∧ V ≤ HI) ∨ (r = 0 ∧ (V < LO ∨ HI < V)))) 0 0 (fun _ => False) := by
  refine Met.ofW (cc := cX11_within) (maxL := 3) (ret := (some .boolean)) (by decide) rfl ?_
  intro p e s m args below meth c s₁ B hml hv
  obtain ⟨rfl, hsz, hP, hK, hD0, hN⟩ := hv
  have hx := B.exec
  have hb := B.bytes
  have hr := B.returns
  have hts := atoms_spec (ws := wsX11_within) B.pre
  have hown : s.vm.findClass RX11 = some m.cls := findClass_of_methodNamed B.named
  have hlocks := B.notSynchronized
  subst hsz
  have hD := hD0
  have hP : va_P D vwCl [] s.heap := hP
  have hl := lv_entry [.int v, .int lo, .int hi] (n := 3) (Nat.le_of_ble_eq_true rfl)
  rw [lg_entry_eq]
  generalize (lg_sl [.int v, .int lo, .int hi] ++ List.replicate (3 - (lg_sl [.int v, .int lo, .int hi]).length) Slot.unset).toArray = ls at hl ⊢
  have hl : lv_has ls 3 [(0, .int v), (1, .int lo), (2, .int hi)] := hl
  refine lv_iload_n hx hb dX11_within_0 rfl (lv_at hl 0 rfl) ?_
  refine lv_iload_n hx hb dX11_within_1 rfl (lv_at hl 1 rfl) ?_
  refine lv_icmp_lt (tgt := 14) hx hb dX11_within_2 (by decide) (fun c_1 => ?_) (fun c_1 => ?_)
  · have c_1i := i_lt (x := V) (y := LO) qv qlo c_1
    refine lv_iconst (v := 0) hx hb dX11_within_14 (by decide) ?_
    exact W.zret (v := 0) hx hb hr (by first | rfl | decide) (fun t ht hW => ⟨_, rfl, (by first | exact Or.inr (⟨rfl, by first | omega | decide | (subst_vars; assumption) | (subst_vars; symm; assumption)⟩)), ht⟩) (fun q hq => by cases hq) dX11_within_15
  · have c_1i := i_nlt (x := V) (y := LO) qv qlo c_1
    refine lv_iload_n hx hb dX11_within_5 rfl (lv_at hl 0 rfl) ?_
    refine lv_iload_n hx hb dX11_within_6 rfl (lv_at hl 2 rfl) ?_
    refine lv_icmp_gt (tgt := 14) hx hb dX11_within_7 (by decide) (fun c_2 => ?_) (fun c_2 => ?_)
    · have c_2i := i_lt (x := HI) (y := V) qhi qv c_2
      refine lv_iconst (v := 0) hx hb dX11_within_14 (by decide) ?_
      exact W.zret (v := 0) hx hb hr (by first | rfl | decide) (fun t ht hW => ⟨_, rfl, (by first | exact Or.inr (⟨rfl, by first | omega | decide | (subst_vars; assumption) | (subst_vars; symm; assumption)⟩)), ht⟩) (fun q hq => by cases hq) dX11_within_15
    · have c_2i := i_nlt (x := HI) (y := V) qhi qv c_2
      refine lv_iconst (v := 1) hx hb dX11_within_10 (by decide) ?_
      refine lv_goto (tgt := 15) hx hb dX11_within_11 (by decide) ?_
      exact W.zret (v := 1) hx hb hr (by first | rfl | decide) (fun t ht hW => ⟨_, rfl, (by first | exact Or.inl (⟨rfl, by first | omega | decide | (subst_vars; assumption) | (subst_vars; symm; assumption), by first | omega | decide | (subst_vars; assumption) | (subst_vars; symm; assumption)⟩)), ht⟩) (fun q hq => by cases hq) dX11_within_15
set_option maxHeartbeats 4000000 in
set_option maxRecDepth 100000 in
theorem c_has (l : Launch) (D : va_G) (K : Nat → ClassId) (a0 : Nat) (x : Int32) (k0 : Value) (k1 : Value) (k2 : Value) (k3 : Value) (k5 : Value) (k6 : Value) (k7 : Value) (k8 : Value) (k9 : Value) (sz : Nat) : Met l yX9_has wsX9_has ({ frames := 0, cells := 0, slots := 0, locals := 0 }) (va_Pc [.ref a0, .int x] (Pre D K [(a0, .inr (9, [k0, k1, k2, k3, .int 0, k5, k6, k7, k8, k9]))] sz)) (vp_Si (fun r : Int32 => (r = 0))) 0 0 (fun _ => False) := by
  refine Met.ofW (cc := cX9_has) (maxL := 2) (ret := (some .boolean)) (by decide) rfl ?_
  intro p e s m args below meth c s₁ B hml hv
  obtain ⟨rfl, hsz, hP, hK, hD0, hN⟩ := hv
  have hx := B.exec
  have hb := B.bytes
  have hr := B.returns
  have hts := atoms_spec (ws := wsX9_has) B.pre
  have hown : s.vm.findClass RX9 = some m.cls := findClass_of_methodNamed B.named
  have hlocks := B.notSynchronized
  subst hsz
  have hD := hD0
  have hP : va_P D vwCl [(a0, .inr (9, [k0, k1, k2, k3, .int 0, k5, k6, k7, k8, k9]))] s.heap := hP
  have hl := lv_entry [.ref a0, .int x] (n := 2) (Nat.le_of_ble_eq_true rfl)
  rw [lg_entry_eq]
  generalize (lg_sl [.ref a0, .int x] ++ List.replicate (2 - (lg_sl [.ref a0, .int x]).length) Slot.unset).toArray = ls at hl ⊢
  have hl : lv_has ls 2 [(0, .ref a0), (1, .int x)] := hl
  have hw9 : ∀ w ∈ wsX90, w ∈ wsX9_has := fun w h => (List.mem_cons_of_mem _ (List.mem_append_right _ h))
  refine lv_iload_n hx hb dX9_has_0 rfl (lv_at hl 1 rfl) ?_
  refine lv_if_lt (tgt := 16) hx hb dX9_has_1 (by decide) (fun c_1 => ?_) (fun c_1 => ?_)
  · have c_1i := i_lt (x := x.toInt) (y := 0) rfl rfl c_1
    refine lv_iconst (v := 0) hx hb dX9_has_16 (by decide) ?_
    exact W.zret (v := 0) hx hb hr (by first | rfl | decide) (fun t ht hW => ⟨_, rfl, (by first | exact rfl), ht⟩) (fun q hq => by cases hq) dX9_has_17
  · have c_1i := i_nlt (x := x.toInt) (y := 0) rfl rfl c_1
    refine lv_iload_n hx hb dX9_has_4 rfl (lv_at hl 1 rfl) ?_
    refine lv_aload_n hx hb dX9_has_5 rfl (lv_at hl 0 rfl) ?_
    refine va_get (ci := 9) (v := .int 0) (C := RX9) (T := TX9) (N := 10) hx hb hts hw9 hown hK hP 0 rfl rfl 4 (by decide) (hts (.fieldLink RX9 27 "SmokeTune$Town" "houses" "I") (List.mem_cons_of_mem _ (List.mem_append_left _ (List.mem_of_getElem? (i := 0) rfl)))) (fun _ h9 => h9) rfl dX9_has_6 ?_
    refine lv_icmp_ge (tgt := 16) hx hb dX9_has_9 (by decide) (fun c_2 => ?_) (fun c_2 => ?_)
    · have c_2i := i_le (x := 0) (y := x.toInt) rfl rfl c_2
      refine lv_iconst (v := 0) hx hb dX9_has_16 (by decide) ?_
      exact W.zret (v := 0) hx hb hr (by first | rfl | decide) (fun t ht hW => ⟨_, rfl, (by first | exact rfl), ht⟩) (fun q hq => by cases hq) dX9_has_17
    · have c_2i := i_nle (x := 0) (y := x.toInt) rfl rfl c_2
      exfalso; omega
set_option maxHeartbeats 4000000 in
set_option maxRecDepth 100000 in
theorem c_accept (l : Launch) (D : va_G) (K : Nat → ClassId) (a0 : Nat) (x : Int32) (g0 : Value) (g1 : Value) (g2 : Value) (g3 : Value) (g4 : Value) (g5 : Value) (g6 : Value) (g7 : Value) (g8 : Value) (g9 : Value) (g10 : Value) (g11 : Value) (g12 : Value) (g13 : Value) (g14 : Value) (g15 : Value) (g16 : Value) (sz : Nat) : Met l yX11_accept wsX11_accept ({ frames := 0, cells := 0, slots := 0, locals := 0 }) (va_Pc [.ref a0, .int x] (Pre D K [(a0, .inr (11, [g0, g1, g2, g3, g4, g5, g6, g7, g8, g9, g10, g11, g12, g13, g14, g15, g16]))] sz)) (va_Qi (S := Unit) (fun (r : Int32) (_ : Unit) => (r = x)) (fun u t => Wd D (va_A [(a0, .inr (11, [g0, g1, g2, g3, g4, g5, g6, g7, g8, g9, g10, g11, g12, g13, g14, g15, g16]))] sz) ((fun _ => []) u) t) (va_A [(a0, .inr (11, [g0, g1, g2, g3, g4, g5, g6, g7, g8, g9, g10, g11, g12, g13, g14, g15, g16]))] sz)) 0 0 (va_A [(a0, .inr (11, [g0, g1, g2, g3, g4, g5, g6, g7, g8, g9, g10, g11, g12, g13, g14, g15, g16]))] sz) := by
  refine Met.ofW (cc := cX11_accept) (maxL := 2) (ret := (some .int)) (by decide) rfl ?_
  intro p e s m args below meth c s₁ B hml hv
  obtain ⟨rfl, hsz, hP, hK, hD0, hN⟩ := hv
  have hx := B.exec
  have hb := B.bytes
  have hr := B.returns
  have hts := atoms_spec (ws := wsX11_accept) B.pre
  have hown : s.vm.findClass RX11 = some m.cls := findClass_of_methodNamed B.named
  have hlocks := B.notSynchronized
  subst hsz
  have hD := hD0.self (sz := s.heap.size)
  generalize hAe : va_A [(a0, .inr (11, [g0, g1, g2, g3, g4, g5, g6, g7, g8, g9, g10, g11, g12, g13, g14, g15, g16]))] s.heap.size = A at hD ⊢
  have hA : ∀ q : Nat, s.heap.size ≤ q → A q := fun q h => by rw [← hAe]; exact Or.inr h
  have hS : va_S A s.heap s.heap [] := va_S.rf
  have hP : va_P D vwCl [(a0, .inr (11, [g0, g1, g2, g3, g4, g5, g6, g7, g8, g9, g10, g11, g12, g13, g14, g15, g16]))] s.heap := hP
  have hl := lv_entry [.ref a0, .int x] (n := 2) (Nat.le_of_ble_eq_true rfl)
  rw [lg_entry_eq]
  generalize (lg_sl [.ref a0, .int x] ++ List.replicate (2 - (lg_sl [.ref a0, .int x]).length) Slot.unset).toArray = ls at hl ⊢
  have hl : lv_has ls 2 [(0, .ref a0), (1, .int x)] := hl
  have hw11 : ∀ w ∈ wsX110, w ∈ wsX11_accept := fun w h => (List.mem_cons_of_mem _ (List.mem_append_right _ h))
  refine lv_aload_n hx hb dX11_accept_0 rfl (lv_at hl 0 rfl) ?_
  refine lv_iconst (v := 0) hx hb dX11_accept_1 (by decide) ?_
  refine va_put (ci := 11) (v := .int 0) (ty := .int) (C := RX11) (T := TX11) (N := 17) hx hb hts hw11 tyX11 tyX11_ok nmX11 hown hK hP hD hS 0 rfl rfl 13 (by decide) (hts (.fieldLink RX11 83 "SmokeTune" "refusedBy" "I") (List.mem_cons_of_mem _ (List.mem_append_left _ (List.mem_of_getElem? (i := 0) rfl)))) (fun _ h9 => h9) rfl (by decide +kernel) (by first | rfl | decide) (by first | rfl | decide) (Nat.le_of_ble_eq_true rfl) dX11_accept_2 (fun H locs hP hD hS => ?_)
  have hP : va_P D vwCl [(a0, .inr (11, [g0, g1, g2, g3, g4, g5, g6, g7, g8, g9, g10, g11, g12, .int 0, g14, g15, g16]))] H := hP
  have hD : va_D A [(a0, .inr (11, [g0, g1, g2, g3, g4, g5, g6, g7, g8, g9, g10, g11, g12, .int 0, g14, g15, g16]))] := hD
  refine lv_iload_n hx hb dX11_accept_5 rfl (lv_at hl 1 rfl) ?_
  exact W.iret (v := x) hx hb hr (fun t ht hW => ⟨⟨x, (), rfl, (by first | exact rfl), Wd.nil⟩, hS.F ht⟩) hS.2.2 dX11_accept_6
set_option maxHeartbeats 4000000 in
set_option maxRecDepth 100000 in
theorem c_refuse_1 (l : Launch) (D : va_G) (K : Nat → ClassId) (a0 : Nat) (g0 : Value) (g1 : Value) (g2 : Value) (g3 : Value) (g4 : Value) (g5 : Value) (g6 : Value) (g7 : Value) (g8 : Value) (g9 : Value) (g10 : Value) (g11 : Value) (a1 : Nat) (g13 : Value) (g14 : Value) (g15 : Value) (g16 : Value) (f : Nat → Int32) (sz : Nat) : Met l yX11_refuse wsX11_refuse ({ frames := 1, cells := 0, slots := 0, locals := 22 }) (va_Pc [.ref a0, .int (-1)] (Pre D K [(a0, .inr (11, [g0, g1, g2, g3, g4, g5, g6, g7, g8, g9, g10, g11, .ref a1, g13, g14, g15, g16])), (a1, .inl (K 0, 5, .inl f))] sz)) (va_Qi (S := Unit) (fun (r : Int32) (_ : Unit) => (r = (-1))) (fun u t => Wd D (va_A [(a0, .inr (11, [g0, g1, g2, g3, g4, g5, g6, g7, g8, g9, g10, g11, .ref a1, g13, g14, g15, g16])), (a1, .inl (K 0, 5, .inl f))] sz) ((fun _ => []) u) t) (va_A [(a0, .inr (11, [g0, g1, g2, g3, g4, g5, g6, g7, g8, g9, g10, g11, .ref a1, g13, g14, g15, g16])), (a1, .inl (K 0, 5, .inl f))] sz)) 0 0 (va_A [(a0, .inr (11, [g0, g1, g2, g3, g4, g5, g6, g7, g8, g9, g10, g11, .ref a1, g13, g14, g15, g16])), (a1, .inl (K 0, 5, .inl f))] sz) := by
  refine Met.ofW (cc := cX11_refuse) (maxL := 3) (ret := (some .int)) (by decide) rfl ?_
  intro p e s m args below meth c s₁ B hml hv
  obtain ⟨rfl, hsz, hP, hK, hD0, hN⟩ := hv
  have hx := B.exec
  have hb := B.bytes
  have hr := B.returns
  have hts := atoms_spec (ws := wsX11_refuse) B.pre
  have hown : s.vm.findClass RX11 = some m.cls := findClass_of_methodNamed B.named
  have hlocks := B.notSynchronized
  subst hsz
  have hD := hD0.self (sz := s.heap.size)
  generalize hAe : va_A [(a0, .inr (11, [g0, g1, g2, g3, g4, g5, g6, g7, g8, g9, g10, g11, .ref a1, g13, g14, g15, g16])), (a1, .inl (K 0, 5, .inl f))] s.heap.size = A at hD ⊢
  have hA : ∀ q : Nat, s.heap.size ≤ q → A q := fun q h => by rw [← hAe]; exact Or.inr h
  have hS : va_S A s.heap s.heap [] := va_S.rf
  have hP : va_P D vwCl [(a0, .inr (11, [g0, g1, g2, g3, g4, g5, g6, g7, g8, g9, g10, g11, .ref a1, g13, g14, g15, g16])), (a1, .inl (K 0, 5, .inl f))] s.heap := hP
  have hl := lv_entry [.ref a0, .int (-1)] (n := 3) (Nat.le_of_ble_eq_true rfl)
  rw [lg_entry_eq]
  generalize (lg_sl [.ref a0, .int (-1)] ++ List.replicate (3 - (lg_sl [.ref a0, .int (-1)]).length) Slot.unset).toArray = ls at hl ⊢
  have hl : lv_has ls 3 [(0, .ref a0), (1, .int (-1))] := hl
  have hw11 : ∀ w ∈ wsX110, w ∈ wsX11_refuse := fun w h => (List.mem_cons_of_mem _ (List.mem_append_right _ h))
  refine lv_iload_n hx hb dX11_refuse_0 rfl (lv_at hl 1 rfl) ?_
  refine lv_bipush (v := (-4)) hx hb dX11_refuse_1 (by decide) ?_
  refine lv_icmp_le (tgt := 13) hx hb dX11_refuse_3 (by decide) (fun c_1 => absurd c_1 (by decide)) (fun c_1 => ?_)
  refine lv_iload_n hx hb dX11_refuse_6 rfl (lv_at hl 1 rfl) ?_
  refine lv_ineg hx hb dX11_refuse_7 ?_
  refine lv_topi (fun x_2 ex_2 => ?_)
  obtain rfl : x_2 = 1 := ex_2.trans (by first | rfl | decide)
  refine lv_iconst (v := 1) hx hb dX11_refuse_8 (by decide) ?_
  refine lv_isub hx hb dX11_refuse_9 ?_
  refine lv_topi (fun x_3 ex_3 => ?_)
  obtain rfl : x_3 = 0 := ex_3.trans (by first | rfl | decide)
  refine lv_goto (tgt := 17) hx hb dX11_refuse_10 (by decide) ?_
  refine lv_istore_n (lv' := [(2, .int 0), (0, .ref a0), (1, .int (-1))]) hx hb dX11_refuse_17 rfl hl (by decide) rfl (fun ls hl => ?_)
  refine lv_iload_n hx hb dX11_refuse_18 rfl (lv_at hl 0 rfl) ?_
  refine lv_iconst (v := 0) hx hb dX11_refuse_19 (by decide) ?_
  refine lv_aload_n hx hb dX11_refuse_20 rfl (lv_at hl 1 rfl) ?_
  refine va_get (ci := 11) (v := .ref a1) (C := RX11) (T := TX11) (N := 17) hx hb hts hw11 hown hK hP 0 rfl rfl 12 (by decide) (hts (.fieldLink RX11 79 "SmokeTune" "refusals" "[I") (List.mem_cons_of_mem _ (List.mem_append_left _ (List.mem_of_getElem? (i := 0) rfl)))) (fun _ h9 => h9) rfl dX11_refuse_21 ?_
  refine va_alen (v := 5) hx hb hK hP 1 0 rfl rfl rfl dX11_refuse_24 ?_
  refine lv_iconst (v := 1) hx hb dX11_refuse_25 (by decide) ?_
  refine lv_isub hx hb dX11_refuse_26 ?_
  refine lv_topi (fun x_4 ex_4 => ?_)
  obtain rfl : x_4 = 4 := ex_4.trans (by first | rfl | decide)
  refine pci (va_runS (As := [.int 0, .int 0, .int 4]) (rest := []) ⟨hx, hb, hml, hown, hts⟩ (c_within l D K 0 0 4 0 0 4 s.heap.size rfl rfl rfl) (va_cwS 3 hts gX11_refuse_X11_within rfl rfl rfl (by decide +kernel) ⟨Nat.le_of_ble_eq_true rfl, Nat.le_of_ble_eq_true rfl⟩) (mkS hK hN (hP.sub [] rfl) (hD.sub [] (by decide) rfl)) rfl rfl hl.1 rfl (lv_room (Nat.le_of_ble_eq_true rfl)) dX11_refuse_27 ⟨Nat.le_of_ble_eq_true rfl, Nat.le_of_ble_eq_true rfl⟩) (fun r_5 hw => ?_)
  rcases hw with ⟨rfl, h_6, h_7⟩ | ⟨rfl, h_8⟩
  · refine lv_if_eq (tgt := 43) hx hb dX11_refuse_30 (by decide) (fun c_9 => absurd c_9 (by decide)) (fun c_9 => ?_)
    refine lv_aload_n hx hb dX11_refuse_33 rfl (lv_at hl 1 rfl) ?_
    refine va_get (ci := 11) (v := .ref a1) (C := RX11) (T := TX11) (N := 17) hx hb hts hw11 hown hK hP 0 rfl rfl 12 (by decide) (hts (.fieldLink RX11 79 "SmokeTune" "refusals" "[I") (List.mem_cons_of_mem _ (List.mem_append_left _ (List.mem_of_getElem? (i := 0) rfl)))) (fun _ h9 => h9) rfl dX11_refuse_34 ?_
    refine lv_iload_n hx hb dX11_refuse_37 rfl (lv_at hl 0 rfl) ?_
    refine lv_dup2_11 hx hb dX11_refuse_38 rfl rfl ?_
    refine va_iald hx hb hK hP 1 0 rfl rfl (i_in (x := 0) rfl (by omega)) dX11_refuse_39 ?_
    refine lv_topi (fun x_10 ex_10 => ?_)
    refine lv_iconst (v := 1) hx hb dX11_refuse_40 (by decide) ?_
    refine lv_iadd hx hb dX11_refuse_41 ?_
    refine lv_topi (fun x_11 ex_11 => ?_)
    refine va_iast hx hb hK hP hD hS 1 0 rfl rfl (i_in (x := 0) rfl (by omega)) dX11_refuse_42 (fun H locs hP hD hS => ?_)
    generalize hf_12 : (upd f (0 : Int32).toNatClampNeg x_11) = f_12 at hP hD
    have hP : va_P D vwCl [(a0, .inr (11, [g0, g1, g2, g3, g4, g5, g6, g7, g8, g9, g10, g11, .ref a1, g13, g14, g15, g16])), (a1, .inl (K 0, 5, .inl f_12))] H := hP
    have hD : va_D A [(a0, .inr (11, [g0, g1, g2, g3, g4, g5, g6, g7, g8, g9, g10, g11, .ref a1, g13, g14, g15, g16])), (a1, .inl (K 0, 5, .inl f_12))] := hD
    refine lv_aload_n hx hb dX11_refuse_43 rfl (lv_at hl 1 rfl) ?_
    refine lv_iload_n hx hb dX11_refuse_44 rfl (lv_at hl 2 rfl) ?_
    refine va_put (ci := 11) (v := .int (-1)) (ty := .int) (C := RX11) (T := TX11) (N := 17) hx hb hts hw11 tyX11 tyX11_ok nmX11 hown hK hP hD hS 0 rfl rfl 13 (by decide) (hts (.fieldLink RX11 83 "SmokeTune" "refusedBy" "I") (List.mem_cons_of_mem _ (List.mem_append_left _ (List.mem_of_getElem? (i := 1) rfl)))) (fun _ h9 => h9) rfl (by decide +kernel) (by first | rfl | decide) (by first | rfl | decide) (Nat.le_of_ble_eq_true rfl) dX11_refuse_45 (fun H locs hP hD hS => ?_)
    have hP : va_P D vwCl [(a0, .inr (11, [g0, g1, g2, g3, g4, g5, g6, g7, g8, g9, g10, g11, .ref a1, .int (-1), g14, g15, g16])), (a1, .inl (K 0, 5, .inl f_12))] H := hP
    have hD : va_D A [(a0, .inr (11, [g0, g1, g2, g3, g4, g5, g6, g7, g8, g9, g10, g11, .ref a1, .int (-1), g14, g15, g16])), (a1, .inl (K 0, 5, .inl f_12))] := hD
    refine lv_iload_n hx hb dX11_refuse_48 rfl (lv_at hl 2 rfl) ?_
    exact W.iret (v := (-1)) hx hb hr (fun t ht hW => ⟨⟨(-1), (), rfl, (by first | exact rfl), Wd.nil⟩, hS.F ht⟩) hS.2.2 dX11_refuse_49
  · exfalso; omega
set_option maxHeartbeats 4000000 in
set_option maxRecDepth 100000 in
theorem c_refuse_2 (l : Launch) (D : va_G) (K : Nat → ClassId) (a0 : Nat) (g0 : Value) (g1 : Value) (g2 : Value) (g3 : Value) (g4 : Value) (g5 : Value) (g6 : Value) (g7 : Value) (g8 : Value) (g9 : Value) (g10 : Value) (g11 : Value) (a1 : Nat) (g13 : Value) (g14 : Value) (g15 : Value) (g16 : Value) (f : Nat → Int32) (sz : Nat) : Met l yX11_refuse wsX11_refuse ({ frames := 1, cells := 0, slots := 0, locals := 22 }) (va_Pc [.ref a0, .int (-2)] (Pre D K [(a0, .inr (11, [g0, g1, g2, g3, g4, g5, g6, g7, g8, g9, g10, g11, .ref a1, g13, g14, g15, g16])), (a1, .inl (K 0, 5, .inl f))] sz)) (va_Qi (S := Unit) (fun (r : Int32) (_ : Unit) => (r = (-2))) (fun u t => Wd D (va_A [(a0, .inr (11, [g0, g1, g2, g3, g4, g5, g6, g7, g8, g9, g10, g11, .ref a1, g13, g14, g15, g16])), (a1, .inl (K 0, 5, .inl f))] sz) ((fun _ => []) u) t) (va_A [(a0, .inr (11, [g0, g1, g2, g3, g4, g5, g6, g7, g8, g9, g10, g11, .ref a1, g13, g14, g15, g16])), (a1, .inl (K 0, 5, .inl f))] sz)) 0 0 (va_A [(a0, .inr (11, [g0, g1, g2, g3, g4, g5, g6, g7, g8, g9, g10, g11, .ref a1, g13, g14, g15, g16])), (a1, .inl (K 0, 5, .inl f))] sz) := by
  refine Met.ofW (cc := cX11_refuse) (maxL := 3) (ret := (some .int)) (by decide) rfl ?_
  intro p e s m args below meth c s₁ B hml hv
  obtain ⟨rfl, hsz, hP, hK, hD0, hN⟩ := hv
  have hx := B.exec
  have hb := B.bytes
  have hr := B.returns
  have hts := atoms_spec (ws := wsX11_refuse) B.pre
  have hown : s.vm.findClass RX11 = some m.cls := findClass_of_methodNamed B.named
  have hlocks := B.notSynchronized
  subst hsz
  have hD := hD0.self (sz := s.heap.size)
  generalize hAe : va_A [(a0, .inr (11, [g0, g1, g2, g3, g4, g5, g6, g7, g8, g9, g10, g11, .ref a1, g13, g14, g15, g16])), (a1, .inl (K 0, 5, .inl f))] s.heap.size = A at hD ⊢
  have hA : ∀ q : Nat, s.heap.size ≤ q → A q := fun q h => by rw [← hAe]; exact Or.inr h
  have hS : va_S A s.heap s.heap [] := va_S.rf
  have hP : va_P D vwCl [(a0, .inr (11, [g0, g1, g2, g3, g4, g5, g6, g7, g8, g9, g10, g11, .ref a1, g13, g14, g15, g16])), (a1, .inl (K 0, 5, .inl f))] s.heap := hP
  have hl := lv_entry [.ref a0, .int (-2)] (n := 3) (Nat.le_of_ble_eq_true rfl)
  rw [lg_entry_eq]
  generalize (lg_sl [.ref a0, .int (-2)] ++ List.replicate (3 - (lg_sl [.ref a0, .int (-2)]).length) Slot.unset).toArray = ls at hl ⊢
  have hl : lv_has ls 3 [(0, .ref a0), (1, .int (-2))] := hl
  have hw11 : ∀ w ∈ wsX110, w ∈ wsX11_refuse := fun w h => (List.mem_cons_of_mem _ (List.mem_append_right _ h))
  refine lv_iload_n hx hb dX11_refuse_0 rfl (lv_at hl 1 rfl) ?_
  refine lv_bipush (v := (-4)) hx hb dX11_refuse_1 (by decide) ?_
  refine lv_icmp_le (tgt := 13) hx hb dX11_refuse_3 (by decide) (fun c_1 => absurd c_1 (by decide)) (fun c_1 => ?_)
  refine lv_iload_n hx hb dX11_refuse_6 rfl (lv_at hl 1 rfl) ?_
  refine lv_ineg hx hb dX11_refuse_7 ?_
  refine lv_topi (fun x_2 ex_2 => ?_)
  obtain rfl : x_2 = 2 := ex_2.trans (by first | rfl | decide)
  refine lv_iconst (v := 1) hx hb dX11_refuse_8 (by decide) ?_
  refine lv_isub hx hb dX11_refuse_9 ?_
  refine lv_topi (fun x_3 ex_3 => ?_)
  obtain rfl : x_3 = 1 := ex_3.trans (by first | rfl | decide)
  refine lv_goto (tgt := 17) hx hb dX11_refuse_10 (by decide) ?_
  refine lv_istore_n (lv' := [(2, .int 1), (0, .ref a0), (1, .int (-2))]) hx hb dX11_refuse_17 rfl hl (by decide) rfl (fun ls hl => ?_)
  refine lv_iload_n hx hb dX11_refuse_18 rfl (lv_at hl 0 rfl) ?_
  refine lv_iconst (v := 0) hx hb dX11_refuse_19 (by decide) ?_
  refine lv_aload_n hx hb dX11_refuse_20 rfl (lv_at hl 1 rfl) ?_
  refine va_get (ci := 11) (v := .ref a1) (C := RX11) (T := TX11) (N := 17) hx hb hts hw11 hown hK hP 0 rfl rfl 12 (by decide) (hts (.fieldLink RX11 79 "SmokeTune" "refusals" "[I") (List.mem_cons_of_mem _ (List.mem_append_left _ (List.mem_of_getElem? (i := 0) rfl)))) (fun _ h9 => h9) rfl dX11_refuse_21 ?_
  refine va_alen (v := 5) hx hb hK hP 1 0 rfl rfl rfl dX11_refuse_24 ?_
  refine lv_iconst (v := 1) hx hb dX11_refuse_25 (by decide) ?_
  refine lv_isub hx hb dX11_refuse_26 ?_
  refine lv_topi (fun x_4 ex_4 => ?_)
  obtain rfl : x_4 = 4 := ex_4.trans (by first | rfl | decide)
  refine pci (va_runS (As := [.int 1, .int 0, .int 4]) (rest := []) ⟨hx, hb, hml, hown, hts⟩ (c_within l D K 1 0 4 1 0 4 s.heap.size rfl rfl rfl) (va_cwS 3 hts gX11_refuse_X11_within rfl rfl rfl (by decide +kernel) ⟨Nat.le_of_ble_eq_true rfl, Nat.le_of_ble_eq_true rfl⟩) (mkS hK hN (hP.sub [] rfl) (hD.sub [] (by decide) rfl)) rfl rfl hl.1 rfl (lv_room (Nat.le_of_ble_eq_true rfl)) dX11_refuse_27 ⟨Nat.le_of_ble_eq_true rfl, Nat.le_of_ble_eq_true rfl⟩) (fun r_5 hw => ?_)
  rcases hw with ⟨rfl, h_6, h_7⟩ | ⟨rfl, h_8⟩
  · refine lv_if_eq (tgt := 43) hx hb dX11_refuse_30 (by decide) (fun c_9 => absurd c_9 (by decide)) (fun c_9 => ?_)
    refine lv_aload_n hx hb dX11_refuse_33 rfl (lv_at hl 1 rfl) ?_
    refine va_get (ci := 11) (v := .ref a1) (C := RX11) (T := TX11) (N := 17) hx hb hts hw11 hown hK hP 0 rfl rfl 12 (by decide) (hts (.fieldLink RX11 79 "SmokeTune" "refusals" "[I") (List.mem_cons_of_mem _ (List.mem_append_left _ (List.mem_of_getElem? (i := 0) rfl)))) (fun _ h9 => h9) rfl dX11_refuse_34 ?_
    refine lv_iload_n hx hb dX11_refuse_37 rfl (lv_at hl 0 rfl) ?_
    refine lv_dup2_11 hx hb dX11_refuse_38 rfl rfl ?_
    refine va_iald hx hb hK hP 1 0 rfl rfl (i_in (x := 1) rfl (by omega)) dX11_refuse_39 ?_
    refine lv_topi (fun x_10 ex_10 => ?_)
    refine lv_iconst (v := 1) hx hb dX11_refuse_40 (by decide) ?_
    refine lv_iadd hx hb dX11_refuse_41 ?_
    refine lv_topi (fun x_11 ex_11 => ?_)
    refine va_iast hx hb hK hP hD hS 1 0 rfl rfl (i_in (x := 1) rfl (by omega)) dX11_refuse_42 (fun H locs hP hD hS => ?_)
    generalize hf_12 : (upd f (1 : Int32).toNatClampNeg x_11) = f_12 at hP hD
    have hP : va_P D vwCl [(a0, .inr (11, [g0, g1, g2, g3, g4, g5, g6, g7, g8, g9, g10, g11, .ref a1, g13, g14, g15, g16])), (a1, .inl (K 0, 5, .inl f_12))] H := hP
    have hD : va_D A [(a0, .inr (11, [g0, g1, g2, g3, g4, g5, g6, g7, g8, g9, g10, g11, .ref a1, g13, g14, g15, g16])), (a1, .inl (K 0, 5, .inl f_12))] := hD
    refine lv_aload_n hx hb dX11_refuse_43 rfl (lv_at hl 1 rfl) ?_
    refine lv_iload_n hx hb dX11_refuse_44 rfl (lv_at hl 2 rfl) ?_
    refine va_put (ci := 11) (v := .int (-2)) (ty := .int) (C := RX11) (T := TX11) (N := 17) hx hb hts hw11 tyX11 tyX11_ok nmX11 hown hK hP hD hS 0 rfl rfl 13 (by decide) (hts (.fieldLink RX11 83 "SmokeTune" "refusedBy" "I") (List.mem_cons_of_mem _ (List.mem_append_left _ (List.mem_of_getElem? (i := 1) rfl)))) (fun _ h9 => h9) rfl (by decide +kernel) (by first | rfl | decide) (by first | rfl | decide) (Nat.le_of_ble_eq_true rfl) dX11_refuse_45 (fun H locs hP hD hS => ?_)
    have hP : va_P D vwCl [(a0, .inr (11, [g0, g1, g2, g3, g4, g5, g6, g7, g8, g9, g10, g11, .ref a1, .int (-2), g14, g15, g16])), (a1, .inl (K 0, 5, .inl f_12))] H := hP
    have hD : va_D A [(a0, .inr (11, [g0, g1, g2, g3, g4, g5, g6, g7, g8, g9, g10, g11, .ref a1, .int (-2), g14, g15, g16])), (a1, .inl (K 0, 5, .inl f_12))] := hD
    refine lv_iload_n hx hb dX11_refuse_48 rfl (lv_at hl 2 rfl) ?_
    exact W.iret (v := (-2)) hx hb hr (fun t ht hW => ⟨⟨(-2), (), rfl, (by first | exact rfl), Wd.nil⟩, hS.F ht⟩) hS.2.2 dX11_refuse_49
  · exfalso; omega
set_option maxHeartbeats 4000000 in
set_option maxRecDepth 100000 in
theorem c_refuse_3 (l : Launch) (D : va_G) (K : Nat → ClassId) (a0 : Nat) (g0 : Value) (g1 : Value) (g2 : Value) (g3 : Value) (g4 : Value) (g5 : Value) (g6 : Value) (g7 : Value) (g8 : Value) (g9 : Value) (g10 : Value) (g11 : Value) (a1 : Nat) (g13 : Value) (g14 : Value) (g15 : Value) (g16 : Value) (f : Nat → Int32) (sz : Nat) : Met l yX11_refuse wsX11_refuse ({ frames := 1, cells := 0, slots := 0, locals := 22 }) (va_Pc [.ref a0, .int (-3)] (Pre D K [(a0, .inr (11, [g0, g1, g2, g3, g4, g5, g6, g7, g8, g9, g10, g11, .ref a1, g13, g14, g15, g16])), (a1, .inl (K 0, 5, .inl f))] sz)) (va_Qi (S := Unit) (fun (r : Int32) (_ : Unit) => (r = (-3))) (fun u t => Wd D (va_A [(a0, .inr (11, [g0, g1, g2, g3, g4, g5, g6, g7, g8, g9, g10, g11, .ref a1, g13, g14, g15, g16])), (a1, .inl (K 0, 5, .inl f))] sz) ((fun _ => []) u) t) (va_A [(a0, .inr (11, [g0, g1, g2, g3, g4, g5, g6, g7, g8, g9, g10, g11, .ref a1, g13, g14, g15, g16])), (a1, .inl (K 0, 5, .inl f))] sz)) 0 0 (va_A [(a0, .inr (11, [g0, g1, g2, g3, g4, g5, g6, g7, g8, g9, g10, g11, .ref a1, g13, g14, g15, g16])), (a1, .inl (K 0, 5, .inl f))] sz) := by
  refine Met.ofW (cc := cX11_refuse) (maxL := 3) (ret := (some .int)) (by decide) rfl ?_
  intro p e s m args below meth c s₁ B hml hv
  obtain ⟨rfl, hsz, hP, hK, hD0, hN⟩ := hv
  have hx := B.exec
  have hb := B.bytes
  have hr := B.returns
  have hts := atoms_spec (ws := wsX11_refuse) B.pre
  have hown : s.vm.findClass RX11 = some m.cls := findClass_of_methodNamed B.named
  have hlocks := B.notSynchronized
  subst hsz
  have hD := hD0.self (sz := s.heap.size)
  generalize hAe : va_A [(a0, .inr (11, [g0, g1, g2, g3, g4, g5, g6, g7, g8, g9, g10, g11, .ref a1, g13, g14, g15, g16])), (a1, .inl (K 0, 5, .inl f))] s.heap.size = A at hD ⊢
  have hA : ∀ q : Nat, s.heap.size ≤ q → A q := fun q h => by rw [← hAe]; exact Or.inr h
  have hS : va_S A s.heap s.heap [] := va_S.rf
  have hP : va_P D vwCl [(a0, .inr (11, [g0, g1, g2, g3, g4, g5, g6, g7, g8, g9, g10, g11, .ref a1, g13, g14, g15, g16])), (a1, .inl (K 0, 5, .inl f))] s.heap := hP
  have hl := lv_entry [.ref a0, .int (-3)] (n := 3) (Nat.le_of_ble_eq_true rfl)
  rw [lg_entry_eq]
  generalize (lg_sl [.ref a0, .int (-3)] ++ List.replicate (3 - (lg_sl [.ref a0, .int (-3)]).length) Slot.unset).toArray = ls at hl ⊢
  have hl : lv_has ls 3 [(0, .ref a0), (1, .int (-3))] := hl
  have hw11 : ∀ w ∈ wsX110, w ∈ wsX11_refuse := fun w h => (List.mem_cons_of_mem _ (List.mem_append_right _ h))
  refine lv_iload_n hx hb dX11_refuse_0 rfl (lv_at hl 1 rfl) ?_
  refine lv_bipush (v := (-4)) hx hb dX11_refuse_1 (by decide) ?_
  refine lv_icmp_le (tgt := 13) hx hb dX11_refuse_3 (by decide) (fun c_1 => absurd c_1 (by decide)) (fun c_1 => ?_)
  refine lv_iload_n hx hb dX11_refuse_6 rfl (lv_at hl 1 rfl) ?_
  refine lv_ineg hx hb dX11_refuse_7 ?_
  refine lv_topi (fun x_2 ex_2 => ?_)
  obtain rfl : x_2 = 3 := ex_2.trans (by first | rfl | decide)
  refine lv_iconst (v := 1) hx hb dX11_refuse_8 (by decide) ?_
  refine lv_isub hx hb dX11_refuse_9 ?_
  refine lv_topi (fun x_3 ex_3 => ?_)
  obtain rfl : x_3 = 2 := ex_3.trans (by first | rfl | decide)
  refine lv_goto (tgt := 17) hx hb dX11_refuse_10 (by decide) ?_
  refine lv_istore_n (lv' := [(2, .int 2), (0, .ref a0), (1, .int (-3))]) hx hb dX11_refuse_17 rfl hl (by decide) rfl (fun ls hl => ?_)
  refine lv_iload_n hx hb dX11_refuse_18 rfl (lv_at hl 0 rfl) ?_
  refine lv_iconst (v := 0) hx hb dX11_refuse_19 (by decide) ?_
  refine lv_aload_n hx hb dX11_refuse_20 rfl (lv_at hl 1 rfl) ?_
  refine va_get (ci := 11) (v := .ref a1) (C := RX11) (T := TX11) (N := 17) hx hb hts hw11 hown hK hP 0 rfl rfl 12 (by decide) (hts (.fieldLink RX11 79 "SmokeTune" "refusals" "[I") (List.mem_cons_of_mem _ (List.mem_append_left _ (List.mem_of_getElem? (i := 0) rfl)))) (fun _ h9 => h9) rfl dX11_refuse_21 ?_
  refine va_alen (v := 5) hx hb hK hP 1 0 rfl rfl rfl dX11_refuse_24 ?_
  refine lv_iconst (v := 1) hx hb dX11_refuse_25 (by decide) ?_
  refine lv_isub hx hb dX11_refuse_26 ?_
  refine lv_topi (fun x_4 ex_4 => ?_)
  obtain rfl : x_4 = 4 := ex_4.trans (by first | rfl | decide)
  refine pci (va_runS (As := [.int 2, .int 0, .int 4]) (rest := []) ⟨hx, hb, hml, hown, hts⟩ (c_within l D K 2 0 4 2 0 4 s.heap.size rfl rfl rfl) (va_cwS 3 hts gX11_refuse_X11_within rfl rfl rfl (by decide +kernel) ⟨Nat.le_of_ble_eq_true rfl, Nat.le_of_ble_eq_true rfl⟩) (mkS hK hN (hP.sub [] rfl) (hD.sub [] (by decide) rfl)) rfl rfl hl.1 rfl (lv_room (Nat.le_of_ble_eq_true rfl)) dX11_refuse_27 ⟨Nat.le_of_ble_eq_true rfl, Nat.le_of_ble_eq_true rfl⟩) (fun r_5 hw => ?_)
  rcases hw with ⟨rfl, h_6, h_7⟩ | ⟨rfl, h_8⟩
  · refine lv_if_eq (tgt := 43) hx hb dX11_refuse_30 (by decide) (fun c_9 => absurd c_9 (by decide)) (fun c_9 => ?_)
    refine lv_aload_n hx hb dX11_refuse_33 rfl (lv_at hl 1 rfl) ?_
    refine va_get (ci := 11) (v := .ref a1) (C := RX11) (T := TX11) (N := 17) hx hb hts hw11 hown hK hP 0 rfl rfl 12 (by decide) (hts (.fieldLink RX11 79 "SmokeTune" "refusals" "[I") (List.mem_cons_of_mem _ (List.mem_append_left _ (List.mem_of_getElem? (i := 0) rfl)))) (fun _ h9 => h9) rfl dX11_refuse_34 ?_
    refine lv_iload_n hx hb dX11_refuse_37 rfl (lv_at hl 0 rfl) ?_
    refine lv_dup2_11 hx hb dX11_refuse_38 rfl rfl ?_
    refine va_iald hx hb hK hP 1 0 rfl rfl (i_in (x := 2) rfl (by omega)) dX11_refuse_39 ?_
    refine lv_topi (fun x_10 ex_10 => ?_)
    refine lv_iconst (v := 1) hx hb dX11_refuse_40 (by decide) ?_
    refine lv_iadd hx hb dX11_refuse_41 ?_
    refine lv_topi (fun x_11 ex_11 => ?_)
    refine va_iast hx hb hK hP hD hS 1 0 rfl rfl (i_in (x := 2) rfl (by omega)) dX11_refuse_42 (fun H locs hP hD hS => ?_)
    generalize hf_12 : (upd f (2 : Int32).toNatClampNeg x_11) = f_12 at hP hD
    have hP : va_P D vwCl [(a0, .inr (11, [g0, g1, g2, g3, g4, g5, g6, g7, g8, g9, g10, g11, .ref a1, g13, g14, g15, g16])), (a1, .inl (K 0, 5, .inl f_12))] H := hP
    have hD : va_D A [(a0, .inr (11, [g0, g1, g2, g3, g4, g5, g6, g7, g8, g9, g10, g11, .ref a1, g13, g14, g15, g16])), (a1, .inl (K 0, 5, .inl f_12))] := hD
    refine lv_aload_n hx hb dX11_refuse_43 rfl (lv_at hl 1 rfl) ?_
    refine lv_iload_n hx hb dX11_refuse_44 rfl (lv_at hl 2 rfl) ?_
    refine va_put (ci := 11) (v := .int (-3)) (ty := .int) (C := RX11) (T := TX11) (N := 17) hx hb hts hw11 tyX11 tyX11_ok nmX11 hown hK hP hD hS 0 rfl rfl 13 (by decide) (hts (.fieldLink RX11 83 "SmokeTune" "refusedBy" "I") (List.mem_cons_of_mem _ (List.mem_append_left _ (List.mem_of_getElem? (i := 1) rfl)))) (fun _ h9 => h9) rfl (by decide +kernel) (by first | rfl | decide) (by first | rfl | decide) (Nat.le_of_ble_eq_true rfl) dX11_refuse_45 (fun H locs hP hD hS => ?_)
    have hP : va_P D vwCl [(a0, .inr (11, [g0, g1, g2, g3, g4, g5, g6, g7, g8, g9, g10, g11, .ref a1, .int (-3), g14, g15, g16])), (a1, .inl (K 0, 5, .inl f_12))] H := hP
    have hD : va_D A [(a0, .inr (11, [g0, g1, g2, g3, g4, g5, g6, g7, g8, g9, g10, g11, .ref a1, .int (-3), g14, g15, g16])), (a1, .inl (K 0, 5, .inl f_12))] := hD
    refine lv_iload_n hx hb dX11_refuse_48 rfl (lv_at hl 2 rfl) ?_
    exact W.iret (v := (-3)) hx hb hr (fun t ht hW => ⟨⟨(-3), (), rfl, (by first | exact rfl), Wd.nil⟩, hS.F ht⟩) hS.2.2 dX11_refuse_49
  · exfalso; omega
set_option maxHeartbeats 4000000 in
set_option maxRecDepth 100000 in
theorem c_refuse_5 (l : Launch) (D : va_G) (K : Nat → ClassId) (a0 : Nat) (g0 : Value) (g1 : Value) (g2 : Value) (g3 : Value) (g4 : Value) (g5 : Value) (g6 : Value) (g7 : Value) (g8 : Value) (g9 : Value) (g10 : Value) (g11 : Value) (a1 : Nat) (g13 : Value) (g14 : Value) (g15 : Value) (g16 : Value) (f : Nat → Int32) (sz : Nat) : Met l yX11_refuse wsX11_refuse ({ frames := 1, cells := 0, slots := 0, locals := 22 }) (va_Pc [.ref a0, .int (-5)] (Pre D K [(a0, .inr (11, [g0, g1, g2, g3, g4, g5, g6, g7, g8, g9, g10, g11, .ref a1, g13, g14, g15, g16])), (a1, .inl (K 0, 5, .inl f))] sz)) (va_Qi (S := Unit) (fun (r : Int32) (_ : Unit) => (r = (-5))) (fun u t => Wd D (va_A [(a0, .inr (11, [g0, g1, g2, g3, g4, g5, g6, g7, g8, g9, g10, g11, .ref a1, g13, g14, g15, g16])), (a1, .inl (K 0, 5, .inl f))] sz) ((fun _ => []) u) t) (va_A [(a0, .inr (11, [g0, g1, g2, g3, g4, g5, g6, g7, g8, g9, g10, g11, .ref a1, g13, g14, g15, g16])), (a1, .inl (K 0, 5, .inl f))] sz)) 0 0 (va_A [(a0, .inr (11, [g0, g1, g2, g3, g4, g5, g6, g7, g8, g9, g10, g11, .ref a1, g13, g14, g15, g16])), (a1, .inl (K 0, 5, .inl f))] sz) := by
  refine Met.ofW (cc := cX11_refuse) (maxL := 3) (ret := (some .int)) (by decide) rfl ?_
  intro p e s m args below meth c s₁ B hml hv
  obtain ⟨rfl, hsz, hP, hK, hD0, hN⟩ := hv
  have hx := B.exec
  have hb := B.bytes
  have hr := B.returns
  have hts := atoms_spec (ws := wsX11_refuse) B.pre
  have hown : s.vm.findClass RX11 = some m.cls := findClass_of_methodNamed B.named
  have hlocks := B.notSynchronized
  subst hsz
  have hD := hD0.self (sz := s.heap.size)
  generalize hAe : va_A [(a0, .inr (11, [g0, g1, g2, g3, g4, g5, g6, g7, g8, g9, g10, g11, .ref a1, g13, g14, g15, g16])), (a1, .inl (K 0, 5, .inl f))] s.heap.size = A at hD ⊢
  have hA : ∀ q : Nat, s.heap.size ≤ q → A q := fun q h => by rw [← hAe]; exact Or.inr h
  have hS : va_S A s.heap s.heap [] := va_S.rf
  have hP : va_P D vwCl [(a0, .inr (11, [g0, g1, g2, g3, g4, g5, g6, g7, g8, g9, g10, g11, .ref a1, g13, g14, g15, g16])), (a1, .inl (K 0, 5, .inl f))] s.heap := hP
  have hl := lv_entry [.ref a0, .int (-5)] (n := 3) (Nat.le_of_ble_eq_true rfl)
  rw [lg_entry_eq]
  generalize (lg_sl [.ref a0, .int (-5)] ++ List.replicate (3 - (lg_sl [.ref a0, .int (-5)]).length) Slot.unset).toArray = ls at hl ⊢
  have hl : lv_has ls 3 [(0, .ref a0), (1, .int (-5))] := hl
  have hw11 : ∀ w ∈ wsX110, w ∈ wsX11_refuse := fun w h => (List.mem_cons_of_mem _ (List.mem_append_right _ h))
  refine lv_iload_n hx hb dX11_refuse_0 rfl (lv_at hl 1 rfl) ?_
  refine lv_bipush (v := (-4)) hx hb dX11_refuse_1 (by decide) ?_
  refine lv_icmp_le (tgt := 13) hx hb dX11_refuse_3 (by decide) (fun c_1 => ?_) (fun c_1 => absurd (by decide) c_1)
  refine lv_iload_n hx hb dX11_refuse_13 rfl (lv_at hl 1 rfl) ?_
  refine lv_ineg hx hb dX11_refuse_14 ?_
  refine lv_topi (fun x_2 ex_2 => ?_)
  obtain rfl : x_2 = 5 := ex_2.trans (by first | rfl | decide)
  refine lv_iconst (v := 2) hx hb dX11_refuse_15 (by decide) ?_
  refine lv_isub hx hb dX11_refuse_16 ?_
  refine lv_topi (fun x_3 ex_3 => ?_)
  obtain rfl : x_3 = 3 := ex_3.trans (by first | rfl | decide)
  refine lv_istore_n (lv' := [(2, .int 3), (0, .ref a0), (1, .int (-5))]) hx hb dX11_refuse_17 rfl hl (by decide) rfl (fun ls hl => ?_)
  refine lv_iload_n hx hb dX11_refuse_18 rfl (lv_at hl 0 rfl) ?_
  refine lv_iconst (v := 0) hx hb dX11_refuse_19 (by decide) ?_
  refine lv_aload_n hx hb dX11_refuse_20 rfl (lv_at hl 1 rfl) ?_
  refine va_get (ci := 11) (v := .ref a1) (C := RX11) (T := TX11) (N := 17) hx hb hts hw11 hown hK hP 0 rfl rfl 12 (by decide) (hts (.fieldLink RX11 79 "SmokeTune" "refusals" "[I") (List.mem_cons_of_mem _ (List.mem_append_left _ (List.mem_of_getElem? (i := 0) rfl)))) (fun _ h9 => h9) rfl dX11_refuse_21 ?_
  refine va_alen (v := 5) hx hb hK hP 1 0 rfl rfl rfl dX11_refuse_24 ?_
  refine lv_iconst (v := 1) hx hb dX11_refuse_25 (by decide) ?_
  refine lv_isub hx hb dX11_refuse_26 ?_
  refine lv_topi (fun x_4 ex_4 => ?_)
  obtain rfl : x_4 = 4 := ex_4.trans (by first | rfl | decide)
  refine pci (va_runS (As := [.int 3, .int 0, .int 4]) (rest := []) ⟨hx, hb, hml, hown, hts⟩ (c_within l D K 3 0 4 3 0 4 s.heap.size rfl rfl rfl) (va_cwS 3 hts gX11_refuse_X11_within rfl rfl rfl (by decide +kernel) ⟨Nat.le_of_ble_eq_true rfl, Nat.le_of_ble_eq_true rfl⟩) (mkS hK hN (hP.sub [] rfl) (hD.sub [] (by decide) rfl)) rfl rfl hl.1 rfl (lv_room (Nat.le_of_ble_eq_true rfl)) dX11_refuse_27 ⟨Nat.le_of_ble_eq_true rfl, Nat.le_of_ble_eq_true rfl⟩) (fun r_5 hw => ?_)
  rcases hw with ⟨rfl, h_6, h_7⟩ | ⟨rfl, h_8⟩
  · refine lv_if_eq (tgt := 43) hx hb dX11_refuse_30 (by decide) (fun c_9 => absurd c_9 (by decide)) (fun c_9 => ?_)
    refine lv_aload_n hx hb dX11_refuse_33 rfl (lv_at hl 1 rfl) ?_
    refine va_get (ci := 11) (v := .ref a1) (C := RX11) (T := TX11) (N := 17) hx hb hts hw11 hown hK hP 0 rfl rfl 12 (by decide) (hts (.fieldLink RX11 79 "SmokeTune" "refusals" "[I") (List.mem_cons_of_mem _ (List.mem_append_left _ (List.mem_of_getElem? (i := 0) rfl)))) (fun _ h9 => h9) rfl dX11_refuse_34 ?_
    refine lv_iload_n hx hb dX11_refuse_37 rfl (lv_at hl 0 rfl) ?_
    refine lv_dup2_11 hx hb dX11_refuse_38 rfl rfl ?_
    refine va_iald hx hb hK hP 1 0 rfl rfl (i_in (x := 3) rfl (by omega)) dX11_refuse_39 ?_
    refine lv_topi (fun x_10 ex_10 => ?_)
    refine lv_iconst (v := 1) hx hb dX11_refuse_40 (by decide) ?_
    refine lv_iadd hx hb dX11_refuse_41 ?_
    refine lv_topi (fun x_11 ex_11 => ?_)
    refine va_iast hx hb hK hP hD hS 1 0 rfl rfl (i_in (x := 3) rfl (by omega)) dX11_refuse_42 (fun H locs hP hD hS => ?_)
    generalize hf_12 : (upd f (3 : Int32).toNatClampNeg x_11) = f_12 at hP hD
    have hP : va_P D vwCl [(a0, .inr (11, [g0, g1, g2, g3, g4, g5, g6, g7, g8, g9, g10, g11, .ref a1, g13, g14, g15, g16])), (a1, .inl (K 0, 5, .inl f_12))] H := hP
    have hD : va_D A [(a0, .inr (11, [g0, g1, g2, g3, g4, g5, g6, g7, g8, g9, g10, g11, .ref a1, g13, g14, g15, g16])), (a1, .inl (K 0, 5, .inl f_12))] := hD
    refine lv_aload_n hx hb dX11_refuse_43 rfl (lv_at hl 1 rfl) ?_
    refine lv_iload_n hx hb dX11_refuse_44 rfl (lv_at hl 2 rfl) ?_
    refine va_put (ci := 11) (v := .int (-5)) (ty := .int) (C := RX11) (T := TX11) (N := 17) hx hb hts hw11 tyX11 tyX11_ok nmX11 hown hK hP hD hS 0 rfl rfl 13 (by decide) (hts (.fieldLink RX11 83 "SmokeTune" "refusedBy" "I") (List.mem_cons_of_mem _ (List.mem_append_left _ (List.mem_of_getElem? (i := 1) rfl)))) (fun _ h9 => h9) rfl (by decide +kernel) (by first | rfl | decide) (by first | rfl | decide) (Nat.le_of_ble_eq_true rfl) dX11_refuse_45 (fun H locs hP hD hS => ?_)
    have hP : va_P D vwCl [(a0, .inr (11, [g0, g1, g2, g3, g4, g5, g6, g7, g8, g9, g10, g11, .ref a1, .int (-5), g14, g15, g16])), (a1, .inl (K 0, 5, .inl f_12))] H := hP
    have hD : va_D A [(a0, .inr (11, [g0, g1, g2, g3, g4, g5, g6, g7, g8, g9, g10, g11, .ref a1, .int (-5), g14, g15, g16])), (a1, .inl (K 0, 5, .inl f_12))] := hD
    refine lv_iload_n hx hb dX11_refuse_48 rfl (lv_at hl 2 rfl) ?_
    exact W.iret (v := (-5)) hx hb hr (fun t ht hW => ⟨⟨(-5), (), rfl, (by first | exact rfl), Wd.nil⟩, hS.F ht⟩) hS.2.2 dX11_refuse_49
  · exfalso; omega
set_option maxHeartbeats 4000000 in
set_option maxRecDepth 100000 in
theorem c_refuse_6 (l : Launch) (D : va_G) (K : Nat → ClassId) (a0 : Nat) (g0 : Value) (g1 : Value) (g2 : Value) (g3 : Value) (g4 : Value) (g5 : Value) (g6 : Value) (g7 : Value) (g8 : Value) (g9 : Value) (g10 : Value) (g11 : Value) (a1 : Nat) (g13 : Value) (g14 : Value) (g15 : Value) (g16 : Value) (f : Nat → Int32) (sz : Nat) : Met l yX11_refuse wsX11_refuse ({ frames := 1, cells := 0, slots := 0, locals := 22 }) (va_Pc [.ref a0, .int (-6)] (Pre D K [(a0, .inr (11, [g0, g1, g2, g3, g4, g5, g6, g7, g8, g9, g10, g11, .ref a1, g13, g14, g15, g16])), (a1, .inl (K 0, 5, .inl f))] sz)) (va_Qi (S := Unit) (fun (r : Int32) (_ : Unit) => (r = (-6))) (fun u t => Wd D (va_A [(a0, .inr (11, [g0, g1, g2, g3, g4, g5, g6, g7, g8, g9, g10, g11, .ref a1, g13, g14, g15, g16])), (a1, .inl (K 0, 5, .inl f))] sz) ((fun _ => []) u) t) (va_A [(a0, .inr (11, [g0, g1, g2, g3, g4, g5, g6, g7, g8, g9, g10, g11, .ref a1, g13, g14, g15, g16])), (a1, .inl (K 0, 5, .inl f))] sz)) 0 0 (va_A [(a0, .inr (11, [g0, g1, g2, g3, g4, g5, g6, g7, g8, g9, g10, g11, .ref a1, g13, g14, g15, g16])), (a1, .inl (K 0, 5, .inl f))] sz) := by
  refine Met.ofW (cc := cX11_refuse) (maxL := 3) (ret := (some .int)) (by decide) rfl ?_
  intro p e s m args below meth c s₁ B hml hv
  obtain ⟨rfl, hsz, hP, hK, hD0, hN⟩ := hv
  have hx := B.exec
  have hb := B.bytes
  have hr := B.returns
  have hts := atoms_spec (ws := wsX11_refuse) B.pre
  have hown : s.vm.findClass RX11 = some m.cls := findClass_of_methodNamed B.named
  have hlocks := B.notSynchronized
  subst hsz
  have hD := hD0.self (sz := s.heap.size)
  generalize hAe : va_A [(a0, .inr (11, [g0, g1, g2, g3, g4, g5, g6, g7, g8, g9, g10, g11, .ref a1, g13, g14, g15, g16])), (a1, .inl (K 0, 5, .inl f))] s.heap.size = A at hD ⊢
  have hA : ∀ q : Nat, s.heap.size ≤ q → A q := fun q h => by rw [← hAe]; exact Or.inr h
  have hS : va_S A s.heap s.heap [] := va_S.rf
  have hP : va_P D vwCl [(a0, .inr (11, [g0, g1, g2, g3, g4, g5, g6, g7, g8, g9, g10, g11, .ref a1, g13, g14, g15, g16])), (a1, .inl (K 0, 5, .inl f))] s.heap := hP
  have hl := lv_entry [.ref a0, .int (-6)] (n := 3) (Nat.le_of_ble_eq_true rfl)
  rw [lg_entry_eq]
  generalize (lg_sl [.ref a0, .int (-6)] ++ List.replicate (3 - (lg_sl [.ref a0, .int (-6)]).length) Slot.unset).toArray = ls at hl ⊢
  have hl : lv_has ls 3 [(0, .ref a0), (1, .int (-6))] := hl
  have hw11 : ∀ w ∈ wsX110, w ∈ wsX11_refuse := fun w h => (List.mem_cons_of_mem _ (List.mem_append_right _ h))
  refine lv_iload_n hx hb dX11_refuse_0 rfl (lv_at hl 1 rfl) ?_
  refine lv_bipush (v := (-4)) hx hb dX11_refuse_1 (by decide) ?_
  refine lv_icmp_le (tgt := 13) hx hb dX11_refuse_3 (by decide) (fun c_1 => ?_) (fun c_1 => absurd (by decide) c_1)
  refine lv_iload_n hx hb dX11_refuse_13 rfl (lv_at hl 1 rfl) ?_
  refine lv_ineg hx hb dX11_refuse_14 ?_
  refine lv_topi (fun x_2 ex_2 => ?_)
  obtain rfl : x_2 = 6 := ex_2.trans (by first | rfl | decide)
  refine lv_iconst (v := 2) hx hb dX11_refuse_15 (by decide) ?_
  refine lv_isub hx hb dX11_refuse_16 ?_
  refine lv_topi (fun x_3 ex_3 => ?_)
  obtain rfl : x_3 = 4 := ex_3.trans (by first | rfl | decide)
  refine lv_istore_n (lv' := [(2, .int 4), (0, .ref a0), (1, .int (-6))]) hx hb dX11_refuse_17 rfl hl (by decide) rfl (fun ls hl => ?_)
  refine lv_iload_n hx hb dX11_refuse_18 rfl (lv_at hl 0 rfl) ?_
  refine lv_iconst (v := 0) hx hb dX11_refuse_19 (by decide) ?_
  refine lv_aload_n hx hb dX11_refuse_20 rfl (lv_at hl 1 rfl) ?_
  refine va_get (ci := 11) (v := .ref a1) (C := RX11) (T := TX11) (N := 17) hx hb hts hw11 hown hK hP 0 rfl rfl 12 (by decide) (hts (.fieldLink RX11 79 "SmokeTune" "refusals" "[I") (List.mem_cons_of_mem _ (List.mem_append_left _ (List.mem_of_getElem? (i := 0) rfl)))) (fun _ h9 => h9) rfl dX11_refuse_21 ?_
  refine va_alen (v := 5) hx hb hK hP 1 0 rfl rfl rfl dX11_refuse_24 ?_
  refine lv_iconst (v := 1) hx hb dX11_refuse_25 (by decide) ?_
  refine lv_isub hx hb dX11_refuse_26 ?_
  refine lv_topi (fun x_4 ex_4 => ?_)
  obtain rfl : x_4 = 4 := ex_4.trans (by first | rfl | decide)
  refine pci (va_runS (As := [.int 4, .int 0, .int 4]) (rest := []) ⟨hx, hb, hml, hown, hts⟩ (c_within l D K 4 0 4 4 0 4 s.heap.size rfl rfl rfl) (va_cwS 3 hts gX11_refuse_X11_within rfl rfl rfl (by decide +kernel) ⟨Nat.le_of_ble_eq_true rfl, Nat.le_of_ble_eq_true rfl⟩) (mkS hK hN (hP.sub [] rfl) (hD.sub [] (by decide) rfl)) rfl rfl hl.1 rfl (lv_room (Nat.le_of_ble_eq_true rfl)) dX11_refuse_27 ⟨Nat.le_of_ble_eq_true rfl, Nat.le_of_ble_eq_true rfl⟩) (fun r_5 hw => ?_)
  rcases hw with ⟨rfl, h_6, h_7⟩ | ⟨rfl, h_8⟩
  · refine lv_if_eq (tgt := 43) hx hb dX11_refuse_30 (by decide) (fun c_9 => absurd c_9 (by decide)) (fun c_9 => ?_)
    refine lv_aload_n hx hb dX11_refuse_33 rfl (lv_at hl 1 rfl) ?_
    refine va_get (ci := 11) (v := .ref a1) (C := RX11) (T := TX11) (N := 17) hx hb hts hw11 hown hK hP 0 rfl rfl 12 (by decide) (hts (.fieldLink RX11 79 "SmokeTune" "refusals" "[I") (List.mem_cons_of_mem _ (List.mem_append_left _ (List.mem_of_getElem? (i := 0) rfl)))) (fun _ h9 => h9) rfl dX11_refuse_34 ?_
    refine lv_iload_n hx hb dX11_refuse_37 rfl (lv_at hl 0 rfl) ?_
    refine lv_dup2_11 hx hb dX11_refuse_38 rfl rfl ?_
    refine va_iald hx hb hK hP 1 0 rfl rfl (i_in (x := 4) rfl (by omega)) dX11_refuse_39 ?_
    refine lv_topi (fun x_10 ex_10 => ?_)
    refine lv_iconst (v := 1) hx hb dX11_refuse_40 (by decide) ?_
    refine lv_iadd hx hb dX11_refuse_41 ?_
    refine lv_topi (fun x_11 ex_11 => ?_)
    refine va_iast hx hb hK hP hD hS 1 0 rfl rfl (i_in (x := 4) rfl (by omega)) dX11_refuse_42 (fun H locs hP hD hS => ?_)
    generalize hf_12 : (upd f (4 : Int32).toNatClampNeg x_11) = f_12 at hP hD
    have hP : va_P D vwCl [(a0, .inr (11, [g0, g1, g2, g3, g4, g5, g6, g7, g8, g9, g10, g11, .ref a1, g13, g14, g15, g16])), (a1, .inl (K 0, 5, .inl f_12))] H := hP
    have hD : va_D A [(a0, .inr (11, [g0, g1, g2, g3, g4, g5, g6, g7, g8, g9, g10, g11, .ref a1, g13, g14, g15, g16])), (a1, .inl (K 0, 5, .inl f_12))] := hD
    refine lv_aload_n hx hb dX11_refuse_43 rfl (lv_at hl 1 rfl) ?_
    refine lv_iload_n hx hb dX11_refuse_44 rfl (lv_at hl 2 rfl) ?_
    refine va_put (ci := 11) (v := .int (-6)) (ty := .int) (C := RX11) (T := TX11) (N := 17) hx hb hts hw11 tyX11 tyX11_ok nmX11 hown hK hP hD hS 0 rfl rfl 13 (by decide) (hts (.fieldLink RX11 83 "SmokeTune" "refusedBy" "I") (List.mem_cons_of_mem _ (List.mem_append_left _ (List.mem_of_getElem? (i := 1) rfl)))) (fun _ h9 => h9) rfl (by decide +kernel) (by first | rfl | decide) (by first | rfl | decide) (Nat.le_of_ble_eq_true rfl) dX11_refuse_45 (fun H locs hP hD hS => ?_)
    have hP : va_P D vwCl [(a0, .inr (11, [g0, g1, g2, g3, g4, g5, g6, g7, g8, g9, g10, g11, .ref a1, .int (-6), g14, g15, g16])), (a1, .inl (K 0, 5, .inl f_12))] H := hP
    have hD : va_D A [(a0, .inr (11, [g0, g1, g2, g3, g4, g5, g6, g7, g8, g9, g10, g11, .ref a1, .int (-6), g14, g15, g16])), (a1, .inl (K 0, 5, .inl f_12))] := hD
    refine lv_iload_n hx hb dX11_refuse_48 rfl (lv_at hl 2 rfl) ?_
    exact W.iret (v := (-6)) hx hb hr (fun t ht hW => ⟨⟨(-6), (), rfl, (by first | exact rfl), Wd.nil⟩, hS.F ht⟩) hS.2.2 dX11_refuse_49
  · exfalso; omega
set_option maxHeartbeats 4000000 in
set_option maxRecDepth 100000 in
theorem t_status (l : Launch) (D : va_G) (K : Nat → ClassId) (a0 : Nat) (g0 : Value) (g1 : Value) (g2 : Value) (g3 : Value) (g4 : Value) (g5 : Value) (g6 : Value) (g7 : Value) (g8 : Value) (g9 : Value) (g10 : Value) (g11 : Value) (g12 : Value) (g14 : Value) (g15 : Value) (g16 : Value) (sz : Nat) : Met l yX11_status wsX11_status ({ frames := 0, cells := 0, slots := 0, locals := 0 }) (va_Pc [.ref a0] (Pre D K [(a0, .inr (11, [g0, g1, g2, g3, g4, g5, g6, g7, g8, g9, g10, g11, g12, .int 0, g14, g15, g16]))] sz)) (vp_Si (fun r : Int32 => (r = 0))) 0 0 (fun _ => False) := by
  refine Met.ofW (cc := cX11_status) (maxL := 1) (ret := (some .int)) (by decide) rfl ?_
  intro p e s m args below meth c s₁ B hml hv
  obtain ⟨rfl, hsz, hP, hK, hD0, hN⟩ := hv
  have hx := B.exec
  have hb := B.bytes
  have hr := B.returns
  have hts := atoms_spec (ws := wsX11_status) B.pre
  have hown : s.vm.findClass RX11 = some m.cls := findClass_of_methodNamed B.named
  have hlocks := B.notSynchronized
  subst hsz
  have hD := hD0
  have hP : va_P D vwCl [(a0, .inr (11, [g0, g1, g2, g3, g4, g5, g6, g7, g8, g9, g10, g11, g12, .int 0, g14, g15, g16]))] s.heap := hP
  have hl := lv_entry [.ref a0] (n := 1) (Nat.le_of_ble_eq_true rfl)
  rw [lg_entry_eq]
  generalize (lg_sl [.ref a0] ++ List.replicate (1 - (lg_sl [.ref a0]).length) Slot.unset).toArray = ls at hl ⊢
  have hl : lv_has ls 1 [(0, .ref a0)] := hl
  have hw11 : ∀ w ∈ wsX110, w ∈ wsX11_status := fun w h => (List.mem_cons_of_mem _ (List.mem_append_right _ h))
  refine lv_aload_n hx hb dX11_status_0 rfl (lv_at hl 0 rfl) ?_
  refine va_get (ci := 11) (v := .int 0) (C := RX11) (T := TX11) (N := 17) hx hb hts hw11 hown hK hP 0 rfl rfl 13 (by decide) (hts (.fieldLink RX11 83 "SmokeTune" "refusedBy" "I") (List.mem_cons_of_mem _ (List.mem_append_left _ (List.mem_of_getElem? (i := 0) rfl)))) (fun _ h9 => h9) rfl dX11_status_1 ?_
  exact W.iret (v := 0) hx hb hr (fun t ht hW => ⟨_, rfl, (by first | exact rfl), ht⟩) (fun q hq => by cases hq) dX11_status_4
set_option maxHeartbeats 4000000 in
set_option maxRecDepth 100000 in
theorem t_ash (l : Launch) (D : va_G) (K : Nat → ClassId) (a0 : Nat) (g0 : Value) (g1 : Value) (g2 : Value) (g3 : Value) (g4 : Value) (g5 : Value) (g6 : Value) (g7 : Value) (g8 : Value) (g9 : Value) (g10 : Value) (g11 : Value) (g12 : Value) (g13 : Value) (g15 : Value) (g16 : Value) (sz : Nat) : Met l yX11_ash wsX11_ash ({ frames := 0, cells := 0, slots := 0, locals := 0 }) (va_Pc [.ref a0] (Pre D K [(a0, .inr (11, [g0, g1, g2, g3, g4, g5, g6, g7, g8, g9, g10, g11, g12, g13, .int 0, g15, g16]))] sz)) (vp_Si (fun r : Int32 => (r = 0))) 0 0 (fun _ => False) := by
  refine Met.ofW (cc := cX11_ash) (maxL := 1) (ret := (some .int)) (by decide) rfl ?_
  intro p e s m args below meth c s₁ B hml hv
  obtain ⟨rfl, hsz, hP, hK, hD0, hN⟩ := hv
  have hx := B.exec
  have hb := B.bytes
  have hr := B.returns
  have hts := atoms_spec (ws := wsX11_ash) B.pre
  have hown : s.vm.findClass RX11 = some m.cls := findClass_of_methodNamed B.named
  have hlocks := B.notSynchronized
  subst hsz
  have hD := hD0
  have hP : va_P D vwCl [(a0, .inr (11, [g0, g1, g2, g3, g4, g5, g6, g7, g8, g9, g10, g11, g12, g13, .int 0, g15, g16]))] s.heap := hP
  have hl := lv_entry [.ref a0] (n := 1) (Nat.le_of_ble_eq_true rfl)
  rw [lg_entry_eq]
  generalize (lg_sl [.ref a0] ++ List.replicate (1 - (lg_sl [.ref a0]).length) Slot.unset).toArray = ls at hl ⊢
  have hl : lv_has ls 1 [(0, .ref a0)] := hl
  have hw11 : ∀ w ∈ wsX110, w ∈ wsX11_ash := fun w h => (List.mem_cons_of_mem _ (List.mem_append_right _ h))
  refine lv_aload_n hx hb dX11_ash_0 rfl (lv_at hl 0 rfl) ?_
  refine va_get (ci := 11) (v := .int 0) (C := RX11) (T := TX11) (N := 17) hx hb hts hw11 hown hK hP 0 rfl rfl 14 (by decide) (hts (.fieldLink RX11 87 "SmokeTune" "ashTold" "I") (List.mem_cons_of_mem _ (List.mem_append_left _ (List.mem_of_getElem? (i := 0) rfl)))) (fun _ h9 => h9) rfl dX11_ash_1 ?_
  exact W.iret (v := 0) hx hb hr (fun t ht hW => ⟨_, rfl, (by first | exact rfl), ht⟩) (fun q hq => by cases hq) dX11_ash_4
set_option maxHeartbeats 4000000 in
set_option maxRecDepth 100000 in
theorem t_hear (l : Launch) (D : va_G) (K : Nat → ClassId) (a0 : Nat) (x : Int32) (a2 : Nat) (g1 : Value) (g2 : Value) (g3 : Value) (g4 : Value) (g5 : Value) (g6 : Value) (g7 : Value) (g8 : Value) (g9 : Value) (g10 : Value) (g11 : Value) (a1 : Nat) (g13 : Value) (g14 : Value) (g15 : Value) (g16 : Value) (f : Nat → Int32) (k0 : Value) (k1 : Value) (k2 : Value) (k3 : Value) (k4 : Value) (k5 : Value) (k6 : Value) (k7 : Value) (sz : Nat) : Met l yX11_hear wsX11_hear ({ frames := 2, cells := 0, slots := 0, locals := 44 }) (va_Pc [.ref a0, .int x] (Pre D K [(a0, .inr (11, [.ref a2, g1, g2, g3, g4, g5, g6, g7, g8, g9, g10, g11, .ref a1, g13, g14, g15, g16])), (a1, .inl (K 0, 5, .inl f)), (a2, .inr (9, [k0, k1, k2, k3, k4, k5, k6, k7, .int 0, .int 0]))] sz)) (va_Qi (S := Unit) (fun (r : Int32) (_ : Unit) => (r = 1 ∧ 0 ≤ x.toInt ∧ x.toInt ≤ 127) ∨ (r = (-1) ∧ (x.toInt < 0 ∨ 127 < x.toInt))) (fun u t => Wd D (va_A [(a0, .inr (11, [.ref a2, g1, g2, g3, g4, g5, g6, g7, g8, g9, g10, g11, .ref a1, g13, g14, g15, g16])), (a1, .inl (K 0, 5, .inl f)), (a2, .inr (9, [k0, k1, k2, k3, k4, k5, k6, k7, .int 0, .int 0]))] sz) ((fun _ => []) u) t) (va_A [(a0, .inr (11, [.ref a2, g1, g2, g3, g4, g5, g6, g7, g8, g9, g10, g11, .ref a1, g13, g14, g15, g16])), (a1, .inl (K 0, 5, .inl f)), (a2, .inr (9, [k0, k1, k2, k3, k4, k5, k6, k7, .int 0, .int 0]))] sz)) 0 0 (va_A [(a0, .inr (11, [.ref a2, g1, g2, g3, g4, g5, g6, g7, g8, g9, g10, g11, .ref a1, g13, g14, g15, g16])), (a1, .inl (K 0, 5, .inl f)), (a2, .inr (9, [k0, k1, k2, k3, k4, k5, k6, k7, .int 0, .int 0]))] sz) := by
  refine Met.ofW (cc := cX11_hear) (maxL := 2) (ret := (some .int)) (by decide) rfl ?_
  intro p e s m args below meth c s₁ B hml hv
  obtain ⟨rfl, hsz, hP, hK, hD0, hN⟩ := hv
  have hx := B.exec
  have hb := B.bytes
  have hr := B.returns
  have hts := atoms_spec (ws := wsX11_hear) B.pre
  have hown : s.vm.findClass RX11 = some m.cls := findClass_of_methodNamed B.named
  have hlocks := B.notSynchronized
  subst hsz
  have hD := hD0.self (sz := s.heap.size)
  generalize hAe : va_A [(a0, .inr (11, [.ref a2, g1, g2, g3, g4, g5, g6, g7, g8, g9, g10, g11, .ref a1, g13, g14, g15, g16])), (a1, .inl (K 0, 5, .inl f)), (a2, .inr (9, [k0, k1, k2, k3, k4, k5, k6, k7, .int 0, .int 0]))] s.heap.size = A at hD ⊢
  have hA : ∀ q : Nat, s.heap.size ≤ q → A q := fun q h => by rw [← hAe]; exact Or.inr h
  have hS : va_S A s.heap s.heap [] := va_S.rf
  have hP : va_P D vwCl [(a0, .inr (11, [.ref a2, g1, g2, g3, g4, g5, g6, g7, g8, g9, g10, g11, .ref a1, g13, g14, g15, g16])), (a1, .inl (K 0, 5, .inl f)), (a2, .inr (9, [k0, k1, k2, k3, k4, k5, k6, k7, .int 0, .int 0]))] s.heap := hP
  have hl := lv_entry [.ref a0, .int x] (n := 2) (Nat.le_of_ble_eq_true rfl)
  rw [lg_entry_eq]
  generalize (lg_sl [.ref a0, .int x] ++ List.replicate (2 - (lg_sl [.ref a0, .int x]).length) Slot.unset).toArray = ls at hl ⊢
  have hl : lv_has ls 2 [(0, .ref a0), (1, .int x)] := hl
  have hw9 : ∀ w ∈ wsX90, w ∈ wsX11_hear := fun w h => (List.mem_cons_of_mem _ (List.mem_append_right _ h))
  have hw11 : ∀ w ∈ wsX110, w ∈ wsX11_hear := fun w h => (List.mem_cons_of_mem _ (List.mem_append_left _ (List.mem_append_right _ h)))
  refine lv_iload_n hx hb dX11_hear_0 rfl (lv_at hl 1 rfl) ?_
  refine lv_iconst (v := 0) hx hb dX11_hear_1 (by decide) ?_
  refine lv_bipush (v := 127) hx hb dX11_hear_2 (by decide) ?_
  refine pci (va_runS (As := [.int x, .int 0, .int 127]) (rest := []) ⟨hx, hb, hml, hown, hts⟩ (c_within l D K x 0 127 x.toInt 0 127 s.heap.size rfl rfl rfl) (va_cwS 3 hts gX11_hear_X11_within rfl rfl rfl (by decide +kernel) ⟨Nat.le_of_ble_eq_true rfl, Nat.le_of_ble_eq_true rfl⟩) (mkS hK hN (hP.sub [] rfl) (hD.sub [] (by decide) rfl)) rfl rfl hl.1 rfl (lv_room (Nat.le_of_ble_eq_true rfl)) dX11_hear_4 ⟨Nat.le_of_ble_eq_true rfl, Nat.le_of_ble_eq_true rfl⟩) (fun r_1 hw => ?_)
  rcases hw with ⟨rfl, h_2, h_3⟩ | ⟨rfl, h_4⟩
  · refine lv_if_ne (tgt := 16) hx hb dX11_hear_7 (by decide) (fun c_5 => ?_) (fun c_5 => absurd c_5 (by decide))
    refine lv_aload_n hx hb dX11_hear_16 rfl (lv_at hl 0 rfl) ?_
    refine va_get (ci := 11) (v := .ref a2) (C := RX11) (T := TX11) (N := 17) hx hb hts hw11 hown hK hP 0 rfl rfl 0 (by decide) (hts (.fieldLink RX11 10 "SmokeTune" "town" "LSmokeTune$Town;") (List.mem_cons_of_mem _ (List.mem_append_left _ (List.mem_append_left _ (List.mem_of_getElem? (i := 0) rfl))))) (fun _ h9 => h9) rfl dX11_hear_17 ?_
    refine va_getN (ci := 9) (v := .int 0) (C := RX9) (T := TX9) (N := 10) hx hb hts hw9 hown hK hP 2 rfl rfl 8 (by decide) (nst_use hN 116 rfl) (fun _ h9 => h9) rfl dX11_hear_20 ?_
    refine lv_bipush (v := 6) hx hb dX11_hear_23 (by decide) ?_
    refine lv_icmp_lt (tgt := 35) hx hb dX11_hear_25 (by decide) (fun c_6 => ?_) (fun c_6 => absurd (by decide) c_6)
    refine lv_aload_n hx hb dX11_hear_35 rfl (lv_at hl 0 rfl) ?_
    refine va_get (ci := 11) (v := .ref a2) (C := RX11) (T := TX11) (N := 17) hx hb hts hw11 hown hK hP 0 rfl rfl 0 (by decide) (hts (.fieldLink RX11 10 "SmokeTune" "town" "LSmokeTune$Town;") (List.mem_cons_of_mem _ (List.mem_append_left _ (List.mem_append_left _ (List.mem_of_getElem? (i := 0) rfl))))) (fun _ h9 => h9) rfl dX11_hear_36 ?_
    refine lv_dup hx hb dX11_hear_39 rfl ?_
    refine va_getN (ci := 9) (v := .int 0) (C := RX9) (T := TX9) (N := 10) hx hb hts hw9 hown hK hP 2 rfl rfl 9 (by decide) (nst_use hN 118 rfl) (fun _ h9 => h9) rfl dX11_hear_40 ?_
    refine lv_iload_n hx hb dX11_hear_43 rfl (lv_at hl 1 rfl) ?_
    refine lv_ior hx hb dX11_hear_44 ?_
    refine lv_topi (fun x_7 ex_7 => ?_)
    refine va_putN (ci := 9) (v := .int x_7) (ty := .int) (C := RX9) (T := TX9) (N := 10) hx hb hts hw9 tyX9 tyX9_ok nmX9 hown hK hP hD hS 2 rfl rfl 9 (by decide) (nst_use hN 118 rfl) (fun _ h9 => h9) rfl (by decide +kernel) (by first | rfl | decide) (by first | rfl | decide) (Nat.le_of_ble_eq_true rfl) dX11_hear_45 (fun H locs hP hD hS => ?_)
    have hP : va_P D vwCl [(a0, .inr (11, [.ref a2, g1, g2, g3, g4, g5, g6, g7, g8, g9, g10, g11, .ref a1, g13, g14, g15, g16])), (a1, .inl (K 0, 5, .inl f)), (a2, .inr (9, [k0, k1, k2, k3, k4, k5, k6, k7, .int 0, .int x_7]))] H := hP
    have hD : va_D A [(a0, .inr (11, [.ref a2, g1, g2, g3, g4, g5, g6, g7, g8, g9, g10, g11, .ref a1, g13, g14, g15, g16])), (a1, .inl (K 0, 5, .inl f)), (a2, .inr (9, [k0, k1, k2, k3, k4, k5, k6, k7, .int 0, .int x_7]))] := hD
    refine lv_aload_n hx hb dX11_hear_48 rfl (lv_at hl 0 rfl) ?_
    refine va_get (ci := 11) (v := .ref a2) (C := RX11) (T := TX11) (N := 17) hx hb hts hw11 hown hK hP 0 rfl rfl 0 (by decide) (hts (.fieldLink RX11 10 "SmokeTune" "town" "LSmokeTune$Town;") (List.mem_cons_of_mem _ (List.mem_append_left _ (List.mem_append_left _ (List.mem_of_getElem? (i := 0) rfl))))) (fun _ h9 => h9) rfl dX11_hear_49 ?_
    refine lv_dup hx hb dX11_hear_52 rfl ?_
    refine va_getN (ci := 9) (v := .int 0) (C := RX9) (T := TX9) (N := 10) hx hb hts hw9 hown hK hP 2 rfl rfl 8 (by decide) (nst_use hN 116 rfl) (fun _ h9 => h9) rfl dX11_hear_53 ?_
    refine lv_iconst (v := 1) hx hb dX11_hear_56 (by decide) ?_
    refine lv_iadd hx hb dX11_hear_57 ?_
    refine lv_topi (fun x_8 ex_8 => ?_)
    obtain rfl : x_8 = 1 := ex_8.trans (by first | rfl | decide)
    refine va_putN (ci := 9) (v := .int 1) (ty := .int) (C := RX9) (T := TX9) (N := 10) hx hb hts hw9 tyX9 tyX9_ok nmX9 hown hK hP hD hS 2 rfl rfl 8 (by decide) (nst_use hN 116 rfl) (fun _ h9 => h9) rfl (by decide +kernel) (by first | rfl | decide) (by first | rfl | decide) (Nat.le_of_ble_eq_true rfl) dX11_hear_58 (fun H locs hP hD hS => ?_)
    have hP : va_P D vwCl [(a0, .inr (11, [.ref a2, g1, g2, g3, g4, g5, g6, g7, g8, g9, g10, g11, .ref a1, g13, g14, g15, g16])), (a1, .inl (K 0, 5, .inl f)), (a2, .inr (9, [k0, k1, k2, k3, k4, k5, k6, k7, .int 1, .int x_7]))] H := hP
    have hD : va_D A [(a0, .inr (11, [.ref a2, g1, g2, g3, g4, g5, g6, g7, g8, g9, g10, g11, .ref a1, g13, g14, g15, g16])), (a1, .inl (K 0, 5, .inl f)), (a2, .inr (9, [k0, k1, k2, k3, k4, k5, k6, k7, .int 1, .int x_7]))] := hD
    refine lv_aload_n hx hb dX11_hear_61 rfl (lv_at hl 0 rfl) ?_
    refine lv_aload_n hx hb dX11_hear_62 rfl (lv_at hl 0 rfl) ?_
    refine va_get (ci := 11) (v := .ref a2) (C := RX11) (T := TX11) (N := 17) hx hb hts hw11 hown hK hP 0 rfl rfl 0 (by decide) (hts (.fieldLink RX11 10 "SmokeTune" "town" "LSmokeTune$Town;") (List.mem_cons_of_mem _ (List.mem_append_left _ (List.mem_append_left _ (List.mem_of_getElem? (i := 0) rfl))))) (fun _ h9 => h9) rfl dX11_hear_63 ?_
    refine va_getN (ci := 9) (v := .int 1) (C := RX9) (T := TX9) (N := 10) hx hb hts hw9 hown hK hP 2 rfl rfl 8 (by decide) (nst_use hN 116 rfl) (fun _ h9 => h9) rfl dX11_hear_66 ?_
    refine kci (wr := [(a1, .inl (K 0, 5, .inl f)), (a2, .inr (9, [k0, k1, k2, k3, k4, k5, k6, k7, .int 1, .int x_7]))]) (va_runV (As := [.int 1]) (rest := []) ⟨hx, hb, hml, hown, hts⟩ (c_accept l D K a0 1 (.ref a2) g1 g2 g3 g4 g5 g6 g7 g8 g9 g10 g11 (.ref a1) g13 g14 g15 g16 H.size) (cwV 1 hts gX11_hear_X11_accept rfl rfl rfl (by decide +kernel) ⟨Nat.le_of_ble_eq_true rfl, Nat.le_of_ble_eq_true rfl⟩) (mkV hK hN (hP.sub [0] rfl) (hD.sub [0] (by decide) rfl) (ci := 11) (q0 := 0) rfl rfl) rfl rfl hl.1 rfl (lv_room (Nat.le_of_ble_eq_true rfl)) dX11_hear_69 ⟨Nat.le_of_ble_eq_true rfl, Nat.le_of_ble_eq_true rfl⟩) hP hD hS hA [0] [1, 2] rfl rfl (by decide) (by decide) (fun r_9 u_10 H locs hw hP hD hS => ?_)
    have hP : va_P D vwCl [(a1, .inl (K 0, 5, .inl f)), (a2, .inr (9, [k0, k1, k2, k3, k4, k5, k6, k7, .int 1, .int x_7]))] H := hP
    have hD : va_D A [(a1, .inl (K 0, 5, .inl f)), (a2, .inr (9, [k0, k1, k2, k3, k4, k5, k6, k7, .int 1, .int x_7]))] := hD
    obtain rfl : r_9 = 1 := hw
    exact W.iret (v := 1) hx hb hr (fun t ht hW => ⟨⟨1, (), rfl, (by first | exact Or.inl (⟨rfl, by first | omega | decide | (subst_vars; assumption) | (subst_vars; symm; assumption), by first | omega | decide | (subst_vars; assumption) | (subst_vars; symm; assumption)⟩)), Wd.nil⟩, hS.F ht⟩) hS.2.2 dX11_hear_72
  · refine lv_if_ne (tgt := 16) hx hb dX11_hear_7 (by decide) (fun c_11 => absurd (by decide) c_11) (fun c_11 => ?_)
    refine lv_aload_n hx hb dX11_hear_10 rfl (lv_at hl 0 rfl) ?_
    refine lv_iconst (v := (-1)) hx hb dX11_hear_11 (by decide) ?_
    refine kci (wr := [(a2, .inr (9, [k0, k1, k2, k3, k4, k5, k6, k7, .int 0, .int 0]))]) (va_runV (As := [.int (-1)]) (rest := []) ⟨hx, hb, hml, hown, hts⟩ (c_refuse_1 l D K a0 (.ref a2) g1 g2 g3 g4 g5 g6 g7 g8 g9 g10 g11 a1 g13 g14 g15 g16 f s.heap.size) (cwV 1 hts gX11_hear_X11_refuse rfl rfl rfl (by decide +kernel) ⟨Nat.le_of_ble_eq_true rfl, Nat.le_of_ble_eq_true rfl⟩) (mkV hK hN (hP.sub [0, 1] rfl) (hD.sub [0, 1] (by decide) rfl) (ci := 11) (q0 := 0) rfl rfl) rfl rfl hl.1 rfl (lv_room (Nat.le_of_ble_eq_true rfl)) dX11_hear_12 ⟨Nat.le_of_ble_eq_true rfl, Nat.le_of_ble_eq_true rfl⟩) hP hD hS hA [0, 1] [2] rfl rfl (by decide) (by decide) (fun r_12 u_13 H locs hw hP hD hS => ?_)
    have hP : va_P D vwCl [(a2, .inr (9, [k0, k1, k2, k3, k4, k5, k6, k7, .int 0, .int 0]))] H := hP
    have hD : va_D A [(a2, .inr (9, [k0, k1, k2, k3, k4, k5, k6, k7, .int 0, .int 0]))] := hD
    obtain rfl : r_12 = (-1) := hw
    exact W.iret (v := (-1)) hx hb hr (fun t ht hW => ⟨⟨(-1), (), rfl, (by first | exact Or.inr (⟨rfl, by first | omega | decide | (subst_vars; assumption) | (subst_vars; symm; assumption)⟩)), Wd.nil⟩, hS.F ht⟩) hS.2.2 dX11_hear_15
set_option maxHeartbeats 4000000 in
set_option maxRecDepth 100000 in
theorem t_forget (l : Launch) (D : va_G) (K : Nat → ClassId) (a0 : Nat) (a2 : Nat) (g1 : Value) (g2 : Value) (g3 : Value) (g4 : Value) (g5 : Value) (g6 : Value) (g7 : Value) (g8 : Value) (g9 : Value) (g10 : Value) (g11 : Value) (g12 : Value) (g13 : Value) (g14 : Value) (g15 : Value) (g16 : Value) (k0 : Value) (k1 : Value) (k2 : Value) (k3 : Value) (k4 : Value) (k5 : Value) (k6 : Value) (k7 : Value) (k9 : Value) (sz : Nat) : Met l yX11_forget wsX11_forget ({ frames := 0, cells := 0, slots := 0, locals := 0 }) (va_Pc [.ref a0] (Pre D K [(a0, .inr (11, [.ref a2, g1, g2, g3, g4, g5, g6, g7, g8, g9, g10, g11, g12, g13, g14, g15, g16])), (a2, .inr (9, [k0, k1, k2, k3, k4, k5, k6, k7, .int 0, k9]))] sz)) (va_Qi (S := Unit) (fun (r : Int32) (_ : Unit) => (r = 0)) (fun u t => Wd D (va_A [(a0, .inr (11, [.ref a2, g1, g2, g3, g4, g5, g6, g7, g8, g9, g10, g11, g12, g13, g14, g15, g16])), (a2, .inr (9, [k0, k1, k2, k3, k4, k5, k6, k7, .int 0, k9]))] sz) ((fun _ => []) u) t) (va_A [(a0, .inr (11, [.ref a2, g1, g2, g3, g4, g5, g6, g7, g8, g9, g10, g11, g12, g13, g14, g15, g16])), (a2, .inr (9, [k0, k1, k2, k3, k4, k5, k6, k7, .int 0, k9]))] sz)) 0 0 (va_A [(a0, .inr (11, [.ref a2, g1, g2, g3, g4, g5, g6, g7, g8, g9, g10, g11, g12, g13, g14, g15, g16])), (a2, .inr (9, [k0, k1, k2, k3, k4, k5, k6, k7, .int 0, k9]))] sz) := by
  refine Met.ofW (cc := cX11_forget) (maxL := 2) (ret := (some .int)) (by decide) rfl ?_
  intro p e s m args below meth c s₁ B hml hv
  obtain ⟨rfl, hsz, hP, hK, hD0, hN⟩ := hv
  have hx := B.exec
  have hb := B.bytes
  have hr := B.returns
  have hts := atoms_spec (ws := wsX11_forget) B.pre
  have hown : s.vm.findClass RX11 = some m.cls := findClass_of_methodNamed B.named
  have hlocks := B.notSynchronized
  subst hsz
  have hD := hD0.self (sz := s.heap.size)
  generalize hAe : va_A [(a0, .inr (11, [.ref a2, g1, g2, g3, g4, g5, g6, g7, g8, g9, g10, g11, g12, g13, g14, g15, g16])), (a2, .inr (9, [k0, k1, k2, k3, k4, k5, k6, k7, .int 0, k9]))] s.heap.size = A at hD ⊢
  have hA : ∀ q : Nat, s.heap.size ≤ q → A q := fun q h => by rw [← hAe]; exact Or.inr h
  have hS : va_S A s.heap s.heap [] := va_S.rf
  have hP : va_P D vwCl [(a0, .inr (11, [.ref a2, g1, g2, g3, g4, g5, g6, g7, g8, g9, g10, g11, g12, g13, g14, g15, g16])), (a2, .inr (9, [k0, k1, k2, k3, k4, k5, k6, k7, .int 0, k9]))] s.heap := hP
  have hl := lv_entry [.ref a0] (n := 2) (Nat.le_of_ble_eq_true rfl)
  rw [lg_entry_eq]
  generalize (lg_sl [.ref a0] ++ List.replicate (2 - (lg_sl [.ref a0]).length) Slot.unset).toArray = ls at hl ⊢
  have hl : lv_has ls 2 [(0, .ref a0)] := hl
  have hw9 : ∀ w ∈ wsX90, w ∈ wsX11_forget := fun w h => (List.mem_cons_of_mem _ (List.mem_append_right _ h))
  have hw11 : ∀ w ∈ wsX110, w ∈ wsX11_forget := fun w h => (List.mem_cons_of_mem _ (List.mem_append_left _ (List.mem_append_right _ h)))
  refine lv_aload_n hx hb dX11_forget_0 rfl (lv_at hl 0 rfl) ?_
  refine va_get (ci := 11) (v := .ref a2) (C := RX11) (T := TX11) (N := 17) hx hb hts hw11 hown hK hP 0 rfl rfl 0 (by decide) (hts (.fieldLink RX11 10 "SmokeTune" "town" "LSmokeTune$Town;") (List.mem_cons_of_mem _ (List.mem_append_left _ (List.mem_append_left _ (List.mem_of_getElem? (i := 0) rfl))))) (fun _ h9 => h9) rfl dX11_forget_1 ?_
  refine va_getN (ci := 9) (v := .int 0) (C := RX9) (T := TX9) (N := 10) hx hb hts hw9 hown hK hP 1 rfl rfl 8 (by decide) (nst_use hN 116 rfl) (fun _ h9 => h9) rfl dX11_forget_4 ?_
  refine lv_istore_n (lv' := [(1, .int 0), (0, .ref a0)]) hx hb dX11_forget_7 rfl hl (by decide) rfl (fun ls hl => ?_)
  refine lv_aload_n hx hb dX11_forget_8 rfl (lv_at hl 1 rfl) ?_
  refine va_get (ci := 11) (v := .ref a2) (C := RX11) (T := TX11) (N := 17) hx hb hts hw11 hown hK hP 0 rfl rfl 0 (by decide) (hts (.fieldLink RX11 10 "SmokeTune" "town" "LSmokeTune$Town;") (List.mem_cons_of_mem _ (List.mem_append_left _ (List.mem_append_left _ (List.mem_of_getElem? (i := 0) rfl))))) (fun _ h9 => h9) rfl dX11_forget_9 ?_
  refine lv_iconst (v := 0) hx hb dX11_forget_12 (by decide) ?_
  refine va_putN (ci := 9) (v := .int 0) (ty := .int) (C := RX9) (T := TX9) (N := 10) hx hb hts hw9 tyX9 tyX9_ok nmX9 hown hK hP hD hS 1 rfl rfl 8 (by decide) (nst_use hN 116 rfl) (fun _ h9 => h9) rfl (by decide +kernel) (by first | rfl | decide) (by first | rfl | decide) (Nat.le_of_ble_eq_true rfl) dX11_forget_13 (fun H locs hP hD hS => ?_)
  have hP : va_P D vwCl [(a0, .inr (11, [.ref a2, g1, g2, g3, g4, g5, g6, g7, g8, g9, g10, g11, g12, g13, g14, g15, g16])), (a2, .inr (9, [k0, k1, k2, k3, k4, k5, k6, k7, .int 0, k9]))] H := hP
  have hD : va_D A [(a0, .inr (11, [.ref a2, g1, g2, g3, g4, g5, g6, g7, g8, g9, g10, g11, g12, g13, g14, g15, g16])), (a2, .inr (9, [k0, k1, k2, k3, k4, k5, k6, k7, .int 0, k9]))] := hD
  refine lv_aload_n hx hb dX11_forget_16 rfl (lv_at hl 1 rfl) ?_
  refine va_get (ci := 11) (v := .ref a2) (C := RX11) (T := TX11) (N := 17) hx hb hts hw11 hown hK hP 0 rfl rfl 0 (by decide) (hts (.fieldLink RX11 10 "SmokeTune" "town" "LSmokeTune$Town;") (List.mem_cons_of_mem _ (List.mem_append_left _ (List.mem_append_left _ (List.mem_of_getElem? (i := 0) rfl))))) (fun _ h9 => h9) rfl dX11_forget_17 ?_
  refine lv_iconst (v := 0) hx hb dX11_forget_20 (by decide) ?_
  refine va_putN (ci := 9) (v := .int 0) (ty := .int) (C := RX9) (T := TX9) (N := 10) hx hb hts hw9 tyX9 tyX9_ok nmX9 hown hK hP hD hS 1 rfl rfl 9 (by decide) (nst_use hN 118 rfl) (fun _ h9 => h9) rfl (by decide +kernel) (by first | rfl | decide) (by first | rfl | decide) (Nat.le_of_ble_eq_true rfl) dX11_forget_21 (fun H locs hP hD hS => ?_)
  have hP : va_P D vwCl [(a0, .inr (11, [.ref a2, g1, g2, g3, g4, g5, g6, g7, g8, g9, g10, g11, g12, g13, g14, g15, g16])), (a2, .inr (9, [k0, k1, k2, k3, k4, k5, k6, k7, .int 0, .int 0]))] H := hP
  have hD : va_D A [(a0, .inr (11, [.ref a2, g1, g2, g3, g4, g5, g6, g7, g8, g9, g10, g11, g12, g13, g14, g15, g16])), (a2, .inr (9, [k0, k1, k2, k3, k4, k5, k6, k7, .int 0, .int 0]))] := hD
  refine lv_iload_n hx hb dX11_forget_24 rfl (lv_at hl 0 rfl) ?_
  exact W.iret (v := 0) hx hb hr (fun t ht hW => ⟨⟨0, (), rfl, (by first | exact rfl), Wd.nil⟩, hS.F ht⟩) hS.2.2 dX11_forget_25
set_option maxHeartbeats 4000000 in
set_option maxRecDepth 100000 in
theorem t_fault (l : Launch) (D : va_G) (K : Nat → ClassId) (a0 : Nat) (g0 : Value) (g1 : Value) (g2 : Value) (g3 : Value) (a2 : Nat) (g5 : Value) (g6 : Value) (g7 : Value) (g8 : Value) (g9 : Value) (g10 : Value) (g11 : Value) (g12 : Value) (g13 : Value) (g14 : Value) (g15 : Value) (g16 : Value) (k0 : Value) (k1 : Value) (k2 : Value) (k3 : Value) (sz : Nat) : Met l yX11_fault wsX11_fault ({ frames := 0, cells := 0, slots := 0, locals := 0 }) (va_Pc [.ref a0] (Pre D K [(a0, .inr (11, [g0, g1, g2, g3, .ref a2, g5, g6, g7, g8, g9, g10, g11, g12, g13, g14, g15, g16])), (a2, .inr (6, [k0, k1, k2, k3, .int (-1)]))] sz)) (vp_Si (fun r : Int32 => (r = (-1)))) 0 0 (fun _ => False) := by
  refine Met.ofW (cc := cX11_fault) (maxL := 1) (ret := (some .int)) (by decide) rfl ?_
  intro p e s m args below meth c s₁ B hml hv
  obtain ⟨rfl, hsz, hP, hK, hD0, hN⟩ := hv
  have hx := B.exec
  have hb := B.bytes
  have hr := B.returns
  have hts := atoms_spec (ws := wsX11_fault) B.pre
  have hown : s.vm.findClass RX11 = some m.cls := findClass_of_methodNamed B.named
  have hlocks := B.notSynchronized
  subst hsz
  have hD := hD0
  have hP : va_P D vwCl [(a0, .inr (11, [g0, g1, g2, g3, .ref a2, g5, g6, g7, g8, g9, g10, g11, g12, g13, g14, g15, g16])), (a2, .inr (6, [k0, k1, k2, k3, .int (-1)]))] s.heap := hP
  have hl := lv_entry [.ref a0] (n := 1) (Nat.le_of_ble_eq_true rfl)
  rw [lg_entry_eq]
  generalize (lg_sl [.ref a0] ++ List.replicate (1 - (lg_sl [.ref a0]).length) Slot.unset).toArray = ls at hl ⊢
  have hl : lv_has ls 1 [(0, .ref a0)] := hl
  have hw6 : ∀ w ∈ wsX60, w ∈ wsX11_fault := fun w h => (List.mem_cons_of_mem _ (List.mem_append_right _ h))
  have hw11 : ∀ w ∈ wsX110, w ∈ wsX11_fault := fun w h => (List.mem_cons_of_mem _ (List.mem_append_left _ (List.mem_append_right _ h)))
  refine lv_aload_n hx hb dX11_fault_0 rfl (lv_at hl 0 rfl) ?_
  refine va_get (ci := 11) (v := .ref a2) (C := RX11) (T := TX11) (N := 17) hx hb hts hw11 hown hK hP 0 rfl rfl 4 (by decide) (hts (.fieldLink RX11 30 "SmokeTune" "reader" "LSmokeTune$Reader;") (List.mem_cons_of_mem _ (List.mem_append_left _ (List.mem_append_left _ (List.mem_of_getElem? (i := 0) rfl))))) (fun _ h9 => h9) rfl dX11_fault_1 ?_
  refine va_getN (ci := 6) (v := .int (-1)) (C := RX6) (T := TX6) (N := 5) hx hb hts hw6 hown hK hP 1 rfl rfl 4 (by decide) (nst_use hN 133 rfl) (fun _ h9 => h9) rfl dX11_fault_4 ?_
  exact W.iret (v := (-1)) hx hb hr (fun t ht hW => ⟨_, rfl, (by first | exact rfl), ht⟩) (fun q hq => by cases hq) dX11_fault_7
set_option maxHeartbeats 4000000 in
set_option maxRecDepth 100000 in
theorem t_stopped (l : Launch) (D : va_G) (K : Nat → ClassId) (a0 : Nat) (g0 : Value) (g1 : Value) (g2 : Value) (g3 : Value) (g4 : Value) (g5 : Value) (a2 : Nat) (g7 : Value) (g8 : Value) (g9 : Value) (g10 : Value) (g11 : Value) (g12 : Value) (g13 : Value) (g14 : Value) (g15 : Value) (g16 : Value) (k0 : Value) (k1 : Value) (k2 : Value) (k3 : Value) (k4 : Value) (k5 : Value) (k6 : Value) (sz : Nat) : Met l yX11_stopped wsX11_stopped ({ frames := 0, cells := 0, slots := 0, locals := 0 }) (va_Pc [.ref a0] (Pre D K [(a0, .inr (11, [g0, g1, g2, g3, g4, g5, .ref a2, g7, g8, g9, g10, g11, g12, g13, g14, g15, g16])), (a2, .inr (1, [k0, k1, k2, k3, k4, k5, k6, .int (-1)]))] sz)) (vp_Si (fun r : Int32 => (r = (-1)))) 0 0 (fun _ => False) := by
  refine Met.ofW (cc := cX11_stopped) (maxL := 1) (ret := (some .int)) (by decide) rfl ?_
  intro p e s m args below meth c s₁ B hml hv
  obtain ⟨rfl, hsz, hP, hK, hD0, hN⟩ := hv
  have hx := B.exec
  have hb := B.bytes
  have hr := B.returns
  have hts := atoms_spec (ws := wsX11_stopped) B.pre
  have hown : s.vm.findClass RX11 = some m.cls := findClass_of_methodNamed B.named
  have hlocks := B.notSynchronized
  subst hsz
  have hD := hD0
  have hP : va_P D vwCl [(a0, .inr (11, [g0, g1, g2, g3, g4, g5, .ref a2, g7, g8, g9, g10, g11, g12, g13, g14, g15, g16])), (a2, .inr (1, [k0, k1, k2, k3, k4, k5, k6, .int (-1)]))] s.heap := hP
  have hl := lv_entry [.ref a0] (n := 1) (Nat.le_of_ble_eq_true rfl)
  rw [lg_entry_eq]
  generalize (lg_sl [.ref a0] ++ List.replicate (1 - (lg_sl [.ref a0]).length) Slot.unset).toArray = ls at hl ⊢
  have hl : lv_has ls 1 [(0, .ref a0)] := hl
  have hw1 : ∀ w ∈ wsX10, w ∈ wsX11_stopped := fun w h => (List.mem_cons_of_mem _ (List.mem_append_right _ h))
  have hw11 : ∀ w ∈ wsX110, w ∈ wsX11_stopped := fun w h => (List.mem_cons_of_mem _ (List.mem_append_left _ (List.mem_append_right _ h)))
  refine lv_aload_n hx hb dX11_stopped_0 rfl (lv_at hl 0 rfl) ?_
  refine va_get (ci := 11) (v := .ref a2) (C := RX11) (T := TX11) (N := 17) hx hb hts hw11 hown hK hP 0 rfl rfl 6 (by decide) (hts (.fieldLink RX11 42 "SmokeTune" "crew" "LSmokeTune$Crew;") (List.mem_cons_of_mem _ (List.mem_append_left _ (List.mem_append_left _ (List.mem_of_getElem? (i := 0) rfl))))) (fun _ h9 => h9) rfl dX11_stopped_1 ?_
  refine va_getN (ci := 1) (v := .int (-1)) (C := RX1) (T := TX1) (N := 8) hx hb hts hw1 hown hK hP 1 rfl rfl 7 (by decide) (nst_use hN 139 rfl) (fun _ h9 => h9) rfl dX11_stopped_4 ?_
  exact W.iret (v := (-1)) hx hb hr (fun t ht hW => ⟨_, rfl, (by first | exact rfl), ht⟩) (fun q hq => by cases hq) dX11_stopped_7
