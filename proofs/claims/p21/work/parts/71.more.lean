
set_option maxRecDepth 100000 in
noncomputable def E_v_houseN_j67 (sta : Int32) (nu : Int32) (fw : Nat → Int32) (frf : Nat → Int32) : Int32 × Int32 × Int32 × (Nat → Int32) × (Nat → Int32) :=
  Lt2 (E_v_tell (-1) sta frf) (fun r_662 q0_r_662 => Lt2 q0_r_662 (fun u_663_2_2_2_1_0 u_663_2_1_0 => ((r_662, u_663_2_2_2_1_0, nu, fw, u_663_2_1_0) : Int32 × Int32 × Int32 × (Nat → Int32) × (Nat → Int32))))
set_option maxRecDepth 100000 in
noncomputable def E_v_houseN_l84 (x0 : Int32) (x1 : Int32) (x2 : Int32) (x3 : Int32) (x4 : Int32) (sta : Int32) (nu : Int32) (fw : Nat → Int32) (frf : Nat → Int32) (x_701 : Int32) (rec_736 : Int32 → (Int32 × Int32 × Int32 × (Nat → Int32) × (Nat → Int32))) (v_724 : Int32) : Int32 × Int32 × Int32 × (Nat → Int32) × (Nat → Int32) :=
  if x_701 ≤ v_724 then (if x_701 = 8 then (Lt2 (E_v_tell (-5) sta frf) (fun r_762 q0_r_762 => Lt2 q0_r_762 (fun u_763_2_2_2_1_0 u_763_2_1_0 => ((r_762, u_763_2_2_2_1_0, nu, fw, u_763_2_1_0) : Int32 × Int32 × Int32 × (Nat → Int32) × (Nat → Int32))))) else (Lt (35 + x_701 : Int32) (fun x_740 => Lt (upd fw (x_740 : Int32).toNatClampNeg x0 : Nat → Int32) (fun f_741 => Lt (43 + x_701 : Int32) (fun x_742 => Lt (upd f_741 (x_742 : Int32).toNatClampNeg x1 : Nat → Int32) (fun f_743 => Lt (19 + x_701 : Int32) (fun x_744 => Lt (upd f_743 (x_744 : Int32).toNatClampNeg x2 : Nat → Int32) (fun f_745 => Lt (51 + x_701 : Int32) (fun x_746 => Lt (upd f_745 (x_746 : Int32).toNatClampNeg x3 : Nat → Int32) (fun f_747 => Lt (59 + x_701 : Int32) (fun x_748 => Lt (upd f_747 (x_748 : Int32).toNatClampNeg x4 : Nat → Int32) (fun f_749 => Lt (11 + x_701 : Int32) (fun x_750 => Lt (upd f_749 (x_750 : Int32).toNatClampNeg 0 : Nat → Int32) (fun f_751 => Lt (27 + x_701 : Int32) (fun x_752 => Lt (upd f_751 (x_752 : Int32).toNatClampNeg 0 : Nat → Int32) (fun f_753 => Lt (f_753 (0 : Int32).toNatClampNeg : Int32) (fun x_754 => Lt (x_754 + 1 : Int32) (fun x_755 => Lt (upd f_753 (0 : Int32).toNatClampNeg x_755 : Nat → Int32) (fun f_756 => Lt2 (E_v_tell x_701 sta frf) (fun r_757 q0_r_757 => Lt2 q0_r_757 (fun u_758_2_2_2_1_0 u_758_2_1_0 => ((r_757, u_758_2_2_2_1_0, 0, f_756, u_758_2_1_0) : Int32 × Int32 × Int32 × (Nat → Int32) × (Nat → Int32))))))))))))))))))))))) else (Lt (51 + v_724 : Int32) (fun x_767 => Lt (fw (x_767 : Int32).toNatClampNeg : Int32) (fun x_768 => if x_768 = x3 then (Lt2 (E_v_tell (-3) sta frf) (fun r_771 q0_r_771 => Lt2 q0_r_771 (fun u_772_2_2_2_1_0 u_772_2_1_0 => ((r_771, u_772_2_2_2_1_0, nu, fw, u_772_2_1_0) : Int32 × Int32 × Int32 × (Nat → Int32) × (Nat → Int32))))) else (Lt (v_724 + Int32.ofInt 1 : Int32) (fun x_770 => rec_736 x_770)))))
set_option maxRecDepth 100000 in
noncomputable def E_v_houseN (x0 : Int32) (x1 : Int32) (x2 : Int32) (x3 : Int32) (x4 : Int32) (thr : Int32) (sta : Int32) (nu : Int32) (fw : Nat → Int32) (frf : Nat → Int32) : Int32 × Int32 × Int32 × (Nat → Int32) × (Nat → Int32) :=
  Lt ((x0 : Int32).toInt64 : Int64) (fun x_541 => Lt (E_v_in x_541 0 6) (fun r_667 => if r_667 = 1 then (Lt ((x1 : Int32).toInt64 : Int64) (fun x_673 => Lt (E_v_in x_673 0 3) (fun r_674 => if r_674 = 1 then (Lt ((x2 : Int32).toInt64 : Int64) (fun x_680 => Lt (E_v_in x_680 0 999) (fun r_681 => if r_681 = 1 then (Lt ((x3 : Int32).toInt64 : Int64) (fun x_687 => Lt (E_v_in x_687 0 7) (fun r_688 => if r_688 = 1 then (Lt ((x4 : Int32).toInt64 : Int64) (fun x_694 => Lt (E_v_in x_694 0 7) (fun r_695 => if r_695 = 1 then (Lt (fw (0 : Int32).toNatClampNeg : Int32) (fun x_701 => Lp (α := Int32 → (Int32 × Int32 × Int32 × (Nat → Int32) × (Nat → Int32))) (E_v_houseN_l84 x0 x1 x2 x3 x4 sta nu fw frf x_701) (fun _ => ((0, 0, 0, fun _ => 0, fun _ => 0) : Int32 × Int32 × Int32 × (Nat → Int32) × (Nat → Int32))) ((9 - (0 : Int32).toInt : Int).toNat + 1) 0)) else (E_v_houseN_j67 sta nu fw frf)))) else (E_v_houseN_j67 sta nu fw frf)))) else (E_v_houseN_j67 sta nu fw frf)))) else (E_v_houseN_j67 sta nu fw frf)))) else (E_v_houseN_j67 sta nu fw frf)))
set_option maxHeartbeats 4000000 in
set_option maxRecDepth 100000 in
theorem v_houseN (l : Launch) (D : va_G) (K : Nat → ClassId) (m0 : Nat) (x0 : Int32) (x1 : Int32) (x2 : Int32) (x3 : Int32) (x4 : Int32) (thr : Int32) (sta : Int32) (r0 : Nat) (w0 : Nat) (m_4 : Value) (m_5 : Value) (m_6 : Value) (m_7 : Value) (nu : Int32) (m_9 : Value) (m_10 : Value) (m_11 : Value) (m_12 : Value) (m_13 : Value) (m_14 : Value) (m_15 : Value) (m_16 : Value) (m_17 : Value) (m_18 : Value) (m_19 : Value) (m_20 : Value) (m_21 : Value) (m_22 : Value) (m_23 : Value) (m_24 : Value) (m_25 : Value) (m_26 : Value) (m_27 : Value) (m_28 : Value) (m_29 : Value) (m_30 : Value) (m_31 : Value) (m_32 : Value) (m_33 : Value) (m_34 : Value) (m_35 : Value) (m_36 : Value) (m_37 : Value) (m_38 : Value) (m_39 : Value) (m_40 : Value) (m_41 : Value) (m_42 : Value) (m_43 : Value) (m_44 : Value) (m_45 : Value) (m_46 : Value) (m_47 : Value) (m_48 : Value) (m_49 : Value) (m_50 : Value) (m_51 : Value) (m_52 : Value) (m_53 : Value) (m_54 : Value) (m_55 : Value) (m_56 : Value) (m_57 : Value) (m_58 : Value) (m_59 : Value) (fw : Nat → Int32) (frf : Nat → Int32) (sz : Nat) (znu : 0 ≤ nu.toInt ∧ nu.toInt ≤ 16) (zfw : RwOK fw) : Met l yX12_house wsX12_house ({ frames := 1, cells := 0, slots := 0, locals := 25 }) (va_Pc [.ref m0, .int x0, .int x1, .int x2, .int x3, .int x4] (Pre D K [(cc_O m0 12 [.int thr, .int sta, .ref r0, .ref w0, m_4, m_5, m_6, m_7, .int nu, m_9, m_10, m_11, m_12, m_13, m_14, m_15, m_16, m_17, m_18, m_19, m_20, m_21, m_22, m_23, m_24, m_25, m_26, m_27, m_28, m_29, m_30, m_31, m_32, m_33, m_34, m_35, m_36, m_37, m_38, m_39, m_40, m_41, m_42, m_43, m_44, m_45, m_46, m_47, m_48, m_49, m_50, m_51, m_52, m_53, m_54, m_55, m_56, m_57, m_58, m_59]), (cc_l w0 (K 0) 5500 fw), (cc_l r0 (K 0) 7 frf)] sz)) (va_Qi (S := Su) (fun (r : Int32) (u : Su) => ((-6) ≤ r.toInt) ∧ ((-6) ≤ (u.2.2.2.1 0).toInt ∧ (u.2.2.2.1 0).toInt ≤ 0) ∧ (0 ≤ (u.2.2.2.1 1).toInt ∧ (u.2.2.2.1 1).toInt ≤ 16) ∧ (RwOK (u.2.1 0)) ∧ ((r, (u.2.2.2.1 0), (u.2.2.2.1 1), (u.2.1 0), (u.2.1 1)) = E_v_houseN x0 x1 x2 x3 x4 thr sta nu fw frf) ∧ True) (fun u t => Wd D (va_A [(cc_O m0 12 [.int thr, .int sta, .ref r0, .ref w0, m_4, m_5, m_6, m_7, .int nu, m_9, m_10, m_11, m_12, m_13, m_14, m_15, m_16, m_17, m_18, m_19, m_20, m_21, m_22, m_23, m_24, m_25, m_26, m_27, m_28, m_29, m_30, m_31, m_32, m_33, m_34, m_35, m_36, m_37, m_38, m_39, m_40, m_41, m_42, m_43, m_44, m_45, m_46, m_47, m_48, m_49, m_50, m_51, m_52, m_53, m_54, m_55, m_56, m_57, m_58, m_59]), (cc_l w0 (K 0) 5500 fw), (cc_l r0 (K 0) 7 frf)] sz) ((fun u => [(cc_O m0 12 [.int 0, .int (u.2.2.2.1 0), .ref r0, .ref w0, m_4, m_5, m_6, m_7, .int (u.2.2.2.1 1), m_9, m_10, m_11, m_12, m_13, m_14, m_15, m_16, m_17, m_18, m_19, m_20, m_21, m_22, m_23, m_24, m_25, m_26, m_27, m_28, m_29, m_30, m_31, m_32, m_33, m_34, m_35, m_36, m_37, m_38, m_39, m_40, m_41, m_42, m_43, m_44, m_45, m_46, m_47, m_48, m_49, m_50, m_51, m_52, m_53, m_54, m_55, m_56, m_57, m_58, m_59]), (cc_l w0 (K 0) 5500 (u.2.1 0)), (cc_l r0 (K 0) 7 (u.2.1 1))]) u) t) (va_A [(cc_O m0 12 [.int thr, .int sta, .ref r0, .ref w0, m_4, m_5, m_6, m_7, .int nu, m_9, m_10, m_11, m_12, m_13, m_14, m_15, m_16, m_17, m_18, m_19, m_20, m_21, m_22, m_23, m_24, m_25, m_26, m_27, m_28, m_29, m_30, m_31, m_32, m_33, m_34, m_35, m_36, m_37, m_38, m_39, m_40, m_41, m_42, m_43, m_44, m_45, m_46, m_47, m_48, m_49, m_50, m_51, m_52, m_53, m_54, m_55, m_56, m_57, m_58, m_59]), (cc_l w0 (K 0) 5500 fw), (cc_l r0 (K 0) 7 frf)] sz)) 0 0 (va_A [(cc_O m0 12 [.int thr, .int sta, .ref r0, .ref w0, m_4, m_5, m_6, m_7, .int nu, m_9, m_10, m_11, m_12, m_13, m_14, m_15, m_16, m_17, m_18, m_19, m_20, m_21, m_22, m_23, m_24, m_25, m_26, m_27, m_28, m_29, m_30, m_31, m_32, m_33, m_34, m_35, m_36, m_37, m_38, m_39, m_40, m_41, m_42, m_43, m_44, m_45, m_46, m_47, m_48, m_49, m_50, m_51, m_52, m_53, m_54, m_55, m_56, m_57, m_58, m_59]), (cc_l w0 (K 0) 5500 fw), (cc_l r0 (K 0) 7 frf)] sz) := by
  refine Met.ofW (cc := cX12_house) (maxL := 8) (ret := (some .int)) (by decide +kernel) rfl ?_
  intro p e s m args below meth c s₁ B hml hv
  obtain ⟨rfl, hsz, hP, hK, hD0, hN⟩ := hv
  have hx := B.exec
  have hb := B.bytes
  have hr := B.returns
  have hts := atoms_spec (ws := wsX12_house) B.pre
  have hown : s.vm.findClass RX12 = some m.cls := findClass_of_methodNamed B.named
  have hlocks := B.notSynchronized
  subst hsz
  have hD := hD0.self (sz := s.heap.size)
  generalize hAe : va_A [(cc_O m0 12 [.int thr, .int sta, .ref r0, .ref w0, m_4, m_5, m_6, m_7, .int nu, m_9, m_10, m_11, m_12, m_13, m_14, m_15, m_16, m_17, m_18, m_19, m_20, m_21, m_22, m_23, m_24, m_25, m_26, m_27, m_28, m_29, m_30, m_31, m_32, m_33, m_34, m_35, m_36, m_37, m_38, m_39, m_40, m_41, m_42, m_43, m_44, m_45, m_46, m_47, m_48, m_49, m_50, m_51, m_52, m_53, m_54, m_55, m_56, m_57, m_58, m_59]), (cc_l w0 (K 0) 5500 fw), (cc_l r0 (K 0) 7 frf)] s.heap.size = A at hD ⊢
  have hA : ∀ q : Nat, s.heap.size ≤ q → A q := fun q h => by rw [← hAe]; exact Or.inr h
  clear hAe
  have hS : va_S A s.heap s.heap [] := va_S.rf
  replace hP : va_P D vwCl [(cc_O m0 12 [.int thr, .int sta, .ref r0, .ref w0, m_4, m_5, m_6, m_7, .int nu, m_9, m_10, m_11, m_12, m_13, m_14, m_15, m_16, m_17, m_18, m_19, m_20, m_21, m_22, m_23, m_24, m_25, m_26, m_27, m_28, m_29, m_30, m_31, m_32, m_33, m_34, m_35, m_36, m_37, m_38, m_39, m_40, m_41, m_42, m_43, m_44, m_45, m_46, m_47, m_48, m_49, m_50, m_51, m_52, m_53, m_54, m_55, m_56, m_57, m_58, m_59]), (cc_l w0 (K 0) 5500 fw), (cc_l r0 (K 0) 7 frf)] s.heap := hP
  have hl := lv_entry [.ref m0, .int x0, .int x1, .int x2, .int x3, .int x4] (n := 8) (Nat.le_of_ble_eq_true rfl)
  rw [lg_entry_eq]
  generalize (lg_sl [.ref m0, .int x0, .int x1, .int x2, .int x3, .int x4] ++ List.replicate (8 - (lg_sl [.ref m0, .int x0, .int x1, .int x2, .int x3, .int x4]).length) Slot.unset).toArray = ls at hl ⊢
  have hl : lv_has ls 8 [(0, .ref m0), (1, .int x0), (2, .int x1), (3, .int x2), (4, .int x3), (5, .int x4)] := hl
  have hw12 : ∀ w ∈ wsX120, w ∈ wsX12_house := fun w h => (List.mem_cons_of_mem _ (List.mem_append_right _ h))
  generalize hQ : MQ below _ _ s _ _ _ = Q
  have hE := E_v_houseN.eq_def x0 x1 x2 x3 x4 thr sta nu fw frf
  refine lv_aload_n hx hb dX12_house_0 rfl (lv_at hl 0 rfl) (lv_iconst (v := 0) hx hb dX12_house_1 (by decide +kernel) (va_put (ci := 12) (v := .int 0) (ty := .int) (C := RX12) (T := TX12) (N := 60) hx hb hts hw12 tyX12 tyX12_ok nmX12 hown hK hP hD hS 0 rfl rfl 0 (by decide +kernel) (hts _ mm_X12_house_830) (fun _ h9 => h9) rfl (by decide +kernel) (by first | rfl | decide) (by first | rfl | decide) (Nat.le_of_ble_eq_true rfl) dX12_house_2 (fun H locs hP0 hD0 hS0 => ?_)))
  replace hP : va_P D vwCl [(cc_O m0 12 [.int 0, .int sta, .ref r0, .ref w0, m_4, m_5, m_6, m_7, .int nu, m_9, m_10, m_11, m_12, m_13, m_14, m_15, m_16, m_17, m_18, m_19, m_20, m_21, m_22, m_23, m_24, m_25, m_26, m_27, m_28, m_29, m_30, m_31, m_32, m_33, m_34, m_35, m_36, m_37, m_38, m_39, m_40, m_41, m_42, m_43, m_44, m_45, m_46, m_47, m_48, m_49, m_50, m_51, m_52, m_53, m_54, m_55, m_56, m_57, m_58, m_59]), (cc_l w0 (K 0) 5500 fw), (cc_l r0 (K 0) 7 frf)] H := hP0
  replace hD := as_D hP hD0 rfl
  replace hS := hS0
  clear hP0 hD0 hS0
  refine lv_iload_n hx hb dX12_house_5 rfl (lv_at hl 1 rfl) (lv_i2l hx hb dX12_house_6 rfl (lv_topl (fun x_541 ex_541 => ?_)))
  replace hE := hE.trans (Lt_in ex_541)
  have hx_541 : x_541.toInt = x0.toInt := by rw [ex_541]; exact i_wide rfl
  have hbx_541 := i_rng (a := x0) rfl
  refine lv_lconst (v := 0) hx hb dX12_house_7 (by decide +kernel) (lv_ldc2 (v := 6) hx hb hown (hts _ mm_X12_house_976) dX12_house_8 ?_)
  have j_661 : ∀ (hE : E_v_houseN x0 x1 x2 x3 x4 thr sta nu fw frf = E_v_houseN_j67 sta nu fw frf) (H : Heap) (locs : List Loc) (hP : va_P D vwCl [(cc_O m0 12 [.int 0, .int sta, .ref r0, .ref w0, m_4, m_5, m_6, m_7, .int nu, m_9, m_10, m_11, m_12, m_13, m_14, m_15, m_16, m_17, m_18, m_19, m_20, m_21, m_22, m_23, m_24, m_25, m_26, m_27, m_28, m_29, m_30, m_31, m_32, m_33, m_34, m_35, m_36, m_37, m_38, m_39, m_40, m_41, m_42, m_43, m_44, m_45, m_46, m_47, m_48, m_49, m_50, m_51, m_52, m_53, m_54, m_55, m_56, m_57, m_58, m_59]), (cc_l w0 (K 0) 5500 fw), (cc_l r0 (K 0) 7 frf)] H) (hD : va_D A [(cc_O m0 12 [.int 0, .int sta, .ref r0, .ref w0, m_4, m_5, m_6, m_7, .int nu, m_9, m_10, m_11, m_12, m_13, m_14, m_15, m_16, m_17, m_18, m_19, m_20, m_21, m_22, m_23, m_24, m_25, m_26, m_27, m_28, m_29, m_30, m_31, m_32, m_33, m_34, m_35, m_36, m_37, m_38, m_39, m_40, m_41, m_42, m_43, m_44, m_45, m_46, m_47, m_48, m_49, m_50, m_51, m_52, m_53, m_54, m_55, m_56, m_57, m_58, m_59]), (cc_l w0 (K 0) 5500 fw), (cc_l r0 (K 0) 7 frf)]) (hS : va_S A s.heap H locs) (ls : Array Slot) (hl : lv_has ls 8 [(0, .ref m0)]), W p l e ({ frames := 1, cells := 0, slots := 0, locals := 25 }) s m (([.ref m0, .int x0, .int x1, .int x2, .int x3, .int x4] : List Value).toArray) below meth c H locs 0 0 Q (F0 m 67 ls []) := by
    clear hE hP hD hS hl
    intro hE H locs hP hD hS ls hl
    replace hE := hE.trans (E_v_houseN_j67.eq_def _ _ _ _)
    refine lv_aload_n hx hb dX12_house_67 rfl (lv_at hl 0 rfl) (lv_iconst (v := (-1)) hx hb dX12_house_68 (by decide +kernel) (kci (S := Su) (wr := [(cc_l w0 (K 0) 5500 fw)]) (va_runV (As := [.int (-1)]) (rest := []) ⟨hx, hb, hml, hown, hts⟩ (v_tell l D K m0 (-1) (.int 0) sta r0 (.ref w0) m_4 m_5 m_6 m_7 (.int nu) m_9 m_10 m_11 m_12 m_13 m_14 m_15 m_16 m_17 m_18 m_19 m_20 m_21 m_22 m_23 m_24 m_25 m_26 m_27 m_28 m_29 m_30 m_31 m_32 m_33 m_34 m_35 m_36 m_37 m_38 m_39 m_40 m_41 m_42 m_43 m_44 m_45 m_46 m_47 m_48 m_49 m_50 m_51 m_52 m_53 m_54 m_55 m_56 m_57 m_58 m_59 frf H.size (by first | omega | decide)) (cwV 1 hts gX12_house_X12_tell rfl rfl rfl (by decide +kernel) ⟨Nat.le_of_ble_eq_true rfl, Nat.le_of_ble_eq_true rfl⟩) (mkV hK hN (hP.sub [0, 2] rfl) (hD.sub [0, 2] (by decide +kernel) rfl) (ci := 12) (q0 := 0) rfl rfl) rfl rfl hl.1 rfl (lv_room (Nat.le_of_ble_eq_true rfl)) dX12_house_69 ⟨Nat.le_of_ble_eq_true rfl, Nat.le_of_ble_eq_true rfl⟩) hP hD hS hA [0, 2] [1] rfl rfl (by decide +kernel) (by decide +kernel) (fun r_662 u_663 H locs hw hP0 hD0 hS0 => ?_)))
    replace hP : va_P D vwCl [(cc_l w0 (K 0) 5500 fw), (cc_O m0 12 [.int 0, .int (u_663.2.2.2.1 0), .ref r0, .ref w0, m_4, m_5, m_6, m_7, .int nu, m_9, m_10, m_11, m_12, m_13, m_14, m_15, m_16, m_17, m_18, m_19, m_20, m_21, m_22, m_23, m_24, m_25, m_26, m_27, m_28, m_29, m_30, m_31, m_32, m_33, m_34, m_35, m_36, m_37, m_38, m_39, m_40, m_41, m_42, m_43, m_44, m_45, m_46, m_47, m_48, m_49, m_50, m_51, m_52, m_53, m_54, m_55, m_56, m_57, m_58, m_59]), (cc_l r0 (K 0) 7 (u_663.2.1 0))] H := hP0
    replace hD := as_D hP hD0 rfl
    replace hS := hS0
    clear hP0 hD0 hS0
    obtain ⟨h_666, k_664, k_665, -⟩ := hw
    replace hE := (hE.trans (Lt2_in k_665)).trans (Lt2_in rfl)
    rw [← hQ]
    have hP9 := hP.sub (ws' := [(cc_O m0 12 [.int 0, .int (u_663.2.2.2.1 0), .ref r0, .ref w0, m_4, m_5, m_6, m_7, .int nu, m_9, m_10, m_11, m_12, m_13, m_14, m_15, m_16, m_17, m_18, m_19, m_20, m_21, m_22, m_23, m_24, m_25, m_26, m_27, m_28, m_29, m_30, m_31, m_32, m_33, m_34, m_35, m_36, m_37, m_38, m_39, m_40, m_41, m_42, m_43, m_44, m_45, m_46, m_47, m_48, m_49, m_50, m_51, m_52, m_53, m_54, m_55, m_56, m_57, m_58, m_59]), (cc_l w0 (K 0) 5500 fw), (cc_l r0 (K 0) 7 (u_663.2.1 0))]) [1, 0, 2] rfl
    have hD9 := sub_D hP9 hD [1, 0, 2] (by decide +kernel) rfl
    exact W.iret (v := r_662) hx hb hr (fun t ht hW => ⟨⟨r_662, ((fun _ => 0, fun i => match i with | 0 => fw | _ => (u_663.2.1 0), fun _ => fun _ => 0, fun i => match i with | 0 => (u_663.2.2.2.1 0) | _ => nu, fun _ => 0, fun _ => fun _ => none) : Su), rfl, ⟨(show (-6) ≤ r_662.toInt by omega), (show (-6) ≤ ((u_663.2.2.2.1 0) : Int32).toInt ∧ ((u_663.2.2.2.1 0) : Int32).toInt ≤ 0 by omega), (show 0 ≤ (nu : Int32).toInt ∧ (nu : Int32).toInt ≤ 16 by omega), zfw, hE.symm, trivial⟩, (⟨by rw [ht]; exact hP9, hD9⟩ : Wd D A _ t)⟩, hS.F ht⟩) hS.2.2 dX12_house_72
  refine pci (va_runS (As := [.long x_541, .long 0, .long 6]) (rest := []) ⟨hx, hb, hml, hown, hts⟩ (v_in l D K x0.toInt 0 6 x_541 0 6 H.size hx_541 (show (0 : Int64).toInt = 0 from rfl) (show (6 : Int64).toInt = 6 from rfl)) (va_cwS 3 hts gX12_house_X12_in rfl rfl rfl (by decide +kernel) ⟨Nat.le_of_ble_eq_true rfl, Nat.le_of_ble_eq_true rfl⟩) (mkS hK hN (va_P.nil) (va_D.nil (A := fun _ => True))) rfl rfl hl.1 rfl (lv_room (Nat.le_of_ble_eq_true rfl)) dX12_house_11 ⟨Nat.le_of_ble_eq_true rfl, Nat.le_of_ble_eq_true rfl⟩) (fun r_667 hw => ?_)
  obtain ⟨hw, k_668, -⟩ := hw
  replace hE := hE.trans (Lt_in k_668)
  rcases hw with ⟨rfl, h_669, h_670⟩ | ⟨rfl, h_671⟩
  · replace hE := (hE).trans (if_pos rfl)
    refine lv_if_eq (tgt := 67) hx hb dX12_house_14 (by decide +kernel) (fun c_672 => absurd c_672 (by decide +kernel)) (fun c_672 => ?_)
    refine lv_iload_n hx hb dX12_house_17 rfl (lv_at hl 2 rfl) (lv_i2l hx hb dX12_house_18 rfl (lv_topl (fun x_673 ex_673 => ?_)))
    replace hE := hE.trans (Lt_in ex_673)
    have hx_673 : x_673.toInt = x1.toInt := by rw [ex_673]; exact i_wide rfl
    have hbx_673 := i_rng (a := x1) rfl
    refine lv_lconst (v := 0) hx hb dX12_house_19 (by decide +kernel) (lv_ldc2 (v := 3) hx hb hown (hts _ mm_X12_house_977) dX12_house_20 (pci (va_runS (As := [.long x_673, .long 0, .long 3]) (rest := []) ⟨hx, hb, hml, hown, hts⟩ (v_in l D K x1.toInt 0 3 x_673 0 3 H.size hx_673 (show (0 : Int64).toInt = 0 from rfl) (show (3 : Int64).toInt = 3 from rfl)) (va_cwS 3 hts gX12_house_X12_in rfl rfl rfl (by decide +kernel) ⟨Nat.le_of_ble_eq_true rfl, Nat.le_of_ble_eq_true rfl⟩) (mkS hK hN (va_P.nil) (va_D.nil (A := fun _ => True))) rfl rfl hl.1 rfl (lv_room (Nat.le_of_ble_eq_true rfl)) dX12_house_23 ⟨Nat.le_of_ble_eq_true rfl, Nat.le_of_ble_eq_true rfl⟩) (fun r_674 hw => ?_)))
    obtain ⟨hw, k_675, -⟩ := hw
    replace hE := hE.trans (Lt_in k_675)
    rcases hw with ⟨rfl, h_676, h_677⟩ | ⟨rfl, h_678⟩
    · replace hE := (hE).trans (if_pos rfl)
      refine lv_if_eq (tgt := 67) hx hb dX12_house_26 (by decide +kernel) (fun c_679 => absurd c_679 (by decide +kernel)) (fun c_679 => ?_)
      refine lv_iload_n hx hb dX12_house_29 rfl (lv_at hl 3 rfl) (lv_i2l hx hb dX12_house_30 rfl (lv_topl (fun x_680 ex_680 => ?_)))
      replace hE := hE.trans (Lt_in ex_680)
      have hx_680 : x_680.toInt = x2.toInt := by rw [ex_680]; exact i_wide rfl
      have hbx_680 := i_rng (a := x2) rfl
      refine lv_lconst (v := 0) hx hb dX12_house_31 (by decide +kernel) (lv_ldc2 (v := 999) hx hb hown (hts _ mm_X12_house_978) dX12_house_32 (pci (va_runS (As := [.long x_680, .long 0, .long 999]) (rest := []) ⟨hx, hb, hml, hown, hts⟩ (v_in l D K x2.toInt 0 999 x_680 0 999 H.size hx_680 (show (0 : Int64).toInt = 0 from rfl) (show (999 : Int64).toInt = 999 from rfl)) (va_cwS 3 hts gX12_house_X12_in rfl rfl rfl (by decide +kernel) ⟨Nat.le_of_ble_eq_true rfl, Nat.le_of_ble_eq_true rfl⟩) (mkS hK hN (va_P.nil) (va_D.nil (A := fun _ => True))) rfl rfl hl.1 rfl (lv_room (Nat.le_of_ble_eq_true rfl)) dX12_house_35 ⟨Nat.le_of_ble_eq_true rfl, Nat.le_of_ble_eq_true rfl⟩) (fun r_681 hw => ?_)))
      obtain ⟨hw, k_682, -⟩ := hw
      replace hE := hE.trans (Lt_in k_682)
      rcases hw with ⟨rfl, h_683, h_684⟩ | ⟨rfl, h_685⟩
      · replace hE := (hE).trans (if_pos rfl)
        refine lv_if_eq (tgt := 67) hx hb dX12_house_38 (by decide +kernel) (fun c_686 => absurd c_686 (by decide +kernel)) (fun c_686 => ?_)
        refine lv_iload hx hb dX12_house_41 (lv_at hl 4 rfl) (lv_i2l hx hb dX12_house_43 rfl (lv_topl (fun x_687 ex_687 => ?_)))
        replace hE := hE.trans (Lt_in ex_687)
        have hx_687 : x_687.toInt = x3.toInt := by rw [ex_687]; exact i_wide rfl
        have hbx_687 := i_rng (a := x3) rfl
        refine lv_lconst (v := 0) hx hb dX12_house_44 (by decide +kernel) (lv_ldc2 (v := 7) hx hb hown (hts _ mm_X12_house_979) dX12_house_45 (pci (va_runS (As := [.long x_687, .long 0, .long 7]) (rest := []) ⟨hx, hb, hml, hown, hts⟩ (v_in l D K x3.toInt 0 7 x_687 0 7 H.size hx_687 (show (0 : Int64).toInt = 0 from rfl) (show (7 : Int64).toInt = 7 from rfl)) (va_cwS 3 hts gX12_house_X12_in rfl rfl rfl (by decide +kernel) ⟨Nat.le_of_ble_eq_true rfl, Nat.le_of_ble_eq_true rfl⟩) (mkS hK hN (va_P.nil) (va_D.nil (A := fun _ => True))) rfl rfl hl.1 rfl (lv_room (Nat.le_of_ble_eq_true rfl)) dX12_house_48 ⟨Nat.le_of_ble_eq_true rfl, Nat.le_of_ble_eq_true rfl⟩) (fun r_688 hw => ?_)))
        obtain ⟨hw, k_689, -⟩ := hw
        replace hE := hE.trans (Lt_in k_689)
        rcases hw with ⟨rfl, h_690, h_691⟩ | ⟨rfl, h_692⟩
        · replace hE := (hE).trans (if_pos rfl)
          refine lv_if_eq (tgt := 67) hx hb dX12_house_51 (by decide +kernel) (fun c_693 => absurd c_693 (by decide +kernel)) (fun c_693 => ?_)
          refine lv_iload hx hb dX12_house_54 (lv_at hl 5 rfl) (lv_i2l hx hb dX12_house_56 rfl (lv_topl (fun x_694 ex_694 => ?_)))
          replace hE := hE.trans (Lt_in ex_694)
          have hx_694 : x_694.toInt = x4.toInt := by rw [ex_694]; exact i_wide rfl
          have hbx_694 := i_rng (a := x4) rfl
          refine lv_lconst (v := 0) hx hb dX12_house_57 (by decide +kernel) (lv_ldc2 (v := 7) hx hb hown (hts _ mm_X12_house_979) dX12_house_58 (pci (va_runS (As := [.long x_694, .long 0, .long 7]) (rest := []) ⟨hx, hb, hml, hown, hts⟩ (v_in l D K x4.toInt 0 7 x_694 0 7 H.size hx_694 (show (0 : Int64).toInt = 0 from rfl) (show (7 : Int64).toInt = 7 from rfl)) (va_cwS 3 hts gX12_house_X12_in rfl rfl rfl (by decide +kernel) ⟨Nat.le_of_ble_eq_true rfl, Nat.le_of_ble_eq_true rfl⟩) (mkS hK hN (va_P.nil) (va_D.nil (A := fun _ => True))) rfl rfl hl.1 rfl (lv_room (Nat.le_of_ble_eq_true rfl)) dX12_house_61 ⟨Nat.le_of_ble_eq_true rfl, Nat.le_of_ble_eq_true rfl⟩) (fun r_695 hw => ?_)))
          obtain ⟨hw, k_696, -⟩ := hw
          replace hE := hE.trans (Lt_in k_696)
          rcases hw with ⟨rfl, h_697, h_698⟩ | ⟨rfl, h_699⟩
          · replace hE := (hE).trans (if_pos rfl)
            refine lv_if_ne (tgt := 73) hx hb dX12_house_64 (by decide +kernel) (fun c_700 => ?_) (fun c_700 => absurd c_700 (by decide +kernel))
            refine lv_aload_n hx hb dX12_house_73 rfl (lv_at hl 0 rfl) (va_get (ci := 12) (v := .ref w0) (C := RX12) (T := TX12) (N := 60) hx hb hts hw12 hown hK hP 0 rfl rfl 3 (by decide +kernel) (hts _ mm_X12_house_833) (fun _ h9 => h9) rfl dX12_house_74 (lv_iconst (v := 0) hx hb dX12_house_77 (by decide +kernel) (va_iald hx hb hK hP 1 0 rfl rfl (i_in (x := 0) rfl (by omega)) dX12_house_78 (lv_topi (fun x_701 ex_701 => ?_)))))
            replace hE := hE.trans (Lt_in ex_701)
            have px_701 := RwOK.at zfw (show (0 : Int32).toInt = 0 from rfl) (show 0 ≤ 0 ∧ 0 < 100 by omega)
            rw [← ex_701] at px_701
            have hx_701 := PR.r_0 px_701 (by omega)
            have kx_701 : fw 0 = x_701 := ex_701.symm
            refine lv_istore (lv' := [(6, .int x_701), (0, .ref m0), (1, .int x0), (2, .int x1), (3, .int x2), (4, .int x3), (5, .int x4)]) hx hb dX12_house_79 hl (by decide +kernel) rfl (fun ls hl => ?_)
            refine lv_iconst (v := 0) hx hb dX12_house_81 (by decide +kernel) (lv_istore (lv' := [(7, .int 0), (6, .int x_701), (0, .ref m0), (1, .int x0), (2, .int x1), (3, .int x2), (4, .int x3), (5, .int x4)]) hx hb dX12_house_82 hl (by decide +kernel) rfl (fun ls hl => ?_))
            have lp_736 : ∀ (nn_ : Nat) (v_724 : Int32) (hv_724 : 0 ≤ v_724.toInt ∧ v_724.toInt ≤ 8) (hn : (9 - v_724.toInt : Int).toNat < nn_) (hE : E_v_houseN x0 x1 x2 x3 x4 thr sta nu fw frf = Lp (α := Int32 → (Int32 × Int32 × Int32 × (Nat → Int32) × (Nat → Int32))) (E_v_houseN_l84 x0 x1 x2 x3 x4 sta nu fw frf x_701) (fun _ => ((0, 0, 0, fun _ => 0, fun _ => 0) : Int32 × Int32 × Int32 × (Nat → Int32) × (Nat → Int32))) nn_ v_724) (H : Heap) (locs : List Loc) (hP : va_P D vwCl [(cc_O m0 12 [.int 0, .int sta, .ref r0, .ref w0, m_4, m_5, m_6, m_7, .int nu, m_9, m_10, m_11, m_12, m_13, m_14, m_15, m_16, m_17, m_18, m_19, m_20, m_21, m_22, m_23, m_24, m_25, m_26, m_27, m_28, m_29, m_30, m_31, m_32, m_33, m_34, m_35, m_36, m_37, m_38, m_39, m_40, m_41, m_42, m_43, m_44, m_45, m_46, m_47, m_48, m_49, m_50, m_51, m_52, m_53, m_54, m_55, m_56, m_57, m_58, m_59]), (cc_l w0 (K 0) 5500 fw), (cc_l r0 (K 0) 7 frf)] H) (hD : va_D A [(cc_O m0 12 [.int 0, .int sta, .ref r0, .ref w0, m_4, m_5, m_6, m_7, .int nu, m_9, m_10, m_11, m_12, m_13, m_14, m_15, m_16, m_17, m_18, m_19, m_20, m_21, m_22, m_23, m_24, m_25, m_26, m_27, m_28, m_29, m_30, m_31, m_32, m_33, m_34, m_35, m_36, m_37, m_38, m_39, m_40, m_41, m_42, m_43, m_44, m_45, m_46, m_47, m_48, m_49, m_50, m_51, m_52, m_53, m_54, m_55, m_56, m_57, m_58, m_59]), (cc_l w0 (K 0) 5500 fw), (cc_l r0 (K 0) 7 frf)]) (hS : va_S A s.heap H locs) (ls : Array Slot) (hl : lv_has ls 8 [(7, .int v_724), (6, .int x_701), (0, .ref m0), (1, .int x0), (2, .int x1), (3, .int x2), (4, .int x3), (5, .int x4)]), W p l e ({ frames := 1, cells := 0, slots := 0, locals := 25 }) s m (([.ref m0, .int x0, .int x1, .int x2, .int x3, .int x4] : List Value).toArray) below meth c H locs 0 0 Q (F0 m 84 ls []) := by
              clear hE hP hD hS hl
              intro nn_
              induction nn_ with
              | zero =>
                intro v_724 hv_724 hn hE H locs hP hD hS ls hl
                exact absurd hn (Nat.not_lt_zero _)
              | succ nn_ ih_737 =>
                intro v_724 hv_724 hn hE H locs hP hD hS ls hl
                replace hE : E_v_houseN x0 x1 x2 x3 x4 thr sta nu fw frf = E_v_houseN_l84 x0 x1 x2 x3 x4 sta nu fw frf x_701 (Lp (α := Int32 → (Int32 × Int32 × Int32 × (Nat → Int32) × (Nat → Int32))) (E_v_houseN_l84 x0 x1 x2 x3 x4 sta nu fw frf x_701) (fun _ => ((0, 0, 0, fun _ => 0, fun _ => 0) : Int32 × Int32 × Int32 × (Nat → Int32) × (Nat → Int32))) nn_) v_724 := hE
                obtain ⟨rec_736, hrec_736⟩ : ∃ z9, z9 = Lp (α := Int32 → (Int32 × Int32 × Int32 × (Nat → Int32) × (Nat → Int32))) (E_v_houseN_l84 x0 x1 x2 x3 x4 sta nu fw frf x_701) (fun _ => ((0, 0, 0, fun _ => 0, fun _ => 0) : Int32 × Int32 × Int32 × (Nat → Int32) × (Nat → Int32))) nn_ := ⟨_, rfl⟩
                rw [← hrec_736] at hE
                replace hE := hE.trans (E_v_houseN_l84.eq_def _ _ _ _ _ _ _ _ _ _ _ _)
                refine lv_iload hx hb dX12_house_84 (lv_at hl 0 rfl) (lv_iload hx hb dX12_house_86 (lv_at hl 1 rfl) (lv_icmp_ge (tgt := 119) hx hb dX12_house_88 (by decide +kernel) (fun c_738 => ?_) (fun c_738 => ?_)))
                · have c_738i := i_le (x := x_701.toInt) (y := v_724.toInt) rfl rfl c_738
                  replace hE := hE.trans (if_pos c_738)
                  refine lv_iload hx hb dX12_house_119 (lv_at hl 1 rfl) (lv_bipush (v := 8) hx hb dX12_house_121 (by decide +kernel) (lv_icmp_ne (tgt := 133) hx hb dX12_house_123 (by decide +kernel) (fun c_739 => ?_) (fun c_739 => ?_)))
                  · have c_739i := i_ne (x := x_701.toInt) (y := 8) rfl rfl c_739
                    replace hE := hE.trans (if_neg c_739)
                    refine lv_aload_n hx hb dX12_house_133 rfl (lv_at hl 2 rfl) (va_get (ci := 12) (v := .ref w0) (C := RX12) (T := TX12) (N := 60) hx hb hts hw12 hown hK hP 0 rfl rfl 3 (by decide +kernel) (hts _ mm_X12_house_833) (fun _ h9 => h9) rfl dX12_house_134 (lv_bipush (v := 35) hx hb dX12_house_137 (by decide +kernel) (lv_iload hx hb dX12_house_139 (lv_at hl 1 rfl) (lv_iadd hx hb dX12_house_141 (lv_topi (fun x_740 ex_740 => ?_))))))
                    replace hE := hE.trans (Lt_in ex_740)
                    have hx_740 : x_740.toInt = (35 + x_701.toInt) := by rw [ex_740]; exact i_add (show (35 : Int32).toInt = 35 from rfl) rfl (by omega)
                    refine lv_iload_n hx hb dX12_house_142 rfl (lv_at hl 3 rfl) (va_iast hx hb hK hP hD hS 1 0 rfl rfl (i_in hx_740 (by omega)) dX12_house_143 (fun H locs hP0 hD0 hS0 => ?_))
                    replace hP := hP0
                    replace hD := hD0
                    replace hS := hS0
                    clear hP0 hD0 hS0
                    generalize hf_741 : (upd fw (x_740 : Int32).toNatClampNeg x0) = f_741 at hP hD
                    replace hE := hE.trans (Lt_in hf_741.symm)
                    have hf_741_0 : RwOK f_741 := by rw [← hf_741]; exact RwOK.upd zfw hx_740 (by omega) rfl (PR.w_35 (by omega) (by omega))
                    have hf_741_1 : f_741 0 = x_701 := by rw [← hf_741]; exact (pk_un (show ¬ 0 = _ by rw [i_clamp hx_740]; omega)).trans kx_701
                    replace hP : va_P D vwCl [(cc_O m0 12 [.int 0, .int sta, .ref r0, .ref w0, m_4, m_5, m_6, m_7, .int nu, m_9, m_10, m_11, m_12, m_13, m_14, m_15, m_16, m_17, m_18, m_19, m_20, m_21, m_22, m_23, m_24, m_25, m_26, m_27, m_28, m_29, m_30, m_31, m_32, m_33, m_34, m_35, m_36, m_37, m_38, m_39, m_40, m_41, m_42, m_43, m_44, m_45, m_46, m_47, m_48, m_49, m_50, m_51, m_52, m_53, m_54, m_55, m_56, m_57, m_58, m_59]), (cc_l w0 (K 0) 5500 f_741), (cc_l r0 (K 0) 7 frf)] H := hP
                    replace hD := as_D hP hD rfl
                    refine lv_aload_n hx hb dX12_house_144 rfl (lv_at hl 2 rfl) (va_get (ci := 12) (v := .ref w0) (C := RX12) (T := TX12) (N := 60) hx hb hts hw12 hown hK hP 0 rfl rfl 3 (by decide +kernel) (hts _ mm_X12_house_833) (fun _ h9 => h9) rfl dX12_house_145 (lv_bipush (v := 43) hx hb dX12_house_148 (by decide +kernel) (lv_iload hx hb dX12_house_150 (lv_at hl 1 rfl) (lv_iadd hx hb dX12_house_152 (lv_topi (fun x_742 ex_742 => ?_))))))
                    replace hE := hE.trans (Lt_in ex_742)
                    have hx_742 : x_742.toInt = (43 + x_701.toInt) := by rw [ex_742]; exact i_add (show (43 : Int32).toInt = 43 from rfl) rfl (by omega)
                    refine lv_iload_n hx hb dX12_house_153 rfl (lv_at hl 4 rfl) (va_iast hx hb hK hP hD hS 1 0 rfl rfl (i_in hx_742 (by omega)) dX12_house_154 (fun H locs hP0 hD0 hS0 => ?_))
                    replace hP := hP0
                    replace hD := hD0
                    replace hS := hS0
                    clear hP0 hD0 hS0
                    generalize hf_743 : (upd f_741 (x_742 : Int32).toNatClampNeg x1) = f_743 at hP hD
                    replace hE := hE.trans (Lt_in hf_743.symm)
                    have hf_743_0 : RwOK f_743 := by rw [← hf_743]; exact RwOK.upd hf_741_0 hx_742 (by omega) rfl (PR.free (by omega))
                    have hf_743_1 : f_743 0 = x_701 := by rw [← hf_743]; exact (pk_un (show ¬ 0 = _ by rw [i_clamp hx_742]; omega)).trans hf_741_1
                    replace hP : va_P D vwCl [(cc_O m0 12 [.int 0, .int sta, .ref r0, .ref w0, m_4, m_5, m_6, m_7, .int nu, m_9, m_10, m_11, m_12, m_13, m_14, m_15, m_16, m_17, m_18, m_19, m_20, m_21, m_22, m_23, m_24, m_25, m_26, m_27, m_28, m_29, m_30, m_31, m_32, m_33, m_34, m_35, m_36, m_37, m_38, m_39, m_40, m_41, m_42, m_43, m_44, m_45, m_46, m_47, m_48, m_49, m_50, m_51, m_52, m_53, m_54, m_55, m_56, m_57, m_58, m_59]), (cc_l w0 (K 0) 5500 f_743), (cc_l r0 (K 0) 7 frf)] H := hP
                    replace hD := as_D hP hD rfl
                    refine lv_aload_n hx hb dX12_house_155 rfl (lv_at hl 2 rfl) (va_get (ci := 12) (v := .ref w0) (C := RX12) (T := TX12) (N := 60) hx hb hts hw12 hown hK hP 0 rfl rfl 3 (by decide +kernel) (hts _ mm_X12_house_833) (fun _ h9 => h9) rfl dX12_house_156 (lv_bipush (v := 19) hx hb dX12_house_159 (by decide +kernel) (lv_iload hx hb dX12_house_161 (lv_at hl 1 rfl) (lv_iadd hx hb dX12_house_163 (lv_topi (fun x_744 ex_744 => ?_))))))
                    replace hE := hE.trans (Lt_in ex_744)
                    have hx_744 : x_744.toInt = (19 + x_701.toInt) := by rw [ex_744]; exact i_add (show (19 : Int32).toInt = 19 from rfl) rfl (by omega)
                    refine lv_iload_n hx hb dX12_house_164 rfl (lv_at hl 5 rfl) (va_iast hx hb hK hP hD hS 1 0 rfl rfl (i_in hx_744 (by omega)) dX12_house_165 (fun H locs hP0 hD0 hS0 => ?_))
                    replace hP := hP0
                    replace hD := hD0
                    replace hS := hS0
                    clear hP0 hD0 hS0
                    generalize hf_745 : (upd f_743 (x_744 : Int32).toNatClampNeg x2) = f_745 at hP hD
                    replace hE := hE.trans (Lt_in hf_745.symm)
                    have hf_745_0 : RwOK f_745 := by rw [← hf_745]; exact RwOK.upd hf_743_0 hx_744 (by omega) rfl (PR.free (by omega))
                    have hf_745_1 : f_745 0 = x_701 := by rw [← hf_745]; exact (pk_un (show ¬ 0 = _ by rw [i_clamp hx_744]; omega)).trans hf_743_1
                    replace hP : va_P D vwCl [(cc_O m0 12 [.int 0, .int sta, .ref r0, .ref w0, m_4, m_5, m_6, m_7, .int nu, m_9, m_10, m_11, m_12, m_13, m_14, m_15, m_16, m_17, m_18, m_19, m_20, m_21, m_22, m_23, m_24, m_25, m_26, m_27, m_28, m_29, m_30, m_31, m_32, m_33, m_34, m_35, m_36, m_37, m_38, m_39, m_40, m_41, m_42, m_43, m_44, m_45, m_46, m_47, m_48, m_49, m_50, m_51, m_52, m_53, m_54, m_55, m_56, m_57, m_58, m_59]), (cc_l w0 (K 0) 5500 f_745), (cc_l r0 (K 0) 7 frf)] H := hP
                    replace hD := as_D hP hD rfl
                    refine lv_aload_n hx hb dX12_house_166 rfl (lv_at hl 2 rfl) (va_get (ci := 12) (v := .ref w0) (C := RX12) (T := TX12) (N := 60) hx hb hts hw12 hown hK hP 0 rfl rfl 3 (by decide +kernel) (hts _ mm_X12_house_833) (fun _ h9 => h9) rfl dX12_house_167 (lv_bipush (v := 51) hx hb dX12_house_170 (by decide +kernel) (lv_iload hx hb dX12_house_172 (lv_at hl 1 rfl) (lv_iadd hx hb dX12_house_174 (lv_topi (fun x_746 ex_746 => ?_))))))
                    replace hE := hE.trans (Lt_in ex_746)
                    have hx_746 : x_746.toInt = (51 + x_701.toInt) := by rw [ex_746]; exact i_add (show (51 : Int32).toInt = 51 from rfl) rfl (by omega)
                    refine lv_iload hx hb dX12_house_175 (lv_at hl 6 rfl) (va_iast hx hb hK hP hD hS 1 0 rfl rfl (i_in hx_746 (by omega)) dX12_house_177 (fun H locs hP0 hD0 hS0 => ?_))
                    replace hP := hP0
                    replace hD := hD0
                    replace hS := hS0
                    clear hP0 hD0 hS0
                    generalize hf_747 : (upd f_745 (x_746 : Int32).toNatClampNeg x3) = f_747 at hP hD
                    replace hE := hE.trans (Lt_in hf_747.symm)
                    have hf_747_0 : RwOK f_747 := by rw [← hf_747]; exact RwOK.upd hf_745_0 hx_746 (by omega) rfl (PR.free (by omega))
                    have hf_747_1 : f_747 0 = x_701 := by rw [← hf_747]; exact (pk_un (show ¬ 0 = _ by rw [i_clamp hx_746]; omega)).trans hf_745_1
                    replace hP : va_P D vwCl [(cc_O m0 12 [.int 0, .int sta, .ref r0, .ref w0, m_4, m_5, m_6, m_7, .int nu, m_9, m_10, m_11, m_12, m_13, m_14, m_15, m_16, m_17, m_18, m_19, m_20, m_21, m_22, m_23, m_24, m_25, m_26, m_27, m_28, m_29, m_30, m_31, m_32, m_33, m_34, m_35, m_36, m_37, m_38, m_39, m_40, m_41, m_42, m_43, m_44, m_45, m_46, m_47, m_48, m_49, m_50, m_51, m_52, m_53, m_54, m_55, m_56, m_57, m_58, m_59]), (cc_l w0 (K 0) 5500 f_747), (cc_l r0 (K 0) 7 frf)] H := hP
                    replace hD := as_D hP hD rfl
                    refine lv_aload_n hx hb dX12_house_178 rfl (lv_at hl 2 rfl) (va_get (ci := 12) (v := .ref w0) (C := RX12) (T := TX12) (N := 60) hx hb hts hw12 hown hK hP 0 rfl rfl 3 (by decide +kernel) (hts _ mm_X12_house_833) (fun _ h9 => h9) rfl dX12_house_179 (lv_bipush (v := 59) hx hb dX12_house_182 (by decide +kernel) (lv_iload hx hb dX12_house_184 (lv_at hl 1 rfl) (lv_iadd hx hb dX12_house_186 (lv_topi (fun x_748 ex_748 => ?_))))))
                    replace hE := hE.trans (Lt_in ex_748)
                    have hx_748 : x_748.toInt = (59 + x_701.toInt) := by rw [ex_748]; exact i_add (show (59 : Int32).toInt = 59 from rfl) rfl (by omega)
                    refine lv_iload hx hb dX12_house_187 (lv_at hl 7 rfl) (va_iast hx hb hK hP hD hS 1 0 rfl rfl (i_in hx_748 (by omega)) dX12_house_189 (fun H locs hP0 hD0 hS0 => ?_))
                    replace hP := hP0
                    replace hD := hD0
                    replace hS := hS0
                    clear hP0 hD0 hS0
                    generalize hf_749 : (upd f_747 (x_748 : Int32).toNatClampNeg x4) = f_749 at hP hD
                    replace hE := hE.trans (Lt_in hf_749.symm)
                    have hf_749_0 : RwOK f_749 := by rw [← hf_749]; exact RwOK.upd hf_747_0 hx_748 (by omega) rfl (PR.free (by omega))
                    have hf_749_1 : f_749 0 = x_701 := by rw [← hf_749]; exact (pk_un (show ¬ 0 = _ by rw [i_clamp hx_748]; omega)).trans hf_747_1
                    replace hP : va_P D vwCl [(cc_O m0 12 [.int 0, .int sta, .ref r0, .ref w0, m_4, m_5, m_6, m_7, .int nu, m_9, m_10, m_11, m_12, m_13, m_14, m_15, m_16, m_17, m_18, m_19, m_20, m_21, m_22, m_23, m_24, m_25, m_26, m_27, m_28, m_29, m_30, m_31, m_32, m_33, m_34, m_35, m_36, m_37, m_38, m_39, m_40, m_41, m_42, m_43, m_44, m_45, m_46, m_47, m_48, m_49, m_50, m_51, m_52, m_53, m_54, m_55, m_56, m_57, m_58, m_59]), (cc_l w0 (K 0) 5500 f_749), (cc_l r0 (K 0) 7 frf)] H := hP
                    replace hD := as_D hP hD rfl
                    refine lv_aload_n hx hb dX12_house_190 rfl (lv_at hl 2 rfl) (va_get (ci := 12) (v := .ref w0) (C := RX12) (T := TX12) (N := 60) hx hb hts hw12 hown hK hP 0 rfl rfl 3 (by decide +kernel) (hts _ mm_X12_house_833) (fun _ h9 => h9) rfl dX12_house_191 (lv_bipush (v := 11) hx hb dX12_house_194 (by decide +kernel) (lv_iload hx hb dX12_house_196 (lv_at hl 1 rfl) (lv_iadd hx hb dX12_house_198 (lv_topi (fun x_750 ex_750 => ?_))))))
                    replace hE := hE.trans (Lt_in ex_750)
                    have hx_750 : x_750.toInt = (11 + x_701.toInt) := by rw [ex_750]; exact i_add (show (11 : Int32).toInt = 11 from rfl) rfl (by omega)
                    refine lv_iconst (v := 0) hx hb dX12_house_199 (by decide +kernel) (va_iast hx hb hK hP hD hS 1 0 rfl rfl (i_in hx_750 (by omega)) dX12_house_200 (fun H locs hP0 hD0 hS0 => ?_))
                    replace hP := hP0
                    replace hD := hD0
                    replace hS := hS0
                    clear hP0 hD0 hS0
                    generalize hf_751 : (upd f_749 (x_750 : Int32).toNatClampNeg 0) = f_751 at hP hD
                    replace hE := hE.trans (Lt_in hf_751.symm)
                    have hf_751_0 : RwOK f_751 := by rw [← hf_751]; exact RwOK.upd hf_749_0 hx_750 (by omega) (show (0 : Int32).toInt = 0 from rfl) (PR.w_11 (by omega) (by omega))
                    have hf_751_1 : f_751 0 = x_701 := by rw [← hf_751]; exact (pk_un (show ¬ 0 = _ by rw [i_clamp hx_750]; omega)).trans hf_749_1
                    replace hP : va_P D vwCl [(cc_O m0 12 [.int 0, .int sta, .ref r0, .ref w0, m_4, m_5, m_6, m_7, .int nu, m_9, m_10, m_11, m_12, m_13, m_14, m_15, m_16, m_17, m_18, m_19, m_20, m_21, m_22, m_23, m_24, m_25, m_26, m_27, m_28, m_29, m_30, m_31, m_32, m_33, m_34, m_35, m_36, m_37, m_38, m_39, m_40, m_41, m_42, m_43, m_44, m_45, m_46, m_47, m_48, m_49, m_50, m_51, m_52, m_53, m_54, m_55, m_56, m_57, m_58, m_59]), (cc_l w0 (K 0) 5500 f_751), (cc_l r0 (K 0) 7 frf)] H := hP
                    replace hD := as_D hP hD rfl
                    refine lv_aload_n hx hb dX12_house_201 rfl (lv_at hl 2 rfl) (va_get (ci := 12) (v := .ref w0) (C := RX12) (T := TX12) (N := 60) hx hb hts hw12 hown hK hP 0 rfl rfl 3 (by decide +kernel) (hts _ mm_X12_house_833) (fun _ h9 => h9) rfl dX12_house_202 (lv_bipush (v := 27) hx hb dX12_house_205 (by decide +kernel) (lv_iload hx hb dX12_house_207 (lv_at hl 1 rfl) (lv_iadd hx hb dX12_house_209 (lv_topi (fun x_752 ex_752 => ?_))))))
                    replace hE := hE.trans (Lt_in ex_752)
                    have hx_752 : x_752.toInt = (27 + x_701.toInt) := by rw [ex_752]; exact i_add (show (27 : Int32).toInt = 27 from rfl) rfl (by omega)
                    refine lv_iconst (v := 0) hx hb dX12_house_210 (by decide +kernel) (va_iast hx hb hK hP hD hS 1 0 rfl rfl (i_in hx_752 (by omega)) dX12_house_211 (fun H locs hP0 hD0 hS0 => ?_))
                    replace hP := hP0
                    replace hD := hD0
                    replace hS := hS0
                    clear hP0 hD0 hS0
                    generalize hf_753 : (upd f_751 (x_752 : Int32).toNatClampNeg 0) = f_753 at hP hD
                    replace hE := hE.trans (Lt_in hf_753.symm)
                    have hf_753_0 : RwOK f_753 := by rw [← hf_753]; exact RwOK.upd hf_751_0 hx_752 (by omega) (show (0 : Int32).toInt = 0 from rfl) (PR.free (by omega))
                    have hf_753_1 : f_753 0 = x_701 := by rw [← hf_753]; exact (pk_un (show ¬ 0 = _ by rw [i_clamp hx_752]; omega)).trans hf_751_1
                    replace hP : va_P D vwCl [(cc_O m0 12 [.int 0, .int sta, .ref r0, .ref w0, m_4, m_5, m_6, m_7, .int nu, m_9, m_10, m_11, m_12, m_13, m_14, m_15, m_16, m_17, m_18, m_19, m_20, m_21, m_22, m_23, m_24, m_25, m_26, m_27, m_28, m_29, m_30, m_31, m_32, m_33, m_34, m_35, m_36, m_37, m_38, m_39, m_40, m_41, m_42, m_43, m_44, m_45, m_46, m_47, m_48, m_49, m_50, m_51, m_52, m_53, m_54, m_55, m_56, m_57, m_58, m_59]), (cc_l w0 (K 0) 5500 f_753), (cc_l r0 (K 0) 7 frf)] H := hP
                    replace hD := as_D hP hD rfl
                    refine lv_aload_n hx hb dX12_house_212 rfl (lv_at hl 2 rfl) (va_get (ci := 12) (v := .ref w0) (C := RX12) (T := TX12) (N := 60) hx hb hts hw12 hown hK hP 0 rfl rfl 3 (by decide +kernel) (hts _ mm_X12_house_833) (fun _ h9 => h9) rfl dX12_house_213 (lv_iconst (v := 0) hx hb dX12_house_216 (by decide +kernel) (lv_dup2_11 hx hb dX12_house_217 rfl rfl (va_iald hx hb hK hP 1 0 rfl rfl (i_in (x := 0) rfl (by omega)) dX12_house_218 (lv_topi (fun x_754 ex_754 => ?_))))))
                    replace hE := hE.trans (Lt_in ex_754)
                    have erx_754 : x_754 = x_701 := ex_754.trans hf_753_1
                    have hrx_754 : x_754.toInt = x_701.toInt := (congrArg Int32.toInt erx_754).trans rfl
                    refine lv_iconst (v := 1) hx hb dX12_house_219 (by decide +kernel) (lv_iadd hx hb dX12_house_220 (lv_topi (fun x_755 ex_755 => ?_)))
                    replace hE := hE.trans (Lt_in ex_755)
                    have hx_755 : x_755.toInt = (x_701.toInt + 1) := by rw [ex_755]; exact i_add hrx_754 (show (1 : Int32).toInt = 1 from rfl) (by omega)
                    refine va_iast hx hb hK hP hD hS 1 0 rfl rfl (i_in (x := 0) rfl (by omega)) dX12_house_221 (fun H locs hP0 hD0 hS0 => ?_)
                    replace hP := hP0
                    replace hD := hD0
                    replace hS := hS0
                    clear hP0 hD0 hS0
                    generalize hf_756 : (upd f_753 (0 : Int32).toNatClampNeg x_755) = f_756 at hP hD
                    replace hE := hE.trans (Lt_in hf_756.symm)
                    have hf_756_0 : RwOK f_756 := by rw [← hf_756]; exact RwOK.upd hf_753_0 (show (0 : Int32).toInt = 0 from rfl) (by omega) hx_755 (PR.w_0 (by omega) (by omega))
                    have kf_756 : f_756 0 = x_755 := by rw [← hf_756]; exact pk_us
                    replace hP : va_P D vwCl [(cc_O m0 12 [.int 0, .int sta, .ref r0, .ref w0, m_4, m_5, m_6, m_7, .int nu, m_9, m_10, m_11, m_12, m_13, m_14, m_15, m_16, m_17, m_18, m_19, m_20, m_21, m_22, m_23, m_24, m_25, m_26, m_27, m_28, m_29, m_30, m_31, m_32, m_33, m_34, m_35, m_36, m_37, m_38, m_39, m_40, m_41, m_42, m_43, m_44, m_45, m_46, m_47, m_48, m_49, m_50, m_51, m_52, m_53, m_54, m_55, m_56, m_57, m_58, m_59]), (cc_l w0 (K 0) 5500 f_756), (cc_l r0 (K 0) 7 frf)] H := hP
                    replace hD := as_D hP hD rfl
                    refine lv_aload_n hx hb dX12_house_222 rfl (lv_at hl 2 rfl) (lv_iconst (v := 0) hx hb dX12_house_223 (by decide +kernel) (va_put (ci := 12) (v := .int 0) (ty := .int) (C := RX12) (T := TX12) (N := 60) hx hb hts hw12 tyX12 tyX12_ok nmX12 hown hK hP hD hS 0 rfl rfl 8 (by decide +kernel) (hts _ mm_X12_house_838) (fun _ h9 => h9) rfl (by decide +kernel) (by first | rfl | decide) (by first | rfl | decide) (Nat.le_of_ble_eq_true rfl) dX12_house_224 (fun H locs hP0 hD0 hS0 => ?_)))
                    replace hP : va_P D vwCl [(cc_O m0 12 [.int 0, .int sta, .ref r0, .ref w0, m_4, m_5, m_6, m_7, .int 0, m_9, m_10, m_11, m_12, m_13, m_14, m_15, m_16, m_17, m_18, m_19, m_20, m_21, m_22, m_23, m_24, m_25, m_26, m_27, m_28, m_29, m_30, m_31, m_32, m_33, m_34, m_35, m_36, m_37, m_38, m_39, m_40, m_41, m_42, m_43, m_44, m_45, m_46, m_47, m_48, m_49, m_50, m_51, m_52, m_53, m_54, m_55, m_56, m_57, m_58, m_59]), (cc_l w0 (K 0) 5500 f_756), (cc_l r0 (K 0) 7 frf)] H := hP0
                    replace hD := as_D hP hD0 rfl
                    replace hS := hS0
                    clear hP0 hD0 hS0
                    refine lv_aload_n hx hb dX12_house_227 rfl (lv_at hl 2 rfl) (lv_iload hx hb dX12_house_228 (lv_at hl 1 rfl) (kci (S := Su) (wr := [(cc_l w0 (K 0) 5500 f_756)]) (va_runV (As := [.int x_701]) (rest := []) ⟨hx, hb, hml, hown, hts⟩ (v_tell l D K m0 x_701 (.int 0) sta r0 (.ref w0) m_4 m_5 m_6 m_7 (.int 0) m_9 m_10 m_11 m_12 m_13 m_14 m_15 m_16 m_17 m_18 m_19 m_20 m_21 m_22 m_23 m_24 m_25 m_26 m_27 m_28 m_29 m_30 m_31 m_32 m_33 m_34 m_35 m_36 m_37 m_38 m_39 m_40 m_41 m_42 m_43 m_44 m_45 m_46 m_47 m_48 m_49 m_50 m_51 m_52 m_53 m_54 m_55 m_56 m_57 m_58 m_59 frf H.size (by first | omega | decide)) (cwV 1 hts gX12_house_X12_tell rfl rfl rfl (by decide +kernel) ⟨Nat.le_of_ble_eq_true rfl, Nat.le_of_ble_eq_true rfl⟩) (mkV hK hN (hP.sub [0, 2] rfl) (hD.sub [0, 2] (by decide +kernel) rfl) (ci := 12) (q0 := 0) rfl rfl) rfl rfl hl.1 rfl (lv_room (Nat.le_of_ble_eq_true rfl)) dX12_house_230 ⟨Nat.le_of_ble_eq_true rfl, Nat.le_of_ble_eq_true rfl⟩) hP hD hS hA [0, 2] [1] rfl rfl (by decide +kernel) (by decide +kernel) (fun r_757 u_758 H locs hw hP0 hD0 hS0 => ?_)))
                    replace hP : va_P D vwCl [(cc_l w0 (K 0) 5500 f_756), (cc_O m0 12 [.int 0, .int (u_758.2.2.2.1 0), .ref r0, .ref w0, m_4, m_5, m_6, m_7, .int 0, m_9, m_10, m_11, m_12, m_13, m_14, m_15, m_16, m_17, m_18, m_19, m_20, m_21, m_22, m_23, m_24, m_25, m_26, m_27, m_28, m_29, m_30, m_31, m_32, m_33, m_34, m_35, m_36, m_37, m_38, m_39, m_40, m_41, m_42, m_43, m_44, m_45, m_46, m_47, m_48, m_49, m_50, m_51, m_52, m_53, m_54, m_55, m_56, m_57, m_58, m_59]), (cc_l r0 (K 0) 7 (u_758.2.1 0))] H := hP0
                    replace hD := as_D hP hD0 rfl
                    replace hS := hS0
                    clear hP0 hD0 hS0
                    obtain ⟨h_761, k_759, k_760, -⟩ := hw
                    replace hE := (hE.trans (Lt2_in k_760)).trans (Lt2_in rfl)
                    rw [← hQ]
                    have hP9 := hP.sub (ws' := [(cc_O m0 12 [.int 0, .int (u_758.2.2.2.1 0), .ref r0, .ref w0, m_4, m_5, m_6, m_7, .int 0, m_9, m_10, m_11, m_12, m_13, m_14, m_15, m_16, m_17, m_18, m_19, m_20, m_21, m_22, m_23, m_24, m_25, m_26, m_27, m_28, m_29, m_30, m_31, m_32, m_33, m_34, m_35, m_36, m_37, m_38, m_39, m_40, m_41, m_42, m_43, m_44, m_45, m_46, m_47, m_48, m_49, m_50, m_51, m_52, m_53, m_54, m_55, m_56, m_57, m_58, m_59]), (cc_l w0 (K 0) 5500 f_756), (cc_l r0 (K 0) 7 (u_758.2.1 0))]) [1, 0, 2] rfl
                    have hD9 := sub_D hP9 hD [1, 0, 2] (by decide +kernel) rfl
                    exact W.iret (v := r_757) hx hb hr (fun t ht hW => ⟨⟨r_757, ((fun _ => 0, fun i => match i with | 0 => f_756 | _ => (u_758.2.1 0), fun _ => fun _ => 0, fun i => match i with | 0 => (u_758.2.2.2.1 0) | _ => 0, fun _ => 0, fun _ => fun _ => none) : Su), rfl, ⟨(show (-6) ≤ r_757.toInt by omega), (show (-6) ≤ ((u_758.2.2.2.1 0) : Int32).toInt ∧ ((u_758.2.2.2.1 0) : Int32).toInt ≤ 0 by omega), (show 0 ≤ (0 : Int32).toInt ∧ (0 : Int32).toInt ≤ 16 by decide), hf_756_0, hE.symm, trivial⟩, (⟨by rw [ht]; exact hP9, hD9⟩ : Wd D A _ t)⟩, hS.F ht⟩) hS.2.2 dX12_house_233
                  · have c_739i := i_eq (x := x_701.toInt) (y := 8) rfl rfl c_739
                    replace hE := hE.trans (if_pos c_739)
                    refine lv_aload_n hx hb dX12_house_126 rfl (lv_at hl 2 rfl) (lv_bipush (v := (-5)) hx hb dX12_house_127 (by decide +kernel) (kci (S := Su) (wr := [(cc_l w0 (K 0) 5500 fw)]) (va_runV (As := [.int (-5)]) (rest := []) ⟨hx, hb, hml, hown, hts⟩ (v_tell l D K m0 (-5) (.int 0) sta r0 (.ref w0) m_4 m_5 m_6 m_7 (.int nu) m_9 m_10 m_11 m_12 m_13 m_14 m_15 m_16 m_17 m_18 m_19 m_20 m_21 m_22 m_23 m_24 m_25 m_26 m_27 m_28 m_29 m_30 m_31 m_32 m_33 m_34 m_35 m_36 m_37 m_38 m_39 m_40 m_41 m_42 m_43 m_44 m_45 m_46 m_47 m_48 m_49 m_50 m_51 m_52 m_53 m_54 m_55 m_56 m_57 m_58 m_59 frf H.size (by first | omega | decide)) (cwV 1 hts gX12_house_X12_tell rfl rfl rfl (by decide +kernel) ⟨Nat.le_of_ble_eq_true rfl, Nat.le_of_ble_eq_true rfl⟩) (mkV hK hN (hP.sub [0, 2] rfl) (hD.sub [0, 2] (by decide +kernel) rfl) (ci := 12) (q0 := 0) rfl rfl) rfl rfl hl.1 rfl (lv_room (Nat.le_of_ble_eq_true rfl)) dX12_house_129 ⟨Nat.le_of_ble_eq_true rfl, Nat.le_of_ble_eq_true rfl⟩) hP hD hS hA [0, 2] [1] rfl rfl (by decide +kernel) (by decide +kernel) (fun r_762 u_763 H locs hw hP0 hD0 hS0 => ?_)))
                    replace hP : va_P D vwCl [(cc_l w0 (K 0) 5500 fw), (cc_O m0 12 [.int 0, .int (u_763.2.2.2.1 0), .ref r0, .ref w0, m_4, m_5, m_6, m_7, .int nu, m_9, m_10, m_11, m_12, m_13, m_14, m_15, m_16, m_17, m_18, m_19, m_20, m_21, m_22, m_23, m_24, m_25, m_26, m_27, m_28, m_29, m_30, m_31, m_32, m_33, m_34, m_35, m_36, m_37, m_38, m_39, m_40, m_41, m_42, m_43, m_44, m_45, m_46, m_47, m_48, m_49, m_50, m_51, m_52, m_53, m_54, m_55, m_56, m_57, m_58, m_59]), (cc_l r0 (K 0) 7 (u_763.2.1 0))] H := hP0
                    replace hD := as_D hP hD0 rfl
                    replace hS := hS0
                    clear hP0 hD0 hS0
                    obtain ⟨h_766, k_764, k_765, -⟩ := hw
                    replace hE := (hE.trans (Lt2_in k_765)).trans (Lt2_in rfl)
                    rw [← hQ]
                    have hP9 := hP.sub (ws' := [(cc_O m0 12 [.int 0, .int (u_763.2.2.2.1 0), .ref r0, .ref w0, m_4, m_5, m_6, m_7, .int nu, m_9, m_10, m_11, m_12, m_13, m_14, m_15, m_16, m_17, m_18, m_19, m_20, m_21, m_22, m_23, m_24, m_25, m_26, m_27, m_28, m_29, m_30, m_31, m_32, m_33, m_34, m_35, m_36, m_37, m_38, m_39, m_40, m_41, m_42, m_43, m_44, m_45, m_46, m_47, m_48, m_49, m_50, m_51, m_52, m_53, m_54, m_55, m_56, m_57, m_58, m_59]), (cc_l w0 (K 0) 5500 fw), (cc_l r0 (K 0) 7 (u_763.2.1 0))]) [1, 0, 2] rfl
                    have hD9 := sub_D hP9 hD [1, 0, 2] (by decide +kernel) rfl
                    exact W.iret (v := r_762) hx hb hr (fun t ht hW => ⟨⟨r_762, ((fun _ => 0, fun i => match i with | 0 => fw | _ => (u_763.2.1 0), fun _ => fun _ => 0, fun i => match i with | 0 => (u_763.2.2.2.1 0) | _ => nu, fun _ => 0, fun _ => fun _ => none) : Su), rfl, ⟨(show (-6) ≤ r_762.toInt by omega), (show (-6) ≤ ((u_763.2.2.2.1 0) : Int32).toInt ∧ ((u_763.2.2.2.1 0) : Int32).toInt ≤ 0 by omega), (show 0 ≤ (nu : Int32).toInt ∧ (nu : Int32).toInt ≤ 16 by omega), zfw, hE.symm, trivial⟩, (⟨by rw [ht]; exact hP9, hD9⟩ : Wd D A _ t)⟩, hS.F ht⟩) hS.2.2 dX12_house_132
                · have c_738i := i_nle (x := x_701.toInt) (y := v_724.toInt) rfl rfl c_738
                  replace hE := hE.trans (if_neg c_738)
                  refine lv_aload_n hx hb dX12_house_91 rfl (lv_at hl 2 rfl) (va_get (ci := 12) (v := .ref w0) (C := RX12) (T := TX12) (N := 60) hx hb hts hw12 hown hK hP 0 rfl rfl 3 (by decide +kernel) (hts _ mm_X12_house_833) (fun _ h9 => h9) rfl dX12_house_92 (lv_bipush (v := 51) hx hb dX12_house_95 (by decide +kernel) (lv_iload hx hb dX12_house_97 (lv_at hl 0 rfl) (lv_iadd hx hb dX12_house_99 (lv_topi (fun x_767 ex_767 => ?_))))))
                  replace hE := hE.trans (Lt_in ex_767)
                  have hx_767 : x_767.toInt = (51 + v_724.toInt) := by rw [ex_767]; exact i_add (show (51 : Int32).toInt = 51 from rfl) rfl (by omega)
                  refine va_iald hx hb hK hP 1 0 rfl rfl (i_in hx_767 (by omega)) dX12_house_100 (lv_topi (fun x_768 ex_768 => ?_))
                  replace hE := hE.trans (Lt_in ex_768)
                  have px_768 := RwOK.at zfw hx_767 (show 0 ≤ (51 + v_724.toInt) ∧ (51 + v_724.toInt) < 100 by omega)
                  rw [← ex_768] at px_768
                  refine lv_iload hx hb dX12_house_101 (lv_at hl 6 rfl) (lv_icmp_ne (tgt := 113) hx hb dX12_house_103 (by decide +kernel) (fun c_769 => ?_) (fun c_769 => ?_))
                  · have c_769i := i_ne (x := x_768.toInt) (y := x3.toInt) rfl rfl c_769
                    replace hE := hE.trans (if_neg c_769)
                    obtain ⟨x_770, ex_770⟩ : ∃ y : Int32, y = v_724 + Int32.ofInt 1 := ⟨_, rfl⟩
                    replace hE := hE.trans (Lt_in ex_770)
                    have hx_770 : x_770.toInt = (v_724.toInt + 1) := by rw [ex_770]; exact i_add rfl (show (Int32.ofInt 1).toInt = 1 from rfl) (by omega)
                    refine lv_iinc (v := x_770) (lv' := [(7, .int x_770), (6, .int x_701), (0, .ref m0), (1, .int x0), (2, .int x1), (3, .int x2), (4, .int x3), (5, .int x4)]) hx hb dX12_house_113 hl (k := 0) rfl (by rw [ex_770]) (by decide +kernel) rfl (fun ls hl => ?_)
                    refine lv_goto (tgt := 84) hx hb dX12_house_116 (by decide +kernel) ?_
                    exact ih_737 x_770 (by rw [hx_770]; omega) (by omega) (hE.trans (by rw [hrec_736])) _ _ hP hD hS ls (lv_sub hl [0, 1, 2, 3, 4, 5, 6, 7] rfl)
                  · have c_769i := i_eq (x := x_768.toInt) (y := x3.toInt) rfl rfl c_769
                    replace hE := hE.trans (if_pos c_769)
                    refine lv_aload_n hx hb dX12_house_106 rfl (lv_at hl 2 rfl) (lv_bipush (v := (-3)) hx hb dX12_house_107 (by decide +kernel) (kci (S := Su) (wr := [(cc_l w0 (K 0) 5500 fw)]) (va_runV (As := [.int (-3)]) (rest := []) ⟨hx, hb, hml, hown, hts⟩ (v_tell l D K m0 (-3) (.int 0) sta r0 (.ref w0) m_4 m_5 m_6 m_7 (.int nu) m_9 m_10 m_11 m_12 m_13 m_14 m_15 m_16 m_17 m_18 m_19 m_20 m_21 m_22 m_23 m_24 m_25 m_26 m_27 m_28 m_29 m_30 m_31 m_32 m_33 m_34 m_35 m_36 m_37 m_38 m_39 m_40 m_41 m_42 m_43 m_44 m_45 m_46 m_47 m_48 m_49 m_50 m_51 m_52 m_53 m_54 m_55 m_56 m_57 m_58 m_59 frf H.size (by first | omega | decide)) (cwV 1 hts gX12_house_X12_tell rfl rfl rfl (by decide +kernel) ⟨Nat.le_of_ble_eq_true rfl, Nat.le_of_ble_eq_true rfl⟩) (mkV hK hN (hP.sub [0, 2] rfl) (hD.sub [0, 2] (by decide +kernel) rfl) (ci := 12) (q0 := 0) rfl rfl) rfl rfl hl.1 rfl (lv_room (Nat.le_of_ble_eq_true rfl)) dX12_house_109 ⟨Nat.le_of_ble_eq_true rfl, Nat.le_of_ble_eq_true rfl⟩) hP hD hS hA [0, 2] [1] rfl rfl (by decide +kernel) (by decide +kernel) (fun r_771 u_772 H locs hw hP0 hD0 hS0 => ?_)))
                    replace hP : va_P D vwCl [(cc_l w0 (K 0) 5500 fw), (cc_O m0 12 [.int 0, .int (u_772.2.2.2.1 0), .ref r0, .ref w0, m_4, m_5, m_6, m_7, .int nu, m_9, m_10, m_11, m_12, m_13, m_14, m_15, m_16, m_17, m_18, m_19, m_20, m_21, m_22, m_23, m_24, m_25, m_26, m_27, m_28, m_29, m_30, m_31, m_32, m_33, m_34, m_35, m_36, m_37, m_38, m_39, m_40, m_41, m_42, m_43, m_44, m_45, m_46, m_47, m_48, m_49, m_50, m_51, m_52, m_53, m_54, m_55, m_56, m_57, m_58, m_59]), (cc_l r0 (K 0) 7 (u_772.2.1 0))] H := hP0
                    replace hD := as_D hP hD0 rfl
                    replace hS := hS0
                    clear hP0 hD0 hS0
                    obtain ⟨h_775, k_773, k_774, -⟩ := hw
                    replace hE := (hE.trans (Lt2_in k_774)).trans (Lt2_in rfl)
                    rw [← hQ]
                    have hP9 := hP.sub (ws' := [(cc_O m0 12 [.int 0, .int (u_772.2.2.2.1 0), .ref r0, .ref w0, m_4, m_5, m_6, m_7, .int nu, m_9, m_10, m_11, m_12, m_13, m_14, m_15, m_16, m_17, m_18, m_19, m_20, m_21, m_22, m_23, m_24, m_25, m_26, m_27, m_28, m_29, m_30, m_31, m_32, m_33, m_34, m_35, m_36, m_37, m_38, m_39, m_40, m_41, m_42, m_43, m_44, m_45, m_46, m_47, m_48, m_49, m_50, m_51, m_52, m_53, m_54, m_55, m_56, m_57, m_58, m_59]), (cc_l w0 (K 0) 5500 fw), (cc_l r0 (K 0) 7 (u_772.2.1 0))]) [1, 0, 2] rfl
                    have hD9 := sub_D hP9 hD [1, 0, 2] (by decide +kernel) rfl
                    exact W.iret (v := r_771) hx hb hr (fun t ht hW => ⟨⟨r_771, ((fun _ => 0, fun i => match i with | 0 => fw | _ => (u_772.2.1 0), fun _ => fun _ => 0, fun i => match i with | 0 => (u_772.2.2.2.1 0) | _ => nu, fun _ => 0, fun _ => fun _ => none) : Su), rfl, ⟨(show (-6) ≤ r_771.toInt by omega), (show (-6) ≤ ((u_772.2.2.2.1 0) : Int32).toInt ∧ ((u_772.2.2.2.1 0) : Int32).toInt ≤ 0 by omega), (show 0 ≤ (nu : Int32).toInt ∧ (nu : Int32).toInt ≤ 16 by omega), zfw, hE.symm, trivial⟩, (⟨by rw [ht]; exact hP9, hD9⟩ : Wd D A _ t)⟩, hS.F ht⟩) hS.2.2 dX12_house_112
            exact lp_736 ((9 - (0 : Int32).toInt : Int).toNat + 1) 0 (by decide +kernel) (Nat.lt_succ_self _) hE _ _ hP hD hS ls (lv_sub hl [0, 1, 2, 3, 4, 5, 6, 7] rfl)
          · replace hE := (hE).trans (if_neg (by first | decide | (intro h9; have h8 := congrArg Int32.toInt h9; omega)))
            refine lv_if_ne (tgt := 73) hx hb dX12_house_64 (by decide +kernel) (fun c_776 => absurd (by decide +kernel) c_776) (fun c_776 => ?_)
            exact j_661   hE _ _ hP hD hS ls (lv_sub hl [0] rfl)
        · replace hE := (hE).trans (if_neg (by first | decide | (intro h9; have h8 := congrArg Int32.toInt h9; omega)))
          refine lv_if_eq (tgt := 67) hx hb dX12_house_51 (by decide +kernel) (fun c_777 => ?_) (fun c_777 => absurd (by decide +kernel) c_777)
          exact j_661   hE _ _ hP hD hS ls (lv_sub hl [0] rfl)
      · replace hE := (hE).trans (if_neg (by first | decide | (intro h9; have h8 := congrArg Int32.toInt h9; omega)))
        refine lv_if_eq (tgt := 67) hx hb dX12_house_38 (by decide +kernel) (fun c_778 => ?_) (fun c_778 => absurd (by decide +kernel) c_778)
        exact j_661   hE _ _ hP hD hS ls (lv_sub hl [0] rfl)
    · replace hE := (hE).trans (if_neg (by first | decide | (intro h9; have h8 := congrArg Int32.toInt h9; omega)))
      refine lv_if_eq (tgt := 67) hx hb dX12_house_26 (by decide +kernel) (fun c_779 => ?_) (fun c_779 => absurd (by decide +kernel) c_779)
      exact j_661   hE _ _ hP hD hS ls (lv_sub hl [0] rfl)
  · replace hE := (hE).trans (if_neg (by first | decide | (intro h9; have h8 := congrArg Int32.toInt h9; omega)))
    refine lv_if_eq (tgt := 67) hx hb dX12_house_14 (by decide +kernel) (fun c_780 => ?_) (fun c_780 => absurd (by decide +kernel) c_780)
    exact j_661   hE _ _ hP hD hS ls (lv_sub hl [0] rfl)
set_option maxRecDepth 100000 in
noncomputable def E_v_termsN (x : Int32) (y : Int32) (thr : Int32) (sta : Int32) (nu : Int32) (fw : Nat → Int32) (frf : Nat → Int32) : Int32 × Int32 × Int32 × (Nat → Int32) × (Nat → Int32) :=
  Lt (E_v_canBe x y) (fun r_93 => if r_93 = 1 then (Lt (4 + x : Int32) (fun x_97 => Lt2 (E_v_changeF x_97 y sta fw) (fun r_98 u_99_2_1_0 => ((r_98, 0, 0, u_99_2_1_0, frf) : Int32 × Int32 × Int32 × (Nat → Int32) × (Nat → Int32))))) else (Lt2 (E_v_tell (-1) sta frf) (fun r_104 q0_r_104 => Lt2 q0_r_104 (fun u_105_2_2_2_1_0 u_105_2_1_0 => ((r_104, u_105_2_2_2_1_0, nu, fw, u_105_2_1_0) : Int32 × Int32 × Int32 × (Nat → Int32) × (Nat → Int32))))))
set_option maxHeartbeats 4000000 in
set_option maxRecDepth 100000 in
theorem v_termsN (l : Launch) (D : va_G) (K : Nat → ClassId) (m0 : Nat) (x : Int32) (y : Int32) (thr : Int32) (sta : Int32) (r0 : Nat) (w0 : Nat) (m_4 : Value) (m_5 : Value) (m_6 : Value) (m_7 : Value) (nu : Int32) (m_9 : Value) (m_10 : Value) (m_11 : Value) (m_12 : Value) (m_13 : Value) (m_14 : Value) (m_15 : Value) (m_16 : Value) (m_17 : Value) (m_18 : Value) (m_19 : Value) (m_20 : Value) (m_21 : Value) (m_22 : Value) (m_23 : Value) (m_24 : Value) (m_25 : Value) (m_26 : Value) (m_27 : Value) (m_28 : Value) (m_29 : Value) (m_30 : Value) (m_31 : Value) (m_32 : Value) (m_33 : Value) (m_34 : Value) (m_35 : Value) (m_36 : Value) (m_37 : Value) (m_38 : Value) (m_39 : Value) (m_40 : Value) (m_41 : Value) (m_42 : Value) (m_43 : Value) (m_44 : Value) (m_45 : Value) (m_46 : Value) (m_47 : Value) (m_48 : Value) (m_49 : Value) (m_50 : Value) (m_51 : Value) (m_52 : Value) (m_53 : Value) (m_54 : Value) (m_55 : Value) (m_56 : Value) (m_57 : Value) (m_58 : Value) (m_59 : Value) (fw : Nat → Int32) (gr : Nat → Int32) (frf : Nat → Int32) (sz : Nat) (znu : 0 ≤ nu.toInt ∧ nu.toInt ≤ 16) (zfw : RwOK fw) (zgr : FzM gr fw) : Met l yX12_terms wsX12_terms ({ frames := 2, cells := 0, slots := 0, locals := 46 }) (va_Pc [.ref m0, .int x, .int y] (Pre D K [(cc_O m0 12 [.int thr, .int sta, .ref r0, .ref w0, m_4, m_5, m_6, m_7, .int nu, m_9, m_10, m_11, m_12, m_13, m_14, m_15, m_16, m_17, m_18, m_19, m_20, m_21, m_22, m_23, m_24, m_25, m_26, m_27, m_28, m_29, m_30, m_31, m_32, m_33, m_34, m_35, m_36, m_37, m_38, m_39, m_40, m_41, m_42, m_43, m_44, m_45, m_46, m_47, m_48, m_49, m_50, m_51, m_52, m_53, m_54, m_55, m_56, m_57, m_58, m_59]), (cc_l w0 (K 0) 5500 fw), (cc_l r0 (K 0) 7 frf)] sz)) (va_Qi (S := Su) (fun (r : Int32) (u : Su) => ((-6) ≤ (u.2.2.2.1 0).toInt ∧ (u.2.2.2.1 0).toInt ≤ 0) ∧ (0 ≤ (u.2.2.2.1 1).toInt ∧ (u.2.2.2.1 1).toInt ≤ 16) ∧ (RwOK (u.2.1 0)) ∧ (FzM gr (u.2.1 0)) ∧ ((r, (u.2.2.2.1 0), (u.2.2.2.1 1), (u.2.1 0), (u.2.1 1)) = E_v_termsN x y thr sta nu fw frf) ∧ True) (fun u t => Wd D (va_A [(cc_O m0 12 [.int thr, .int sta, .ref r0, .ref w0, m_4, m_5, m_6, m_7, .int nu, m_9, m_10, m_11, m_12, m_13, m_14, m_15, m_16, m_17, m_18, m_19, m_20, m_21, m_22, m_23, m_24, m_25, m_26, m_27, m_28, m_29, m_30, m_31, m_32, m_33, m_34, m_35, m_36, m_37, m_38, m_39, m_40, m_41, m_42, m_43, m_44, m_45, m_46, m_47, m_48, m_49, m_50, m_51, m_52, m_53, m_54, m_55, m_56, m_57, m_58, m_59]), (cc_l w0 (K 0) 5500 fw), (cc_l r0 (K 0) 7 frf)] sz) ((fun u => [(cc_O m0 12 [.int 0, .int (u.2.2.2.1 0), .ref r0, .ref w0, m_4, m_5, m_6, m_7, .int (u.2.2.2.1 1), m_9, m_10, m_11, m_12, m_13, m_14, m_15, m_16, m_17, m_18, m_19, m_20, m_21, m_22, m_23, m_24, m_25, m_26, m_27, m_28, m_29, m_30, m_31, m_32, m_33, m_34, m_35, m_36, m_37, m_38, m_39, m_40, m_41, m_42, m_43, m_44, m_45, m_46, m_47, m_48, m_49, m_50, m_51, m_52, m_53, m_54, m_55, m_56, m_57, m_58, m_59]), (cc_l w0 (K 0) 5500 (u.2.1 0)), (cc_l r0 (K 0) 7 (u.2.1 1))]) u) t) (va_A [(cc_O m0 12 [.int thr, .int sta, .ref r0, .ref w0, m_4, m_5, m_6, m_7, .int nu, m_9, m_10, m_11, m_12, m_13, m_14, m_15, m_16, m_17, m_18, m_19, m_20, m_21, m_22, m_23, m_24, m_25, m_26, m_27, m_28, m_29, m_30, m_31, m_32, m_33, m_34, m_35, m_36, m_37, m_38, m_39, m_40, m_41, m_42, m_43, m_44, m_45, m_46, m_47, m_48, m_49, m_50, m_51, m_52, m_53, m_54, m_55, m_56, m_57, m_58, m_59]), (cc_l w0 (K 0) 5500 fw), (cc_l r0 (K 0) 7 frf)] sz)) 0 0 (va_A [(cc_O m0 12 [.int thr, .int sta, .ref r0, .ref w0, m_4, m_5, m_6, m_7, .int nu, m_9, m_10, m_11, m_12, m_13, m_14, m_15, m_16, m_17, m_18, m_19, m_20, m_21, m_22, m_23, m_24, m_25, m_26, m_27, m_28, m_29, m_30, m_31, m_32, m_33, m_34, m_35, m_36, m_37, m_38, m_39, m_40, m_41, m_42, m_43, m_44, m_45, m_46, m_47, m_48, m_49, m_50, m_51, m_52, m_53, m_54, m_55, m_56, m_57, m_58, m_59]), (cc_l w0 (K 0) 5500 fw), (cc_l r0 (K 0) 7 frf)] sz) := by
  refine Met.ofW (cc := cX12_terms) (maxL := 3) (ret := (some .int)) (by decide +kernel) rfl ?_
  intro p e s m args below meth c s₁ B hml hv
  obtain ⟨rfl, hsz, hP, hK, hD0, hN⟩ := hv
  have hx := B.exec
  have hb := B.bytes
  have hr := B.returns
  have hts := atoms_spec (ws := wsX12_terms) B.pre
  have hown : s.vm.findClass RX12 = some m.cls := findClass_of_methodNamed B.named
  have hlocks := B.notSynchronized
  subst hsz
  have hD := hD0.self (sz := s.heap.size)
  generalize hAe : va_A [(cc_O m0 12 [.int thr, .int sta, .ref r0, .ref w0, m_4, m_5, m_6, m_7, .int nu, m_9, m_10, m_11, m_12, m_13, m_14, m_15, m_16, m_17, m_18, m_19, m_20, m_21, m_22, m_23, m_24, m_25, m_26, m_27, m_28, m_29, m_30, m_31, m_32, m_33, m_34, m_35, m_36, m_37, m_38, m_39, m_40, m_41, m_42, m_43, m_44, m_45, m_46, m_47, m_48, m_49, m_50, m_51, m_52, m_53, m_54, m_55, m_56, m_57, m_58, m_59]), (cc_l w0 (K 0) 5500 fw), (cc_l r0 (K 0) 7 frf)] s.heap.size = A at hD ⊢
  have hA : ∀ q : Nat, s.heap.size ≤ q → A q := fun q h => by rw [← hAe]; exact Or.inr h
  clear hAe
  have hS : va_S A s.heap s.heap [] := va_S.rf
  replace hP : va_P D vwCl [(cc_O m0 12 [.int thr, .int sta, .ref r0, .ref w0, m_4, m_5, m_6, m_7, .int nu, m_9, m_10, m_11, m_12, m_13, m_14, m_15, m_16, m_17, m_18, m_19, m_20, m_21, m_22, m_23, m_24, m_25, m_26, m_27, m_28, m_29, m_30, m_31, m_32, m_33, m_34, m_35, m_36, m_37, m_38, m_39, m_40, m_41, m_42, m_43, m_44, m_45, m_46, m_47, m_48, m_49, m_50, m_51, m_52, m_53, m_54, m_55, m_56, m_57, m_58, m_59]), (cc_l w0 (K 0) 5500 fw), (cc_l r0 (K 0) 7 frf)] s.heap := hP
  have hl := lv_entry [.ref m0, .int x, .int y] (n := 3) (Nat.le_of_ble_eq_true rfl)
  rw [lg_entry_eq]
  generalize (lg_sl [.ref m0, .int x, .int y] ++ List.replicate (3 - (lg_sl [.ref m0, .int x, .int y]).length) Slot.unset).toArray = ls at hl ⊢
  have hl : lv_has ls 3 [(0, .ref m0), (1, .int x), (2, .int y)] := hl
  have hw12 : ∀ w ∈ wsX120, w ∈ wsX12_terms := fun w h => (List.mem_cons_of_mem _ (List.mem_append_right _ h))
  generalize hQ : MQ below _ _ s _ _ _ = Q
  have hE := E_v_termsN.eq_def x y thr sta nu fw frf
  refine lv_aload_n hx hb dX12_terms_0 rfl (lv_at hl 0 rfl) (lv_iconst (v := 0) hx hb dX12_terms_1 (by decide +kernel) (va_put (ci := 12) (v := .int 0) (ty := .int) (C := RX12) (T := TX12) (N := 60) hx hb hts hw12 tyX12 tyX12_ok nmX12 hown hK hP hD hS 0 rfl rfl 0 (by decide +kernel) (hts _ mm_X12_terms_830) (fun _ h9 => h9) rfl (by decide +kernel) (by first | rfl | decide) (by first | rfl | decide) (Nat.le_of_ble_eq_true rfl) dX12_terms_2 (fun H locs hP0 hD0 hS0 => ?_)))
  replace hP : va_P D vwCl [(cc_O m0 12 [.int 0, .int sta, .ref r0, .ref w0, m_4, m_5, m_6, m_7, .int nu, m_9, m_10, m_11, m_12, m_13, m_14, m_15, m_16, m_17, m_18, m_19, m_20, m_21, m_22, m_23, m_24, m_25, m_26, m_27, m_28, m_29, m_30, m_31, m_32, m_33, m_34, m_35, m_36, m_37, m_38, m_39, m_40, m_41, m_42, m_43, m_44, m_45, m_46, m_47, m_48, m_49, m_50, m_51, m_52, m_53, m_54, m_55, m_56, m_57, m_58, m_59]), (cc_l w0 (K 0) 5500 fw), (cc_l r0 (K 0) 7 frf)] H := hP0
  replace hD := as_D hP hD0 rfl
  replace hS := hS0
  clear hP0 hD0 hS0
  refine lv_iload_n hx hb dX12_terms_5 rfl (lv_at hl 1 rfl) (lv_iload_n hx hb dX12_terms_6 rfl (lv_at hl 2 rfl) (pci (va_runS (As := [.int x, .int y]) (rest := []) ⟨hx, hb, hml, hown, hts⟩ (v_canBe l D K x y H.size) (va_cwS 2 hts gX12_terms_X12_canBe rfl rfl rfl (by decide +kernel) ⟨Nat.le_of_ble_eq_true rfl, Nat.le_of_ble_eq_true rfl⟩) (mkS hK hN (va_P.nil) (va_D.nil (A := fun _ => True))) rfl rfl hl.1 rfl (lv_room (Nat.le_of_ble_eq_true rfl)) dX12_terms_7 ⟨Nat.le_of_ble_eq_true rfl, Nat.le_of_ble_eq_true rfl⟩) (fun r_93 hw => ?_)))
  obtain ⟨hw, k_94, -⟩ := hw
  replace hE := hE.trans (Lt_in k_94)
  rcases hw with ⟨rfl, h_95⟩ | rfl
  · replace hE := (hE).trans (if_pos rfl)
    refine lv_if_ne (tgt := 19) hx hb dX12_terms_10 (by decide +kernel) (fun c_96 => ?_) (fun c_96 => absurd c_96 (by decide +kernel))
    refine lv_aload_n hx hb dX12_terms_19 rfl (lv_at hl 0 rfl) ?_
    have hx05 : 0 ≤ x.toInt ∧ x.toInt ≤ 5 := by omega
    refine lv_iconst (v := 0) hx hb dX12_terms_20 (by decide +kernel) (va_put (ci := 12) (v := .int 0) (ty := .int) (C := RX12) (T := TX12) (N := 60) hx hb hts hw12 tyX12 tyX12_ok nmX12 hown hK hP hD hS 0 rfl rfl 8 (by decide +kernel) (hts _ mm_X12_terms_838) (fun _ h9 => h9) rfl (by decide +kernel) (by first | rfl | decide) (by first | rfl | decide) (Nat.le_of_ble_eq_true rfl) dX12_terms_21 (fun H locs hP0 hD0 hS0 => ?_))
    replace hP : va_P D vwCl [(cc_O m0 12 [.int 0, .int sta, .ref r0, .ref w0, m_4, m_5, m_6, m_7, .int 0, m_9, m_10, m_11, m_12, m_13, m_14, m_15, m_16, m_17, m_18, m_19, m_20, m_21, m_22, m_23, m_24, m_25, m_26, m_27, m_28, m_29, m_30, m_31, m_32, m_33, m_34, m_35, m_36, m_37, m_38, m_39, m_40, m_41, m_42, m_43, m_44, m_45, m_46, m_47, m_48, m_49, m_50, m_51, m_52, m_53, m_54, m_55, m_56, m_57, m_58, m_59]), (cc_l w0 (K 0) 5500 fw), (cc_l r0 (K 0) 7 frf)] H := hP0
    replace hD := as_D hP hD0 rfl
    replace hS := hS0
    clear hP0 hD0 hS0
    refine lv_aload_n hx hb dX12_terms_24 rfl (lv_at hl 0 rfl) (lv_iconst (v := 4) hx hb dX12_terms_25 (by decide +kernel) (lv_iload_n hx hb dX12_terms_26 rfl (lv_at hl 1 rfl) (lv_iadd hx hb dX12_terms_27 (lv_topi (fun x_97 ex_97 => ?_)))))
    replace hE := hE.trans (Lt_in ex_97)
    have hx_97 : x_97.toInt = (4 + x.toInt) := by rw [ex_97]; exact i_add (show (4 : Int32).toInt = 4 from rfl) rfl (by omega)
    refine lv_iload_n hx hb dX12_terms_28 rfl (lv_at hl 2 rfl) (kci (S := Su) (wr := [(cc_l r0 (K 0) 7 frf)]) (va_runV (As := [.int x_97, .int y]) (rest := []) ⟨hx, hb, hml, hown, hts⟩ (v_changeF l D K m0 x_97 y (.int 0) sta (.ref r0) w0 m_4 m_5 m_6 m_7 (.int 0) m_9 m_10 m_11 m_12 m_13 m_14 m_15 m_16 m_17 m_18 m_19 m_20 m_21 m_22 m_23 m_24 m_25 m_26 m_27 m_28 m_29 m_30 m_31 m_32 m_33 m_34 m_35 m_36 m_37 m_38 m_39 m_40 m_41 m_42 m_43 m_44 m_45 m_46 m_47 m_48 m_49 m_50 m_51 m_52 m_53 m_54 m_55 m_56 m_57 m_58 m_59 fw gr H.size (by first | omega | decide) (PR_terms (by omega)) zfw zgr) (cwV 2 hts gX12_terms_X12_change rfl rfl rfl (by decide +kernel) ⟨Nat.le_of_ble_eq_true rfl, Nat.le_of_ble_eq_true rfl⟩) (mkV hK hN (hP.sub [0, 1] rfl) (hD.sub [0, 1] (by decide +kernel) rfl) (ci := 12) (q0 := 0) rfl rfl) rfl rfl hl.1 rfl (lv_room (Nat.le_of_ble_eq_true rfl)) dX12_terms_29 ⟨Nat.le_of_ble_eq_true rfl, Nat.le_of_ble_eq_true rfl⟩) hP hD hS hA [0, 1] [2] rfl rfl (by decide +kernel) (by decide +kernel) (fun r_98 u_99 H locs hw hP0 hD0 hS0 => ?_))
    replace hP : va_P D vwCl [(cc_l r0 (K 0) 7 frf), (cc_O m0 12 [.int 0, .int 0, .ref r0, .ref w0, m_4, m_5, m_6, m_7, .int 0, m_9, m_10, m_11, m_12, m_13, m_14, m_15, m_16, m_17, m_18, m_19, m_20, m_21, m_22, m_23, m_24, m_25, m_26, m_27, m_28, m_29, m_30, m_31, m_32, m_33, m_34, m_35, m_36, m_37, m_38, m_39, m_40, m_41, m_42, m_43, m_44, m_45, m_46, m_47, m_48, m_49, m_50, m_51, m_52, m_53, m_54, m_55, m_56, m_57, m_58, m_59]), (cc_l w0 (K 0) 5500 (u_99.2.1 0))] H := hP0
    replace hD := as_D hP hD0 rfl
    replace hS := hS0
    clear hP0 hD0 hS0
    obtain ⟨k_100, k_101, k_102, -⟩ := hw
    replace hE := hE.trans (Lt2_in k_102)
    rw [← hQ]
    have hP9 := hP.sub (ws' := [(cc_O m0 12 [.int 0, .int 0, .ref r0, .ref w0, m_4, m_5, m_6, m_7, .int 0, m_9, m_10, m_11, m_12, m_13, m_14, m_15, m_16, m_17, m_18, m_19, m_20, m_21, m_22, m_23, m_24, m_25, m_26, m_27, m_28, m_29, m_30, m_31, m_32, m_33, m_34, m_35, m_36, m_37, m_38, m_39, m_40, m_41, m_42, m_43, m_44, m_45, m_46, m_47, m_48, m_49, m_50, m_51, m_52, m_53, m_54, m_55, m_56, m_57, m_58, m_59]), (cc_l w0 (K 0) 5500 (u_99.2.1 0)), (cc_l r0 (K 0) 7 frf)]) [1, 2, 0] rfl
    have hD9 := sub_D hP9 hD [1, 2, 0] (by decide +kernel) rfl
    exact W.iret (v := r_98) hx hb hr (fun t ht hW => ⟨⟨r_98, ((fun _ => 0, fun i => match i with | 0 => (u_99.2.1 0) | _ => frf, fun _ => fun _ => 0, fun i => match i with | 0 => 0 | _ => 0, fun _ => 0, fun _ => fun _ => none) : Su), rfl, ⟨(show (-6) ≤ (0 : Int32).toInt ∧ (0 : Int32).toInt ≤ 0 by decide), (show 0 ≤ (0 : Int32).toInt ∧ (0 : Int32).toInt ≤ 16 by decide), k_100, k_101, hE.symm, trivial⟩, (⟨by rw [ht]; exact hP9, hD9⟩ : Wd D A _ t)⟩, hS.F ht⟩) hS.2.2 dX12_terms_32
  · replace hE := (hE).trans (if_neg (by first | decide | (intro h9; have h8 := congrArg Int32.toInt h9; omega)))
    refine lv_if_ne (tgt := 19) hx hb dX12_terms_10 (by decide +kernel) (fun c_103 => absurd (by decide +kernel) c_103) (fun c_103 => ?_)
    refine lv_aload_n hx hb dX12_terms_13 rfl (lv_at hl 0 rfl) (lv_iconst (v := (-1)) hx hb dX12_terms_14 (by decide +kernel) (kci (S := Su) (wr := [(cc_l w0 (K 0) 5500 fw)]) (va_runV (As := [.int (-1)]) (rest := []) ⟨hx, hb, hml, hown, hts⟩ (v_tell l D K m0 (-1) (.int 0) sta r0 (.ref w0) m_4 m_5 m_6 m_7 (.int nu) m_9 m_10 m_11 m_12 m_13 m_14 m_15 m_16 m_17 m_18 m_19 m_20 m_21 m_22 m_23 m_24 m_25 m_26 m_27 m_28 m_29 m_30 m_31 m_32 m_33 m_34 m_35 m_36 m_37 m_38 m_39 m_40 m_41 m_42 m_43 m_44 m_45 m_46 m_47 m_48 m_49 m_50 m_51 m_52 m_53 m_54 m_55 m_56 m_57 m_58 m_59 frf H.size (by first | omega | decide)) (cwV 1 hts gX12_terms_X12_tell rfl rfl rfl (by decide +kernel) ⟨Nat.le_of_ble_eq_true rfl, Nat.le_of_ble_eq_true rfl⟩) (mkV hK hN (hP.sub [0, 2] rfl) (hD.sub [0, 2] (by decide +kernel) rfl) (ci := 12) (q0 := 0) rfl rfl) rfl rfl hl.1 rfl (lv_room (Nat.le_of_ble_eq_true rfl)) dX12_terms_15 ⟨Nat.le_of_ble_eq_true rfl, Nat.le_of_ble_eq_true rfl⟩) hP hD hS hA [0, 2] [1] rfl rfl (by decide +kernel) (by decide +kernel) (fun r_104 u_105 H locs hw hP0 hD0 hS0 => ?_)))
    replace hP : va_P D vwCl [(cc_l w0 (K 0) 5500 fw), (cc_O m0 12 [.int 0, .int (u_105.2.2.2.1 0), .ref r0, .ref w0, m_4, m_5, m_6, m_7, .int nu, m_9, m_10, m_11, m_12, m_13, m_14, m_15, m_16, m_17, m_18, m_19, m_20, m_21, m_22, m_23, m_24, m_25, m_26, m_27, m_28, m_29, m_30, m_31, m_32, m_33, m_34, m_35, m_36, m_37, m_38, m_39, m_40, m_41, m_42, m_43, m_44, m_45, m_46, m_47, m_48, m_49, m_50, m_51, m_52, m_53, m_54, m_55, m_56, m_57, m_58, m_59]), (cc_l r0 (K 0) 7 (u_105.2.1 0))] H := hP0
    replace hD := as_D hP hD0 rfl
    replace hS := hS0
    clear hP0 hD0 hS0
    obtain ⟨h_108, k_106, k_107, -⟩ := hw
    replace hE := (hE.trans (Lt2_in k_107)).trans (Lt2_in rfl)
    rw [← hQ]
    have hP9 := hP.sub (ws' := [(cc_O m0 12 [.int 0, .int (u_105.2.2.2.1 0), .ref r0, .ref w0, m_4, m_5, m_6, m_7, .int nu, m_9, m_10, m_11, m_12, m_13, m_14, m_15, m_16, m_17, m_18, m_19, m_20, m_21, m_22, m_23, m_24, m_25, m_26, m_27, m_28, m_29, m_30, m_31, m_32, m_33, m_34, m_35, m_36, m_37, m_38, m_39, m_40, m_41, m_42, m_43, m_44, m_45, m_46, m_47, m_48, m_49, m_50, m_51, m_52, m_53, m_54, m_55, m_56, m_57, m_58, m_59]), (cc_l w0 (K 0) 5500 fw), (cc_l r0 (K 0) 7 (u_105.2.1 0))]) [1, 0, 2] rfl
    have hD9 := sub_D hP9 hD [1, 0, 2] (by decide +kernel) rfl
    exact W.iret (v := r_104) hx hb hr (fun t ht hW => ⟨⟨r_104, ((fun _ => 0, fun i => match i with | 0 => fw | _ => (u_105.2.1 0), fun _ => fun _ => 0, fun i => match i with | 0 => (u_105.2.2.2.1 0) | _ => nu, fun _ => 0, fun _ => fun _ => none) : Su), rfl, ⟨(show (-6) ≤ ((u_105.2.2.2.1 0) : Int32).toInt ∧ ((u_105.2.2.2.1 0) : Int32).toInt ≤ 0 by omega), (show 0 ≤ (nu : Int32).toInt ∧ (nu : Int32).toInt ≤ 16 by omega), zfw, zgr, hE.symm, trivial⟩, (⟨by rw [ht]; exact hP9, hD9⟩ : Wd D A _ t)⟩, hS.F ht⟩) hS.2.2 dX12_terms_18
set_option maxRecDepth 100000 in
noncomputable def E_v_backN_l39 (sta : Int32) (fi : Nat → Int32) (frf : Nat → Int32) (rec_462 : Int32 → (Nat → Int32) → (Int32 × Int32 × Int32 × (Nat → Int32) × (Nat → Int32))) (v_446 : Int32) (f_447 : Nat → Int32) : Int32 × Int32 × Int32 × (Nat → Int32) × (Nat → Int32) :=
  if 5500 ≤ v_446 then (Lt2 (E_v_tell 0 sta frf) (fun r_465 q0_r_465 => Lt2 q0_r_465 (fun u_466_2_2_2_1_0 u_466_2_1_0 => ((r_465, u_466_2_2_2_1_0, 0, f_447, u_466_2_1_0) : Int32 × Int32 × Int32 × (Nat → Int32) × (Nat → Int32))))) else (Lt (0 + v_446 : Int32) (fun x_471 => Lt (fi (x_471 : Int32).toNatClampNeg : Int32) (fun x_472 => Lt (upd f_447 (v_446 : Int32).toNatClampNeg x_472 : Nat → Int32) (fun f_473 => Lt (v_446 + Int32.ofInt 1 : Int32) (fun x_474 => rec_462 x_474 f_473)))))
set_option maxRecDepth 100000 in
noncomputable def E_v_backN_l39a (sta : Int32) (fi : Nat → Int32) (frf : Nat → Int32) (rec_534 : Int32 → (Nat → Int32) → (Int32 × Int32 × Int32 × (Nat → Int32) × (Nat → Int32))) (v_518 : Int32) (f_519 : Nat → Int32) : Int32 × Int32 × Int32 × (Nat → Int32) × (Nat → Int32) :=
  if 5500 ≤ v_518 then (Lt2 (E_v_tell 0 sta frf) (fun r_537 q0_r_537 => Lt2 q0_r_537 (fun u_538_2_2_2_1_0 u_538_2_1_0 => ((r_537, u_538_2_2_2_1_0, 0, f_519, u_538_2_1_0) : Int32 × Int32 × Int32 × (Nat → Int32) × (Nat → Int32))))) else (Lt (5500 + v_518 : Int32) (fun x_543 => Lt (fi (x_543 : Int32).toNatClampNeg : Int32) (fun x_544 => Lt (upd f_519 (v_518 : Int32).toNatClampNeg x_544 : Nat → Int32) (fun f_545 => Lt (v_518 + Int32.ofInt 1 : Int32) (fun x_546 => rec_534 x_546 f_545)))))
set_option maxRecDepth 100000 in
noncomputable def E_v_backN (x : Int32) (thr : Int32) (sta : Int32) (nu : Int32) (fw : Nat → Int32) (fi : Nat → Int32) (fk : Nat → Int32) (frf : Nat → Int32) : Int32 × Int32 × Int32 × (Nat → Int32) × (Nat → Int32) :=
  if x.toInt < 0 then (Lt ((x : Int32).toInt64 : Int64) (fun x_397 => Lt (E_v_in x_397 0 1) (fun r_398 => if r_398 = 1 then (((0, 0, 0, fun _ => 0, fun _ => 0) : Int32 × Int32 × Int32 × (Nat → Int32) × (Nat → Int32))) else (Lt2 (E_v_tell (-1) sta frf) (fun r_404 q0_r_404 => Lt2 q0_r_404 (fun u_405_2_2_2_1_0 u_405_2_1_0 => ((r_404, u_405_2_2_2_1_0, nu, fw, u_405_2_1_0) : Int32 × Int32 × Int32 × (Nat → Int32) × (Nat → Int32)))))))) else (if x.toInt = 0 then (Lt (E_v_in 0 0 1) (fun r_409 => if r_409 = 1 then (Lt (fk (0 : Int32).toNatClampNeg : Int32) (fun x_415 => if x_415 = 0 then (Lt2 (E_v_tell (-2) sta frf) (fun r_476 q0_r_476 => Lt2 q0_r_476 (fun u_477_2_2_2_1_0 u_477_2_1_0 => ((r_476, u_477_2_2_2_1_0, nu, fw, u_477_2_1_0) : Int32 × Int32 × Int32 × (Nat → Int32) × (Nat → Int32))))) else (Lp (α := Int32 → (Nat → Int32) → (Int32 × Int32 × Int32 × (Nat → Int32) × (Nat → Int32))) (E_v_backN_l39 sta fi frf) (fun _ _ => ((0, 0, 0, fun _ => 0, fun _ => 0) : Int32 × Int32 × Int32 × (Nat → Int32) × (Nat → Int32))) ((5501 - (0 : Int32).toInt : Int).toNat + 1) 0 fw))) else (((0, 0, 0, fun _ => 0, fun _ => 0) : Int32 × Int32 × Int32 × (Nat → Int32) × (Nat → Int32))))) else (if x.toInt = 1 then (Lt (E_v_in 1 0 1) (fun r_481 => if r_481 = 1 then (Lt (fk (1 : Int32).toNatClampNeg : Int32) (fun x_487 => if x_487 = 0 then (Lt2 (E_v_tell (-2) sta frf) (fun r_548 q0_r_548 => Lt2 q0_r_548 (fun u_549_2_2_2_1_0 u_549_2_1_0 => ((r_548, u_549_2_2_2_1_0, nu, fw, u_549_2_1_0) : Int32 × Int32 × Int32 × (Nat → Int32) × (Nat → Int32))))) else (Lp (α := Int32 → (Nat → Int32) → (Int32 × Int32 × Int32 × (Nat → Int32) × (Nat → Int32))) (E_v_backN_l39a sta fi frf) (fun _ _ => ((0, 0, 0, fun _ => 0, fun _ => 0) : Int32 × Int32 × Int32 × (Nat → Int32) × (Nat → Int32))) ((5501 - (0 : Int32).toInt : Int).toNat + 1) 0 fw))) else (((0, 0, 0, fun _ => 0, fun _ => 0) : Int32 × Int32 × Int32 × (Nat → Int32) × (Nat → Int32))))) else (Lt ((x : Int32).toInt64 : Int64) (fun x_553 => Lt (E_v_in x_553 0 1) (fun r_554 => if r_554 = 1 then (((0, 0, 0, fun _ => 0, fun _ => 0) : Int32 × Int32 × Int32 × (Nat → Int32) × (Nat → Int32))) else (Lt2 (E_v_tell (-1) sta frf) (fun r_560 q0_r_560 => Lt2 q0_r_560 (fun u_561_2_2_2_1_0 u_561_2_1_0 => ((r_560, u_561_2_2_2_1_0, nu, fw, u_561_2_1_0) : Int32 × Int32 × Int32 × (Nat → Int32) × (Nat → Int32))))))))))
set_option maxHeartbeats 4000000 in
set_option maxRecDepth 100000 in
theorem v_backN (l : Launch) (D : va_G) (K : Nat → ClassId) (m0 : Nat) (x : Int32) (thr : Int32) (sta : Int32) (r0 : Nat) (w0 : Nat) (i0 : Nat) (k0 : Nat) (m_6 : Value) (m_7 : Value) (nu : Int32) (m_9 : Value) (m_10 : Value) (m_11 : Value) (m_12 : Value) (m_13 : Value) (m_14 : Value) (m_15 : Value) (m_16 : Value) (m_17 : Value) (m_18 : Value) (m_19 : Value) (m_20 : Value) (m_21 : Value) (m_22 : Value) (m_23 : Value) (m_24 : Value) (m_25 : Value) (m_26 : Value) (m_27 : Value) (m_28 : Value) (m_29 : Value) (m_30 : Value) (m_31 : Value) (m_32 : Value) (m_33 : Value) (m_34 : Value) (m_35 : Value) (m_36 : Value) (m_37 : Value) (m_38 : Value) (m_39 : Value) (m_40 : Value) (m_41 : Value) (m_42 : Value) (m_43 : Value) (m_44 : Value) (m_45 : Value) (m_46 : Value) (m_47 : Value) (m_48 : Value) (m_49 : Value) (m_50 : Value) (m_51 : Value) (m_52 : Value) (m_53 : Value) (m_54 : Value) (m_55 : Value) (m_56 : Value) (m_57 : Value) (m_58 : Value) (m_59 : Value) (fw : Nat → Int32) (fi : Nat → Int32) (fk : Nat → Int32) (frf : Nat → Int32) (sz : Nat) (znu : 0 ≤ nu.toInt ∧ nu.toInt ≤ 16) (zfw : RwOK fw) (zfi : ImOK fi) : Met l yX12_back wsX12_back ({ frames := 1, cells := 0, slots := 0, locals := 25 }) (va_Pc [.ref m0, .int x] (Pre D K [(cc_O m0 12 [.int thr, .int sta, .ref r0, .ref w0, .ref i0, .ref k0, m_6, m_7, .int nu, m_9, m_10, m_11, m_12, m_13, m_14, m_15, m_16, m_17, m_18, m_19, m_20, m_21, m_22, m_23, m_24, m_25, m_26, m_27, m_28, m_29, m_30, m_31, m_32, m_33, m_34, m_35, m_36, m_37, m_38, m_39, m_40, m_41, m_42, m_43, m_44, m_45, m_46, m_47, m_48, m_49, m_50, m_51, m_52, m_53, m_54, m_55, m_56, m_57, m_58, m_59]), (cc_l w0 (K 0) 5500 fw), (cc_l i0 (K 0) 11000 fi), (cc_l k0 (K 1) 2 fk), (cc_l r0 (K 0) 7 frf)] sz)) (va_Qi (S := Su) (fun (r : Int32) (u : Su) => ((-6) ≤ r.toInt) ∧ ((-6) ≤ (u.2.2.2.1 0).toInt ∧ (u.2.2.2.1 0).toInt ≤ 0) ∧ (0 ≤ (u.2.2.2.1 1).toInt ∧ (u.2.2.2.1 1).toInt ≤ 16) ∧ (RwOK (u.2.1 0)) ∧ ((r, (u.2.2.2.1 0), (u.2.2.2.1 1), (u.2.1 0), (u.2.1 1)) = E_v_backN x thr sta nu fw fi fk frf) ∧ True) (fun u t => Wd D (va_A [(cc_O m0 12 [.int thr, .int sta, .ref r0, .ref w0, .ref i0, .ref k0, m_6, m_7, .int nu, m_9, m_10, m_11, m_12, m_13, m_14, m_15, m_16, m_17, m_18, m_19, m_20, m_21, m_22, m_23, m_24, m_25, m_26, m_27, m_28, m_29, m_30, m_31, m_32, m_33, m_34, m_35, m_36, m_37, m_38, m_39, m_40, m_41, m_42, m_43, m_44, m_45, m_46, m_47, m_48, m_49, m_50, m_51, m_52, m_53, m_54, m_55, m_56, m_57, m_58, m_59]), (cc_l w0 (K 0) 5500 fw), (cc_l i0 (K 0) 11000 fi), (cc_l k0 (K 1) 2 fk), (cc_l r0 (K 0) 7 frf)] sz) ((fun u => [(cc_O m0 12 [.int 0, .int (u.2.2.2.1 0), .ref r0, .ref w0, .ref i0, .ref k0, m_6, m_7, .int (u.2.2.2.1 1), m_9, m_10, m_11, m_12, m_13, m_14, m_15, m_16, m_17, m_18, m_19, m_20, m_21, m_22, m_23, m_24, m_25, m_26, m_27, m_28, m_29, m_30, m_31, m_32, m_33, m_34, m_35, m_36, m_37, m_38, m_39, m_40, m_41, m_42, m_43, m_44, m_45, m_46, m_47, m_48, m_49, m_50, m_51, m_52, m_53, m_54, m_55, m_56, m_57, m_58, m_59]), (cc_l w0 (K 0) 5500 (u.2.1 0)), (cc_l i0 (K 0) 11000 fi), (cc_l k0 (K 1) 2 fk), (cc_l r0 (K 0) 7 (u.2.1 1))]) u) t) (va_A [(cc_O m0 12 [.int thr, .int sta, .ref r0, .ref w0, .ref i0, .ref k0, m_6, m_7, .int nu, m_9, m_10, m_11, m_12, m_13, m_14, m_15, m_16, m_17, m_18, m_19, m_20, m_21, m_22, m_23, m_24, m_25, m_26, m_27, m_28, m_29, m_30, m_31, m_32, m_33, m_34, m_35, m_36, m_37, m_38, m_39, m_40, m_41, m_42, m_43, m_44, m_45, m_46, m_47, m_48, m_49, m_50, m_51, m_52, m_53, m_54, m_55, m_56, m_57, m_58, m_59]), (cc_l w0 (K 0) 5500 fw), (cc_l i0 (K 0) 11000 fi), (cc_l k0 (K 1) 2 fk), (cc_l r0 (K 0) 7 frf)] sz)) 0 0 (va_A [(cc_O m0 12 [.int thr, .int sta, .ref r0, .ref w0, .ref i0, .ref k0, m_6, m_7, .int nu, m_9, m_10, m_11, m_12, m_13, m_14, m_15, m_16, m_17, m_18, m_19, m_20, m_21, m_22, m_23, m_24, m_25, m_26, m_27, m_28, m_29, m_30, m_31, m_32, m_33, m_34, m_35, m_36, m_37, m_38, m_39, m_40, m_41, m_42, m_43, m_44, m_45, m_46, m_47, m_48, m_49, m_50, m_51, m_52, m_53, m_54, m_55, m_56, m_57, m_58, m_59]), (cc_l w0 (K 0) 5500 fw), (cc_l i0 (K 0) 11000 fi), (cc_l k0 (K 1) 2 fk), (cc_l r0 (K 0) 7 frf)] sz) := by
  refine Met.ofW (cc := cX12_back) (maxL := 3) (ret := (some .int)) (by decide +kernel) rfl ?_
  intro p e s m args below meth c s₁ B hml hv
  obtain ⟨rfl, hsz, hP, hK, hD0, hN⟩ := hv
  have hx := B.exec
  have hb := B.bytes
  have hr := B.returns
  have hts := atoms_spec (ws := wsX12_back) B.pre
  have hown : s.vm.findClass RX12 = some m.cls := findClass_of_methodNamed B.named
  have hlocks := B.notSynchronized
  subst hsz
  have hD := hD0.self (sz := s.heap.size)
  generalize hAe : va_A [(cc_O m0 12 [.int thr, .int sta, .ref r0, .ref w0, .ref i0, .ref k0, m_6, m_7, .int nu, m_9, m_10, m_11, m_12, m_13, m_14, m_15, m_16, m_17, m_18, m_19, m_20, m_21, m_22, m_23, m_24, m_25, m_26, m_27, m_28, m_29, m_30, m_31, m_32, m_33, m_34, m_35, m_36, m_37, m_38, m_39, m_40, m_41, m_42, m_43, m_44, m_45, m_46, m_47, m_48, m_49, m_50, m_51, m_52, m_53, m_54, m_55, m_56, m_57, m_58, m_59]), (cc_l w0 (K 0) 5500 fw), (cc_l i0 (K 0) 11000 fi), (cc_l k0 (K 1) 2 fk), (cc_l r0 (K 0) 7 frf)] s.heap.size = A at hD ⊢
  have hA : ∀ q : Nat, s.heap.size ≤ q → A q := fun q h => by rw [← hAe]; exact Or.inr h
  clear hAe
  have hS : va_S A s.heap s.heap [] := va_S.rf
  replace hP : va_P D vwCl [(cc_O m0 12 [.int thr, .int sta, .ref r0, .ref w0, .ref i0, .ref k0, m_6, m_7, .int nu, m_9, m_10, m_11, m_12, m_13, m_14, m_15, m_16, m_17, m_18, m_19, m_20, m_21, m_22, m_23, m_24, m_25, m_26, m_27, m_28, m_29, m_30, m_31, m_32, m_33, m_34, m_35, m_36, m_37, m_38, m_39, m_40, m_41, m_42, m_43, m_44, m_45, m_46, m_47, m_48, m_49, m_50, m_51, m_52, m_53, m_54, m_55, m_56, m_57, m_58, m_59]), (cc_l w0 (K 0) 5500 fw), (cc_l i0 (K 0) 11000 fi), (cc_l k0 (K 1) 2 fk), (cc_l r0 (K 0) 7 frf)] s.heap := hP
  have hl := lv_entry [.ref m0, .int x] (n := 3) (Nat.le_of_ble_eq_true rfl)
  rw [lg_entry_eq]
  generalize (lg_sl [.ref m0, .int x] ++ List.replicate (3 - (lg_sl [.ref m0, .int x]).length) Slot.unset).toArray = ls at hl ⊢
  have hl : lv_has ls 3 [(0, .ref m0), (1, .int x)] := hl
  have hw12 : ∀ w ∈ wsX120, w ∈ wsX12_back := fun w h => (List.mem_cons_of_mem _ (List.mem_append_right _ h))
  generalize hQ : MQ below _ _ s _ _ _ = Q
  have hE := E_v_backN.eq_def x thr sta nu fw fi fk frf
  rcases (show x.toInt < 0 ∨ x.toInt = 0 ∨ x.toInt = 1 ∨ 1 < x.toInt by omega) with hx0 | hx0 | hx0 | hx0
  · replace hE := (hE).trans (if_pos hx0)
    skip
    refine lv_aload_n hx hb dX12_back_0 rfl (lv_at hl 0 rfl) (lv_iconst (v := 0) hx hb dX12_back_1 (by decide +kernel) (va_put (ci := 12) (v := .int 0) (ty := .int) (C := RX12) (T := TX12) (N := 60) hx hb hts hw12 tyX12 tyX12_ok nmX12 hown hK hP hD hS 0 rfl rfl 0 (by decide +kernel) (hts _ mm_X12_back_830) (fun _ h9 => h9) rfl (by decide +kernel) (by first | rfl | decide) (by first | rfl | decide) (Nat.le_of_ble_eq_true rfl) dX12_back_2 (fun H locs hP0 hD0 hS0 => ?_)))
    replace hP : va_P D vwCl [(cc_O m0 12 [.int 0, .int sta, .ref r0, .ref w0, .ref i0, .ref k0, m_6, m_7, .int nu, m_9, m_10, m_11, m_12, m_13, m_14, m_15, m_16, m_17, m_18, m_19, m_20, m_21, m_22, m_23, m_24, m_25, m_26, m_27, m_28, m_29, m_30, m_31, m_32, m_33, m_34, m_35, m_36, m_37, m_38, m_39, m_40, m_41, m_42, m_43, m_44, m_45, m_46, m_47, m_48, m_49, m_50, m_51, m_52, m_53, m_54, m_55, m_56, m_57, m_58, m_59]), (cc_l w0 (K 0) 5500 fw), (cc_l i0 (K 0) 11000 fi), (cc_l k0 (K 1) 2 fk), (cc_l r0 (K 0) 7 frf)] H := hP0
    replace hD := as_D hP hD0 rfl
    replace hS := hS0
    clear hP0 hD0 hS0
    refine lv_iload_n hx hb dX12_back_5 rfl (lv_at hl 1 rfl) (lv_i2l hx hb dX12_back_6 rfl (lv_topl (fun x_397 ex_397 => ?_)))
    replace hE := hE.trans (Lt_in ex_397)
    have hx_397 : x_397.toInt = x.toInt := by rw [ex_397]; exact i_wide rfl
    refine lv_lconst (v := 0) hx hb dX12_back_7 (by decide +kernel) (lv_lconst (v := 1) hx hb dX12_back_8 (by decide +kernel) (pci (va_runS (As := [.long x_397, .long 0, .long 1]) (rest := []) ⟨hx, hb, hml, hown, hts⟩ (v_in l D K x.toInt 0 1 x_397 0 1 H.size hx_397 (show (0 : Int64).toInt = 0 from rfl) (show (1 : Int64).toInt = 1 from rfl)) (va_cwS 3 hts gX12_back_X12_in rfl rfl rfl (by decide +kernel) ⟨Nat.le_of_ble_eq_true rfl, Nat.le_of_ble_eq_true rfl⟩) (mkS hK hN (va_P.nil) (va_D.nil (A := fun _ => True))) rfl rfl hl.1 rfl (lv_room (Nat.le_of_ble_eq_true rfl)) dX12_back_9 ⟨Nat.le_of_ble_eq_true rfl, Nat.le_of_ble_eq_true rfl⟩) (fun r_398 hw => ?_)))
    obtain ⟨hw, k_399, -⟩ := hw
    replace hE := hE.trans (Lt_in k_399)
    rcases hw with ⟨rfl, h_400, h_401⟩ | ⟨rfl, h_402⟩
    · replace hE := (hE).trans (if_pos rfl)
      exfalso; omega
    · replace hE := (hE).trans (if_neg (by first | decide | (intro h9; have h8 := congrArg Int32.toInt h9; omega)))
      refine lv_if_ne (tgt := 21) hx hb dX12_back_12 (by decide +kernel) (fun c_403 => absurd (by decide +kernel) c_403) (fun c_403 => ?_)
      refine lv_aload_n hx hb dX12_back_15 rfl (lv_at hl 0 rfl) (lv_iconst (v := (-1)) hx hb dX12_back_16 (by decide +kernel) (kci (S := Su) (wr := [(cc_l w0 (K 0) 5500 fw), (cc_l i0 (K 0) 11000 fi), (cc_l k0 (K 1) 2 fk)]) (va_runV (As := [.int (-1)]) (rest := []) ⟨hx, hb, hml, hown, hts⟩ (v_tell l D K m0 (-1) (.int 0) sta r0 (.ref w0) (.ref i0) (.ref k0) m_6 m_7 (.int nu) m_9 m_10 m_11 m_12 m_13 m_14 m_15 m_16 m_17 m_18 m_19 m_20 m_21 m_22 m_23 m_24 m_25 m_26 m_27 m_28 m_29 m_30 m_31 m_32 m_33 m_34 m_35 m_36 m_37 m_38 m_39 m_40 m_41 m_42 m_43 m_44 m_45 m_46 m_47 m_48 m_49 m_50 m_51 m_52 m_53 m_54 m_55 m_56 m_57 m_58 m_59 frf H.size (by first | omega | decide)) (cwV 1 hts gX12_back_X12_tell rfl rfl rfl (by decide +kernel) ⟨Nat.le_of_ble_eq_true rfl, Nat.le_of_ble_eq_true rfl⟩) (mkV hK hN (hP.sub [0, 4] rfl) (hD.sub [0, 4] (by decide +kernel) rfl) (ci := 12) (q0 := 0) rfl rfl) rfl rfl hl.1 rfl (lv_room (Nat.le_of_ble_eq_true rfl)) dX12_back_17 ⟨Nat.le_of_ble_eq_true rfl, Nat.le_of_ble_eq_true rfl⟩) hP hD hS hA [0, 4] [1, 2, 3] rfl rfl (by decide +kernel) (by decide +kernel) (fun r_404 u_405 H locs hw hP0 hD0 hS0 => ?_)))
      replace hP : va_P D vwCl [(cc_l w0 (K 0) 5500 fw), (cc_l i0 (K 0) 11000 fi), (cc_l k0 (K 1) 2 fk), (cc_O m0 12 [.int 0, .int (u_405.2.2.2.1 0), .ref r0, .ref w0, .ref i0, .ref k0, m_6, m_7, .int nu, m_9, m_10, m_11, m_12, m_13, m_14, m_15, m_16, m_17, m_18, m_19, m_20, m_21, m_22, m_23, m_24, m_25, m_26, m_27, m_28, m_29, m_30, m_31, m_32, m_33, m_34, m_35, m_36, m_37, m_38, m_39, m_40, m_41, m_42, m_43, m_44, m_45, m_46, m_47, m_48, m_49, m_50, m_51, m_52, m_53, m_54, m_55, m_56, m_57, m_58, m_59]), (cc_l r0 (K 0) 7 (u_405.2.1 0))] H := hP0
      replace hD := as_D hP hD0 rfl
      replace hS := hS0
      clear hP0 hD0 hS0
      obtain ⟨h_408, k_406, k_407, -⟩ := hw
      replace hE := (hE.trans (Lt2_in k_407)).trans (Lt2_in rfl)
      rw [← hQ]
      have hP9 := hP.sub (ws' := [(cc_O m0 12 [.int 0, .int (u_405.2.2.2.1 0), .ref r0, .ref w0, .ref i0, .ref k0, m_6, m_7, .int nu, m_9, m_10, m_11, m_12, m_13, m_14, m_15, m_16, m_17, m_18, m_19, m_20, m_21, m_22, m_23, m_24, m_25, m_26, m_27, m_28, m_29, m_30, m_31, m_32, m_33, m_34, m_35, m_36, m_37, m_38, m_39, m_40, m_41, m_42, m_43, m_44, m_45, m_46, m_47, m_48, m_49, m_50, m_51, m_52, m_53, m_54, m_55, m_56, m_57, m_58, m_59]), (cc_l w0 (K 0) 5500 fw), (cc_l i0 (K 0) 11000 fi), (cc_l k0 (K 1) 2 fk), (cc_l r0 (K 0) 7 (u_405.2.1 0))]) [3, 0, 1, 2, 4] rfl
      have hD9 := sub_D hP9 hD [3, 0, 1, 2, 4] (by decide +kernel) rfl
      exact W.iret (v := r_404) hx hb hr (fun t ht hW => ⟨⟨r_404, ((fun _ => 0, fun i => match i with | 0 => fw | _ => (u_405.2.1 0), fun _ => fun _ => 0, fun i => match i with | 0 => (u_405.2.2.2.1 0) | _ => nu, fun _ => 0, fun _ => fun _ => none) : Su), rfl, ⟨(show (-6) ≤ r_404.toInt by omega), (show (-6) ≤ ((u_405.2.2.2.1 0) : Int32).toInt ∧ ((u_405.2.2.2.1 0) : Int32).toInt ≤ 0 by omega), (show 0 ≤ (nu : Int32).toInt ∧ (nu : Int32).toInt ≤ 16 by omega), zfw, hE.symm, trivial⟩, (⟨by rw [ht]; exact hP9, hD9⟩ : Wd D A _ t)⟩, hS.F ht⟩) hS.2.2 dX12_back_20
  · replace hE := ((hE).trans (if_neg (by omega))).trans (if_pos hx0)
    obtain rfl : x = 0 := i_lit (b := 0) hx0 rfl
    have hl : lv_has ls 3 [(0, .ref m0), (1, .int 0)] := hl
    refine lv_aload_n hx hb dX12_back_0 rfl (lv_at hl 0 rfl) (lv_iconst (v := 0) hx hb dX12_back_1 (by decide +kernel) (va_put (ci := 12) (v := .int 0) (ty := .int) (C := RX12) (T := TX12) (N := 60) hx hb hts hw12 tyX12 tyX12_ok nmX12 hown hK hP hD hS 0 rfl rfl 0 (by decide +kernel) (hts _ mm_X12_back_830) (fun _ h9 => h9) rfl (by decide +kernel) (by first | rfl | decide) (by first | rfl | decide) (Nat.le_of_ble_eq_true rfl) dX12_back_2 (fun H locs hP0 hD0 hS0 => ?_)))
    replace hP : va_P D vwCl [(cc_O m0 12 [.int 0, .int sta, .ref r0, .ref w0, .ref i0, .ref k0, m_6, m_7, .int nu, m_9, m_10, m_11, m_12, m_13, m_14, m_15, m_16, m_17, m_18, m_19, m_20, m_21, m_22, m_23, m_24, m_25, m_26, m_27, m_28, m_29, m_30, m_31, m_32, m_33, m_34, m_35, m_36, m_37, m_38, m_39, m_40, m_41, m_42, m_43, m_44, m_45, m_46, m_47, m_48, m_49, m_50, m_51, m_52, m_53, m_54, m_55, m_56, m_57, m_58, m_59]), (cc_l w0 (K 0) 5500 fw), (cc_l i0 (K 0) 11000 fi), (cc_l k0 (K 1) 2 fk), (cc_l r0 (K 0) 7 frf)] H := hP0
    replace hD := as_D hP hD0 rfl
    replace hS := hS0
    clear hP0 hD0 hS0
    refine lv_iload_n hx hb dX12_back_5 rfl (lv_at hl 1 rfl) (lv_i2l (v := 0) hx hb dX12_back_6 (by decide +kernel) (lv_lconst (v := 0) hx hb dX12_back_7 (by decide +kernel) (lv_lconst (v := 1) hx hb dX12_back_8 (by decide +kernel) (pci (va_runS (As := [.long 0, .long 0, .long 1]) (rest := []) ⟨hx, hb, hml, hown, hts⟩ (v_in l D K 0 0 1 0 0 1 H.size (show (0 : Int64).toInt = 0 from rfl) (show (0 : Int64).toInt = 0 from rfl) (show (1 : Int64).toInt = 1 from rfl)) (va_cwS 3 hts gX12_back_X12_in rfl rfl rfl (by decide +kernel) ⟨Nat.le_of_ble_eq_true rfl, Nat.le_of_ble_eq_true rfl⟩) (mkS hK hN (va_P.nil) (va_D.nil (A := fun _ => True))) rfl rfl hl.1 rfl (lv_room (Nat.le_of_ble_eq_true rfl)) dX12_back_9 ⟨Nat.le_of_ble_eq_true rfl, Nat.le_of_ble_eq_true rfl⟩) (fun r_409 hw => ?_)))))
    obtain ⟨hw, k_410, -⟩ := hw
    replace hE := hE.trans (Lt_in k_410)
    rcases hw with ⟨rfl, h_411, h_412⟩ | ⟨rfl, h_413⟩
    · replace hE := (hE).trans (if_pos rfl)
      refine lv_if_ne (tgt := 21) hx hb dX12_back_12 (by decide +kernel) (fun c_414 => ?_) (fun c_414 => absurd c_414 (by decide +kernel))
      refine lv_aload_n hx hb dX12_back_21 rfl (lv_at hl 0 rfl) (va_get (ci := 12) (v := .ref k0) (C := RX12) (T := TX12) (N := 60) hx hb hts hw12 hown hK hP 0 rfl rfl 5 (by decide +kernel) (hts _ mm_X12_back_835) (fun _ h9 => h9) rfl dX12_back_22 (lv_iload_n hx hb dX12_back_25 rfl (lv_at hl 1 rfl) (va_zald hx hb hK hP 3 1 rfl rfl (i_in (x := 0) rfl (by omega)) dX12_back_26 (lv_topi (fun x_415 ex_415 => ?_)))))
      replace hE := hE.trans (Lt_in ex_415)
      refine lv_if_ne (tgt := 37) hx hb dX12_back_27 (by decide +kernel) (fun c_416 => ?_) (fun c_416 => ?_)
      · have c_416i := i_ne (x := x_415.toInt) (y := 0) rfl rfl c_416
        replace hE := hE.trans (if_neg c_416)
        refine lv_iconst (v := 0) hx hb dX12_back_37 (by decide +kernel) (lv_istore_n (lv' := [(2, .int 0), (0, .ref m0), (1, .int 0)]) hx hb dX12_back_38 rfl hl (by decide +kernel) rfl (fun ls hl => ?_))
        have lp_462 : ∀ (nn_ : Nat) (v_446 : Int32) (f_447 : Nat → Int32) (hv_446 : 0 ≤ v_446.toInt ∧ v_446.toInt ≤ 5500) (hr0_lp_462 : CpV fi f_447 0 (v_446.toInt).toNat) (hn : (5501 - v_446.toInt : Int).toNat < nn_) (hE : E_v_backN 0 thr sta nu fw fi fk frf = Lp (α := Int32 → (Nat → Int32) → (Int32 × Int32 × Int32 × (Nat → Int32) × (Nat → Int32))) (E_v_backN_l39 sta fi frf) (fun _ _ => ((0, 0, 0, fun _ => 0, fun _ => 0) : Int32 × Int32 × Int32 × (Nat → Int32) × (Nat → Int32))) nn_ v_446 f_447) (H : Heap) (locs : List Loc) (hP : va_P D vwCl [(cc_O m0 12 [.int 0, .int sta, .ref r0, .ref w0, .ref i0, .ref k0, m_6, m_7, .int nu, m_9, m_10, m_11, m_12, m_13, m_14, m_15, m_16, m_17, m_18, m_19, m_20, m_21, m_22, m_23, m_24, m_25, m_26, m_27, m_28, m_29, m_30, m_31, m_32, m_33, m_34, m_35, m_36, m_37, m_38, m_39, m_40, m_41, m_42, m_43, m_44, m_45, m_46, m_47, m_48, m_49, m_50, m_51, m_52, m_53, m_54, m_55, m_56, m_57, m_58, m_59]), (cc_l w0 (K 0) 5500 f_447), (cc_l i0 (K 0) 11000 fi), (cc_l k0 (K 1) 2 fk), (cc_l r0 (K 0) 7 frf)] H) (hD : va_D A [(cc_O m0 12 [.int 0, .int sta, .ref r0, .ref w0, .ref i0, .ref k0, m_6, m_7, .int nu, m_9, m_10, m_11, m_12, m_13, m_14, m_15, m_16, m_17, m_18, m_19, m_20, m_21, m_22, m_23, m_24, m_25, m_26, m_27, m_28, m_29, m_30, m_31, m_32, m_33, m_34, m_35, m_36, m_37, m_38, m_39, m_40, m_41, m_42, m_43, m_44, m_45, m_46, m_47, m_48, m_49, m_50, m_51, m_52, m_53, m_54, m_55, m_56, m_57, m_58, m_59]), (cc_l w0 (K 0) 5500 f_447), (cc_l i0 (K 0) 11000 fi), (cc_l k0 (K 1) 2 fk), (cc_l r0 (K 0) 7 frf)]) (hS : va_S A s.heap H locs) (ls : Array Slot) (hl : lv_has ls 3 [(2, .int v_446), (0, .ref m0), (1, .int 0)]), W p l e ({ frames := 1, cells := 0, slots := 0, locals := 25 }) s m (([.ref m0, .int 0] : List Value).toArray) below meth c H locs 0 0 Q (F0 m 39 ls []) := by
          clear hE hP hD hS hl
          intro nn_
          induction nn_ with
          | zero =>
            intro v_446 f_447 hv_446 hr0_lp_462 hn hE H locs hP hD hS ls hl
            exact absurd hn (Nat.not_lt_zero _)
          | succ nn_ ih_463 =>
            intro v_446 f_447 hv_446 hr0_lp_462 hn hE H locs hP hD hS ls hl
            replace hE : E_v_backN 0 thr sta nu fw fi fk frf = E_v_backN_l39 sta fi frf (Lp (α := Int32 → (Nat → Int32) → (Int32 × Int32 × Int32 × (Nat → Int32) × (Nat → Int32))) (E_v_backN_l39 sta fi frf) (fun _ _ => ((0, 0, 0, fun _ => 0, fun _ => 0) : Int32 × Int32 × Int32 × (Nat → Int32) × (Nat → Int32))) nn_) v_446 f_447 := hE
            obtain ⟨rec_462, hrec_462⟩ : ∃ z9, z9 = Lp (α := Int32 → (Nat → Int32) → (Int32 × Int32 × Int32 × (Nat → Int32) × (Nat → Int32))) (E_v_backN_l39 sta fi frf) (fun _ _ => ((0, 0, 0, fun _ => 0, fun _ => 0) : Int32 × Int32 × Int32 × (Nat → Int32) × (Nat → Int32))) nn_ := ⟨_, rfl⟩
            rw [← hrec_462] at hE
            replace hE := hE.trans (E_v_backN_l39.eq_def _ _ _ _ _ _)
            refine lv_iload_n hx hb dX12_back_39 rfl (lv_at hl 0 rfl) (lv_sipush (v := 5500) hx hb dX12_back_40 (by decide +kernel) (lv_icmp_ge (tgt := 70) hx hb dX12_back_43 (by decide +kernel) (fun c_464 => ?_) (fun c_464 => ?_)))
            · have c_464i := i_le (x := 5500) (y := v_446.toInt) rfl rfl c_464
              replace hE := hE.trans (if_pos c_464)
              have hro : RwOK f_447 := CpV.fin0 (by have q := hr0_lp_462; rwa [show (v_446.toInt).toNat = 5500 by omega] at q) zfi
              refine lv_aload_n hx hb dX12_back_70 rfl (lv_at hl 1 rfl) (lv_iconst (v := 0) hx hb dX12_back_71 (by decide +kernel) (va_put (ci := 12) (v := .int 0) (ty := .int) (C := RX12) (T := TX12) (N := 60) hx hb hts hw12 tyX12 tyX12_ok nmX12 hown hK hP hD hS 0 rfl rfl 8 (by decide +kernel) (hts _ mm_X12_back_838) (fun _ h9 => h9) rfl (by decide +kernel) (by first | rfl | decide) (by first | rfl | decide) (Nat.le_of_ble_eq_true rfl) dX12_back_72 (fun H locs hP0 hD0 hS0 => ?_)))
              replace hP : va_P D vwCl [(cc_O m0 12 [.int 0, .int sta, .ref r0, .ref w0, .ref i0, .ref k0, m_6, m_7, .int 0, m_9, m_10, m_11, m_12, m_13, m_14, m_15, m_16, m_17, m_18, m_19, m_20, m_21, m_22, m_23, m_24, m_25, m_26, m_27, m_28, m_29, m_30, m_31, m_32, m_33, m_34, m_35, m_36, m_37, m_38, m_39, m_40, m_41, m_42, m_43, m_44, m_45, m_46, m_47, m_48, m_49, m_50, m_51, m_52, m_53, m_54, m_55, m_56, m_57, m_58, m_59]), (cc_l w0 (K 0) 5500 f_447), (cc_l i0 (K 0) 11000 fi), (cc_l k0 (K 1) 2 fk), (cc_l r0 (K 0) 7 frf)] H := hP0
              replace hD := as_D hP hD0 rfl
              replace hS := hS0
              clear hP0 hD0 hS0
              refine lv_aload_n hx hb dX12_back_75 rfl (lv_at hl 1 rfl) (lv_iconst (v := 0) hx hb dX12_back_76 (by decide +kernel) (kci (S := Su) (wr := [(cc_l w0 (K 0) 5500 f_447), (cc_l i0 (K 0) 11000 fi), (cc_l k0 (K 1) 2 fk)]) (va_runV (As := [.int 0]) (rest := []) ⟨hx, hb, hml, hown, hts⟩ (v_tell l D K m0 0 (.int 0) sta r0 (.ref w0) (.ref i0) (.ref k0) m_6 m_7 (.int 0) m_9 m_10 m_11 m_12 m_13 m_14 m_15 m_16 m_17 m_18 m_19 m_20 m_21 m_22 m_23 m_24 m_25 m_26 m_27 m_28 m_29 m_30 m_31 m_32 m_33 m_34 m_35 m_36 m_37 m_38 m_39 m_40 m_41 m_42 m_43 m_44 m_45 m_46 m_47 m_48 m_49 m_50 m_51 m_52 m_53 m_54 m_55 m_56 m_57 m_58 m_59 frf H.size (by first | omega | decide)) (cwV 1 hts gX12_back_X12_tell rfl rfl rfl (by decide +kernel) ⟨Nat.le_of_ble_eq_true rfl, Nat.le_of_ble_eq_true rfl⟩) (mkV hK hN (hP.sub [0, 4] rfl) (hD.sub [0, 4] (by decide +kernel) rfl) (ci := 12) (q0 := 0) rfl rfl) rfl rfl hl.1 rfl (lv_room (Nat.le_of_ble_eq_true rfl)) dX12_back_77 ⟨Nat.le_of_ble_eq_true rfl, Nat.le_of_ble_eq_true rfl⟩) hP hD hS hA [0, 4] [1, 2, 3] rfl rfl (by decide +kernel) (by decide +kernel) (fun r_465 u_466 H locs hw hP0 hD0 hS0 => ?_)))
              replace hP : va_P D vwCl [(cc_l w0 (K 0) 5500 f_447), (cc_l i0 (K 0) 11000 fi), (cc_l k0 (K 1) 2 fk), (cc_O m0 12 [.int 0, .int (u_466.2.2.2.1 0), .ref r0, .ref w0, .ref i0, .ref k0, m_6, m_7, .int 0, m_9, m_10, m_11, m_12, m_13, m_14, m_15, m_16, m_17, m_18, m_19, m_20, m_21, m_22, m_23, m_24, m_25, m_26, m_27, m_28, m_29, m_30, m_31, m_32, m_33, m_34, m_35, m_36, m_37, m_38, m_39, m_40, m_41, m_42, m_43, m_44, m_45, m_46, m_47, m_48, m_49, m_50, m_51, m_52, m_53, m_54, m_55, m_56, m_57, m_58, m_59]), (cc_l r0 (K 0) 7 (u_466.2.1 0))] H := hP0
              replace hD := as_D hP hD0 rfl
              replace hS := hS0
              clear hP0 hD0 hS0
              obtain ⟨h_469, k_467, k_468, -⟩ := hw
              replace hE := (hE.trans (Lt2_in k_468)).trans (Lt2_in rfl)
              rw [← hQ]
              have hP9 := hP.sub (ws' := [(cc_O m0 12 [.int 0, .int (u_466.2.2.2.1 0), .ref r0, .ref w0, .ref i0, .ref k0, m_6, m_7, .int 0, m_9, m_10, m_11, m_12, m_13, m_14, m_15, m_16, m_17, m_18, m_19, m_20, m_21, m_22, m_23, m_24, m_25, m_26, m_27, m_28, m_29, m_30, m_31, m_32, m_33, m_34, m_35, m_36, m_37, m_38, m_39, m_40, m_41, m_42, m_43, m_44, m_45, m_46, m_47, m_48, m_49, m_50, m_51, m_52, m_53, m_54, m_55, m_56, m_57, m_58, m_59]), (cc_l w0 (K 0) 5500 f_447), (cc_l i0 (K 0) 11000 fi), (cc_l k0 (K 1) 2 fk), (cc_l r0 (K 0) 7 (u_466.2.1 0))]) [3, 0, 1, 2, 4] rfl
              have hD9 := sub_D hP9 hD [3, 0, 1, 2, 4] (by decide +kernel) rfl
              exact W.iret (v := r_465) hx hb hr (fun t ht hW => ⟨⟨r_465, ((fun _ => 0, fun i => match i with | 0 => f_447 | _ => (u_466.2.1 0), fun _ => fun _ => 0, fun i => match i with | 0 => (u_466.2.2.2.1 0) | _ => 0, fun _ => 0, fun _ => fun _ => none) : Su), rfl, ⟨(show (-6) ≤ r_465.toInt by omega), (show (-6) ≤ ((u_466.2.2.2.1 0) : Int32).toInt ∧ ((u_466.2.2.2.1 0) : Int32).toInt ≤ 0 by omega), (show 0 ≤ (0 : Int32).toInt ∧ (0 : Int32).toInt ≤ 16 by decide), hro, hE.symm, trivial⟩, (⟨by rw [ht]; exact hP9, hD9⟩ : Wd D A _ t)⟩, hS.F ht⟩) hS.2.2 dX12_back_80
            · have c_464i := i_nle (x := 5500) (y := v_446.toInt) rfl rfl c_464
              replace hE := hE.trans (if_neg c_464)
              refine lv_aload_n hx hb dX12_back_46 rfl (lv_at hl 1 rfl) (va_get (ci := 12) (v := .ref w0) (C := RX12) (T := TX12) (N := 60) hx hb hts hw12 hown hK hP 0 rfl rfl 3 (by decide +kernel) (hts _ mm_X12_back_833) (fun _ h9 => h9) rfl dX12_back_47 (lv_iload_n hx hb dX12_back_50 rfl (lv_at hl 0 rfl) (lv_aload_n hx hb dX12_back_51 rfl (lv_at hl 1 rfl) (va_get (ci := 12) (v := .ref i0) (C := RX12) (T := TX12) (N := 60) hx hb hts hw12 hown hK hP 0 rfl rfl 4 (by decide +kernel) (hts _ mm_X12_back_834) (fun _ h9 => h9) rfl dX12_back_52 (lv_sipush (v := 5500) hx hb dX12_back_55 (by decide +kernel) (lv_iload_n hx hb dX12_back_58 rfl (lv_at hl 2 rfl) (lv_imul hx hb dX12_back_59 (lv_topi (fun x_470 ex_470 => ?_)))))))))
              obtain rfl : x_470 = 0 := ex_470.trans (by first | rfl | decide)
              refine lv_iload_n hx hb dX12_back_60 rfl (lv_at hl 0 rfl) (lv_iadd hx hb dX12_back_61 (lv_topi (fun x_471 ex_471 => ?_)))
              replace hE := hE.trans (Lt_in ex_471)
              have hx_471 : x_471.toInt = (0 + v_446.toInt) := by rw [ex_471]; exact i_add (show (0 : Int32).toInt = 0 from rfl) rfl (by omega)
              refine va_iald hx hb hK hP 2 0 rfl rfl (i_in hx_471 (by omega)) dX12_back_62 (lv_topi (fun x_472 ex_472 => ?_))
              replace hE := hE.trans (Lt_in ex_472)
              refine va_iast hx hb hK hP hD hS 1 0 rfl rfl (i_in rfl (by omega)) dX12_back_63 (fun H locs hP0 hD0 hS0 => ?_)
              replace hP := hP0
              replace hD := hD0
              replace hS := hS0
              clear hP0 hD0 hS0
              generalize hf_473 : (upd f_447 (v_446 : Int32).toNatClampNeg x_472) = f_473 at hP hD
              replace hE := hE.trans (Lt_in hf_473.symm)
              replace hP : va_P D vwCl [(cc_O m0 12 [.int 0, .int sta, .ref r0, .ref w0, .ref i0, .ref k0, m_6, m_7, .int nu, m_9, m_10, m_11, m_12, m_13, m_14, m_15, m_16, m_17, m_18, m_19, m_20, m_21, m_22, m_23, m_24, m_25, m_26, m_27, m_28, m_29, m_30, m_31, m_32, m_33, m_34, m_35, m_36, m_37, m_38, m_39, m_40, m_41, m_42, m_43, m_44, m_45, m_46, m_47, m_48, m_49, m_50, m_51, m_52, m_53, m_54, m_55, m_56, m_57, m_58, m_59]), (cc_l w0 (K 0) 5500 f_473), (cc_l i0 (K 0) 11000 fi), (cc_l k0 (K 1) 2 fk), (cc_l r0 (K 0) 7 frf)] H := hP
              replace hD := as_D hP hD rfl
              obtain ⟨x_474, ex_474⟩ : ∃ y : Int32, y = v_446 + Int32.ofInt 1 := ⟨_, rfl⟩
              replace hE := hE.trans (Lt_in ex_474)
              have hx_474 : x_474.toInt = (v_446.toInt + 1) := by rw [ex_474]; exact i_add rfl (show (Int32.ofInt 1).toInt = 1 from rfl) (by omega)
              refine lv_iinc (v := x_474) (lv' := [(2, .int x_474), (0, .ref m0), (1, .int 0)]) hx hb dX12_back_64 hl (k := 0) rfl (by rw [ex_474]) (by decide +kernel) rfl (fun ls hl => ?_)
              refine lv_goto (tgt := 39) hx hb dX12_back_67 (by decide +kernel) ?_
              exact ih_463 x_474 f_473 (by rw [hx_474]; omega) (show CpV fi f_473 0 ((x_474 : Int32).toInt).toNat by rw [← hf_473, i_clamp (x := v_446) (z := v_446.toInt) rfl, ex_472, i_clamp (x := x_471) (z := (0 + v_446.toInt)) hx_471, show ((0 + v_446.toInt)).toNat = 0 + (v_446.toInt).toNat by omega, show (x_474 : Int32).toInt.toNat = (v_446.toInt).toNat + 1 by omega]; exact CpV.step hr0_lp_462) (by omega) (hE.trans (by rw [hrec_462])) _ _ hP hD hS ls (lv_sub hl [0, 1, 2] rfl)
        have hz_475 : (0 : Int32).toInt = 0 := rfl
        exact lp_462 ((5501 - (0 : Int32).toInt : Int).toNat + 1) 0 fw (by decide +kernel) (show CpV fi fw 0 ((0 : Int32).toInt).toNat by exact CpV.base) (Nat.lt_succ_self _) hE _ _ hP hD hS ls (lv_sub hl [0, 1, 2] rfl)
      · have c_416i := i_eq (x := x_415.toInt) (y := 0) rfl rfl c_416
        replace hE := hE.trans (if_pos c_416)
        refine lv_aload_n hx hb dX12_back_30 rfl (lv_at hl 0 rfl) (lv_bipush (v := (-2)) hx hb dX12_back_31 (by decide +kernel) (kci (S := Su) (wr := [(cc_l w0 (K 0) 5500 fw), (cc_l i0 (K 0) 11000 fi), (cc_l k0 (K 1) 2 fk)]) (va_runV (As := [.int (-2)]) (rest := []) ⟨hx, hb, hml, hown, hts⟩ (v_tell l D K m0 (-2) (.int 0) sta r0 (.ref w0) (.ref i0) (.ref k0) m_6 m_7 (.int nu) m_9 m_10 m_11 m_12 m_13 m_14 m_15 m_16 m_17 m_18 m_19 m_20 m_21 m_22 m_23 m_24 m_25 m_26 m_27 m_28 m_29 m_30 m_31 m_32 m_33 m_34 m_35 m_36 m_37 m_38 m_39 m_40 m_41 m_42 m_43 m_44 m_45 m_46 m_47 m_48 m_49 m_50 m_51 m_52 m_53 m_54 m_55 m_56 m_57 m_58 m_59 frf H.size (by first | omega | decide)) (cwV 1 hts gX12_back_X12_tell rfl rfl rfl (by decide +kernel) ⟨Nat.le_of_ble_eq_true rfl, Nat.le_of_ble_eq_true rfl⟩) (mkV hK hN (hP.sub [0, 4] rfl) (hD.sub [0, 4] (by decide +kernel) rfl) (ci := 12) (q0 := 0) rfl rfl) rfl rfl hl.1 rfl (lv_room (Nat.le_of_ble_eq_true rfl)) dX12_back_33 ⟨Nat.le_of_ble_eq_true rfl, Nat.le_of_ble_eq_true rfl⟩) hP hD hS hA [0, 4] [1, 2, 3] rfl rfl (by decide +kernel) (by decide +kernel) (fun r_476 u_477 H locs hw hP0 hD0 hS0 => ?_)))
        replace hP : va_P D vwCl [(cc_l w0 (K 0) 5500 fw), (cc_l i0 (K 0) 11000 fi), (cc_l k0 (K 1) 2 fk), (cc_O m0 12 [.int 0, .int (u_477.2.2.2.1 0), .ref r0, .ref w0, .ref i0, .ref k0, m_6, m_7, .int nu, m_9, m_10, m_11, m_12, m_13, m_14, m_15, m_16, m_17, m_18, m_19, m_20, m_21, m_22, m_23, m_24, m_25, m_26, m_27, m_28, m_29, m_30, m_31, m_32, m_33, m_34, m_35, m_36, m_37, m_38, m_39, m_40, m_41, m_42, m_43, m_44, m_45, m_46, m_47, m_48, m_49, m_50, m_51, m_52, m_53, m_54, m_55, m_56, m_57, m_58, m_59]), (cc_l r0 (K 0) 7 (u_477.2.1 0))] H := hP0
        replace hD := as_D hP hD0 rfl
        replace hS := hS0
        clear hP0 hD0 hS0
        obtain ⟨h_480, k_478, k_479, -⟩ := hw
        replace hE := (hE.trans (Lt2_in k_479)).trans (Lt2_in rfl)
        rw [← hQ]
        have hP9 := hP.sub (ws' := [(cc_O m0 12 [.int 0, .int (u_477.2.2.2.1 0), .ref r0, .ref w0, .ref i0, .ref k0, m_6, m_7, .int nu, m_9, m_10, m_11, m_12, m_13, m_14, m_15, m_16, m_17, m_18, m_19, m_20, m_21, m_22, m_23, m_24, m_25, m_26, m_27, m_28, m_29, m_30, m_31, m_32, m_33, m_34, m_35, m_36, m_37, m_38, m_39, m_40, m_41, m_42, m_43, m_44, m_45, m_46, m_47, m_48, m_49, m_50, m_51, m_52, m_53, m_54, m_55, m_56, m_57, m_58, m_59]), (cc_l w0 (K 0) 5500 fw), (cc_l i0 (K 0) 11000 fi), (cc_l k0 (K 1) 2 fk), (cc_l r0 (K 0) 7 (u_477.2.1 0))]) [3, 0, 1, 2, 4] rfl
        have hD9 := sub_D hP9 hD [3, 0, 1, 2, 4] (by decide +kernel) rfl
        exact W.iret (v := r_476) hx hb hr (fun t ht hW => ⟨⟨r_476, ((fun _ => 0, fun i => match i with | 0 => fw | _ => (u_477.2.1 0), fun _ => fun _ => 0, fun i => match i with | 0 => (u_477.2.2.2.1 0) | _ => nu, fun _ => 0, fun _ => fun _ => none) : Su), rfl, ⟨(show (-6) ≤ r_476.toInt by omega), (show (-6) ≤ ((u_477.2.2.2.1 0) : Int32).toInt ∧ ((u_477.2.2.2.1 0) : Int32).toInt ≤ 0 by omega), (show 0 ≤ (nu : Int32).toInt ∧ (nu : Int32).toInt ≤ 16 by omega), zfw, hE.symm, trivial⟩, (⟨by rw [ht]; exact hP9, hD9⟩ : Wd D A _ t)⟩, hS.F ht⟩) hS.2.2 dX12_back_36
    · replace hE := (hE).trans (if_neg (by first | decide | (intro h9; have h8 := congrArg Int32.toInt h9; omega)))
      exfalso; omega
  · replace hE := (((hE).trans (if_neg (by omega))).trans (if_neg (by omega))).trans (if_pos hx0)
    obtain rfl : x = 1 := i_lit (b := 1) hx0 rfl
    have hl : lv_has ls 3 [(0, .ref m0), (1, .int 1)] := hl
    refine lv_aload_n hx hb dX12_back_0 rfl (lv_at hl 0 rfl) (lv_iconst (v := 0) hx hb dX12_back_1 (by decide +kernel) (va_put (ci := 12) (v := .int 0) (ty := .int) (C := RX12) (T := TX12) (N := 60) hx hb hts hw12 tyX12 tyX12_ok nmX12 hown hK hP hD hS 0 rfl rfl 0 (by decide +kernel) (hts _ mm_X12_back_830) (fun _ h9 => h9) rfl (by decide +kernel) (by first | rfl | decide) (by first | rfl | decide) (Nat.le_of_ble_eq_true rfl) dX12_back_2 (fun H locs hP0 hD0 hS0 => ?_)))
    replace hP : va_P D vwCl [(cc_O m0 12 [.int 0, .int sta, .ref r0, .ref w0, .ref i0, .ref k0, m_6, m_7, .int nu, m_9, m_10, m_11, m_12, m_13, m_14, m_15, m_16, m_17, m_18, m_19, m_20, m_21, m_22, m_23, m_24, m_25, m_26, m_27, m_28, m_29, m_30, m_31, m_32, m_33, m_34, m_35, m_36, m_37, m_38, m_39, m_40, m_41, m_42, m_43, m_44, m_45, m_46, m_47, m_48, m_49, m_50, m_51, m_52, m_53, m_54, m_55, m_56, m_57, m_58, m_59]), (cc_l w0 (K 0) 5500 fw), (cc_l i0 (K 0) 11000 fi), (cc_l k0 (K 1) 2 fk), (cc_l r0 (K 0) 7 frf)] H := hP0
    replace hD := as_D hP hD0 rfl
    replace hS := hS0
    clear hP0 hD0 hS0
    refine lv_iload_n hx hb dX12_back_5 rfl (lv_at hl 1 rfl) (lv_i2l (v := 1) hx hb dX12_back_6 (by decide +kernel) (lv_lconst (v := 0) hx hb dX12_back_7 (by decide +kernel) (lv_lconst (v := 1) hx hb dX12_back_8 (by decide +kernel) (pci (va_runS (As := [.long 1, .long 0, .long 1]) (rest := []) ⟨hx, hb, hml, hown, hts⟩ (v_in l D K 1 0 1 1 0 1 H.size (show (1 : Int64).toInt = 1 from rfl) (show (0 : Int64).toInt = 0 from rfl) (show (1 : Int64).toInt = 1 from rfl)) (va_cwS 3 hts gX12_back_X12_in rfl rfl rfl (by decide +kernel) ⟨Nat.le_of_ble_eq_true rfl, Nat.le_of_ble_eq_true rfl⟩) (mkS hK hN (va_P.nil) (va_D.nil (A := fun _ => True))) rfl rfl hl.1 rfl (lv_room (Nat.le_of_ble_eq_true rfl)) dX12_back_9 ⟨Nat.le_of_ble_eq_true rfl, Nat.le_of_ble_eq_true rfl⟩) (fun r_481 hw => ?_)))))
    obtain ⟨hw, k_482, -⟩ := hw
    replace hE := hE.trans (Lt_in k_482)
    rcases hw with ⟨rfl, h_483, h_484⟩ | ⟨rfl, h_485⟩
    · replace hE := (hE).trans (if_pos rfl)
      refine lv_if_ne (tgt := 21) hx hb dX12_back_12 (by decide +kernel) (fun c_486 => ?_) (fun c_486 => absurd c_486 (by decide +kernel))
      refine lv_aload_n hx hb dX12_back_21 rfl (lv_at hl 0 rfl) (va_get (ci := 12) (v := .ref k0) (C := RX12) (T := TX12) (N := 60) hx hb hts hw12 hown hK hP 0 rfl rfl 5 (by decide +kernel) (hts _ mm_X12_back_835) (fun _ h9 => h9) rfl dX12_back_22 (lv_iload_n hx hb dX12_back_25 rfl (lv_at hl 1 rfl) (va_zald hx hb hK hP 3 1 rfl rfl (i_in (x := 1) rfl (by omega)) dX12_back_26 (lv_topi (fun x_487 ex_487 => ?_)))))
      replace hE := hE.trans (Lt_in ex_487)
      refine lv_if_ne (tgt := 37) hx hb dX12_back_27 (by decide +kernel) (fun c_488 => ?_) (fun c_488 => ?_)
      · have c_488i := i_ne (x := x_487.toInt) (y := 0) rfl rfl c_488
        replace hE := hE.trans (if_neg c_488)
        refine lv_iconst (v := 0) hx hb dX12_back_37 (by decide +kernel) (lv_istore_n (lv' := [(2, .int 0), (0, .ref m0), (1, .int 1)]) hx hb dX12_back_38 rfl hl (by decide +kernel) rfl (fun ls hl => ?_))
        have lp_534 : ∀ (nn_ : Nat) (v_518 : Int32) (f_519 : Nat → Int32) (hv_518 : 0 ≤ v_518.toInt ∧ v_518.toInt ≤ 5500) (hr0_lp_534 : CpV fi f_519 5500 (v_518.toInt).toNat) (hn : (5501 - v_518.toInt : Int).toNat < nn_) (hE : E_v_backN 1 thr sta nu fw fi fk frf = Lp (α := Int32 → (Nat → Int32) → (Int32 × Int32 × Int32 × (Nat → Int32) × (Nat → Int32))) (E_v_backN_l39a sta fi frf) (fun _ _ => ((0, 0, 0, fun _ => 0, fun _ => 0) : Int32 × Int32 × Int32 × (Nat → Int32) × (Nat → Int32))) nn_ v_518 f_519) (H : Heap) (locs : List Loc) (hP : va_P D vwCl [(cc_O m0 12 [.int 0, .int sta, .ref r0, .ref w0, .ref i0, .ref k0, m_6, m_7, .int nu, m_9, m_10, m_11, m_12, m_13, m_14, m_15, m_16, m_17, m_18, m_19, m_20, m_21, m_22, m_23, m_24, m_25, m_26, m_27, m_28, m_29, m_30, m_31, m_32, m_33, m_34, m_35, m_36, m_37, m_38, m_39, m_40, m_41, m_42, m_43, m_44, m_45, m_46, m_47, m_48, m_49, m_50, m_51, m_52, m_53, m_54, m_55, m_56, m_57, m_58, m_59]), (cc_l w0 (K 0) 5500 f_519), (cc_l i0 (K 0) 11000 fi), (cc_l k0 (K 1) 2 fk), (cc_l r0 (K 0) 7 frf)] H) (hD : va_D A [(cc_O m0 12 [.int 0, .int sta, .ref r0, .ref w0, .ref i0, .ref k0, m_6, m_7, .int nu, m_9, m_10, m_11, m_12, m_13, m_14, m_15, m_16, m_17, m_18, m_19, m_20, m_21, m_22, m_23, m_24, m_25, m_26, m_27, m_28, m_29, m_30, m_31, m_32, m_33, m_34, m_35, m_36, m_37, m_38, m_39, m_40, m_41, m_42, m_43, m_44, m_45, m_46, m_47, m_48, m_49, m_50, m_51, m_52, m_53, m_54, m_55, m_56, m_57, m_58, m_59]), (cc_l w0 (K 0) 5500 f_519), (cc_l i0 (K 0) 11000 fi), (cc_l k0 (K 1) 2 fk), (cc_l r0 (K 0) 7 frf)]) (hS : va_S A s.heap H locs) (ls : Array Slot) (hl : lv_has ls 3 [(2, .int v_518), (0, .ref m0), (1, .int 1)]), W p l e ({ frames := 1, cells := 0, slots := 0, locals := 25 }) s m (([.ref m0, .int 1] : List Value).toArray) below meth c H locs 0 0 Q (F0 m 39 ls []) := by
          clear hE hP hD hS hl
          intro nn_
          induction nn_ with
          | zero =>
            intro v_518 f_519 hv_518 hr0_lp_534 hn hE H locs hP hD hS ls hl
            exact absurd hn (Nat.not_lt_zero _)
          | succ nn_ ih_535 =>
            intro v_518 f_519 hv_518 hr0_lp_534 hn hE H locs hP hD hS ls hl
            replace hE : E_v_backN 1 thr sta nu fw fi fk frf = E_v_backN_l39a sta fi frf (Lp (α := Int32 → (Nat → Int32) → (Int32 × Int32 × Int32 × (Nat → Int32) × (Nat → Int32))) (E_v_backN_l39a sta fi frf) (fun _ _ => ((0, 0, 0, fun _ => 0, fun _ => 0) : Int32 × Int32 × Int32 × (Nat → Int32) × (Nat → Int32))) nn_) v_518 f_519 := hE
            obtain ⟨rec_534, hrec_534⟩ : ∃ z9, z9 = Lp (α := Int32 → (Nat → Int32) → (Int32 × Int32 × Int32 × (Nat → Int32) × (Nat → Int32))) (E_v_backN_l39a sta fi frf) (fun _ _ => ((0, 0, 0, fun _ => 0, fun _ => 0) : Int32 × Int32 × Int32 × (Nat → Int32) × (Nat → Int32))) nn_ := ⟨_, rfl⟩
            rw [← hrec_534] at hE
            replace hE := hE.trans (E_v_backN_l39a.eq_def _ _ _ _ _ _)
            refine lv_iload_n hx hb dX12_back_39 rfl (lv_at hl 0 rfl) (lv_sipush (v := 5500) hx hb dX12_back_40 (by decide +kernel) (lv_icmp_ge (tgt := 70) hx hb dX12_back_43 (by decide +kernel) (fun c_536 => ?_) (fun c_536 => ?_)))
            · have c_536i := i_le (x := 5500) (y := v_518.toInt) rfl rfl c_536
              replace hE := hE.trans (if_pos c_536)
              have hro : RwOK f_519 := CpV.fin1 (by have q := hr0_lp_534; rwa [show (v_518.toInt).toNat = 5500 by omega] at q) zfi
              refine lv_aload_n hx hb dX12_back_70 rfl (lv_at hl 1 rfl) (lv_iconst (v := 0) hx hb dX12_back_71 (by decide +kernel) (va_put (ci := 12) (v := .int 0) (ty := .int) (C := RX12) (T := TX12) (N := 60) hx hb hts hw12 tyX12 tyX12_ok nmX12 hown hK hP hD hS 0 rfl rfl 8 (by decide +kernel) (hts _ mm_X12_back_838) (fun _ h9 => h9) rfl (by decide +kernel) (by first | rfl | decide) (by first | rfl | decide) (Nat.le_of_ble_eq_true rfl) dX12_back_72 (fun H locs hP0 hD0 hS0 => ?_)))
              replace hP : va_P D vwCl [(cc_O m0 12 [.int 0, .int sta, .ref r0, .ref w0, .ref i0, .ref k0, m_6, m_7, .int 0, m_9, m_10, m_11, m_12, m_13, m_14, m_15, m_16, m_17, m_18, m_19, m_20, m_21, m_22, m_23, m_24, m_25, m_26, m_27, m_28, m_29, m_30, m_31, m_32, m_33, m_34, m_35, m_36, m_37, m_38, m_39, m_40, m_41, m_42, m_43, m_44, m_45, m_46, m_47, m_48, m_49, m_50, m_51, m_52, m_53, m_54, m_55, m_56, m_57, m_58, m_59]), (cc_l w0 (K 0) 5500 f_519), (cc_l i0 (K 0) 11000 fi), (cc_l k0 (K 1) 2 fk), (cc_l r0 (K 0) 7 frf)] H := hP0
              replace hD := as_D hP hD0 rfl
              replace hS := hS0
              clear hP0 hD0 hS0
              refine lv_aload_n hx hb dX12_back_75 rfl (lv_at hl 1 rfl) (lv_iconst (v := 0) hx hb dX12_back_76 (by decide +kernel) (kci (S := Su) (wr := [(cc_l w0 (K 0) 5500 f_519), (cc_l i0 (K 0) 11000 fi), (cc_l k0 (K 1) 2 fk)]) (va_runV (As := [.int 0]) (rest := []) ⟨hx, hb, hml, hown, hts⟩ (v_tell l D K m0 0 (.int 0) sta r0 (.ref w0) (.ref i0) (.ref k0) m_6 m_7 (.int 0) m_9 m_10 m_11 m_12 m_13 m_14 m_15 m_16 m_17 m_18 m_19 m_20 m_21 m_22 m_23 m_24 m_25 m_26 m_27 m_28 m_29 m_30 m_31 m_32 m_33 m_34 m_35 m_36 m_37 m_38 m_39 m_40 m_41 m_42 m_43 m_44 m_45 m_46 m_47 m_48 m_49 m_50 m_51 m_52 m_53 m_54 m_55 m_56 m_57 m_58 m_59 frf H.size (by first | omega | decide)) (cwV 1 hts gX12_back_X12_tell rfl rfl rfl (by decide +kernel) ⟨Nat.le_of_ble_eq_true rfl, Nat.le_of_ble_eq_true rfl⟩) (mkV hK hN (hP.sub [0, 4] rfl) (hD.sub [0, 4] (by decide +kernel) rfl) (ci := 12) (q0 := 0) rfl rfl) rfl rfl hl.1 rfl (lv_room (Nat.le_of_ble_eq_true rfl)) dX12_back_77 ⟨Nat.le_of_ble_eq_true rfl, Nat.le_of_ble_eq_true rfl⟩) hP hD hS hA [0, 4] [1, 2, 3] rfl rfl (by decide +kernel) (by decide +kernel) (fun r_537 u_538 H locs hw hP0 hD0 hS0 => ?_)))
              replace hP : va_P D vwCl [(cc_l w0 (K 0) 5500 f_519), (cc_l i0 (K 0) 11000 fi), (cc_l k0 (K 1) 2 fk), (cc_O m0 12 [.int 0, .int (u_538.2.2.2.1 0), .ref r0, .ref w0, .ref i0, .ref k0, m_6, m_7, .int 0, m_9, m_10, m_11, m_12, m_13, m_14, m_15, m_16, m_17, m_18, m_19, m_20, m_21, m_22, m_23, m_24, m_25, m_26, m_27, m_28, m_29, m_30, m_31, m_32, m_33, m_34, m_35, m_36, m_37, m_38, m_39, m_40, m_41, m_42, m_43, m_44, m_45, m_46, m_47, m_48, m_49, m_50, m_51, m_52, m_53, m_54, m_55, m_56, m_57, m_58, m_59]), (cc_l r0 (K 0) 7 (u_538.2.1 0))] H := hP0
              replace hD := as_D hP hD0 rfl
              replace hS := hS0
              clear hP0 hD0 hS0
              obtain ⟨h_541, k_539, k_540, -⟩ := hw
              replace hE := (hE.trans (Lt2_in k_540)).trans (Lt2_in rfl)
              rw [← hQ]
              have hP9 := hP.sub (ws' := [(cc_O m0 12 [.int 0, .int (u_538.2.2.2.1 0), .ref r0, .ref w0, .ref i0, .ref k0, m_6, m_7, .int 0, m_9, m_10, m_11, m_12, m_13, m_14, m_15, m_16, m_17, m_18, m_19, m_20, m_21, m_22, m_23, m_24, m_25, m_26, m_27, m_28, m_29, m_30, m_31, m_32, m_33, m_34, m_35, m_36, m_37, m_38, m_39, m_40, m_41, m_42, m_43, m_44, m_45, m_46, m_47, m_48, m_49, m_50, m_51, m_52, m_53, m_54, m_55, m_56, m_57, m_58, m_59]), (cc_l w0 (K 0) 5500 f_519), (cc_l i0 (K 0) 11000 fi), (cc_l k0 (K 1) 2 fk), (cc_l r0 (K 0) 7 (u_538.2.1 0))]) [3, 0, 1, 2, 4] rfl
              have hD9 := sub_D hP9 hD [3, 0, 1, 2, 4] (by decide +kernel) rfl
              exact W.iret (v := r_537) hx hb hr (fun t ht hW => ⟨⟨r_537, ((fun _ => 0, fun i => match i with | 0 => f_519 | _ => (u_538.2.1 0), fun _ => fun _ => 0, fun i => match i with | 0 => (u_538.2.2.2.1 0) | _ => 0, fun _ => 0, fun _ => fun _ => none) : Su), rfl, ⟨(show (-6) ≤ r_537.toInt by omega), (show (-6) ≤ ((u_538.2.2.2.1 0) : Int32).toInt ∧ ((u_538.2.2.2.1 0) : Int32).toInt ≤ 0 by omega), (show 0 ≤ (0 : Int32).toInt ∧ (0 : Int32).toInt ≤ 16 by decide), hro, hE.symm, trivial⟩, (⟨by rw [ht]; exact hP9, hD9⟩ : Wd D A _ t)⟩, hS.F ht⟩) hS.2.2 dX12_back_80
            · have c_536i := i_nle (x := 5500) (y := v_518.toInt) rfl rfl c_536
              replace hE := hE.trans (if_neg c_536)
              refine lv_aload_n hx hb dX12_back_46 rfl (lv_at hl 1 rfl) (va_get (ci := 12) (v := .ref w0) (C := RX12) (T := TX12) (N := 60) hx hb hts hw12 hown hK hP 0 rfl rfl 3 (by decide +kernel) (hts _ mm_X12_back_833) (fun _ h9 => h9) rfl dX12_back_47 (lv_iload_n hx hb dX12_back_50 rfl (lv_at hl 0 rfl) (lv_aload_n hx hb dX12_back_51 rfl (lv_at hl 1 rfl) (va_get (ci := 12) (v := .ref i0) (C := RX12) (T := TX12) (N := 60) hx hb hts hw12 hown hK hP 0 rfl rfl 4 (by decide +kernel) (hts _ mm_X12_back_834) (fun _ h9 => h9) rfl dX12_back_52 (lv_sipush (v := 5500) hx hb dX12_back_55 (by decide +kernel) (lv_iload_n hx hb dX12_back_58 rfl (lv_at hl 2 rfl) (lv_imul hx hb dX12_back_59 (lv_topi (fun x_542 ex_542 => ?_)))))))))
              obtain rfl : x_542 = 5500 := ex_542.trans (by first | rfl | decide)
              refine lv_iload_n hx hb dX12_back_60 rfl (lv_at hl 0 rfl) (lv_iadd hx hb dX12_back_61 (lv_topi (fun x_543 ex_543 => ?_)))
              replace hE := hE.trans (Lt_in ex_543)
              have hx_543 : x_543.toInt = (5500 + v_518.toInt) := by rw [ex_543]; exact i_add (show (5500 : Int32).toInt = 5500 from rfl) rfl (by omega)
              refine va_iald hx hb hK hP 2 0 rfl rfl (i_in hx_543 (by omega)) dX12_back_62 (lv_topi (fun x_544 ex_544 => ?_))
              replace hE := hE.trans (Lt_in ex_544)
              refine va_iast hx hb hK hP hD hS 1 0 rfl rfl (i_in rfl (by omega)) dX12_back_63 (fun H locs hP0 hD0 hS0 => ?_)
              replace hP := hP0
              replace hD := hD0
              replace hS := hS0
              clear hP0 hD0 hS0
              generalize hf_545 : (upd f_519 (v_518 : Int32).toNatClampNeg x_544) = f_545 at hP hD
              replace hE := hE.trans (Lt_in hf_545.symm)
              replace hP : va_P D vwCl [(cc_O m0 12 [.int 0, .int sta, .ref r0, .ref w0, .ref i0, .ref k0, m_6, m_7, .int nu, m_9, m_10, m_11, m_12, m_13, m_14, m_15, m_16, m_17, m_18, m_19, m_20, m_21, m_22, m_23, m_24, m_25, m_26, m_27, m_28, m_29, m_30, m_31, m_32, m_33, m_34, m_35, m_36, m_37, m_38, m_39, m_40, m_41, m_42, m_43, m_44, m_45, m_46, m_47, m_48, m_49, m_50, m_51, m_52, m_53, m_54, m_55, m_56, m_57, m_58, m_59]), (cc_l w0 (K 0) 5500 f_545), (cc_l i0 (K 0) 11000 fi), (cc_l k0 (K 1) 2 fk), (cc_l r0 (K 0) 7 frf)] H := hP
              replace hD := as_D hP hD rfl
              obtain ⟨x_546, ex_546⟩ : ∃ y : Int32, y = v_518 + Int32.ofInt 1 := ⟨_, rfl⟩
              replace hE := hE.trans (Lt_in ex_546)
              have hx_546 : x_546.toInt = (v_518.toInt + 1) := by rw [ex_546]; exact i_add rfl (show (Int32.ofInt 1).toInt = 1 from rfl) (by omega)
              refine lv_iinc (v := x_546) (lv' := [(2, .int x_546), (0, .ref m0), (1, .int 1)]) hx hb dX12_back_64 hl (k := 0) rfl (by rw [ex_546]) (by decide +kernel) rfl (fun ls hl => ?_)
              refine lv_goto (tgt := 39) hx hb dX12_back_67 (by decide +kernel) ?_
              exact ih_535 x_546 f_545 (by rw [hx_546]; omega) (show CpV fi f_545 5500 ((x_546 : Int32).toInt).toNat by rw [← hf_545, i_clamp (x := v_518) (z := v_518.toInt) rfl, ex_544, i_clamp (x := x_543) (z := (5500 + v_518.toInt)) hx_543, show ((5500 + v_518.toInt)).toNat = 5500 + (v_518.toInt).toNat by omega, show (x_546 : Int32).toInt.toNat = (v_518.toInt).toNat + 1 by omega]; exact CpV.step hr0_lp_534) (by omega) (hE.trans (by rw [hrec_534])) _ _ hP hD hS ls (lv_sub hl [0, 1, 2] rfl)
        have hz_547 : (0 : Int32).toInt = 0 := rfl
        exact lp_534 ((5501 - (0 : Int32).toInt : Int).toNat + 1) 0 fw (by decide +kernel) (show CpV fi fw 5500 ((0 : Int32).toInt).toNat by exact CpV.base) (Nat.lt_succ_self _) hE _ _ hP hD hS ls (lv_sub hl [0, 1, 2] rfl)
      · have c_488i := i_eq (x := x_487.toInt) (y := 0) rfl rfl c_488
        replace hE := hE.trans (if_pos c_488)
        refine lv_aload_n hx hb dX12_back_30 rfl (lv_at hl 0 rfl) (lv_bipush (v := (-2)) hx hb dX12_back_31 (by decide +kernel) (kci (S := Su) (wr := [(cc_l w0 (K 0) 5500 fw), (cc_l i0 (K 0) 11000 fi), (cc_l k0 (K 1) 2 fk)]) (va_runV (As := [.int (-2)]) (rest := []) ⟨hx, hb, hml, hown, hts⟩ (v_tell l D K m0 (-2) (.int 0) sta r0 (.ref w0) (.ref i0) (.ref k0) m_6 m_7 (.int nu) m_9 m_10 m_11 m_12 m_13 m_14 m_15 m_16 m_17 m_18 m_19 m_20 m_21 m_22 m_23 m_24 m_25 m_26 m_27 m_28 m_29 m_30 m_31 m_32 m_33 m_34 m_35 m_36 m_37 m_38 m_39 m_40 m_41 m_42 m_43 m_44 m_45 m_46 m_47 m_48 m_49 m_50 m_51 m_52 m_53 m_54 m_55 m_56 m_57 m_58 m_59 frf H.size (by first | omega | decide)) (cwV 1 hts gX12_back_X12_tell rfl rfl rfl (by decide +kernel) ⟨Nat.le_of_ble_eq_true rfl, Nat.le_of_ble_eq_true rfl⟩) (mkV hK hN (hP.sub [0, 4] rfl) (hD.sub [0, 4] (by decide +kernel) rfl) (ci := 12) (q0 := 0) rfl rfl) rfl rfl hl.1 rfl (lv_room (Nat.le_of_ble_eq_true rfl)) dX12_back_33 ⟨Nat.le_of_ble_eq_true rfl, Nat.le_of_ble_eq_true rfl⟩) hP hD hS hA [0, 4] [1, 2, 3] rfl rfl (by decide +kernel) (by decide +kernel) (fun r_548 u_549 H locs hw hP0 hD0 hS0 => ?_)))
        replace hP : va_P D vwCl [(cc_l w0 (K 0) 5500 fw), (cc_l i0 (K 0) 11000 fi), (cc_l k0 (K 1) 2 fk), (cc_O m0 12 [.int 0, .int (u_549.2.2.2.1 0), .ref r0, .ref w0, .ref i0, .ref k0, m_6, m_7, .int nu, m_9, m_10, m_11, m_12, m_13, m_14, m_15, m_16, m_17, m_18, m_19, m_20, m_21, m_22, m_23, m_24, m_25, m_26, m_27, m_28, m_29, m_30, m_31, m_32, m_33, m_34, m_35, m_36, m_37, m_38, m_39, m_40, m_41, m_42, m_43, m_44, m_45, m_46, m_47, m_48, m_49, m_50, m_51, m_52, m_53, m_54, m_55, m_56, m_57, m_58, m_59]), (cc_l r0 (K 0) 7 (u_549.2.1 0))] H := hP0
        replace hD := as_D hP hD0 rfl
        replace hS := hS0
        clear hP0 hD0 hS0
        obtain ⟨h_552, k_550, k_551, -⟩ := hw
        replace hE := (hE.trans (Lt2_in k_551)).trans (Lt2_in rfl)
        rw [← hQ]
        have hP9 := hP.sub (ws' := [(cc_O m0 12 [.int 0, .int (u_549.2.2.2.1 0), .ref r0, .ref w0, .ref i0, .ref k0, m_6, m_7, .int nu, m_9, m_10, m_11, m_12, m_13, m_14, m_15, m_16, m_17, m_18, m_19, m_20, m_21, m_22, m_23, m_24, m_25, m_26, m_27, m_28, m_29, m_30, m_31, m_32, m_33, m_34, m_35, m_36, m_37, m_38, m_39, m_40, m_41, m_42, m_43, m_44, m_45, m_46, m_47, m_48, m_49, m_50, m_51, m_52, m_53, m_54, m_55, m_56, m_57, m_58, m_59]), (cc_l w0 (K 0) 5500 fw), (cc_l i0 (K 0) 11000 fi), (cc_l k0 (K 1) 2 fk), (cc_l r0 (K 0) 7 (u_549.2.1 0))]) [3, 0, 1, 2, 4] rfl
        have hD9 := sub_D hP9 hD [3, 0, 1, 2, 4] (by decide +kernel) rfl
        exact W.iret (v := r_548) hx hb hr (fun t ht hW => ⟨⟨r_548, ((fun _ => 0, fun i => match i with | 0 => fw | _ => (u_549.2.1 0), fun _ => fun _ => 0, fun i => match i with | 0 => (u_549.2.2.2.1 0) | _ => nu, fun _ => 0, fun _ => fun _ => none) : Su), rfl, ⟨(show (-6) ≤ r_548.toInt by omega), (show (-6) ≤ ((u_549.2.2.2.1 0) : Int32).toInt ∧ ((u_549.2.2.2.1 0) : Int32).toInt ≤ 0 by omega), (show 0 ≤ (nu : Int32).toInt ∧ (nu : Int32).toInt ≤ 16 by omega), zfw, hE.symm, trivial⟩, (⟨by rw [ht]; exact hP9, hD9⟩ : Wd D A _ t)⟩, hS.F ht⟩) hS.2.2 dX12_back_36
    · replace hE := (hE).trans (if_neg (by first | decide | (intro h9; have h8 := congrArg Int32.toInt h9; omega)))
      exfalso; omega
  · replace hE := (((hE).trans (if_neg (by omega))).trans (if_neg (by omega))).trans (if_neg (by omega))
    skip
    refine lv_aload_n hx hb dX12_back_0 rfl (lv_at hl 0 rfl) (lv_iconst (v := 0) hx hb dX12_back_1 (by decide +kernel) (va_put (ci := 12) (v := .int 0) (ty := .int) (C := RX12) (T := TX12) (N := 60) hx hb hts hw12 tyX12 tyX12_ok nmX12 hown hK hP hD hS 0 rfl rfl 0 (by decide +kernel) (hts _ mm_X12_back_830) (fun _ h9 => h9) rfl (by decide +kernel) (by first | rfl | decide) (by first | rfl | decide) (Nat.le_of_ble_eq_true rfl) dX12_back_2 (fun H locs hP0 hD0 hS0 => ?_)))
    replace hP : va_P D vwCl [(cc_O m0 12 [.int 0, .int sta, .ref r0, .ref w0, .ref i0, .ref k0, m_6, m_7, .int nu, m_9, m_10, m_11, m_12, m_13, m_14, m_15, m_16, m_17, m_18, m_19, m_20, m_21, m_22, m_23, m_24, m_25, m_26, m_27, m_28, m_29, m_30, m_31, m_32, m_33, m_34, m_35, m_36, m_37, m_38, m_39, m_40, m_41, m_42, m_43, m_44, m_45, m_46, m_47, m_48, m_49, m_50, m_51, m_52, m_53, m_54, m_55, m_56, m_57, m_58, m_59]), (cc_l w0 (K 0) 5500 fw), (cc_l i0 (K 0) 11000 fi), (cc_l k0 (K 1) 2 fk), (cc_l r0 (K 0) 7 frf)] H := hP0
    replace hD := as_D hP hD0 rfl
    replace hS := hS0
    clear hP0 hD0 hS0
    refine lv_iload_n hx hb dX12_back_5 rfl (lv_at hl 1 rfl) (lv_i2l hx hb dX12_back_6 rfl (lv_topl (fun x_553 ex_553 => ?_)))
    replace hE := hE.trans (Lt_in ex_553)
    have hx_553 : x_553.toInt = x.toInt := by rw [ex_553]; exact i_wide rfl
    refine lv_lconst (v := 0) hx hb dX12_back_7 (by decide +kernel) (lv_lconst (v := 1) hx hb dX12_back_8 (by decide +kernel) (pci (va_runS (As := [.long x_553, .long 0, .long 1]) (rest := []) ⟨hx, hb, hml, hown, hts⟩ (v_in l D K x.toInt 0 1 x_553 0 1 H.size hx_553 (show (0 : Int64).toInt = 0 from rfl) (show (1 : Int64).toInt = 1 from rfl)) (va_cwS 3 hts gX12_back_X12_in rfl rfl rfl (by decide +kernel) ⟨Nat.le_of_ble_eq_true rfl, Nat.le_of_ble_eq_true rfl⟩) (mkS hK hN (va_P.nil) (va_D.nil (A := fun _ => True))) rfl rfl hl.1 rfl (lv_room (Nat.le_of_ble_eq_true rfl)) dX12_back_9 ⟨Nat.le_of_ble_eq_true rfl, Nat.le_of_ble_eq_true rfl⟩) (fun r_554 hw => ?_)))
    obtain ⟨hw, k_555, -⟩ := hw
    replace hE := hE.trans (Lt_in k_555)
    rcases hw with ⟨rfl, h_556, h_557⟩ | ⟨rfl, h_558⟩
    · replace hE := (hE).trans (if_pos rfl)
      exfalso; omega
    · replace hE := (hE).trans (if_neg (by first | decide | (intro h9; have h8 := congrArg Int32.toInt h9; omega)))
      refine lv_if_ne (tgt := 21) hx hb dX12_back_12 (by decide +kernel) (fun c_559 => absurd (by decide +kernel) c_559) (fun c_559 => ?_)
      refine lv_aload_n hx hb dX12_back_15 rfl (lv_at hl 0 rfl) (lv_iconst (v := (-1)) hx hb dX12_back_16 (by decide +kernel) (kci (S := Su) (wr := [(cc_l w0 (K 0) 5500 fw), (cc_l i0 (K 0) 11000 fi), (cc_l k0 (K 1) 2 fk)]) (va_runV (As := [.int (-1)]) (rest := []) ⟨hx, hb, hml, hown, hts⟩ (v_tell l D K m0 (-1) (.int 0) sta r0 (.ref w0) (.ref i0) (.ref k0) m_6 m_7 (.int nu) m_9 m_10 m_11 m_12 m_13 m_14 m_15 m_16 m_17 m_18 m_19 m_20 m_21 m_22 m_23 m_24 m_25 m_26 m_27 m_28 m_29 m_30 m_31 m_32 m_33 m_34 m_35 m_36 m_37 m_38 m_39 m_40 m_41 m_42 m_43 m_44 m_45 m_46 m_47 m_48 m_49 m_50 m_51 m_52 m_53 m_54 m_55 m_56 m_57 m_58 m_59 frf H.size (by first | omega | decide)) (cwV 1 hts gX12_back_X12_tell rfl rfl rfl (by decide +kernel) ⟨Nat.le_of_ble_eq_true rfl, Nat.le_of_ble_eq_true rfl⟩) (mkV hK hN (hP.sub [0, 4] rfl) (hD.sub [0, 4] (by decide +kernel) rfl) (ci := 12) (q0 := 0) rfl rfl) rfl rfl hl.1 rfl (lv_room (Nat.le_of_ble_eq_true rfl)) dX12_back_17 ⟨Nat.le_of_ble_eq_true rfl, Nat.le_of_ble_eq_true rfl⟩) hP hD hS hA [0, 4] [1, 2, 3] rfl rfl (by decide +kernel) (by decide +kernel) (fun r_560 u_561 H locs hw hP0 hD0 hS0 => ?_)))
      replace hP : va_P D vwCl [(cc_l w0 (K 0) 5500 fw), (cc_l i0 (K 0) 11000 fi), (cc_l k0 (K 1) 2 fk), (cc_O m0 12 [.int 0, .int (u_561.2.2.2.1 0), .ref r0, .ref w0, .ref i0, .ref k0, m_6, m_7, .int nu, m_9, m_10, m_11, m_12, m_13, m_14, m_15, m_16, m_17, m_18, m_19, m_20, m_21, m_22, m_23, m_24, m_25, m_26, m_27, m_28, m_29, m_30, m_31, m_32, m_33, m_34, m_35, m_36, m_37, m_38, m_39, m_40, m_41, m_42, m_43, m_44, m_45, m_46, m_47, m_48, m_49, m_50, m_51, m_52, m_53, m_54, m_55, m_56, m_57, m_58, m_59]), (cc_l r0 (K 0) 7 (u_561.2.1 0))] H := hP0
      replace hD := as_D hP hD0 rfl
      replace hS := hS0
      clear hP0 hD0 hS0
      obtain ⟨h_564, k_562, k_563, -⟩ := hw
      replace hE := (hE.trans (Lt2_in k_563)).trans (Lt2_in rfl)
      rw [← hQ]
      have hP9 := hP.sub (ws' := [(cc_O m0 12 [.int 0, .int (u_561.2.2.2.1 0), .ref r0, .ref w0, .ref i0, .ref k0, m_6, m_7, .int nu, m_9, m_10, m_11, m_12, m_13, m_14, m_15, m_16, m_17, m_18, m_19, m_20, m_21, m_22, m_23, m_24, m_25, m_26, m_27, m_28, m_29, m_30, m_31, m_32, m_33, m_34, m_35, m_36, m_37, m_38, m_39, m_40, m_41, m_42, m_43, m_44, m_45, m_46, m_47, m_48, m_49, m_50, m_51, m_52, m_53, m_54, m_55, m_56, m_57, m_58, m_59]), (cc_l w0 (K 0) 5500 fw), (cc_l i0 (K 0) 11000 fi), (cc_l k0 (K 1) 2 fk), (cc_l r0 (K 0) 7 (u_561.2.1 0))]) [3, 0, 1, 2, 4] rfl
      have hD9 := sub_D hP9 hD [3, 0, 1, 2, 4] (by decide +kernel) rfl
      exact W.iret (v := r_560) hx hb hr (fun t ht hW => ⟨⟨r_560, ((fun _ => 0, fun i => match i with | 0 => fw | _ => (u_561.2.1 0), fun _ => fun _ => 0, fun i => match i with | 0 => (u_561.2.2.2.1 0) | _ => nu, fun _ => 0, fun _ => fun _ => none) : Su), rfl, ⟨(show (-6) ≤ r_560.toInt by omega), (show (-6) ≤ ((u_561.2.2.2.1 0) : Int32).toInt ∧ ((u_561.2.2.2.1 0) : Int32).toInt ≤ 0 by omega), (show 0 ≤ (nu : Int32).toInt ∧ (nu : Int32).toInt ≤ 16 by omega), zfw, hE.symm, trivial⟩, (⟨by rw [ht]; exact hP9, hD9⟩ : Wd D A _ t)⟩, hS.F ht⟩) hS.2.2 dX12_back_20
