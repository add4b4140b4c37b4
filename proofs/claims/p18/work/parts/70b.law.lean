theorem BX7_init_0 : bsegs (ByteArray.data cX7_init |>.toList.drop 0) 0 [(0, [42]), (1, [183, 0, 3]), (4, [42]), (5, [43]), (6, [181, 0, 9]), (9, [42]), (10, [44]), (11, [181, 0, 15]), (14, [42]), (15, [29]), (16, [181, 0, 18]), (19, [42]), (20, [44]), (21, [190]), (22, [181, 0, 22]), (25, [177])] = true := by decide +kernel
theorem dX7_init_0 : decode cX7_init 0 = .ok (.aload_n 0, 1) := dk_42 (bs_at BX7_init_0 0 rfl)
theorem dX7_init_1 : decode cX7_init 1 = .ok (.invokespecial 3, 3) := dk_183 0 3 (bs_at BX7_init_0 1 rfl) rfl
theorem dX7_init_4 : decode cX7_init 4 = .ok (.aload_n 0, 1) := dk_42 (bs_at BX7_init_0 2 rfl)
theorem dX7_init_5 : decode cX7_init 5 = .ok (.aload_n 1, 1) := dk_43 (bs_at BX7_init_0 3 rfl)
theorem dX7_init_6 : decode cX7_init 6 = .ok (.putfield 9, 3) := dk_181 0 9 (bs_at BX7_init_0 4 rfl) rfl
theorem dX7_init_9 : decode cX7_init 9 = .ok (.aload_n 0, 1) := dk_42 (bs_at BX7_init_0 5 rfl)
theorem dX7_init_10 : decode cX7_init 10 = .ok (.aload_n 2, 1) := dk_44 (bs_at BX7_init_0 6 rfl)
theorem dX7_init_11 : decode cX7_init 11 = .ok (.putfield 15, 3) := dk_181 0 15 (bs_at BX7_init_0 7 rfl) rfl
theorem dX7_init_14 : decode cX7_init 14 = .ok (.aload_n 0, 1) := dk_42 (bs_at BX7_init_0 8 rfl)
theorem dX7_init_15 : decode cX7_init 15 = .ok (.iload_n 3, 1) := dk_29 (bs_at BX7_init_0 9 rfl)
theorem dX7_init_16 : decode cX7_init 16 = .ok (.putfield 18, 3) := dk_181 0 18 (bs_at BX7_init_0 10 rfl) rfl
theorem dX7_init_19 : decode cX7_init 19 = .ok (.aload_n 0, 1) := dk_42 (bs_at BX7_init_0 11 rfl)
theorem dX7_init_20 : decode cX7_init 20 = .ok (.aload_n 2, 1) := dk_44 (bs_at BX7_init_0 12 rfl)
theorem dX7_init_21 : decode cX7_init 21 = .ok (.arraylength, 1) := dk_190 (bs_at BX7_init_0 13 rfl)
theorem dX7_init_22 : decode cX7_init 22 = .ok (.putfield 22, 3) := dk_181 0 22 (bs_at BX7_init_0 14 rfl) rfl
theorem dX7_init_25 : decode cX7_init 25 = .ok (.return_, 1) := dk_177 (bs_at BX7_init_0 15 rfl)
theorem BX7_trimmed_0 : bsegs (ByteArray.data cX7_trimmed |>.toList.drop 0) 0 [(0, [187, 0, 10]), (3, [89]), (4, [42]), (5, [180, 0, 9]), (8, [42]), (9, [180, 0, 18]), (12, [8]), (13, [104]), (14, [184, 0, 25]), (17, [42]), (18, [180, 0, 15]), (21, [42]), (22, [180, 0, 22]), (25, [184, 0, 25]), (28, [42]), (29, [180, 0, 18]), (32, [183, 0, 31]), (35, [176])] = true := by decide +kernel
theorem dX7_trimmed_0 : decode cX7_trimmed 0 = .ok (.new 10, 3) := dk_187 0 10 (bs_at BX7_trimmed_0 0 rfl) rfl
theorem dX7_trimmed_3 : decode cX7_trimmed 3 = .ok (.dup, 1) := dk_89 (bs_at BX7_trimmed_0 1 rfl)
theorem dX7_trimmed_4 : decode cX7_trimmed 4 = .ok (.aload_n 0, 1) := dk_42 (bs_at BX7_trimmed_0 2 rfl)
theorem dX7_trimmed_5 : decode cX7_trimmed 5 = .ok (.getfield 9, 3) := dk_180 0 9 (bs_at BX7_trimmed_0 3 rfl) rfl
theorem dX7_trimmed_8 : decode cX7_trimmed 8 = .ok (.aload_n 0, 1) := dk_42 (bs_at BX7_trimmed_0 4 rfl)
theorem dX7_trimmed_9 : decode cX7_trimmed 9 = .ok (.getfield 18, 3) := dk_180 0 18 (bs_at BX7_trimmed_0 5 rfl) rfl
theorem dX7_trimmed_12 : decode cX7_trimmed 12 = .ok (.iconst 5, 1) := dk_8 (bs_at BX7_trimmed_0 6 rfl)
theorem dX7_trimmed_13 : decode cX7_trimmed 13 = .ok (.imul, 1) := dk_104 (bs_at BX7_trimmed_0 7 rfl)
theorem dX7_trimmed_14 : decode cX7_trimmed 14 = .ok (.invokestatic 25, 3) := dk_184 0 25 (bs_at BX7_trimmed_0 8 rfl) rfl
theorem dX7_trimmed_17 : decode cX7_trimmed 17 = .ok (.aload_n 0, 1) := dk_42 (bs_at BX7_trimmed_0 9 rfl)
theorem dX7_trimmed_18 : decode cX7_trimmed 18 = .ok (.getfield 15, 3) := dk_180 0 15 (bs_at BX7_trimmed_0 10 rfl) rfl
theorem dX7_trimmed_21 : decode cX7_trimmed 21 = .ok (.aload_n 0, 1) := dk_42 (bs_at BX7_trimmed_0 11 rfl)
theorem dX7_trimmed_22 : decode cX7_trimmed 22 = .ok (.getfield 22, 3) := dk_180 0 22 (bs_at BX7_trimmed_0 12 rfl) rfl
theorem dX7_trimmed_25 : decode cX7_trimmed 25 = .ok (.invokestatic 25, 3) := dk_184 0 25 (bs_at BX7_trimmed_0 13 rfl) rfl
theorem dX7_trimmed_28 : decode cX7_trimmed 28 = .ok (.aload_n 0, 1) := dk_42 (bs_at BX7_trimmed_0 14 rfl)
theorem dX7_trimmed_29 : decode cX7_trimmed 29 = .ok (.getfield 18, 3) := dk_180 0 18 (bs_at BX7_trimmed_0 15 rfl) rfl
theorem dX7_trimmed_32 : decode cX7_trimmed 32 = .ok (.invokespecial 31, 3) := dk_183 0 31 (bs_at BX7_trimmed_0 16 rfl) rfl
theorem dX7_trimmed_35 : decode cX7_trimmed 35 = .ok (.areturn, 1) := dk_176 (bs_at BX7_trimmed_0 17 rfl)
theorem BX9_enact_0 : bsegs (ByteArray.data cX9_enact |>.toList.drop 0) 0 [(0, [42]), (1, [180, 0, 31]), (4, [16, 6]), (6, [161, 0, 5]), (11, [42]), (12, [180, 0, 23]), (15, [42]), (16, [180, 0, 31]), (19, [43]), (20, [83]), (21, [42]), (22, [89]), (23, [180, 0, 31]), (26, [4]), (27, [96]), (28, [181, 0, 31]), (31, [42]), (32, [180, 0, 31]), (35, [4]), (36, [100]), (37, [172])] = true := by decide +kernel
theorem dX9_enact_0 : decode cX9_enact 0 = .ok (.aload_n 0, 1) := dk_42 (bs_at BX9_enact_0 0 rfl)
theorem dX9_enact_1 : decode cX9_enact 1 = .ok (.getfield 31, 3) := dk_180 0 31 (bs_at BX9_enact_0 1 rfl) rfl
theorem dX9_enact_4 : decode cX9_enact 4 = .ok (.bipush 6, 2) := dk_16 6 (bs_at BX9_enact_0 2 rfl) rfl
theorem dX9_enact_6 : decode cX9_enact 6 = .ok (.if_icmp .lt 5, 3) := dk_161 0 5 (bs_at BX9_enact_0 3 rfl) rfl
theorem dX9_enact_11 : decode cX9_enact 11 = .ok (.aload_n 0, 1) := dk_42 (bs_at BX9_enact_0 4 rfl)
theorem dX9_enact_12 : decode cX9_enact 12 = .ok (.getfield 23, 3) := dk_180 0 23 (bs_at BX9_enact_0 5 rfl) rfl
theorem dX9_enact_15 : decode cX9_enact 15 = .ok (.aload_n 0, 1) := dk_42 (bs_at BX9_enact_0 6 rfl)
theorem dX9_enact_16 : decode cX9_enact 16 = .ok (.getfield 31, 3) := dk_180 0 31 (bs_at BX9_enact_0 7 rfl) rfl
theorem dX9_enact_19 : decode cX9_enact 19 = .ok (.aload_n 1, 1) := dk_43 (bs_at BX9_enact_0 8 rfl)
theorem dX9_enact_20 : decode cX9_enact 20 = .ok (.aastore, 1) := dk_83 (bs_at BX9_enact_0 9 rfl)
theorem dX9_enact_21 : decode cX9_enact 21 = .ok (.aload_n 0, 1) := dk_42 (bs_at BX9_enact_0 10 rfl)
theorem dX9_enact_22 : decode cX9_enact 22 = .ok (.dup, 1) := dk_89 (bs_at BX9_enact_0 11 rfl)
theorem dX9_enact_23 : decode cX9_enact 23 = .ok (.getfield 31, 3) := dk_180 0 31 (bs_at BX9_enact_0 12 rfl) rfl
theorem dX9_enact_26 : decode cX9_enact 26 = .ok (.iconst 1, 1) := dk_4 (bs_at BX9_enact_0 13 rfl)
theorem dX9_enact_27 : decode cX9_enact 27 = .ok (.iadd, 1) := dk_96 (bs_at BX9_enact_0 14 rfl)
theorem dX9_enact_28 : decode cX9_enact 28 = .ok (.putfield 31, 3) := dk_181 0 31 (bs_at BX9_enact_0 15 rfl) rfl
theorem dX9_enact_31 : decode cX9_enact 31 = .ok (.aload_n 0, 1) := dk_42 (bs_at BX9_enact_0 16 rfl)
theorem dX9_enact_32 : decode cX9_enact 32 = .ok (.getfield 31, 3) := dk_180 0 31 (bs_at BX9_enact_0 17 rfl) rfl
theorem dX9_enact_35 : decode cX9_enact 35 = .ok (.iconst 1, 1) := dk_4 (bs_at BX9_enact_0 18 rfl)
theorem dX9_enact_36 : decode cX9_enact 36 = .ok (.isub, 1) := dk_100 (bs_at BX9_enact_0 19 rfl)
theorem dX9_enact_37 : decode cX9_enact 37 = .ok (.ireturn, 1) := dk_172 (bs_at BX9_enact_0 20 rfl)
theorem ggX7_trimmed_J7_copyOf_59c91 : GoodIn wsX7_trimmed wsJ7_copyOf_59c91 := gi_ch ch_X7_trimmed ch_J7_copyOf_59c91 (by decide +kernel)
theorem gX7_trimmed_J7_copyOf_59c91 : GoodIn wsX7_trimmed (va_wsS RX7 25 yJ7_copyOf_59c91 wsJ7_copyOf_59c91) := gi_ch ch_X7_trimmed (ch_s [559, 560, 162] rfl ch_J7_copyOf_59c91) (by decide +kernel)
theorem ggX7_trimmed_X7_init : GoodIn wsX7_trimmed wsX7_init := gi_ch ch_X7_trimmed ch_X7_init (by decide +kernel)
set_option maxRecDepth 20000 in
theorem gX7_trimmed_X7_init : GoodIn wsX7_trimmed (wsX7_init) := ggX7_trimmed_X7_init
set_option maxRecDepth 100000 in
noncomputable def E_w_sinit (cl : Int32) (nc : Nat) (fc : Nat → Int32) : Int32 :=
  ((nI nc) : Int32)
set_option maxHeartbeats 4000000 in
set_option maxRecDepth 100000 in
theorem w_sinit (l : Launch) (D : va_G) (K : Nat → ClassId) (q0 : Nat) (h0 : Nat) (c0 : Nat) (cl : Int32) (nc : Nat) (fc : Nat → Int32) (sz : Nat) (znc : nc < 1000000) : Met l yX7_init wsX7_init ({ frames := 1, cells := 0, slots := 0, locals := 12 }) (va_Pc [.ref q0, .ref h0, .ref c0, .int cl] (Pre D K [(q0, .inr (7, [.null, .null, .int 0, .int 0])), (c0, .inl (K 0, nc, .inl fc))] sz)) (va_Qv (S := Su) (fun (u : Su) => (0 ≤ (u.2.2.2.1 0).toInt ∧ (u.2.2.2.1 0).toInt ≤ 999999) ∧ ((u.2.2.2.1 0) = E_w_sinit cl nc fc) ∧ True) (fun u t => Wd D (va_A [(q0, .inr (7, [.null, .null, .int 0, .int 0])), (c0, .inl (K 0, nc, .inl fc))] sz) ((fun u => [(q0, .inr (7, [.ref h0, .ref c0, .int cl, .int (u.2.2.2.1 0)])), (c0, .inl (K 0, nc, .inl fc))]) u) t) (va_A [(q0, .inr (7, [.null, .null, .int 0, .int 0])), (c0, .inl (K 0, nc, .inl fc))] sz)) 0 0 (va_A [(q0, .inr (7, [.null, .null, .int 0, .int 0])), (c0, .inl (K 0, nc, .inl fc))] sz) := by
  refine Met.ofW (cc := cX7_init) (maxL := 4) (ret := none) (by decide +kernel) rfl ?_
  intro p e s m args below meth c s₁ B hml hv
  obtain ⟨rfl, hsz, hP, hK, hD0, hN⟩ := hv
  have hx := B.exec
  have hb := B.bytes
  have hr := B.returns
  have hts := atoms_spec (ws := wsX7_init) B.pre
  have hown : s.vm.findClass RX7 = some m.cls := findClass_of_methodNamed B.named
  have hlocks := B.notSynchronized
  have hin : meth.name = "<init>" := (name_of_methodNamed B.named B.method).1
  subst hsz
  have hD := hD0.self (sz := s.heap.size)
  generalize hAe : va_A [(q0, .inr (7, [.null, .null, .int 0, .int 0])), (c0, .inl (K 0, nc, .inl fc))] s.heap.size = A at hD ⊢
  have hA : ∀ q : Nat, s.heap.size ≤ q → A q := fun q h => by rw [← hAe]; exact Or.inr h
  clear hAe
  have hS : va_S A s.heap s.heap [] := va_S.rf
  replace hP : va_P D vwCl [(q0, .inr (7, [.null, .null, .int 0, .int 0])), (c0, .inl (K 0, nc, .inl fc))] s.heap := hP
  have hl := lv_entry [.ref q0, .ref h0, .ref c0, .int cl] (n := 4) (Nat.le_of_ble_eq_true rfl)
  rw [lg_entry_eq]
  generalize (lg_sl [.ref q0, .ref h0, .ref c0, .int cl] ++ List.replicate (4 - (lg_sl [.ref q0, .ref h0, .ref c0, .int cl]).length) Slot.unset).toArray = ls at hl ⊢
  have hl : lv_has ls 4 [(0, .ref q0), (1, .ref h0), (2, .ref c0), (3, .int cl)] := hl
  have hw7 : ∀ w ∈ wsX70, w ∈ wsX7_init := fun w h => (List.mem_cons_of_mem _ (List.mem_append_right _ h))
  generalize hQ : MQ below _ _ s _ _ _ = Q
  have hE := E_w_sinit.eq_def cl nc fc
  refine lv_aload_n hx hb dX7_init_0 rfl (lv_at hl 0 rfl) ?_
  refine W.objInit hx hb hown (hts _ mm_X7_init_222) (hts _ mm_X7_init_166) (hts _ (List.mem_cons_of_mem _ (List.mem_append_left _ (List.mem_of_getElem? (i := 2) rfl)))) rfl (by rw [hml]; exact hl.1) rfl dX7_init_1 (Nat.le_of_ble_eq_true rfl) (Nat.le_of_ble_eq_true rfl) ?_
  refine W.eq (g2 := F0 m 4 ls []) rfl ?_
  refine lv_aload_n hx hb dX7_init_4 rfl (lv_at hl 0 rfl) (lv_aload_n hx hb dX7_init_5 rfl (lv_at hl 1 rfl) (va_putF (ci := 7) (v := .ref h0) (ty := .array .int) (C := RX7) (T := TX7) (N := 4) hx hb hts hw7 tyX7 tyX7_ok nmX7 hown hK hP hD hS 0 rfl rfl 0 (by decide +kernel) (hts _ mm_X7_init_223) (fun _ h9 => h9) rfl hin rfl (by decide +kernel) (by first | rfl | decide) (by first | rfl | decide) (Nat.le_of_ble_eq_true rfl) dX7_init_6 (fun H locs hP0 hD0 hS0 => ?_)))
  replace hP : va_P D vwCl [(q0, .inr (7, [.ref h0, .null, .int 0, .int 0])), (c0, .inl (K 0, nc, .inl fc))] H := hP0
  replace hD : va_D A [(q0, .inr (7, [.ref h0, .null, .int 0, .int 0])), (c0, .inl (K 0, nc, .inl fc))] := hD0
  replace hS := hS0
  clear hP0 hD0 hS0
  refine lv_aload_n hx hb dX7_init_9 rfl (lv_at hl 0 rfl) (lv_aload_n hx hb dX7_init_10 rfl (lv_at hl 2 rfl) (va_putF (ci := 7) (v := .ref c0) (ty := .array .int) (C := RX7) (T := TX7) (N := 4) hx hb hts hw7 tyX7 tyX7_ok nmX7 hown hK hP hD hS 0 rfl rfl 1 (by decide +kernel) (hts _ mm_X7_init_224) (fun _ h9 => h9) rfl hin rfl (by decide +kernel) (by first | rfl | decide) (by first | rfl | decide) (Nat.le_of_ble_eq_true rfl) dX7_init_11 (fun H locs hP0 hD0 hS0 => ?_)))
  replace hP : va_P D vwCl [(q0, .inr (7, [.ref h0, .ref c0, .int 0, .int 0])), (c0, .inl (K 0, nc, .inl fc))] H := hP0
  replace hD : va_D A [(q0, .inr (7, [.ref h0, .ref c0, .int 0, .int 0])), (c0, .inl (K 0, nc, .inl fc))] := hD0
  replace hS := hS0
  clear hP0 hD0 hS0
  refine lv_aload_n hx hb dX7_init_14 rfl (lv_at hl 0 rfl) (lv_iload_n hx hb dX7_init_15 rfl (lv_at hl 3 rfl) (va_put (ci := 7) (v := .int cl) (ty := .int) (C := RX7) (T := TX7) (N := 4) hx hb hts hw7 tyX7 tyX7_ok nmX7 hown hK hP hD hS 0 rfl rfl 2 (by decide +kernel) (hts _ mm_X7_init_225) (fun _ h9 => h9) rfl (by decide +kernel) (by first | rfl | decide) (by first | rfl | decide) (Nat.le_of_ble_eq_true rfl) dX7_init_16 (fun H locs hP0 hD0 hS0 => ?_)))
  replace hP : va_P D vwCl [(q0, .inr (7, [.ref h0, .ref c0, .int cl, .int 0])), (c0, .inl (K 0, nc, .inl fc))] H := hP0
  replace hD : va_D A [(q0, .inr (7, [.ref h0, .ref c0, .int cl, .int 0])), (c0, .inl (K 0, nc, .inl fc))] := hD0
  replace hS := hS0
  clear hP0 hD0 hS0
  refine lv_aload_n hx hb dX7_init_19 rfl (lv_at hl 0 rfl) (lv_aload_n hx hb dX7_init_20 rfl (lv_at hl 2 rfl) (va_alen (v := (nI nc)) hx hb hK hP 1 0 rfl rfl rfl dX7_init_21 (va_put (ci := 7) (v := .int (nI nc)) (ty := .int) (C := RX7) (T := TX7) (N := 4) hx hb hts hw7 tyX7 tyX7_ok nmX7 hown hK hP hD hS 0 rfl rfl 3 (by decide +kernel) (hts _ mm_X7_init_226) (fun _ h9 => h9) rfl (by decide +kernel) (by first | rfl | decide) (by first | rfl | decide) (Nat.le_of_ble_eq_true rfl) dX7_init_22 (fun H locs hP0 hD0 hS0 => ?_))))
  replace hP : va_P D vwCl [(q0, .inr (7, [.ref h0, .ref c0, .int cl, .int (nI nc)])), (c0, .inl (K 0, nc, .inl fc))] H := hP0
  replace hD : va_D A [(q0, .inr (7, [.ref h0, .ref c0, .int cl, .int (nI nc)])), (c0, .inl (K 0, nc, .inl fc))] := hD0
  replace hS := hS0
  clear hP0 hD0 hS0
  rw [← hQ]
  have hP9 := hP.sub (ws' := [(q0, .inr (7, [.ref h0, .ref c0, .int cl, .int (nI nc)])), (c0, .inl (K 0, nc, .inl fc))]) [0, 1] rfl
  have hD9 := hD.sub (ws' := [(q0, .inr (7, [.ref h0, .ref c0, .int cl, .int (nI nc)])), (c0, .inl (K 0, nc, .inl fc))]) [0, 1] (by decide +kernel) rfl
  exact W.vret hx hb hr (fun t ht hW => ⟨⟨((fun _ => 0, fun _ => fun _ => 0, fun _ => fun _ => 0, fun i => match i with | _ => (nI nc), fun _ => 0, fun _ => fun _ => none) : Su), rfl, ⟨(show 0 ≤ ((nI nc) : Int32).toInt ∧ ((nI nc) : Int32).toInt ≤ 999999 by rw [(nI_toInt (by omega))]; omega), hE.symm, trivial⟩, (⟨by rw [ht]; exact hP9, hD9⟩ : Wd D A _ t)⟩, hS.F ht⟩) hS.2.2 dX7_init_25
set_option maxHeartbeats 4000000 in
set_option maxRecDepth 100000 in
theorem w_trimmed (l : Launch) (D : va_G) (K : Nat → ClassId) (s0 : Nat) (s1 : Nat) (s2 : Nat) (scl : Int32) (us : Int32) (fh : Nat → Int32) (fc : Nat → Int32) (sz : Nat) (zscl : 0 ≤ scl.toInt ∧ scl.toInt ≤ 12) (zus : 0 ≤ us.toInt ∧ us.toInt ≤ 800) (zfh : Rg 60 (-1) 1000 fh) (zfc : Rg 800 0 1000 fc) : Met l yX7_trimmed wsX7_trimmed ({ frames := 2, cells := 3, slots := 864, locals := 62 }) (va_Pc [.ref s0] (PreC (Pre D K [(s0, .inr (7, [.ref s1, .ref s2, .int scl, .int us])), (s1, .inl (K 0, 60, .inl fh)), (s2, .inl (K 0, 800, .inl fc))] sz))) (va_Qr (S := (Nat → Nat) × (Nat → Int32) × (Nat → Int32) × Int32 × Int32) (fun u => u.1 3 < 1000000 ∧ u.1 4 < 1000000 ∧ Rg (u.1 3) (-1) 1000 u.2.1 ∧ Rg (u.1 4) 0 1000 u.2.2.1 ∧ TrX scl us fh fc (u.1 3, u.1 4, u.2.1, u.2.2.1, u.2.2.2.1, u.2.2.2.2)) (fun u x t => x = (fun u => u.1 0) u ∧ Wd D (va_A [(s0, .inr (7, [.ref s1, .ref s2, .int scl, .int us])), (s1, .inl (K 0, 60, .inl fh)), (s2, .inl (K 0, 800, .inl fc))] sz) ((fun u => [(s0, .inr (7, [.ref s1, .ref s2, .int scl, .int us])), (s1, .inl (K 0, 60, .inl fh)), (s2, .inl (K 0, 800, .inl fc))] ++ Scr K (u.1 0) (u.1 1) (u.1 2) (u.1 3) (u.1 4) u.2.1 u.2.2.1 u.2.2.2.1 u.2.2.2.2) u) t) (va_A [(s0, .inr (7, [.ref s1, .ref s2, .int scl, .int us])), (s1, .inl (K 0, 60, .inl fh)), (s2, .inl (K 0, 800, .inl fc))] sz)) 3 864 (va_A [(s0, .inr (7, [.ref s1, .ref s2, .int scl, .int us])), (s1, .inl (K 0, 60, .inl fh)), (s2, .inl (K 0, 800, .inl fc))] sz) := by
  refine Met.ofW (cc := cX7_trimmed) (maxL := 1) (ret := (some (.object "SmokeTune$Script"))) (by decide +kernel) rfl ?_
  intro p e s m args below meth c s₁ B hml hv
  obtain ⟨rfl, ⟨hsz, hP, hK, hD0, hN⟩, hC⟩ := hv
  have hx := B.exec
  have hb := B.bytes
  have hr := B.returns
  have hts := atoms_spec (ws := wsX7_trimmed) B.pre
  have hown : s.vm.findClass RX7 = some m.cls := findClass_of_methodNamed B.named
  have hlocks := B.notSynchronized
  subst hsz
  have hD := hD0.self (sz := s.heap.size)
  generalize hAe : va_A [(s0, .inr (7, [.ref s1, .ref s2, .int scl, .int us])), (s1, .inl (K 0, 60, .inl fh)), (s2, .inl (K 0, 800, .inl fc))] s.heap.size = A at hD ⊢
  have hA : ∀ q : Nat, s.heap.size ≤ q → A q := fun q h => by rw [← hAe]; exact Or.inr h
  clear hAe
  have hS : va_S A s.heap s.heap [] := va_S.rf
  replace hP : va_P D vwCl [(s0, .inr (7, [.ref s1, .ref s2, .int scl, .int us])), (s1, .inl (K 0, 60, .inl fh)), (s2, .inl (K 0, 800, .inl fc))] s.heap := hP
  have hl := lv_entry [.ref s0] (n := 1) (Nat.le_of_ble_eq_true rfl)
  rw [lg_entry_eq]
  generalize (lg_sl [.ref s0] ++ List.replicate (1 - (lg_sl [.ref s0]).length) Slot.unset).toArray = ls at hl ⊢
  have hl : lv_has ls 1 [(0, .ref s0)] := hl
  have hw7 : ∀ w ∈ wsX70, w ∈ wsX7_trimmed := fun w h => (List.mem_cons_of_mem _ (List.mem_append_right _ h))
  generalize hQ : MQ below _ _ s _ _ _ = Q
  refine va_new (ci := 7) (fs := [.null, .null, .int 0, .int 0]) (C := RX7) (T := TX7) (N := 4) hx hb hts hw7 tyX7 tyX7_ok hown (hts _ mm_X7_trimmed_558) (hts _ mm_X7_trimmed_219) (hts _ mm_X7_trimmed_148) hK hP hD hS hA rfl dfv_X7 (Nat.le_of_ble_eq_true rfl) (Nat.le_of_ble_eq_true rfl) dX7_trimmed_0 (fun q_85 H hP0 hD0 hS0 => ?_)
  replace hP : va_P D vwCl [(s0, .inr (7, [.ref s1, .ref s2, .int scl, .int us])), (s1, .inl (K 0, 60, .inl fh)), (s2, .inl (K 0, 800, .inl fc)), (q_85, .inr (7, [.null, .null, .int 0, .int 0]))] H := hP0
  replace hD : va_D A [(s0, .inr (7, [.ref s1, .ref s2, .int scl, .int us])), (s1, .inl (K 0, 60, .inl fh)), (s2, .inl (K 0, 800, .inl fc)), (q_85, .inr (7, [.null, .null, .int 0, .int 0]))] := hD0
  replace hS := hS0
  clear hP0 hD0 hS0
  refine W.widen (k := 1) (n := 4) (by omega) (by omega) ?_
  refine lv_dup hx hb dX7_trimmed_3 rfl (lv_aload_n hx hb dX7_trimmed_4 rfl (lv_at hl 0 rfl) (va_get (ci := 7) (v := .ref s1) (C := RX7) (T := TX7) (N := 4) hx hb hts hw7 hown hK hP 0 rfl rfl 0 (by decide +kernel) (hts _ mm_X7_trimmed_223) (fun _ h9 => h9) rfl dX7_trimmed_5 (lv_aload_n hx hb dX7_trimmed_8 rfl (lv_at hl 0 rfl) (va_get (ci := 7) (v := .int scl) (C := RX7) (T := TX7) (N := 4) hx hb hts hw7 hown hK hP 0 rfl rfl 2 (by decide +kernel) (hts _ mm_X7_trimmed_225) (fun _ h9 => h9) rfl dX7_trimmed_9 (lv_iconst (v := 5) hx hb dX7_trimmed_12 (by decide +kernel) (lv_imul hx hb dX7_trimmed_13 (lv_topi (fun x_86 ex_86 => ?_))))))))
  have hx_86 : x_86.toInt = (scl.toInt * 5) := by rw [ex_86]; exact i_mul rfl (show (5 : Int32).toInt = 5 from rfl) (by omega)
  refine kcr (S := Nat × (Nat → Int32)) (B := fun u => [(s1, .inl (K 0, 60, .inl fh)), (u.1, .inl (K 0, x_86.toInt.toNat, .inl u.2))]) (ad := fun u => u.1) (wr := [(s0, .inr (7, [.ref s1, .ref s2, .int scl, .int us])), (s2, .inl (K 0, 800, .inl fc)), (q_85, .inr (7, [.null, .null, .int 0, .int 0]))]) (va_runS (As := [.ref s1, .int x_86]) (rest := [.ref q_85, .ref q_85]) ⟨hx, hb, hml, hown, hts⟩ (w_copy_h l D K s1 x_86 fh H.size (by first | omega | decide) zfh) (va_cwS 2 hts gX7_trimmed_J7_copyOf_59c91 rfl rfl rfl (by decide +kernel) ⟨Nat.le_of_ble_eq_true rfl, Nat.le_of_ble_eq_true rfl⟩) (PreC.S (mkS hK hN (hP.sub [1] rfl) (hD.sub [1] (by decide +kernel) rfl)) hC) rfl rfl hl.1 rfl (lv_room (Nat.le_of_ble_eq_true rfl)) dX7_trimmed_14 ⟨Nat.le_of_ble_eq_true rfl, Nat.le_of_ble_eq_true rfl⟩) hP hD hS hA [1] [0, 2, 3] rfl rfl (by decide +kernel) (by decide +kernel) (fun u_88 H locs hw hP0 hD0 hS0 => ?_)
  replace hP : va_P D vwCl [(s0, .inr (7, [.ref s1, .ref s2, .int scl, .int us])), (s2, .inl (K 0, 800, .inl fc)), (q_85, .inr (7, [.null, .null, .int 0, .int 0])), (s1, .inl (K 0, 60, .inl fh)), (u_88.1, .inl (K 0, x_86.toInt.toNat, .inl u_88.2))] H := hP0
  replace hD : va_D A [(s0, .inr (7, [.ref s1, .ref s2, .int scl, .int us])), (s2, .inl (K 0, 800, .inl fc)), (q_85, .inr (7, [.null, .null, .int 0, .int 0])), (s1, .inl (K 0, 60, .inl fh)), (u_88.1, .inl (K 0, x_86.toInt.toNat, .inl u_88.2))] := hD0
  replace hS := hS0
  clear hP0 hD0 hS0
  refine W.widen (k := 2) (n := 64) (by first | omega | decide) (by first | omega | decide) ?_
  refine W.eq (g2 := F0 m 17 ls (.ref ((fun u => u.1) u_88) :: [.ref q_85, .ref q_85])) rfl ?_
  have k_89 : Rg x_86.toInt.toNat (-1) 1000 u_88.2 := hw.1
  have cu_88 := hw.2
  refine W.eq (g2 := F0 m 17 ls [.ref u_88.1, .ref q_85, .ref q_85]) rfl ?_
  refine lv_aload_n hx hb dX7_trimmed_17 rfl (lv_at hl 0 rfl) (va_get (ci := 7) (v := .ref s2) (C := RX7) (T := TX7) (N := 4) hx hb hts hw7 hown hK hP 0 rfl rfl 1 (by decide +kernel) (hts _ mm_X7_trimmed_224) (fun _ h9 => h9) rfl dX7_trimmed_18 (lv_aload_n hx hb dX7_trimmed_21 rfl (lv_at hl 0 rfl) (va_get (ci := 7) (v := .int us) (C := RX7) (T := TX7) (N := 4) hx hb hts hw7 hown hK hP 0 rfl rfl 3 (by decide +kernel) (hts _ mm_X7_trimmed_226) (fun _ h9 => h9) rfl dX7_trimmed_22 ?_)))
  refine kcr (S := Nat × (Nat → Int32)) (B := fun u => [(s2, .inl (K 0, 800, .inl fc)), (u.1, .inl (K 0, us.toInt.toNat, .inl u.2))]) (ad := fun u => u.1) (wr := [(s0, .inr (7, [.ref s1, .ref s2, .int scl, .int us])), (q_85, .inr (7, [.null, .null, .int 0, .int 0])), (s1, .inl (K 0, 60, .inl fh)), (u_88.1, .inl (K 0, x_86.toInt.toNat, .inl u_88.2))]) (va_runS (As := [.ref s2, .int us]) (rest := [.ref u_88.1, .ref q_85, .ref q_85]) ⟨hx, hb, hml, hown, hts⟩ (w_copy_c l D K s2 us fc H.size (by first | omega | decide) zfc) (va_cwS 2 hts gX7_trimmed_J7_copyOf_59c91 rfl rfl rfl (by decide +kernel) ⟨Nat.le_of_ble_eq_true rfl, Nat.le_of_ble_eq_true rfl⟩) (PreC.S (mkS hK hN (hP.sub [1] rfl) (hD.sub [1] (by decide +kernel) rfl)) hC) rfl rfl hl.1 rfl (lv_room (Nat.le_of_ble_eq_true rfl)) dX7_trimmed_25 ⟨Nat.le_of_ble_eq_true rfl, Nat.le_of_ble_eq_true rfl⟩) hP hD hS hA [1] [0, 2, 3, 4] rfl rfl (by decide +kernel) (by decide +kernel) (fun u_91 H locs hw hP0 hD0 hS0 => ?_)
  replace hP : va_P D vwCl [(s0, .inr (7, [.ref s1, .ref s2, .int scl, .int us])), (q_85, .inr (7, [.null, .null, .int 0, .int 0])), (s1, .inl (K 0, 60, .inl fh)), (u_88.1, .inl (K 0, x_86.toInt.toNat, .inl u_88.2)), (s2, .inl (K 0, 800, .inl fc)), (u_91.1, .inl (K 0, us.toInt.toNat, .inl u_91.2))] H := hP0
  replace hD : va_D A [(s0, .inr (7, [.ref s1, .ref s2, .int scl, .int us])), (q_85, .inr (7, [.null, .null, .int 0, .int 0])), (s1, .inl (K 0, 60, .inl fh)), (u_88.1, .inl (K 0, x_86.toInt.toNat, .inl u_88.2)), (s2, .inl (K 0, 800, .inl fc)), (u_91.1, .inl (K 0, us.toInt.toNat, .inl u_91.2))] := hD0
  replace hS := hS0
  clear hP0 hD0 hS0
  refine W.widen (k := 3) (n := 864) (by first | omega | decide) (by first | omega | decide) ?_
  refine W.eq (g2 := F0 m 28 ls (.ref ((fun u => u.1) u_91) :: [.ref u_88.1, .ref q_85, .ref q_85])) rfl ?_
  have k_92 : Rg us.toInt.toNat 0 1000 u_91.2 := hw.1
  have cu_91 := hw.2
  refine W.eq (g2 := F0 m 28 ls [.ref u_91.1, .ref u_88.1, .ref q_85, .ref q_85]) rfl ?_
  refine lv_aload_n hx hb dX7_trimmed_28 rfl (lv_at hl 0 rfl) (va_get (ci := 7) (v := .int scl) (C := RX7) (T := TX7) (N := 4) hx hb hts hw7 hown hK hP 0 rfl rfl 2 (by decide +kernel) (hts _ mm_X7_trimmed_225) (fun _ h9 => h9) rfl dX7_trimmed_29 (kcv (S := Su) (wr := [(s0, .inr (7, [.ref s1, .ref s2, .int scl, .int us])), (s1, .inl (K 0, 60, .inl fh)), (u_88.1, .inl (K 0, x_86.toInt.toNat, .inl u_88.2)), (s2, .inl (K 0, 800, .inl fc))]) (va_runI (As := [.ref u_88.1, .ref u_91.1, .int scl]) (rest := [.ref q_85]) ⟨hx, hb, hml, hown, hts⟩ (w_sinit l D K q_85 u_88.1 u_91.1 scl us.toInt.toNat u_91.2 H.size (by omega)) (cwI 3 hts gX7_trimmed_X7_init rfl rfl rfl (hts _ mm_X7_trimmed_148) (hts _ mm_X7_trimmed_572) (hts _ mm_X7_trimmed_220) rfl (by decide +kernel) ⟨Nat.le_of_ble_eq_true rfl, Nat.le_of_ble_eq_true rfl⟩) (mkS hK hN (hP.sub [1, 5] rfl) (hD.sub [1, 5] (by decide +kernel) rfl)) rfl rfl hl.1 rfl (lv_room (Nat.le_of_ble_eq_true rfl)) dX7_trimmed_32 ⟨Nat.le_of_ble_eq_true rfl, Nat.le_of_ble_eq_true rfl⟩) hP hD hS hA [1, 5] [0, 2, 3, 4] rfl rfl (by decide +kernel) (by decide +kernel) (fun u_94 H locs hw hP0 hD0 hS0 => ?_)))
  replace hP : va_P D vwCl [(s0, .inr (7, [.ref s1, .ref s2, .int scl, .int us])), (s1, .inl (K 0, 60, .inl fh)), (u_88.1, .inl (K 0, x_86.toInt.toNat, .inl u_88.2)), (s2, .inl (K 0, 800, .inl fc)), (q_85, .inr (7, [.ref u_88.1, .ref u_91.1, .int scl, .int (u_94.2.2.2.1 0)])), (u_91.1, .inl (K 0, us.toInt.toNat, .inl u_91.2))] H := hP0
  replace hD : va_D A [(s0, .inr (7, [.ref s1, .ref s2, .int scl, .int us])), (s1, .inl (K 0, 60, .inl fh)), (u_88.1, .inl (K 0, x_86.toInt.toNat, .inl u_88.2)), (s2, .inl (K 0, 800, .inl fc)), (q_85, .inr (7, [.ref u_88.1, .ref u_91.1, .int scl, .int (u_94.2.2.2.1 0)])), (u_91.1, .inl (K 0, us.toInt.toNat, .inl u_91.2))] := hD0
  replace hS := hS0
  clear hP0 hD0 hS0
  obtain ⟨k_95, k_96, -⟩ := hw
  rw [← hQ]
  have hP9 := hP.sub (ws' := [(s0, .inr (7, [.ref s1, .ref s2, .int scl, .int us])), (s1, .inl (K 0, 60, .inl fh)), (s2, .inl (K 0, 800, .inl fc)), (q_85, .inr (7, [.ref u_88.1, .ref u_91.1, .int scl, .int (u_94.2.2.2.1 0)])), (u_88.1, .inl (K 0, x_86.toInt.toNat, .inl u_88.2)), (u_91.1, .inl (K 0, us.toInt.toNat, .inl u_91.2))]) [0, 1, 3, 4, 2, 5] rfl
  have hD9 := hD.sub (ws' := [(s0, .inr (7, [.ref s1, .ref s2, .int scl, .int us])), (s1, .inl (K 0, 60, .inl fh)), (s2, .inl (K 0, 800, .inl fc)), (q_85, .inr (7, [.ref u_88.1, .ref u_91.1, .int scl, .int (u_94.2.2.2.1 0)])), (u_88.1, .inl (K 0, x_86.toInt.toNat, .inl u_88.2)), (u_91.1, .inl (K 0, us.toInt.toNat, .inl u_91.2))]) [0, 1, 3, 4, 2, 5] (by decide +kernel) rfl
  exact W.aret (v := .ref q_85) hx hb hr (Or.inl ⟨_, rfl⟩) (Or.inr ⟨_, rfl⟩) (fun t ht hW => ⟨⟨((fun i => match i with | 0 => q_85 | 1 => u_88.1 | 2 => u_91.1 | 3 => x_86.toInt.toNat | _ => us.toInt.toNat), u_88.2, u_91.2, scl, (u_94.2.2.2.1 0)), q_85, rfl, ⟨by show x_86.toInt.toNat < 1000000; omega, by show us.toInt.toNat < 1000000; omega, k_89, k_92, ⟨rfl, by show ((x_86.toInt.toNat : Nat) : Int) = 5 * scl.toInt; omega, by show ((us.toInt.toNat : Nat) : Int) = us.toInt; omega, cu_88, cu_91⟩⟩, rfl, by rw [ht]; exact hP9, hD9⟩, hS.F ht⟩) hS.2.2 dX7_trimmed_35
set_option maxRecDepth 100000 in
noncomputable def E_w_enact (lt : Int32) (fl : Nat → Option Nat) : Int32 × Int32 :=
  if lt < 6 then (Lt (lt + 1 : Int32) (fun x_71 => Lt (x_71 - 1 : Int32) (fun x_72 => ((x_72, x_71) : Int32 × Int32)))) else (((0, 0) : Int32 × Int32))
set_option maxHeartbeats 4000000 in
set_option maxRecDepth 100000 in
theorem w_enact (l : Launch) (D : va_G) (K : Nat → ClassId) (g : Nat → Nat) (L : Nat → Prop) (G : Nat → LC) (t0 : Nat) (q0 : Nat) (k_0 : Value) (k_1 : Value) (k_2 : Value) (l0 : Nat) (k_4 : Value) (lt : Int32) (k_6 : Value) (k_7 : Value) (k_8 : Value) (k_9 : Value) (fl : Nat → Option Nat) (s_0 : Value) (s_1 : Value) (s_2 : Value) (s_3 : Value) (sz : Nat) (zlt : 0 ≤ lt.toInt ∧ lt.toInt ≤ 5) (zfl : InL (fun z => L z ∨ z = q0) fl) : Met l yX9_enact wsX9_enact ({ frames := 0, cells := 0, slots := 0, locals := 0 }) (va_Pc [.ref t0, .ref q0] (PreY D K [(t0, .inr (9, [k_0, k_1, k_2, .ref l0, k_4, .int lt, k_6, k_7, k_8, k_9])), (l0, .inl (K 4, 6, .inr (.inr (.inr (.inr fl))))), (q0, .inr (7, [s_0, s_1, s_2, s_3]))] [] sz g L G (va_A [(t0, .inr (9, [k_0, k_1, k_2, .ref l0, k_4, .int lt, k_6, k_7, k_8, k_9])), (l0, .inl (K 4, 6, .inr (.inr (.inr (.inr fl))))), (q0, .inr (7, [s_0, s_1, s_2, s_3]))] sz))) (va_Qi (S := Su) (fun (r : Int32) (u : Su) => (0 ≤ r.toInt ∧ r.toInt ≤ 5) ∧ (1 ≤ (u.2.2.2.1 0).toInt ∧ (u.2.2.2.1 0).toInt ≤ 6) ∧ (InL (fun z => L z ∨ z = q0) (u.2.2.2.2.2 0)) ∧ ((u.2.2.2.2.2 0) = va_up fl lt.toNatClampNeg (some q0)) ∧ ((r, (u.2.2.2.1 0)) = E_w_enact lt fl) ∧ True) (fun u t => Wd D (va_A [(t0, .inr (9, [k_0, k_1, k_2, .ref l0, k_4, .int lt, k_6, k_7, k_8, k_9])), (l0, .inl (K 4, 6, .inr (.inr (.inr (.inr fl))))), (q0, .inr (7, [s_0, s_1, s_2, s_3]))] sz) ((fun u => [(t0, .inr (9, [k_0, k_1, k_2, .ref l0, k_4, .int (u.2.2.2.1 0), k_6, k_7, k_8, k_9])), (l0, .inl (K 4, 6, .inr (.inr (.inr (.inr (u.2.2.2.2.2 0)))))), (q0, .inr (7, [s_0, s_1, s_2, s_3]))]) u) t) (va_A [(t0, .inr (9, [k_0, k_1, k_2, .ref l0, k_4, .int lt, k_6, k_7, k_8, k_9])), (l0, .inl (K 4, 6, .inr (.inr (.inr (.inr fl))))), (q0, .inr (7, [s_0, s_1, s_2, s_3]))] sz)) 0 0 (va_A [(t0, .inr (9, [k_0, k_1, k_2, .ref l0, k_4, .int lt, k_6, k_7, k_8, k_9])), (l0, .inl (K 4, 6, .inr (.inr (.inr (.inr fl))))), (q0, .inr (7, [s_0, s_1, s_2, s_3]))] sz) := by
  refine Met.ofW (cc := cX9_enact) (maxL := 2) (ret := (some .int)) (by decide +kernel) rfl ?_
  intro p e s m args below meth c s₁ B hml hv
  obtain ⟨rfl, ⟨hsz, hP, hK, hD0, hN⟩, hG, hPl, hRo⟩ := hv
  have hx := B.exec
  have hb := B.bytes
  have hr := B.returns
  have hts := atoms_spec (ws := wsX9_enact) B.pre
  have hown : s.vm.findClass RX9 = some m.cls := findClass_of_methodNamed B.named
  have hlocks := B.notSynchronized
  subst hsz
  have hD := hD0.self (sz := s.heap.size)
  generalize hAe : va_A [(t0, .inr (9, [k_0, k_1, k_2, .ref l0, k_4, .int lt, k_6, k_7, k_8, k_9])), (l0, .inl (K 4, 6, .inr (.inr (.inr (.inr fl))))), (q0, .inr (7, [s_0, s_1, s_2, s_3]))] s.heap.size = A at hD hG hPl hRo ⊢
  have hA : ∀ q : Nat, s.heap.size ≤ q → A q := fun q h => by rw [← hAe]; exact Or.inr h
  clear hAe
  have hS : va_S A s.heap s.heap [] := va_S.rf
  replace hP : va_P D vwCl [(t0, .inr (9, [k_0, k_1, k_2, .ref l0, k_4, .int lt, k_6, k_7, k_8, k_9])), (l0, .inl (K 4, 6, .inr (.inr (.inr (.inr fl))))), (q0, .inr (7, [s_0, s_1, s_2, s_3]))] s.heap := hP
  have hl := lv_entry [.ref t0, .ref q0] (n := 2) (Nat.le_of_ble_eq_true rfl)
  rw [lg_entry_eq]
  generalize (lg_sl [.ref t0, .ref q0] ++ List.replicate (2 - (lg_sl [.ref t0, .ref q0]).length) Slot.unset).toArray = ls at hl ⊢
  have hl : lv_has ls 2 [(0, .ref t0), (1, .ref q0)] := hl
  have hw9 : ∀ w ∈ wsX90, w ∈ wsX9_enact := fun w h => (List.mem_cons_of_mem _ (List.mem_append_right _ h))
  generalize hQ : MQ below _ _ s _ _ _ = Q
  have hE := E_w_enact.eq_def lt fl
  refine lv_aload_n hx hb dX9_enact_0 rfl (lv_at hl 0 rfl) (va_get (ci := 9) (v := .int lt) (C := RX9) (T := TX9) (N := 10) hx hb hts hw9 hown hK hP 0 rfl rfl 5 (by decide +kernel) (hts _ mm_X9_enact_179) (fun _ h9 => h9) rfl dX9_enact_1 (lv_bipush (v := 6) hx hb dX9_enact_4 (by decide +kernel) (lv_icmp_lt (tgt := 11) hx hb dX9_enact_6 (by decide +kernel) (fun c_69 => ?_) (fun c_69 => ?_))))
  · have c_69i := i_lt (x := lt.toInt) (y := 6) rfl rfl c_69
    replace hE := hE.trans (if_pos c_69)
    refine lv_aload_n hx hb dX9_enact_11 rfl (lv_at hl 0 rfl) (va_get (ci := 9) (v := .ref l0) (C := RX9) (T := TX9) (N := 10) hx hb hts hw9 hown hK hP 0 rfl rfl 3 (by decide +kernel) (hts _ mm_X9_enact_177) (fun _ h9 => h9) rfl dX9_enact_12 (lv_aload_n hx hb dX9_enact_15 rfl (lv_at hl 0 rfl) (va_get (ci := 9) (v := .int lt) (C := RX9) (T := TX9) (N := 10) hx hb hts hw9 hown hK hP 0 rfl rfl 5 (by decide +kernel) (hts _ mm_X9_enact_179) (fun _ h9 => h9) rfl dX9_enact_16 (lv_aload_n hx hb dX9_enact_19 rfl (lv_at hl 1 rfl) (va_astq hx hb hK hP hD hS 1 4 2 7 rfl rfl rfl rfl (i_in rfl (by omega)) dX9_enact_20 (fun H locs hP0 hD0 hS0 => ?_))))))
    replace hP := hP0
    replace hD := hD0
    replace hS := hS0
    clear hP0 hD0 hS0
    generalize hf_70 : (va_up fl (lt : Int32).toNatClampNeg (some q0)) = f_70 at hP hD
    have hf_70_0 : InL (fun z => L z ∨ z = q0) f_70 := by rw [← hf_70]; exact InL.up zfl (Or.inr rfl)
    replace hP : va_P D vwCl [(t0, .inr (9, [k_0, k_1, k_2, .ref l0, k_4, .int lt, k_6, k_7, k_8, k_9])), (l0, .inl (K 4, 6, .inr (.inr (.inr (.inr f_70))))), (q0, .inr (7, [s_0, s_1, s_2, s_3]))] H := hP
    replace hD : va_D A [(t0, .inr (9, [k_0, k_1, k_2, .ref l0, k_4, .int lt, k_6, k_7, k_8, k_9])), (l0, .inl (K 4, 6, .inr (.inr (.inr (.inr f_70))))), (q0, .inr (7, [s_0, s_1, s_2, s_3]))] := hD
    refine lv_aload_n hx hb dX9_enact_21 rfl (lv_at hl 0 rfl) (lv_dup hx hb dX9_enact_22 rfl (va_get (ci := 9) (v := .int lt) (C := RX9) (T := TX9) (N := 10) hx hb hts hw9 hown hK hP 0 rfl rfl 5 (by decide +kernel) (hts _ mm_X9_enact_179) (fun _ h9 => h9) rfl dX9_enact_23 (lv_iconst (v := 1) hx hb dX9_enact_26 (by decide +kernel) (lv_iadd hx hb dX9_enact_27 (lv_topi (fun x_71 ex_71 => ?_))))))
    replace hE := hE.trans (Lt_in ex_71)
    have hx_71 : x_71.toInt = (lt.toInt + 1) := by rw [ex_71]; exact i_add rfl (show (1 : Int32).toInt = 1 from rfl) (by omega)
    refine va_put (ci := 9) (v := .int x_71) (ty := .int) (C := RX9) (T := TX9) (N := 10) hx hb hts hw9 tyX9 tyX9_ok nmX9 hown hK hP hD hS 0 rfl rfl 5 (by decide +kernel) (hts _ mm_X9_enact_179) (fun _ h9 => h9) rfl (by decide +kernel) (by first | rfl | decide) (by first | rfl | decide) (Nat.le_of_ble_eq_true rfl) dX9_enact_28 (fun H locs hP0 hD0 hS0 => ?_)
    replace hP : va_P D vwCl [(t0, .inr (9, [k_0, k_1, k_2, .ref l0, k_4, .int x_71, k_6, k_7, k_8, k_9])), (l0, .inl (K 4, 6, .inr (.inr (.inr (.inr f_70))))), (q0, .inr (7, [s_0, s_1, s_2, s_3]))] H := hP0
    replace hD : va_D A [(t0, .inr (9, [k_0, k_1, k_2, .ref l0, k_4, .int x_71, k_6, k_7, k_8, k_9])), (l0, .inl (K 4, 6, .inr (.inr (.inr (.inr f_70))))), (q0, .inr (7, [s_0, s_1, s_2, s_3]))] := hD0
    replace hS := hS0
    clear hP0 hD0 hS0
    refine lv_aload_n hx hb dX9_enact_31 rfl (lv_at hl 0 rfl) (va_get (ci := 9) (v := .int x_71) (C := RX9) (T := TX9) (N := 10) hx hb hts hw9 hown hK hP 0 rfl rfl 5 (by decide +kernel) (hts _ mm_X9_enact_179) (fun _ h9 => h9) rfl dX9_enact_32 (lv_iconst (v := 1) hx hb dX9_enact_35 (by decide +kernel) (lv_isub hx hb dX9_enact_36 (lv_topi (fun x_72 ex_72 => ?_)))))
    replace hE := hE.trans (Lt_in ex_72)
    have hx_72 : x_72.toInt = ((lt.toInt + 1) - 1) := by rw [ex_72]; exact i_sub hx_71 (show (1 : Int32).toInt = 1 from rfl) (by omega)
    rw [← hQ]
    have hP9 := hP.sub (ws' := [(t0, .inr (9, [k_0, k_1, k_2, .ref l0, k_4, .int x_71, k_6, k_7, k_8, k_9])), (l0, .inl (K 4, 6, .inr (.inr (.inr (.inr f_70))))), (q0, .inr (7, [s_0, s_1, s_2, s_3]))]) [0, 1, 2] rfl
    have hD9 := hD.sub (ws' := [(t0, .inr (9, [k_0, k_1, k_2, .ref l0, k_4, .int x_71, k_6, k_7, k_8, k_9])), (l0, .inl (K 4, 6, .inr (.inr (.inr (.inr f_70))))), (q0, .inr (7, [s_0, s_1, s_2, s_3]))]) [0, 1, 2] (by decide +kernel) rfl
    exact W.iret (v := x_72) hx hb hr (fun t ht hW => ⟨⟨x_72, ((fun _ => 0, fun _ => fun _ => 0, fun _ => fun _ => 0, fun i => match i with | _ => x_71, fun _ => 0, fun i => match i with | _ => f_70) : Su), rfl, ⟨(show 0 ≤ x_72.toInt ∧ x_72.toInt ≤ 5 by rw [hx_72]; omega), (show 1 ≤ (x_71 : Int32).toInt ∧ (x_71 : Int32).toInt ≤ 6 by rw [hx_71]; omega), hf_70_0, (show f_70 = va_up fl lt.toNatClampNeg (some q0) from hf_70.symm), hE.symm, trivial⟩, (⟨by rw [ht]; exact hP9, hD9⟩ : Wd D A _ t)⟩, hS.F ht⟩) hS.2.2 dX9_enact_37
  · have c_69i := i_nlt (x := lt.toInt) (y := 6) rfl rfl c_69
    exfalso; omega
