theorem dX11_of_0 : decode cX11_of 0 = .ok (.aload_n 0, 1) := by decide +kernel
theorem dX11_of_1 : decode cX11_of 1 = .ok (.getfield 10, 3) := by decide +kernel
theorem dX11_of_4 : decode cX11_of 4 = .ok (.iload_n 1, 1) := by decide +kernel
theorem dX11_of_5 : decode cX11_of 5 = .ok (.invokevirtual 121, 3) := by decide +kernel
theorem dX11_of_8 : decode cX11_of 8 = .ok (.ifCond .ne 5, 3) := by decide +kernel
theorem dX11_of_11 : decode cX11_of 11 = .ok (.iconst (-1), 1) := by decide +kernel
theorem dX11_of_12 : decode cX11_of 12 = .ok (.ireturn, 1) := by decide +kernel
theorem dX11_least_0 : decode cX11_least 0 = .ok (.aload_n 0, 1) := by decide +kernel
theorem dX11_least_1 : decode cX11_least 1 = .ok (.getfield 10, 3) := by decide +kernel
theorem dX11_least_4 : decode cX11_least 4 = .ok (.iload_n 1, 1) := by decide +kernel
theorem dX11_least_5 : decode cX11_least 5 = .ok (.invokevirtual 121, 3) := by decide +kernel
theorem dX11_least_8 : decode cX11_least 8 = .ok (.ifCond .eq 26, 3) := by decide +kernel
theorem dX11_least_34 : decode cX11_least 34 = .ok (.iconst (-1), 1) := by decide +kernel
theorem dX11_least_35 : decode cX11_least 35 = .ok (.ireturn, 1) := by decide +kernel
theorem dX11_rings_0 : decode cX11_rings 0 = .ok (.aload_n 0, 1) := by decide +kernel
theorem dX11_rings_1 : decode cX11_rings 1 = .ok (.getfield 10, 3) := by decide +kernel
theorem dX11_rings_4 : decode cX11_rings 4 = .ok (.iload_n 1, 1) := by decide +kernel
theorem dX11_rings_5 : decode cX11_rings 5 = .ok (.invokevirtual 121, 3) := by decide +kernel
theorem dX11_rings_8 : decode cX11_rings 8 = .ok (.ifCond .eq 18, 3) := by decide +kernel
theorem dX11_rings_26 : decode cX11_rings 26 = .ok (.iconst (-1), 1) := by decide +kernel
theorem dX11_rings_27 : decode cX11_rings 27 = .ok (.ireturn, 1) := by decide +kernel
theorem dX9_chordAt_0 : decode cX9_chordAt 0 = .ok (.iload_n 1, 1) := by decide +kernel
theorem dX9_chordAt_1 : decode cX9_chordAt 1 = .ok (.ifCond .lt 18, 3) := by decide +kernel
theorem dX9_chordAt_19 : decode cX9_chordAt 19 = .ok (.iconst (-1), 1) := by decide +kernel
theorem dX9_chordAt_20 : decode cX9_chordAt 20 = .ok (.ireturn, 1) := by decide +kernel
theorem dX9_chordAt_4 : decode cX9_chordAt 4 = .ok (.iload_n 1, 1) := by decide +kernel
theorem dX9_chordAt_5 : decode cX9_chordAt 5 = .ok (.bipush 24, 2) := by decide +kernel
theorem dX9_chordAt_7 : decode cX9_chordAt 7 = .ok (.if_icmp .ge 12, 3) := by decide +kernel
theorem dX9_chordAt_10 : decode cX9_chordAt 10 = .ok (.aload_n 0, 1) := by decide +kernel
theorem dX9_chordAt_11 : decode cX9_chordAt 11 = .ok (.getfield 15, 3) := by decide +kernel
theorem dX9_chordAt_14 : decode cX9_chordAt 14 = .ok (.iload_n 1, 1) := by decide +kernel
theorem dX9_chordAt_15 : decode cX9_chordAt 15 = .ok (.iaload, 1) := by decide +kernel
theorem dX9_chordAt_16 : decode cX9_chordAt 16 = .ok (.goto 4, 3) := by decide +kernel
theorem dX11_chord_0 : decode cX11_chord 0 = .ok (.aload_n 0, 1) := by decide +kernel
theorem dX11_chord_1 : decode cX11_chord 1 = .ok (.getfield 10, 3) := by decide +kernel
theorem dX11_chord_4 : decode cX11_chord 4 = .ok (.iload_n 1, 1) := by decide +kernel
theorem dX11_chord_5 : decode cX11_chord 5 = .ok (.invokevirtual 146, 3) := by decide +kernel
theorem dX11_chord_8 : decode cX11_chord 8 = .ok (.ireturn, 1) := by decide +kernel
theorem dX11_score_0 : decode cX11_score 0 = .ok (.iload_n 1, 1) := by decide +kernel
theorem dX11_score_1 : decode cX11_score 1 = .ok (.iconst 0, 1) := by decide +kernel
theorem dX11_score_2 : decode cX11_score 2 = .ok (.bipush 23, 2) := by decide +kernel
theorem dX11_score_4 : decode cX11_score 4 = .ok (.invokestatic 97, 3) := by decide +kernel
theorem dX11_score_7 : decode cX11_score 7 = .ok (.ifCond .eq 13, 3) := by decide +kernel
theorem dX11_score_10 : decode cX11_score 10 = .ok (.iload_n 2, 1) := by decide +kernel
theorem dX11_score_11 : decode cX11_score 11 = .ok (.iconst 0, 1) := by decide +kernel
theorem dX11_score_12 : decode cX11_score 12 = .ok (.bipush 127, 2) := by decide +kernel
theorem dX11_score_14 : decode cX11_score 14 = .ok (.invokestatic 97, 3) := by decide +kernel
theorem dX11_score_17 : decode cX11_score 17 = .ok (.ifCond .ne 9, 3) := by decide +kernel
theorem dX11_score_26 : decode cX11_score 26 = .ok (.aload_n 0, 1) := by decide +kernel
theorem dX11_score_27 : decode cX11_score 27 = .ok (.getfield 10, 3) := by decide +kernel
theorem dX11_score_30 : decode cX11_score 30 = .ok (.iload_n 1, 1) := by decide +kernel
theorem dX11_score_31 : decode cX11_score 31 = .ok (.invokevirtual 146, 3) := by decide +kernel
theorem dX11_score_34 : decode cX11_score 34 = .ok (.istore_n 3, 1) := by decide +kernel
theorem dX11_score_35 : decode cX11_score 35 = .ok (.aload_n 0, 1) := by decide +kernel
theorem dX11_score_36 : decode cX11_score 36 = .ok (.getfield 10, 3) := by decide +kernel
theorem dX11_score_39 : decode cX11_score 39 = .ok (.getfield 149, 3) := by decide +kernel
theorem dX11_score_42 : decode cX11_score 42 = .ok (.iload_n 1, 1) := by decide +kernel
theorem dX11_score_43 : decode cX11_score 43 = .ok (.iload_n 2, 1) := by decide +kernel
theorem dX11_score_44 : decode cX11_score 44 = .ok (.iastore, 1) := by decide +kernel
theorem dX11_score_45 : decode cX11_score 45 = .ok (.aload_n 0, 1) := by decide +kernel
theorem dX11_score_46 : decode cX11_score 46 = .ok (.iload_n 3, 1) := by decide +kernel
theorem dX11_score_47 : decode cX11_score 47 = .ok (.invokevirtual 118, 3) := by decide +kernel
theorem dX11_score_50 : decode cX11_score 50 = .ok (.ireturn, 1) := by decide +kernel
theorem dX11_score_20 : decode cX11_score 20 = .ok (.aload_n 0, 1) := by decide +kernel
theorem dX11_score_21 : decode cX11_score 21 = .ok (.iconst (-1), 1) := by decide +kernel
theorem dX11_score_22 : decode cX11_score 22 = .ok (.invokevirtual 101, 3) := by decide +kernel
theorem dX11_score_25 : decode cX11_score 25 = .ok (.ireturn, 1) := by decide +kernel
theorem dX9_dinerOf_0 : decode cX9_dinerOf 0 = .ok (.iconst 0, 1) := by decide +kernel
theorem dX9_dinerOf_1 : decode cX9_dinerOf 1 = .ok (.istore_n 2, 1) := by decide +kernel
theorem dX9_dinerOf_2 : decode cX9_dinerOf 2 = .ok (.iload_n 2, 1) := by decide +kernel
theorem dX9_dinerOf_3 : decode cX9_dinerOf 3 = .ok (.aload_n 0, 1) := by decide +kernel
theorem dX9_dinerOf_4 : decode cX9_dinerOf 4 = .ok (.getfield 27, 3) := by decide +kernel
theorem dX9_dinerOf_7 : decode cX9_dinerOf 7 = .ok (.if_icmp .ge 21, 3) := by decide +kernel
theorem dX9_dinerOf_28 : decode cX9_dinerOf 28 = .ok (.iconst (-1), 1) := by decide +kernel
theorem dX9_dinerOf_29 : decode cX9_dinerOf 29 = .ok (.ireturn, 1) := by decide +kernel
theorem dX2_clear_0 : decode cX2_clear 0 = .ok (.aload_n 0, 1) := by decide +kernel
theorem dX2_clear_1 : decode cX2_clear 1 = .ok (.iconst 0, 1) := by decide +kernel
theorem dX2_clear_2 : decode cX2_clear 2 = .ok (.putfield 19, 3) := by decide +kernel
theorem dX2_clear_5 : decode cX2_clear 5 = .ok (.return_, 1) := by decide +kernel
theorem dX9_put_0 : decode cX9_put 0 = .ok (.iload_n 1, 1) := by decide +kernel
theorem dX9_put_1 : decode cX9_put 1 = .ok (.iconst 0, 1) := by decide +kernel
theorem dX9_put_2 : decode cX9_put 2 = .ok (.bipush 7, 2) := by decide +kernel
theorem dX9_put_4 : decode cX9_put 4 = .ok (.invokestatic 52, 3) := by decide +kernel
theorem dX9_put_7 : decode cX9_put 7 = .ok (.ifCond .eq 25, 3) := by decide +kernel
theorem dX9_put_10 : decode cX9_put 10 = .ok (.iload_n 2, 1) := by decide +kernel
theorem dX9_put_11 : decode cX9_put 11 = .ok (.iconst 0, 1) := by decide +kernel
theorem dX9_put_12 : decode cX9_put 12 = .ok (.bipush 6, 2) := by decide +kernel
theorem dX9_put_14 : decode cX9_put 14 = .ok (.invokestatic 52, 3) := by decide +kernel
theorem dX9_put_17 : decode cX9_put 17 = .ok (.ifCond .eq 15, 3) := by decide +kernel
theorem dX9_put_20 : decode cX9_put 20 = .ok (.aload_n 0, 1) := by decide +kernel
theorem dX9_put_21 : decode cX9_put 21 = .ok (.getfield 9, 3) := by decide +kernel
theorem dX9_put_24 : decode cX9_put 24 = .ok (.iload_n 2, 1) := by decide +kernel
theorem dX9_put_25 : decode cX9_put 25 = .ok (.bipush 8, 2) := by decide +kernel
theorem dX9_put_27 : decode cX9_put 27 = .ok (.imul, 1) := by decide +kernel
theorem dX9_put_28 : decode cX9_put 28 = .ok (.iload_n 1, 1) := by decide +kernel
theorem dX9_put_29 : decode cX9_put 29 = .ok (.iadd, 1) := by decide +kernel
theorem dX9_put_30 : decode cX9_put 30 = .ok (.iload_n 3, 1) := by decide +kernel
theorem dX9_put_31 : decode cX9_put 31 = .ok (.iastore, 1) := by decide +kernel
theorem dX9_put_32 : decode cX9_put 32 = .ok (.return_, 1) := by decide +kernel
theorem dX9_build_0 : decode cX9_build 0 = .ok (.aload_n 0, 1) := by decide +kernel
theorem dX9_build_1 : decode cX9_build 1 = .ok (.getfield 27, 3) := by decide +kernel
theorem dX9_build_4 : decode cX9_build 4 = .ok (.istore 6, 2) := by decide +kernel
theorem dX9_build_6 : decode cX9_build 6 = .ok (.aload_n 0, 1) := by decide +kernel
theorem dX9_build_7 : decode cX9_build 7 = .ok (.iload 6, 2) := by decide +kernel
theorem dX9_build_9 : decode cX9_build 9 = .ok (.iconst 0, 1) := by decide +kernel
theorem dX9_build_10 : decode cX9_build 10 = .ok (.iload_n 1, 1) := by decide +kernel
theorem dX9_build_11 : decode cX9_build 11 = .ok (.invokevirtual 60, 3) := by decide +kernel
theorem dX9_build_14 : decode cX9_build 14 = .ok (.aload_n 0, 1) := by decide +kernel
theorem dX9_build_15 : decode cX9_build 15 = .ok (.iload 6, 2) := by decide +kernel
theorem dX9_build_17 : decode cX9_build 17 = .ok (.iconst 1, 1) := by decide +kernel
theorem dX9_build_18 : decode cX9_build 18 = .ok (.iload_n 2, 1) := by decide +kernel
theorem dX9_build_19 : decode cX9_build 19 = .ok (.invokevirtual 60, 3) := by decide +kernel
theorem dX9_build_22 : decode cX9_build 22 = .ok (.aload_n 0, 1) := by decide +kernel
theorem dX9_build_23 : decode cX9_build 23 = .ok (.iload 6, 2) := by decide +kernel
theorem dX9_build_25 : decode cX9_build 25 = .ok (.iconst 2, 1) := by decide +kernel
theorem dX9_build_26 : decode cX9_build 26 = .ok (.iload_n 3, 1) := by decide +kernel
theorem dX9_build_27 : decode cX9_build 27 = .ok (.invokevirtual 60, 3) := by decide +kernel
theorem dX9_build_30 : decode cX9_build 30 = .ok (.aload_n 0, 1) := by decide +kernel
theorem dX9_build_31 : decode cX9_build 31 = .ok (.iload 6, 2) := by decide +kernel
theorem dX9_build_33 : decode cX9_build 33 = .ok (.iconst 3, 1) := by decide +kernel
theorem dX9_build_34 : decode cX9_build 34 = .ok (.iload 4, 2) := by decide +kernel
theorem dX9_build_36 : decode cX9_build 36 = .ok (.invokevirtual 60, 3) := by decide +kernel
theorem dX9_build_39 : decode cX9_build 39 = .ok (.aload_n 0, 1) := by decide +kernel
theorem dX9_build_40 : decode cX9_build 40 = .ok (.iload 6, 2) := by decide +kernel
theorem dX9_build_42 : decode cX9_build 42 = .ok (.iconst 4, 1) := by decide +kernel
theorem dX9_build_43 : decode cX9_build 43 = .ok (.iload 5, 2) := by decide +kernel
theorem dX9_build_45 : decode cX9_build 45 = .ok (.invokevirtual 60, 3) := by decide +kernel
theorem dX9_build_48 : decode cX9_build 48 = .ok (.aload_n 0, 1) := by decide +kernel
theorem dX9_build_49 : decode cX9_build 49 = .ok (.dup, 1) := by decide +kernel
theorem dX9_build_50 : decode cX9_build 50 = .ok (.getfield 27, 3) := by decide +kernel
theorem dX9_build_53 : decode cX9_build 53 = .ok (.iconst 1, 1) := by decide +kernel
theorem dX9_build_54 : decode cX9_build 54 = .ok (.iadd, 1) := by decide +kernel
theorem dX9_build_55 : decode cX9_build 55 = .ok (.putfield 27, 3) := by decide +kernel
theorem dX9_build_58 : decode cX9_build 58 = .ok (.iload 6, 2) := by decide +kernel
theorem dX9_build_60 : decode cX9_build 60 = .ok (.ireturn, 1) := by decide +kernel
set_option maxRecDepth 20000 in
theorem ggX11_of_X9_has : GoodIn wsX11_of wsX9_has := goodIn_r _ [6, 7, 86, 87, 88, 89, 90, 91, 92, 93, 94, 95] (by decide +kernel) (by decide +kernel)
set_option maxRecDepth 20000 in
theorem gX11_of_X9_has_n121 : GoodIn wsX11_of (wsX9_has) := ggX11_of_X9_has
set_option maxRecDepth 20000 in
theorem ggX11_least_X9_has : GoodIn wsX11_least wsX9_has := goodIn_r _ [6, 7, 101, 102, 103, 104, 105, 106, 107, 108, 109, 110] (by decide +kernel) (by decide +kernel)
set_option maxRecDepth 20000 in
theorem gX11_least_X9_has_n121 : GoodIn wsX11_least (wsX9_has) := ggX11_least_X9_has
set_option maxRecDepth 20000 in
theorem ggX11_rings_X9_has : GoodIn wsX11_rings wsX9_has := goodIn_r _ [6, 7, 50, 51, 52, 53, 54, 55, 56, 57, 58, 59] (by decide +kernel) (by decide +kernel)
set_option maxRecDepth 20000 in
theorem gX11_rings_X9_has_n121 : GoodIn wsX11_rings (wsX9_has) := ggX11_rings_X9_has
set_option maxRecDepth 20000 in
theorem ggX11_chord_X9_chordAt : GoodIn wsX11_chord wsX9_chordAt := goodIn_r _ [5, 6, 24, 25, 26, 27, 28, 29, 30, 31, 32, 33] (by decide +kernel) (by decide +kernel)
set_option maxRecDepth 20000 in
theorem gX11_chord_X9_chordAt_n146 : GoodIn wsX11_chord (wsX9_chordAt) := ggX11_chord_X9_chordAt
set_option maxRecDepth 20000 in
theorem ggX11_score_X11_within : GoodIn wsX11_score wsX11_within := goodIn_r _ [5] (by decide +kernel) (by decide +kernel)
set_option maxRecDepth 20000 in
theorem gX11_score_X11_within : GoodIn wsX11_score (va_wsS RX11 97 yX11_within wsX11_within) := goodIn_app (goodIn_of _ (by decide +kernel)) ggX11_score_X11_within
set_option maxRecDepth 20000 in
theorem ggX11_score_X9_chordAt : GoodIn wsX11_score wsX9_chordAt := goodIn_r _ [15, 16, 38, 39, 40, 41, 42, 43, 44, 45, 46, 47] (by decide +kernel) (by decide +kernel)
set_option maxRecDepth 20000 in
theorem gX11_score_X9_chordAt_n146 : GoodIn wsX11_score (wsX9_chordAt) := ggX11_score_X9_chordAt
set_option maxRecDepth 20000 in
theorem ggX11_score_X11_accept : GoodIn wsX11_score wsX11_accept := goodIn_r _ [20, 11, 21, 22, 23, 24, 25, 26, 27, 28, 29, 30, 31, 32, 33, 34, 35, 36, 37] (by decide +kernel) (by decide +kernel)
set_option maxRecDepth 20000 in
theorem gX11_score_X11_accept : GoodIn wsX11_score (wsV RX11 118 RX11 yX11_accept wsX11_accept) := goodIn_app (goodIn_of _ (by decide +kernel)) ggX11_score_X11_accept
set_option maxRecDepth 20000 in
theorem ggX11_score_X11_refuse : GoodIn wsX11_score wsX11_refuse := goodIn_r _ [9, 10, 11, 2, 3, 4, 5, 21, 22, 23, 24, 25, 26, 27, 28, 29, 30, 31, 32, 33, 34, 35, 36, 37] (by decide +kernel) (by decide +kernel)
set_option maxRecDepth 20000 in
theorem gX11_score_X11_refuse : GoodIn wsX11_score (wsV RX11 101 RX11 yX11_refuse wsX11_refuse) := goodIn_app (goodIn_of _ (by decide +kernel)) ggX11_score_X11_refuse
set_option maxRecDepth 20000 in
theorem ggX9_put_X11_within : GoodIn wsX9_put wsX11_within := goodIn_r _ [4] (by decide +kernel) (by decide +kernel)
set_option maxRecDepth 20000 in
theorem gX9_put_X11_within_n52 : GoodIn wsX9_put (wsX11_within) := ggX9_put_X11_within
set_option maxRecDepth 20000 in
theorem ggX9_build_X9_put : GoodIn wsX9_build wsX9_put := goodIn_r _ [6, 7, 8, 9, 10, 11, 12, 13, 14, 15, 16, 17, 18, 19, 20] (by decide +kernel) (by decide +kernel)
set_option maxRecDepth 20000 in
theorem gX9_build_X9_put : GoodIn wsX9_build (wsV RX9 60 RX9 yX9_put wsX9_put) := goodIn_app (goodIn_of _ (by decide +kernel)) ggX9_build_X9_put
set_option maxHeartbeats 4000000 in
set_option maxRecDepth 100000 in
theorem t_of (l : Launch) (D : va_G) (K : Nat → ClassId) (a0 : Nat) (x : Int32) (y : Int32) (a2 : Nat) (g1 : Value) (g2 : Value) (g3 : Value) (g4 : Value) (g5 : Value) (g6 : Value) (g7 : Value) (g8 : Value) (g9 : Value) (g10 : Value) (g11 : Value) (g12 : Value) (g13 : Value) (g14 : Value) (g15 : Value) (g16 : Value) (k0 : Value) (k1 : Value) (k2 : Value) (k3 : Value) (k5 : Value) (k6 : Value) (k7 : Value) (k8 : Value) (k9 : Value) (sz : Nat) : Met l yX11_of wsX11_of ({ frames := 1, cells := 0, slots := 0, locals := 21 }) (va_Pc [.ref a0, .int x, .int y] (Pre D K [(a0, .inr (11, [.ref a2, g1, g2, g3, g4, g5, g6, g7, g8, g9, g10, g11, g12, g13, g14, g15, g16])), (a2, .inr (9, [k0, k1, k2, k3, .int 0, k5, k6, k7, k8, k9]))] sz)) (vp_Si (fun r : Int32 => (r = (-1)))) 0 0 (fun _ => False) := by
  refine Met.ofW (cc := cX11_of) (maxL := 3) (ret := (some .int)) (by decide) rfl ?_
  intro p e s m args below meth c s₁ B hml hv
  obtain ⟨rfl, hsz, hP, hK, hD0, hN⟩ := hv
  have hx := B.exec
  have hb := B.bytes
  have hr := B.returns
  have hts := atoms_spec (ws := wsX11_of) B.pre
  have hown : s.vm.findClass RX11 = some m.cls := findClass_of_methodNamed B.named
  have hlocks := B.notSynchronized
  subst hsz
  have hD := hD0
  have hP : va_P D vwCl [(a0, .inr (11, [.ref a2, g1, g2, g3, g4, g5, g6, g7, g8, g9, g10, g11, g12, g13, g14, g15, g16])), (a2, .inr (9, [k0, k1, k2, k3, .int 0, k5, k6, k7, k8, k9]))] s.heap := hP
  have hl := lv_entry [.ref a0, .int x, .int y] (n := 3) (Nat.le_of_ble_eq_true rfl)
  rw [lg_entry_eq]
  generalize (lg_sl [.ref a0, .int x, .int y] ++ List.replicate (3 - (lg_sl [.ref a0, .int x, .int y]).length) Slot.unset).toArray = ls at hl ⊢
  have hl : lv_has ls 3 [(0, .ref a0), (1, .int x), (2, .int y)] := hl
  have hw0 : ∀ w ∈ wsX00, w ∈ wsX11_of := fun w h => (List.mem_cons_of_mem _ (List.mem_append_left _ (List.mem_append_left _ (List.mem_append_right _ h))))
  have hw3 : ∀ w ∈ wsX30, w ∈ wsX11_of := fun w h => (List.mem_cons_of_mem _ (List.mem_append_right _ h))
  have hw7 : ∀ w ∈ wsX70, w ∈ wsX11_of := fun w h => (List.mem_cons_of_mem _ (List.mem_append_left _ (List.mem_append_right _ h)))
  have hw9 : ∀ w ∈ wsX90, w ∈ wsX11_of := fun w h => (List.mem_cons_of_mem _ (List.mem_append_left _ (List.mem_append_left _ (List.mem_append_left _ (List.mem_append_right _ h)))))
  have hw11 : ∀ w ∈ wsX110, w ∈ wsX11_of := fun w h => (List.mem_cons_of_mem _ (List.mem_append_left _ (List.mem_append_left _ (List.mem_append_left _ (List.mem_append_left _ (List.mem_append_right _ h))))))
  refine lv_aload_n hx hb dX11_of_0 rfl (lv_at hl 0 rfl) ?_
  refine va_get (ci := 11) (v := .ref a2) (C := RX11) (T := TX11) (N := 17) hx hb hts hw11 hown hK hP 0 rfl rfl 0 (by decide) (hts (.fieldLink RX11 10 "SmokeTune" "town" "LSmokeTune$Town;") (List.mem_cons_of_mem _ (List.mem_append_left _ (List.mem_append_left _ (List.mem_append_left _ (List.mem_append_left _ (List.mem_append_left _ (List.mem_append_left _ (List.mem_of_getElem? (i := 0) rfl))))))))) (fun _ h9 => h9) rfl dX11_of_1 ?_
  refine lv_iload_n hx hb dX11_of_4 rfl (lv_at hl 1 rfl) ?_
  refine pci (va_runVN (As := [.int x]) (rest := []) ⟨hx, hb, hml, hown, hts⟩ (c_has l D K a2 x k0 k1 k2 k3 k5 k6 k7 k8 k9 s.heap.size) ⟨va_cnB 1 hts gX11_of_X9_has_n121 rfl rfl rfl (nst_at hN 19 rfl) (hts (.initialized RX9) (List.mem_cons_of_mem _ (List.mem_append_left _ (List.mem_append_left _ (List.mem_append_left _ (List.mem_append_left _ (List.mem_append_left _ (List.mem_append_left _ (List.mem_of_getElem? (i := 3) rfl))))))))) (by decide +kernel) ⟨Nat.le_of_ble_eq_true rfl, Nat.le_of_ble_eq_true rfl⟩, (hts (.instanceMethod yX9_has) (List.mem_cons_of_mem _ (List.mem_append_left _ (List.mem_append_left _ (List.mem_append_left _ (List.mem_append_left _ (List.mem_append_left _ (List.mem_append_left _ (List.mem_of_getElem? (i := 2) rfl))))))))), (hts (.selects RX9 yX9_has yX9_has) (List.mem_cons_of_mem _ (List.mem_append_left _ (List.mem_append_left _ (List.mem_append_left _ (List.mem_append_left _ (List.mem_append_left _ (List.mem_append_left _ (List.mem_of_getElem? (i := 4) rfl)))))))))⟩ (mkV hK hN (hP.sub [1] rfl) (hD.sub [1] (by decide) rfl) (ci := 9) (q0 := 0) rfl rfl) rfl rfl hl.1 rfl (lv_room (Nat.le_of_ble_eq_true rfl)) dX11_of_5 ⟨Nat.le_of_ble_eq_true rfl, Nat.le_of_ble_eq_true rfl⟩) (fun r_1 hw => ?_)
  obtain rfl : r_1 = 0 := hw
  refine lv_if_ne (tgt := 13) hx hb dX11_of_8 (by decide) (fun c_2 => absurd (by decide) c_2) (fun c_2 => ?_)
  refine lv_iconst (v := (-1)) hx hb dX11_of_11 (by decide) ?_
  exact W.iret (v := (-1)) hx hb hr (fun t ht hW => ⟨_, rfl, (by first | exact rfl), ht⟩) (fun q hq => by cases hq) dX11_of_12
set_option maxHeartbeats 4000000 in
set_option maxRecDepth 100000 in
theorem t_least (l : Launch) (D : va_G) (K : Nat → ClassId) (a0 : Nat) (x : Int32) (y : Int32) (z : Int32) (w : Int32) (a2 : Nat) (g1 : Value) (g2 : Value) (g3 : Value) (g4 : Value) (g5 : Value) (g6 : Value) (g7 : Value) (g8 : Value) (g9 : Value) (g10 : Value) (g11 : Value) (g12 : Value) (g13 : Value) (g14 : Value) (g15 : Value) (g16 : Value) (k0 : Value) (k1 : Value) (k2 : Value) (k3 : Value) (k5 : Value) (k6 : Value) (k7 : Value) (k8 : Value) (k9 : Value) (sz : Nat) : Met l yX11_least wsX11_least ({ frames := 1, cells := 0, slots := 0, locals := 21 }) (va_Pc [.ref a0, .int x, .int y, .int z, .int w] (Pre D K [(a0, .inr (11, [.ref a2, g1, g2, g3, g4, g5, g6, g7, g8, g9, g10, g11, g12, g13, g14, g15, g16])), (a2, .inr (9, [k0, k1, k2, k3, .int 0, k5, k6, k7, k8, k9]))] sz)) (vp_Si (fun r : Int32 => (r = (-1)))) 0 0 (fun _ => False) := by
  refine Met.ofW (cc := cX11_least) (maxL := 5) (ret := (some .int)) (by decide) rfl ?_
  intro p e s m args below meth c s₁ B hml hv
  obtain ⟨rfl, hsz, hP, hK, hD0, hN⟩ := hv
  have hx := B.exec
  have hb := B.bytes
  have hr := B.returns
  have hts := atoms_spec (ws := wsX11_least) B.pre
  have hown : s.vm.findClass RX11 = some m.cls := findClass_of_methodNamed B.named
  have hlocks := B.notSynchronized
  subst hsz
  have hD := hD0
  have hP : va_P D vwCl [(a0, .inr (11, [.ref a2, g1, g2, g3, g4, g5, g6, g7, g8, g9, g10, g11, g12, g13, g14, g15, g16])), (a2, .inr (9, [k0, k1, k2, k3, .int 0, k5, k6, k7, k8, k9]))] s.heap := hP
  have hl := lv_entry [.ref a0, .int x, .int y, .int z, .int w] (n := 5) (Nat.le_of_ble_eq_true rfl)
  rw [lg_entry_eq]
  generalize (lg_sl [.ref a0, .int x, .int y, .int z, .int w] ++ List.replicate (5 - (lg_sl [.ref a0, .int x, .int y, .int z, .int w]).length) Slot.unset).toArray = ls at hl ⊢
  have hl : lv_has ls 5 [(0, .ref a0), (1, .int x), (2, .int y), (3, .int z), (4, .int w)] := hl
  have hw0 : ∀ w ∈ wsX00, w ∈ wsX11_least := fun w h => (List.mem_cons_of_mem _ (List.mem_append_left _ (List.mem_append_left _ (List.mem_append_right _ h))))
  have hw3 : ∀ w ∈ wsX30, w ∈ wsX11_least := fun w h => (List.mem_cons_of_mem _ (List.mem_append_right _ h))
  have hw5 : ∀ w ∈ wsX50, w ∈ wsX11_least := fun w h => (List.mem_cons_of_mem _ (List.mem_append_left _ (List.mem_append_left _ (List.mem_append_left _ (List.mem_append_right _ h)))))
  have hw7 : ∀ w ∈ wsX70, w ∈ wsX11_least := fun w h => (List.mem_cons_of_mem _ (List.mem_append_left _ (List.mem_append_right _ h)))
  have hw9 : ∀ w ∈ wsX90, w ∈ wsX11_least := fun w h => (List.mem_cons_of_mem _ (List.mem_append_left _ (List.mem_append_left _ (List.mem_append_left _ (List.mem_append_left _ (List.mem_append_right _ h))))))
  have hw11 : ∀ w ∈ wsX110, w ∈ wsX11_least := fun w h => (List.mem_cons_of_mem _ (List.mem_append_left _ (List.mem_append_left _ (List.mem_append_left _ (List.mem_append_left _ (List.mem_append_left _ (List.mem_append_right _ h)))))))
  refine lv_aload_n hx hb dX11_least_0 rfl (lv_at hl 0 rfl) ?_
  refine va_get (ci := 11) (v := .ref a2) (C := RX11) (T := TX11) (N := 17) hx hb hts hw11 hown hK hP 0 rfl rfl 0 (by decide) (hts (.fieldLink RX11 10 "SmokeTune" "town" "LSmokeTune$Town;") (List.mem_cons_of_mem _ (List.mem_append_left _ (List.mem_append_left _ (List.mem_append_left _ (List.mem_append_left _ (List.mem_append_left _ (List.mem_append_left _ (List.mem_append_left _ (List.mem_of_getElem? (i := 0) rfl)))))))))) (fun _ h9 => h9) rfl dX11_least_1 ?_
  refine lv_iload_n hx hb dX11_least_4 rfl (lv_at hl 1 rfl) ?_
  refine pci (va_runVN (As := [.int x]) (rest := []) ⟨hx, hb, hml, hown, hts⟩ (c_has l D K a2 x k0 k1 k2 k3 k5 k6 k7 k8 k9 s.heap.size) ⟨va_cnB 1 hts gX11_least_X9_has_n121 rfl rfl rfl (nst_at hN 19 rfl) (hts (.initialized RX9) (List.mem_cons_of_mem _ (List.mem_append_left _ (List.mem_append_left _ (List.mem_append_left _ (List.mem_append_left _ (List.mem_append_left _ (List.mem_append_left _ (List.mem_append_left _ (List.mem_of_getElem? (i := 3) rfl)))))))))) (by decide +kernel) ⟨Nat.le_of_ble_eq_true rfl, Nat.le_of_ble_eq_true rfl⟩, (hts (.instanceMethod yX9_has) (List.mem_cons_of_mem _ (List.mem_append_left _ (List.mem_append_left _ (List.mem_append_left _ (List.mem_append_left _ (List.mem_append_left _ (List.mem_append_left _ (List.mem_append_left _ (List.mem_of_getElem? (i := 2) rfl)))))))))), (hts (.selects RX9 yX9_has yX9_has) (List.mem_cons_of_mem _ (List.mem_append_left _ (List.mem_append_left _ (List.mem_append_left _ (List.mem_append_left _ (List.mem_append_left _ (List.mem_append_left _ (List.mem_append_left _ (List.mem_of_getElem? (i := 4) rfl))))))))))⟩ (mkV hK hN (hP.sub [1] rfl) (hD.sub [1] (by decide) rfl) (ci := 9) (q0 := 0) rfl rfl) rfl rfl hl.1 rfl (lv_room (Nat.le_of_ble_eq_true rfl)) dX11_least_5 ⟨Nat.le_of_ble_eq_true rfl, Nat.le_of_ble_eq_true rfl⟩) (fun r_1 hw => ?_)
  obtain rfl : r_1 = 0 := hw
  refine lv_if_eq (tgt := 34) hx hb dX11_least_8 (by decide) (fun c_2 => ?_) (fun c_2 => absurd (by decide) c_2)
  refine lv_iconst (v := (-1)) hx hb dX11_least_34 (by decide) ?_
  exact W.iret (v := (-1)) hx hb hr (fun t ht hW => ⟨_, rfl, (by first | exact rfl), ht⟩) (fun q hq => by cases hq) dX11_least_35
set_option maxHeartbeats 4000000 in
set_option maxRecDepth 100000 in
theorem t_rings (l : Launch) (D : va_G) (K : Nat → ClassId) (a0 : Nat) (x : Int32) (a2 : Nat) (g1 : Value) (g2 : Value) (g3 : Value) (g4 : Value) (g5 : Value) (g6 : Value) (g7 : Value) (g8 : Value) (g9 : Value) (g10 : Value) (g11 : Value) (g12 : Value) (g13 : Value) (g14 : Value) (g15 : Value) (g16 : Value) (k0 : Value) (k1 : Value) (k2 : Value) (k3 : Value) (k5 : Value) (k6 : Value) (k7 : Value) (k8 : Value) (k9 : Value) (sz : Nat) : Met l yX11_rings wsX11_rings ({ frames := 1, cells := 0, slots := 0, locals := 21 }) (va_Pc [.ref a0, .int x] (Pre D K [(a0, .inr (11, [.ref a2, g1, g2, g3, g4, g5, g6, g7, g8, g9, g10, g11, g12, g13, g14, g15, g16])), (a2, .inr (9, [k0, k1, k2, k3, .int 0, k5, k6, k7, k8, k9]))] sz)) (vp_Si (fun r : Int32 => (r = (-1)))) 0 0 (fun _ => False) := by
  refine Met.ofW (cc := cX11_rings) (maxL := 2) (ret := (some .int)) (by decide) rfl ?_
  intro p e s m args below meth c s₁ B hml hv
  obtain ⟨rfl, hsz, hP, hK, hD0, hN⟩ := hv
  have hx := B.exec
  have hb := B.bytes
  have hr := B.returns
  have hts := atoms_spec (ws := wsX11_rings) B.pre
  have hown : s.vm.findClass RX11 = some m.cls := findClass_of_methodNamed B.named
  have hlocks := B.notSynchronized
  subst hsz
  have hD := hD0
  have hP : va_P D vwCl [(a0, .inr (11, [.ref a2, g1, g2, g3, g4, g5, g6, g7, g8, g9, g10, g11, g12, g13, g14, g15, g16])), (a2, .inr (9, [k0, k1, k2, k3, .int 0, k5, k6, k7, k8, k9]))] s.heap := hP
  have hl := lv_entry [.ref a0, .int x] (n := 2) (Nat.le_of_ble_eq_true rfl)
  rw [lg_entry_eq]
  generalize (lg_sl [.ref a0, .int x] ++ List.replicate (2 - (lg_sl [.ref a0, .int x]).length) Slot.unset).toArray = ls at hl ⊢
  have hl : lv_has ls 2 [(0, .ref a0), (1, .int x)] := hl
  have hw4 : ∀ w ∈ wsX40, w ∈ wsX11_rings := fun w h => (List.mem_cons_of_mem _ (List.mem_append_right _ h))
  have hw9 : ∀ w ∈ wsX90, w ∈ wsX11_rings := fun w h => (List.mem_cons_of_mem _ (List.mem_append_left _ (List.mem_append_right _ h)))
  have hw11 : ∀ w ∈ wsX110, w ∈ wsX11_rings := fun w h => (List.mem_cons_of_mem _ (List.mem_append_left _ (List.mem_append_left _ (List.mem_append_right _ h))))
  refine lv_aload_n hx hb dX11_rings_0 rfl (lv_at hl 0 rfl) ?_
  refine va_get (ci := 11) (v := .ref a2) (C := RX11) (T := TX11) (N := 17) hx hb hts hw11 hown hK hP 0 rfl rfl 0 (by decide) (hts (.fieldLink RX11 10 "SmokeTune" "town" "LSmokeTune$Town;") (List.mem_cons_of_mem _ (List.mem_append_left _ (List.mem_append_left _ (List.mem_append_left _ (List.mem_append_left _ (List.mem_of_getElem? (i := 0) rfl))))))) (fun _ h9 => h9) rfl dX11_rings_1 ?_
  refine lv_iload_n hx hb dX11_rings_4 rfl (lv_at hl 1 rfl) ?_
  refine pci (va_runVN (As := [.int x]) (rest := []) ⟨hx, hb, hml, hown, hts⟩ (c_has l D K a2 x k0 k1 k2 k3 k5 k6 k7 k8 k9 s.heap.size) ⟨va_cnB 1 hts gX11_rings_X9_has_n121 rfl rfl rfl (nst_at hN 19 rfl) (hts (.initialized RX9) (List.mem_cons_of_mem _ (List.mem_append_left _ (List.mem_append_left _ (List.mem_append_left _ (List.mem_append_left _ (List.mem_of_getElem? (i := 3) rfl))))))) (by decide +kernel) ⟨Nat.le_of_ble_eq_true rfl, Nat.le_of_ble_eq_true rfl⟩, (hts (.instanceMethod yX9_has) (List.mem_cons_of_mem _ (List.mem_append_left _ (List.mem_append_left _ (List.mem_append_left _ (List.mem_append_left _ (List.mem_of_getElem? (i := 2) rfl))))))), (hts (.selects RX9 yX9_has yX9_has) (List.mem_cons_of_mem _ (List.mem_append_left _ (List.mem_append_left _ (List.mem_append_left _ (List.mem_append_left _ (List.mem_of_getElem? (i := 4) rfl)))))))⟩ (mkV hK hN (hP.sub [1] rfl) (hD.sub [1] (by decide) rfl) (ci := 9) (q0 := 0) rfl rfl) rfl rfl hl.1 rfl (lv_room (Nat.le_of_ble_eq_true rfl)) dX11_rings_5 ⟨Nat.le_of_ble_eq_true rfl, Nat.le_of_ble_eq_true rfl⟩) (fun r_1 hw => ?_)
  obtain rfl : r_1 = 0 := hw
  refine lv_if_eq (tgt := 26) hx hb dX11_rings_8 (by decide) (fun c_2 => ?_) (fun c_2 => absurd (by decide) c_2)
  refine lv_iconst (v := (-1)) hx hb dX11_rings_26 (by decide) ?_
  exact W.iret (v := (-1)) hx hb hr (fun t ht hW => ⟨_, rfl, (by first | exact rfl), ht⟩) (fun q hq => by cases hq) dX11_rings_27
set_option maxHeartbeats 4000000 in
set_option maxRecDepth 100000 in
theorem c_chordAt (l : Launch) (D : va_G) (K : Nat → ClassId) (a0 : Nat) (x : Int32) (k0 : Value) (a2 : Nat) (k2 : Value) (k3 : Value) (k4 : Value) (k5 : Value) (k6 : Value) (k7 : Value) (k8 : Value) (k9 : Value) (fc : Nat → Int32) (X : Int) (sz : Nat) (qx : x.toInt = X) (hc : ∀ j, j < 24 → fc j = 0) : Met l yX9_chordAt wsX9_chordAt ({ frames := 0, cells := 0, slots := 0, locals := 0 }) (va_Pc [.ref a0, .int x] (Pre D K [(a0, .inr (9, [k0, .ref a2, k2, k3, k4, k5, k6, k7, k8, k9])), (a2, .inl (K 0, 24, .inl fc))] sz)) (vp_Si (fun r : Int32 => (r = 0 ∧ 0 ≤ X ∧ X ≤ 23) ∨ (r = (-1) ∧ (X < 0 ∨ 23 < X)))) 0 0 (fun _ => False) := by
  refine Met.ofW (cc := cX9_chordAt) (maxL := 2) (ret := (some .int)) (by decide) rfl ?_
  intro p e s m args below meth c s₁ B hml hv
  obtain ⟨rfl, hsz, hP, hK, hD0, hN⟩ := hv
  have hx := B.exec
  have hb := B.bytes
  have hr := B.returns
  have hts := atoms_spec (ws := wsX9_chordAt) B.pre
  have hown : s.vm.findClass RX9 = some m.cls := findClass_of_methodNamed B.named
  have hlocks := B.notSynchronized
  subst hsz
  have hD := hD0
  have hP : va_P D vwCl [(a0, .inr (9, [k0, .ref a2, k2, k3, k4, k5, k6, k7, k8, k9])), (a2, .inl (K 0, 24, .inl fc))] s.heap := hP
  have hl := lv_entry [.ref a0, .int x] (n := 2) (Nat.le_of_ble_eq_true rfl)
  rw [lg_entry_eq]
  generalize (lg_sl [.ref a0, .int x] ++ List.replicate (2 - (lg_sl [.ref a0, .int x]).length) Slot.unset).toArray = ls at hl ⊢
  have hl : lv_has ls 2 [(0, .ref a0), (1, .int x)] := hl
  have hw9 : ∀ w ∈ wsX90, w ∈ wsX9_chordAt := fun w h => (List.mem_cons_of_mem _ (List.mem_append_right _ h))
  refine lv_iload_n hx hb dX9_chordAt_0 rfl (lv_at hl 1 rfl) ?_
  refine lv_if_lt (tgt := 19) hx hb dX9_chordAt_1 (by decide) (fun c_1 => ?_) (fun c_1 => ?_)
  · have c_1i := i_lt (x := X) (y := 0) qx rfl c_1
    refine lv_iconst (v := (-1)) hx hb dX9_chordAt_19 (by decide) ?_
    exact W.iret (v := (-1)) hx hb hr (fun t ht hW => ⟨_, rfl, (by first | exact Or.inr (⟨rfl, by first | omega | decide | (subst_vars; assumption) | (subst_vars; symm; assumption)⟩)), ht⟩) (fun q hq => by cases hq) dX9_chordAt_20
  · have c_1i := i_nlt (x := X) (y := 0) qx rfl c_1
    refine lv_iload_n hx hb dX9_chordAt_4 rfl (lv_at hl 1 rfl) ?_
    refine lv_bipush (v := 24) hx hb dX9_chordAt_5 (by decide) ?_
    refine lv_icmp_ge (tgt := 19) hx hb dX9_chordAt_7 (by decide) (fun c_2 => ?_) (fun c_2 => ?_)
    · have c_2i := i_le (x := 24) (y := X) rfl qx c_2
      refine lv_iconst (v := (-1)) hx hb dX9_chordAt_19 (by decide) ?_
      exact W.iret (v := (-1)) hx hb hr (fun t ht hW => ⟨_, rfl, (by first | exact Or.inr (⟨rfl, by first | omega | decide | (subst_vars; assumption) | (subst_vars; symm; assumption)⟩)), ht⟩) (fun q hq => by cases hq) dX9_chordAt_20
    · have c_2i := i_nle (x := 24) (y := X) rfl qx c_2
      refine lv_aload_n hx hb dX9_chordAt_10 rfl (lv_at hl 0 rfl) ?_
      refine va_get (ci := 9) (v := .ref a2) (C := RX9) (T := TX9) (N := 10) hx hb hts hw9 hown hK hP 0 rfl rfl 1 (by decide) (hts (.fieldLink RX9 15 "SmokeTune$Town" "chords" "[I") (List.mem_cons_of_mem _ (List.mem_append_left _ (List.mem_of_getElem? (i := 0) rfl)))) (fun _ h9 => h9) rfl dX9_chordAt_11 ?_
      refine lv_iload_n hx hb dX9_chordAt_14 rfl (lv_at hl 1 rfl) ?_
      refine va_iald hx hb hK hP 1 0 rfl rfl (i_in qx (by omega)) dX9_chordAt_15 ?_
      refine lv_topi (fun x_3 ex_3 => ?_)
      obtain rfl : x_3 = 0 := ex_3.trans (hc _ (by rw [i_clamp qx]; omega))
      refine lv_goto (tgt := 20) hx hb dX9_chordAt_16 (by decide) ?_
      exact W.iret (v := 0) hx hb hr (fun t ht hW => ⟨_, rfl, (by first | exact Or.inl (⟨rfl, by first | omega | decide | (subst_vars; assumption) | (subst_vars; symm; assumption), by first | omega | decide | (subst_vars; assumption) | (subst_vars; symm; assumption)⟩)), ht⟩) (fun q hq => by cases hq) dX9_chordAt_20
set_option maxHeartbeats 4000000 in
set_option maxRecDepth 100000 in
theorem t_chord (l : Launch) (D : va_G) (K : Nat → ClassId) (a0 : Nat) (x : Int32) (a2 : Nat) (g1 : Value) (g2 : Value) (g3 : Value) (g4 : Value) (g5 : Value) (g6 : Value) (g7 : Value) (g8 : Value) (g9 : Value) (g10 : Value) (g11 : Value) (g12 : Value) (g13 : Value) (g14 : Value) (g15 : Value) (g16 : Value) (k0 : Value) (a3 : Nat) (k2 : Value) (k3 : Value) (k4 : Value) (k5 : Value) (k6 : Value) (k7 : Value) (k8 : Value) (k9 : Value) (sz : Nat) : Met l yX11_chord wsX11_chord ({ frames := 1, cells := 0, slots := 0, locals := 21 }) (va_Pc [.ref a0, .int x] (Pre D K [(a0, .inr (11, [.ref a2, g1, g2, g3, g4, g5, g6, g7, g8, g9, g10, g11, g12, g13, g14, g15, g16])), (a2, .inr (9, [k0, .ref a3, k2, k3, k4, k5, k6, k7, k8, k9])), (a3, .inl (K 0, 24, .inl (fun _ => 0)))] sz)) (vp_Si (fun r : Int32 => (r = 0 ∧ 0 ≤ x.toInt ∧ x.toInt ≤ 23) ∨ (r = (-1) ∧ (x.toInt < 0 ∨ 23 < x.toInt)))) 0 0 (fun _ => False) := by
  refine Met.ofW (cc := cX11_chord) (maxL := 2) (ret := (some .int)) (by decide) rfl ?_
  intro p e s m args below meth c s₁ B hml hv
  obtain ⟨rfl, hsz, hP, hK, hD0, hN⟩ := hv
  have hx := B.exec
  have hb := B.bytes
  have hr := B.returns
  have hts := atoms_spec (ws := wsX11_chord) B.pre
  have hown : s.vm.findClass RX11 = some m.cls := findClass_of_methodNamed B.named
  have hlocks := B.notSynchronized
  subst hsz
  have hD := hD0
  have hP : va_P D vwCl [(a0, .inr (11, [.ref a2, g1, g2, g3, g4, g5, g6, g7, g8, g9, g10, g11, g12, g13, g14, g15, g16])), (a2, .inr (9, [k0, .ref a3, k2, k3, k4, k5, k6, k7, k8, k9])), (a3, .inl (K 0, 24, .inl (fun _ => 0)))] s.heap := hP
  have hl := lv_entry [.ref a0, .int x] (n := 2) (Nat.le_of_ble_eq_true rfl)
  rw [lg_entry_eq]
  generalize (lg_sl [.ref a0, .int x] ++ List.replicate (2 - (lg_sl [.ref a0, .int x]).length) Slot.unset).toArray = ls at hl ⊢
  have hl : lv_has ls 2 [(0, .ref a0), (1, .int x)] := hl
  have hw9 : ∀ w ∈ wsX90, w ∈ wsX11_chord := fun w h => (List.mem_cons_of_mem _ (List.mem_append_right _ h))
  have hw11 : ∀ w ∈ wsX110, w ∈ wsX11_chord := fun w h => (List.mem_cons_of_mem _ (List.mem_append_left _ (List.mem_append_right _ h)))
  refine lv_aload_n hx hb dX11_chord_0 rfl (lv_at hl 0 rfl) ?_
  refine va_get (ci := 11) (v := .ref a2) (C := RX11) (T := TX11) (N := 17) hx hb hts hw11 hown hK hP 0 rfl rfl 0 (by decide) (hts (.fieldLink RX11 10 "SmokeTune" "town" "LSmokeTune$Town;") (List.mem_cons_of_mem _ (List.mem_append_left _ (List.mem_append_left _ (List.mem_of_getElem? (i := 0) rfl))))) (fun _ h9 => h9) rfl dX11_chord_1 ?_
  refine lv_iload_n hx hb dX11_chord_4 rfl (lv_at hl 1 rfl) ?_
  refine pci (va_runVN (As := [.int x]) (rest := []) ⟨hx, hb, hml, hown, hts⟩ (c_chordAt l D K a2 x k0 a3 k2 k3 k4 k5 k6 k7 k8 k9 (fun _ => 0) x.toInt s.heap.size rfl (fun _ _ => rfl)) ⟨va_cnB 1 hts gX11_chord_X9_chordAt_n146 rfl rfl rfl (nst_at hN 28 rfl) (hts (.initialized RX9) (List.mem_cons_of_mem _ (List.mem_append_left _ (List.mem_append_left _ (List.mem_of_getElem? (i := 2) rfl))))) (by decide +kernel) ⟨Nat.le_of_ble_eq_true rfl, Nat.le_of_ble_eq_true rfl⟩, (hts (.instanceMethod yX9_chordAt) (List.mem_cons_of_mem _ (List.mem_append_left _ (List.mem_append_left _ (List.mem_of_getElem? (i := 1) rfl))))), (hts (.selects RX9 yX9_chordAt yX9_chordAt) (List.mem_cons_of_mem _ (List.mem_append_left _ (List.mem_append_left _ (List.mem_of_getElem? (i := 3) rfl)))))⟩ (mkV hK hN (hP.sub [1, 2] rfl) (hD.sub [1, 2] (by decide) rfl) (ci := 9) (q0 := 0) rfl rfl) rfl rfl hl.1 rfl (lv_room (Nat.le_of_ble_eq_true rfl)) dX11_chord_5 ⟨Nat.le_of_ble_eq_true rfl, Nat.le_of_ble_eq_true rfl⟩) (fun r_1 hw => ?_)
  rcases hw with ⟨rfl, h_2, h_3⟩ | ⟨rfl, h_4⟩
  · exact W.iret (v := 0) hx hb hr (fun t ht hW => ⟨_, rfl, (by first | exact Or.inl (⟨rfl, by first | omega | decide | (subst_vars; assumption) | (subst_vars; symm; assumption), by first | omega | decide | (subst_vars; assumption) | (subst_vars; symm; assumption)⟩)), ht⟩) (fun q hq => by cases hq) dX11_chord_8
  · exact W.iret (v := (-1)) hx hb hr (fun t ht hW => ⟨_, rfl, (by first | exact Or.inr (⟨rfl, by first | omega | decide | (subst_vars; assumption) | (subst_vars; symm; assumption)⟩)), ht⟩) (fun q hq => by cases hq) dX11_chord_8
set_option maxHeartbeats 4000000 in
set_option maxRecDepth 100000 in
theorem t_score (l : Launch) (D : va_G) (K : Nat → ClassId) (a0 : Nat) (x : Int32) (y : Int32) (a2 : Nat) (g1 : Value) (g2 : Value) (g3 : Value) (g4 : Value) (g5 : Value) (g6 : Value) (g7 : Value) (g8 : Value) (g9 : Value) (g10 : Value) (g11 : Value) (a1 : Nat) (g13 : Value) (g14 : Value) (g15 : Value) (g16 : Value) (f : Nat → Int32) (k0 : Value) (a3 : Nat) (k2 : Value) (k3 : Value) (k4 : Value) (k5 : Value) (k6 : Value) (k7 : Value) (k8 : Value) (k9 : Value) (sz : Nat) : Met l yX11_score wsX11_score ({ frames := 2, cells := 0, slots := 0, locals := 44 }) (va_Pc [.ref a0, .int x, .int y] (Pre D K [(a0, .inr (11, [.ref a2, g1, g2, g3, g4, g5, g6, g7, g8, g9, g10, g11, .ref a1, g13, g14, g15, g16])), (a1, .inl (K 0, 5, .inl f)), (a2, .inr (9, [k0, .ref a3, k2, k3, k4, k5, k6, k7, k8, k9])), (a3, .inl (K 0, 24, .inl (fun _ => 0)))] sz)) (va_Qi (S := Unit) (fun (r : Int32) (_ : Unit) => (r = 0 ∧ 0 ≤ x.toInt ∧ x.toInt ≤ 23 ∧ 0 ≤ y.toInt ∧ y.toInt ≤ 127) ∨ (r = (-1) ∧ (x.toInt < 0 ∨ 23 < x.toInt ∨ y.toInt < 0 ∨ 127 < y.toInt))) (fun u t => Wd D (va_A [(a0, .inr (11, [.ref a2, g1, g2, g3, g4, g5, g6, g7, g8, g9, g10, g11, .ref a1, g13, g14, g15, g16])), (a1, .inl (K 0, 5, .inl f)), (a2, .inr (9, [k0, .ref a3, k2, k3, k4, k5, k6, k7, k8, k9])), (a3, .inl (K 0, 24, .inl (fun _ => 0)))] sz) ((fun _ => []) u) t) (va_A [(a0, .inr (11, [.ref a2, g1, g2, g3, g4, g5, g6, g7, g8, g9, g10, g11, .ref a1, g13, g14, g15, g16])), (a1, .inl (K 0, 5, .inl f)), (a2, .inr (9, [k0, .ref a3, k2, k3, k4, k5, k6, k7, k8, k9])), (a3, .inl (K 0, 24, .inl (fun _ => 0)))] sz)) 0 0 (va_A [(a0, .inr (11, [.ref a2, g1, g2, g3, g4, g5, g6, g7, g8, g9, g10, g11, .ref a1, g13, g14, g15, g16])), (a1, .inl (K 0, 5, .inl f)), (a2, .inr (9, [k0, .ref a3, k2, k3, k4, k5, k6, k7, k8, k9])), (a3, .inl (K 0, 24, .inl (fun _ => 0)))] sz) := by
  refine Met.ofW (cc := cX11_score) (maxL := 4) (ret := (some .int)) (by decide) rfl ?_
  intro p e s m args below meth c s₁ B hml hv
  obtain ⟨rfl, hsz, hP, hK, hD0, hN⟩ := hv
  have hx := B.exec
  have hb := B.bytes
  have hr := B.returns
  have hts := atoms_spec (ws := wsX11_score) B.pre
  have hown : s.vm.findClass RX11 = some m.cls := findClass_of_methodNamed B.named
  have hlocks := B.notSynchronized
  subst hsz
  have hD := hD0.self (sz := s.heap.size)
  generalize hAe : va_A [(a0, .inr (11, [.ref a2, g1, g2, g3, g4, g5, g6, g7, g8, g9, g10, g11, .ref a1, g13, g14, g15, g16])), (a1, .inl (K 0, 5, .inl f)), (a2, .inr (9, [k0, .ref a3, k2, k3, k4, k5, k6, k7, k8, k9])), (a3, .inl (K 0, 24, .inl (fun _ => 0)))] s.heap.size = A at hD ⊢
  have hA : ∀ q : Nat, s.heap.size ≤ q → A q := fun q h => by rw [← hAe]; exact Or.inr h
  have hS : va_S A s.heap s.heap [] := va_S.rf
  have hP : va_P D vwCl [(a0, .inr (11, [.ref a2, g1, g2, g3, g4, g5, g6, g7, g8, g9, g10, g11, .ref a1, g13, g14, g15, g16])), (a1, .inl (K 0, 5, .inl f)), (a2, .inr (9, [k0, .ref a3, k2, k3, k4, k5, k6, k7, k8, k9])), (a3, .inl (K 0, 24, .inl (fun _ => 0)))] s.heap := hP
  have hl := lv_entry [.ref a0, .int x, .int y] (n := 4) (Nat.le_of_ble_eq_true rfl)
  rw [lg_entry_eq]
  generalize (lg_sl [.ref a0, .int x, .int y] ++ List.replicate (4 - (lg_sl [.ref a0, .int x, .int y]).length) Slot.unset).toArray = ls at hl ⊢
  have hl : lv_has ls 4 [(0, .ref a0), (1, .int x), (2, .int y)] := hl
  have hw9 : ∀ w ∈ wsX90, w ∈ wsX11_score := fun w h => (List.mem_cons_of_mem _ (List.mem_append_right _ h))
  have hw11 : ∀ w ∈ wsX110, w ∈ wsX11_score := fun w h => (List.mem_cons_of_mem _ (List.mem_append_left _ (List.mem_append_right _ h)))
  refine lv_iload_n hx hb dX11_score_0 rfl (lv_at hl 1 rfl) ?_
  refine lv_iconst (v := 0) hx hb dX11_score_1 (by decide) ?_
  refine lv_bipush (v := 23) hx hb dX11_score_2 (by decide) ?_
  refine pci (va_runS (As := [.int x, .int 0, .int 23]) (rest := []) ⟨hx, hb, hml, hown, hts⟩ (c_within l D K x 0 23 x.toInt 0 23 s.heap.size rfl rfl rfl) (va_cwS 3 hts gX11_score_X11_within rfl rfl rfl (by decide +kernel) ⟨Nat.le_of_ble_eq_true rfl, Nat.le_of_ble_eq_true rfl⟩) (mkS hK hN (hP.sub [] rfl) (hD.sub [] (by decide) rfl)) rfl rfl hl.1 rfl (lv_room (Nat.le_of_ble_eq_true rfl)) dX11_score_4 ⟨Nat.le_of_ble_eq_true rfl, Nat.le_of_ble_eq_true rfl⟩) (fun r_1 hw => ?_)
  rcases hw with ⟨rfl, h_2, h_3⟩ | ⟨rfl, h_4⟩
  · refine lv_if_eq (tgt := 20) hx hb dX11_score_7 (by decide) (fun c_5 => absurd c_5 (by decide)) (fun c_5 => ?_)
    refine lv_iload_n hx hb dX11_score_10 rfl (lv_at hl 2 rfl) ?_
    refine lv_iconst (v := 0) hx hb dX11_score_11 (by decide) ?_
    refine lv_bipush (v := 127) hx hb dX11_score_12 (by decide) ?_
    refine pci (va_runS (As := [.int y, .int 0, .int 127]) (rest := []) ⟨hx, hb, hml, hown, hts⟩ (c_within l D K y 0 127 y.toInt 0 127 s.heap.size rfl rfl rfl) (va_cwS 3 hts gX11_score_X11_within rfl rfl rfl (by decide +kernel) ⟨Nat.le_of_ble_eq_true rfl, Nat.le_of_ble_eq_true rfl⟩) (mkS hK hN (hP.sub [] rfl) (hD.sub [] (by decide) rfl)) rfl rfl hl.1 rfl (lv_room (Nat.le_of_ble_eq_true rfl)) dX11_score_14 ⟨Nat.le_of_ble_eq_true rfl, Nat.le_of_ble_eq_true rfl⟩) (fun r_6 hw => ?_)
    rcases hw with ⟨rfl, h_7, h_8⟩ | ⟨rfl, h_9⟩
    · refine lv_if_ne (tgt := 26) hx hb dX11_score_17 (by decide) (fun c_10 => ?_) (fun c_10 => absurd c_10 (by decide))
      refine lv_aload_n hx hb dX11_score_26 rfl (lv_at hl 0 rfl) ?_
      refine va_get (ci := 11) (v := .ref a2) (C := RX11) (T := TX11) (N := 17) hx hb hts hw11 hown hK hP 0 rfl rfl 0 (by decide) (hts (.fieldLink RX11 10 "SmokeTune" "town" "LSmokeTune$Town;") (List.mem_cons_of_mem _ (List.mem_append_left _ (List.mem_append_left _ (List.mem_of_getElem? (i := 0) rfl))))) (fun _ h9 => h9) rfl dX11_score_27 ?_
      refine lv_iload_n hx hb dX11_score_30 rfl (lv_at hl 1 rfl) ?_
      refine pci (va_runVN (As := [.int x]) (rest := []) ⟨hx, hb, hml, hown, hts⟩ (c_chordAt l D K a2 x k0 a3 k2 k3 k4 k5 k6 k7 k8 k9 (fun _ => 0) x.toInt s.heap.size rfl (fun _ _ => rfl)) ⟨va_cnB 1 hts gX11_score_X9_chordAt_n146 rfl rfl rfl (nst_at hN 28 rfl) (hts (.initialized RX9) (List.mem_cons_of_mem _ (List.mem_append_left _ (List.mem_append_left _ (List.mem_of_getElem? (i := 12) rfl))))) (by decide +kernel) ⟨Nat.le_of_ble_eq_true rfl, Nat.le_of_ble_eq_true rfl⟩, (hts (.instanceMethod yX9_chordAt) (List.mem_cons_of_mem _ (List.mem_append_left _ (List.mem_append_left _ (List.mem_of_getElem? (i := 11) rfl))))), (hts (.selects RX9 yX9_chordAt yX9_chordAt) (List.mem_cons_of_mem _ (List.mem_append_left _ (List.mem_append_left _ (List.mem_of_getElem? (i := 13) rfl)))))⟩ (mkV hK hN (hP.sub [2, 3] rfl) (hD.sub [2, 3] (by decide) rfl) (ci := 9) (q0 := 0) rfl rfl) rfl rfl hl.1 rfl (lv_room (Nat.le_of_ble_eq_true rfl)) dX11_score_31 ⟨Nat.le_of_ble_eq_true rfl, Nat.le_of_ble_eq_true rfl⟩) (fun r_11 hw => ?_)
      rcases hw with ⟨rfl, h_12, h_13⟩ | ⟨rfl, h_14⟩
      · refine lv_istore_n (lv' := [(3, .int 0), (0, .ref a0), (1, .int x), (2, .int y)]) hx hb dX11_score_34 rfl hl (by decide) rfl (fun ls hl => ?_)
        refine lv_aload_n hx hb dX11_score_35 rfl (lv_at hl 1 rfl) ?_
        refine va_get (ci := 11) (v := .ref a2) (C := RX11) (T := TX11) (N := 17) hx hb hts hw11 hown hK hP 0 rfl rfl 0 (by decide) (hts (.fieldLink RX11 10 "SmokeTune" "town" "LSmokeTune$Town;") (List.mem_cons_of_mem _ (List.mem_append_left _ (List.mem_append_left _ (List.mem_of_getElem? (i := 0) rfl))))) (fun _ h9 => h9) rfl dX11_score_36 ?_
        refine va_getN (ci := 9) (v := .ref a3) (C := RX9) (T := TX9) (N := 10) hx hb hts hw9 hown hK hP 2 rfl rfl 1 (by decide) (nst_use hN 98 rfl) (fun _ h9 => h9) rfl dX11_score_39 ?_
        refine lv_iload_n hx hb dX11_score_42 rfl (lv_at hl 2 rfl) ?_
        refine lv_iload_n hx hb dX11_score_43 rfl (lv_at hl 3 rfl) ?_
        refine va_iast hx hb hK hP hD hS 3 0 rfl rfl (i_in rfl (by omega)) dX11_score_44 (fun H locs hP hD hS => ?_)
        generalize hf_15 : (upd (fun _ => 0) (x : Int32).toNatClampNeg y) = f_15 at hP hD
        have hP : va_P D vwCl [(a0, .inr (11, [.ref a2, g1, g2, g3, g4, g5, g6, g7, g8, g9, g10, g11, .ref a1, g13, g14, g15, g16])), (a1, .inl (K 0, 5, .inl f)), (a2, .inr (9, [k0, .ref a3, k2, k3, k4, k5, k6, k7, k8, k9])), (a3, .inl (K 0, 24, .inl f_15))] H := hP
        have hD : va_D A [(a0, .inr (11, [.ref a2, g1, g2, g3, g4, g5, g6, g7, g8, g9, g10, g11, .ref a1, g13, g14, g15, g16])), (a1, .inl (K 0, 5, .inl f)), (a2, .inr (9, [k0, .ref a3, k2, k3, k4, k5, k6, k7, k8, k9])), (a3, .inl (K 0, 24, .inl f_15))] := hD
        refine lv_aload_n hx hb dX11_score_45 rfl (lv_at hl 1 rfl) ?_
        refine lv_iload_n hx hb dX11_score_46 rfl (lv_at hl 0 rfl) ?_
        refine kci (wr := [(a1, .inl (K 0, 5, .inl f)), (a2, .inr (9, [k0, .ref a3, k2, k3, k4, k5, k6, k7, k8, k9])), (a3, .inl (K 0, 24, .inl f_15))]) (va_runV (As := [.int 0]) (rest := []) ⟨hx, hb, hml, hown, hts⟩ (c_accept l D K a0 0 (.ref a2) g1 g2 g3 g4 g5 g6 g7 g8 g9 g10 g11 (.ref a1) g13 g14 g15 g16 H.size) (cwV 1 hts gX11_score_X11_accept rfl rfl rfl (by decide +kernel) ⟨Nat.le_of_ble_eq_true rfl, Nat.le_of_ble_eq_true rfl⟩) (mkV hK hN (hP.sub [0] rfl) (hD.sub [0] (by decide) rfl) (ci := 11) (q0 := 0) rfl rfl) rfl rfl hl.1 rfl (lv_room (Nat.le_of_ble_eq_true rfl)) dX11_score_47 ⟨Nat.le_of_ble_eq_true rfl, Nat.le_of_ble_eq_true rfl⟩) hP hD hS hA [0] [1, 2, 3] rfl rfl (by decide) (by decide) (fun r_16 u_17 H locs hw hP hD hS => ?_)
        have hP : va_P D vwCl [(a1, .inl (K 0, 5, .inl f)), (a2, .inr (9, [k0, .ref a3, k2, k3, k4, k5, k6, k7, k8, k9])), (a3, .inl (K 0, 24, .inl f_15))] H := hP
        have hD : va_D A [(a1, .inl (K 0, 5, .inl f)), (a2, .inr (9, [k0, .ref a3, k2, k3, k4, k5, k6, k7, k8, k9])), (a3, .inl (K 0, 24, .inl f_15))] := hD
        obtain rfl : r_16 = 0 := hw
        exact W.iret (v := 0) hx hb hr (fun t ht hW => ⟨⟨0, (), rfl, (by first | exact Or.inl (⟨rfl, by first | omega | decide | (subst_vars; assumption) | (subst_vars; symm; assumption), by first | omega | decide | (subst_vars; assumption) | (subst_vars; symm; assumption), by first | omega | decide | (subst_vars; assumption) | (subst_vars; symm; assumption), by first | omega | decide | (subst_vars; assumption) | (subst_vars; symm; assumption)⟩)), Wd.nil⟩, hS.F ht⟩) hS.2.2 dX11_score_50
      · exfalso; omega
    · refine lv_if_ne (tgt := 26) hx hb dX11_score_17 (by decide) (fun c_18 => absurd (by decide) c_18) (fun c_18 => ?_)
      refine lv_aload_n hx hb dX11_score_20 rfl (lv_at hl 0 rfl) ?_
      refine lv_iconst (v := (-1)) hx hb dX11_score_21 (by decide) ?_
      refine kci (wr := [(a2, .inr (9, [k0, .ref a3, k2, k3, k4, k5, k6, k7, k8, k9])), (a3, .inl (K 0, 24, .inl (fun _ => 0)))]) (va_runV (As := [.int (-1)]) (rest := []) ⟨hx, hb, hml, hown, hts⟩ (c_refuse_1 l D K a0 (.ref a2) g1 g2 g3 g4 g5 g6 g7 g8 g9 g10 g11 a1 g13 g14 g15 g16 f s.heap.size) (cwV 1 hts gX11_score_X11_refuse rfl rfl rfl (by decide +kernel) ⟨Nat.le_of_ble_eq_true rfl, Nat.le_of_ble_eq_true rfl⟩) (mkV hK hN (hP.sub [0, 1] rfl) (hD.sub [0, 1] (by decide) rfl) (ci := 11) (q0 := 0) rfl rfl) rfl rfl hl.1 rfl (lv_room (Nat.le_of_ble_eq_true rfl)) dX11_score_22 ⟨Nat.le_of_ble_eq_true rfl, Nat.le_of_ble_eq_true rfl⟩) hP hD hS hA [0, 1] [2, 3] rfl rfl (by decide) (by decide) (fun r_19 u_20 H locs hw hP hD hS => ?_)
      have hP : va_P D vwCl [(a2, .inr (9, [k0, .ref a3, k2, k3, k4, k5, k6, k7, k8, k9])), (a3, .inl (K 0, 24, .inl (fun _ => 0)))] H := hP
      have hD : va_D A [(a2, .inr (9, [k0, .ref a3, k2, k3, k4, k5, k6, k7, k8, k9])), (a3, .inl (K 0, 24, .inl (fun _ => 0)))] := hD
      obtain rfl : r_19 = (-1) := hw
      exact W.iret (v := (-1)) hx hb hr (fun t ht hW => ⟨⟨(-1), (), rfl, (by first | exact Or.inr (⟨rfl, by first | omega | decide | (subst_vars; assumption) | (subst_vars; symm; assumption)⟩)), Wd.nil⟩, hS.F ht⟩) hS.2.2 dX11_score_25
  · refine lv_if_eq (tgt := 20) hx hb dX11_score_7 (by decide) (fun c_21 => ?_) (fun c_21 => absurd (by decide) c_21)
    refine lv_aload_n hx hb dX11_score_20 rfl (lv_at hl 0 rfl) ?_
    refine lv_iconst (v := (-1)) hx hb dX11_score_21 (by decide) ?_
    refine kci (wr := [(a2, .inr (9, [k0, .ref a3, k2, k3, k4, k5, k6, k7, k8, k9])), (a3, .inl (K 0, 24, .inl (fun _ => 0)))]) (va_runV (As := [.int (-1)]) (rest := []) ⟨hx, hb, hml, hown, hts⟩ (c_refuse_1 l D K a0 (.ref a2) g1 g2 g3 g4 g5 g6 g7 g8 g9 g10 g11 a1 g13 g14 g15 g16 f s.heap.size) (cwV 1 hts gX11_score_X11_refuse rfl rfl rfl (by decide +kernel) ⟨Nat.le_of_ble_eq_true rfl, Nat.le_of_ble_eq_true rfl⟩) (mkV hK hN (hP.sub [0, 1] rfl) (hD.sub [0, 1] (by decide) rfl) (ci := 11) (q0 := 0) rfl rfl) rfl rfl hl.1 rfl (lv_room (Nat.le_of_ble_eq_true rfl)) dX11_score_22 ⟨Nat.le_of_ble_eq_true rfl, Nat.le_of_ble_eq_true rfl⟩) hP hD hS hA [0, 1] [2, 3] rfl rfl (by decide) (by decide) (fun r_22 u_23 H locs hw hP hD hS => ?_)
    have hP : va_P D vwCl [(a2, .inr (9, [k0, .ref a3, k2, k3, k4, k5, k6, k7, k8, k9])), (a3, .inl (K 0, 24, .inl (fun _ => 0)))] H := hP
    have hD : va_D A [(a2, .inr (9, [k0, .ref a3, k2, k3, k4, k5, k6, k7, k8, k9])), (a3, .inl (K 0, 24, .inl (fun _ => 0)))] := hD
    obtain rfl : r_22 = (-1) := hw
    exact W.iret (v := (-1)) hx hb hr (fun t ht hW => ⟨⟨(-1), (), rfl, (by first | exact Or.inr (⟨rfl, by first | omega | decide | (subst_vars; assumption) | (subst_vars; symm; assumption)⟩)), Wd.nil⟩, hS.F ht⟩) hS.2.2 dX11_score_25
set_option maxHeartbeats 4000000 in
set_option maxRecDepth 100000 in
theorem c_dinerOf (l : Launch) (D : va_G) (K : Nat → ClassId) (a0 : Nat) (x : Int32) (k0 : Value) (k1 : Value) (k2 : Value) (k3 : Value) (k5 : Value) (k6 : Value) (k7 : Value) (k8 : Value) (k9 : Value) (sz : Nat) : Met l yX9_dinerOf wsX9_dinerOf ({ frames := 0, cells := 0, slots := 0, locals := 0 }) (va_Pc [.ref a0, .int x] (Pre D K [(a0, .inr (9, [k0, k1, k2, k3, .int 0, k5, k6, k7, k8, k9]))] sz)) (vp_Si (fun r : Int32 => (r = (-1)))) 0 0 (fun _ => False) := by
  refine Met.ofW (cc := cX9_dinerOf) (maxL := 3) (ret := (some .int)) (by decide) rfl ?_
  intro p e s m args below meth c s₁ B hml hv
  obtain ⟨rfl, hsz, hP, hK, hD0, hN⟩ := hv
  have hx := B.exec
  have hb := B.bytes
  have hr := B.returns
  have hts := atoms_spec (ws := wsX9_dinerOf) B.pre
  have hown : s.vm.findClass RX9 = some m.cls := findClass_of_methodNamed B.named
  have hlocks := B.notSynchronized
  subst hsz
  have hD := hD0
  have hP : va_P D vwCl [(a0, .inr (9, [k0, k1, k2, k3, .int 0, k5, k6, k7, k8, k9]))] s.heap := hP
  have hl := lv_entry [.ref a0, .int x] (n := 3) (Nat.le_of_ble_eq_true rfl)
  rw [lg_entry_eq]
  generalize (lg_sl [.ref a0, .int x] ++ List.replicate (3 - (lg_sl [.ref a0, .int x]).length) Slot.unset).toArray = ls at hl ⊢
  have hl : lv_has ls 3 [(0, .ref a0), (1, .int x)] := hl
  have hw9 : ∀ w ∈ wsX90, w ∈ wsX9_dinerOf := fun w h => (List.mem_cons_of_mem _ (List.mem_append_right _ h))
  refine lv_iconst (v := 0) hx hb dX9_dinerOf_0 (by decide) ?_
  refine lv_istore_n (lv' := [(2, .int 0), (0, .ref a0), (1, .int x)]) hx hb dX9_dinerOf_1 rfl hl (by decide) rfl (fun ls hl => ?_)
  refine lv_iload_n hx hb dX9_dinerOf_2 rfl (lv_at hl 0 rfl) ?_
  refine lv_aload_n hx hb dX9_dinerOf_3 rfl (lv_at hl 1 rfl) ?_
  refine va_get (ci := 9) (v := .int 0) (C := RX9) (T := TX9) (N := 10) hx hb hts hw9 hown hK hP 0 rfl rfl 4 (by decide) (hts (.fieldLink RX9 27 "SmokeTune$Town" "houses" "I") (List.mem_cons_of_mem _ (List.mem_append_left _ (List.mem_of_getElem? (i := 0) rfl)))) (fun _ h9 => h9) rfl dX9_dinerOf_4 ?_
  refine lv_icmp_ge (tgt := 28) hx hb dX9_dinerOf_7 (by decide) (fun c_1 => ?_) (fun c_1 => absurd (by decide) c_1)
  refine lv_iconst (v := (-1)) hx hb dX9_dinerOf_28 (by decide) ?_
  exact W.iret (v := (-1)) hx hb hr (fun t ht hW => ⟨_, rfl, (by first | exact rfl), ht⟩) (fun q hq => by cases hq) dX9_dinerOf_29
set_option maxHeartbeats 4000000 in
set_option maxRecDepth 100000 in
theorem c_clear (l : Launch) (D : va_G) (K : Nat → ClassId) (a0 : Nat) (g0 : Value) (g1 : Value) (g2 : Value) (sz : Nat) : Met l yX2_clear wsX2_clear ({ frames := 0, cells := 0, slots := 0, locals := 0 }) (va_Pc [.ref a0] (Pre D K [(a0, .inr (2, [g0, g1, g2]))] sz)) (va_Qv (S := Unit) (fun _ => True) (fun u t => Wd D (va_A [(a0, .inr (2, [g0, g1, g2]))] sz) ((fun _ => []) u) t) (va_A [(a0, .inr (2, [g0, g1, g2]))] sz)) 0 0 (va_A [(a0, .inr (2, [g0, g1, g2]))] sz) := by
  refine Met.ofW (cc := cX2_clear) (maxL := 1) (ret := none) (by decide) rfl ?_
  intro p e s m args below meth c s₁ B hml hv
  obtain ⟨rfl, hsz, hP, hK, hD0, hN⟩ := hv
  have hx := B.exec
  have hb := B.bytes
  have hr := B.returns
  have hts := atoms_spec (ws := wsX2_clear) B.pre
  have hown : s.vm.findClass RX2 = some m.cls := findClass_of_methodNamed B.named
  have hlocks := B.notSynchronized
  subst hsz
  have hD := hD0.self (sz := s.heap.size)
  generalize hAe : va_A [(a0, .inr (2, [g0, g1, g2]))] s.heap.size = A at hD ⊢
  have hA : ∀ q : Nat, s.heap.size ≤ q → A q := fun q h => by rw [← hAe]; exact Or.inr h
  have hS : va_S A s.heap s.heap [] := va_S.rf
  have hP : va_P D vwCl [(a0, .inr (2, [g0, g1, g2]))] s.heap := hP
  have hl := lv_entry [.ref a0] (n := 1) (Nat.le_of_ble_eq_true rfl)
  rw [lg_entry_eq]
  generalize (lg_sl [.ref a0] ++ List.replicate (1 - (lg_sl [.ref a0]).length) Slot.unset).toArray = ls at hl ⊢
  have hl : lv_has ls 1 [(0, .ref a0)] := hl
  have hw2 : ∀ w ∈ wsX20, w ∈ wsX2_clear := fun w h => (List.mem_cons_of_mem _ (List.mem_append_right _ h))
  refine lv_aload_n hx hb dX2_clear_0 rfl (lv_at hl 0 rfl) ?_
  refine lv_iconst (v := 0) hx hb dX2_clear_1 (by decide) ?_
  refine va_put (ci := 2) (v := .int 0) (ty := .int) (C := RX2) (T := TX2) (N := 3) hx hb hts hw2 tyX2 tyX2_ok nmX2 hown hK hP hD hS 0 rfl rfl 2 (by decide) (hts (.fieldLink RX2 19 "SmokeTune$History" "kept" "I") (List.mem_cons_of_mem _ (List.mem_append_left _ (List.mem_of_getElem? (i := 0) rfl)))) (fun _ h9 => h9) rfl (by decide +kernel) (by first | rfl | decide) (by first | rfl | decide) (Nat.le_of_ble_eq_true rfl) dX2_clear_2 (fun H locs hP hD hS => ?_)
  have hP : va_P D vwCl [(a0, .inr (2, [g0, g1, .int 0]))] H := hP
  have hD : va_D A [(a0, .inr (2, [g0, g1, .int 0]))] := hD
  exact W.vret hx hb hr (fun t ht hW => ⟨⟨(), rfl, trivial, Wd.nil⟩, hS.F ht⟩) hS.2.2 dX2_clear_5
set_option maxHeartbeats 4000000 in
set_option maxRecDepth 100000 in
theorem c_put_0 (l : Launch) (D : va_G) (K : Nat → ClassId) (a0 : Nat) (x : Int32) (a1 : Nat) (k1 : Value) (k2 : Value) (k3 : Value) (k4 : Value) (k5 : Value) (k6 : Value) (k7 : Value) (k8 : Value) (k9 : Value) (f : Nat → Int32) (sz : Nat) : Met l yX9_put wsX9_put ({ frames := 1, cells := 0, slots := 0, locals := 22 }) (va_Pc [.ref a0, .int 0, .int 0, .int x] (Pre D K [(a0, .inr (9, [.ref a1, k1, k2, k3, k4, k5, k6, k7, k8, k9])), (a1, .inl (K 0, 56, .inl f))] sz)) (va_Qv (S := (Nat → Nat) × (Nat → Nat → Int32) × (Nat → Nat → Int64) × (Nat → Int32)) (fun _ => True) (fun u t => Wd D (va_A [(a0, .inr (9, [.ref a1, k1, k2, k3, k4, k5, k6, k7, k8, k9])), (a1, .inl (K 0, 56, .inl f))] sz) ((fun u => [(a0, .inr (9, [.ref a1, k1, k2, k3, k4, k5, k6, k7, k8, k9])), (a1, .inl (K 0, 56, .inl ((u.2.1 0))))]) u) t) (va_A [(a0, .inr (9, [.ref a1, k1, k2, k3, k4, k5, k6, k7, k8, k9])), (a1, .inl (K 0, 56, .inl f))] sz)) 0 0 (va_A [(a0, .inr (9, [.ref a1, k1, k2, k3, k4, k5, k6, k7, k8, k9])), (a1, .inl (K 0, 56, .inl f))] sz) := by
  refine Met.ofW (cc := cX9_put) (maxL := 4) (ret := none) (by decide) rfl ?_
  intro p e s m args below meth c s₁ B hml hv
  obtain ⟨rfl, hsz, hP, hK, hD0, hN⟩ := hv
  have hx := B.exec
  have hb := B.bytes
  have hr := B.returns
  have hts := atoms_spec (ws := wsX9_put) B.pre
  have hown : s.vm.findClass RX9 = some m.cls := findClass_of_methodNamed B.named
  have hlocks := B.notSynchronized
  subst hsz
  have hD := hD0.self (sz := s.heap.size)
  generalize hAe : va_A [(a0, .inr (9, [.ref a1, k1, k2, k3, k4, k5, k6, k7, k8, k9])), (a1, .inl (K 0, 56, .inl f))] s.heap.size = A at hD ⊢
  have hA : ∀ q : Nat, s.heap.size ≤ q → A q := fun q h => by rw [← hAe]; exact Or.inr h
  have hS : va_S A s.heap s.heap [] := va_S.rf
  have hP : va_P D vwCl [(a0, .inr (9, [.ref a1, k1, k2, k3, k4, k5, k6, k7, k8, k9])), (a1, .inl (K 0, 56, .inl f))] s.heap := hP
  have hl := lv_entry [.ref a0, .int 0, .int 0, .int x] (n := 4) (Nat.le_of_ble_eq_true rfl)
  rw [lg_entry_eq]
  generalize (lg_sl [.ref a0, .int 0, .int 0, .int x] ++ List.replicate (4 - (lg_sl [.ref a0, .int 0, .int 0, .int x]).length) Slot.unset).toArray = ls at hl ⊢
  have hl : lv_has ls 4 [(0, .ref a0), (1, .int 0), (2, .int 0), (3, .int x)] := hl
  have hw9 : ∀ w ∈ wsX90, w ∈ wsX9_put := fun w h => (List.mem_cons_of_mem _ (List.mem_append_right _ h))
  refine lv_iload_n hx hb dX9_put_0 rfl (lv_at hl 1 rfl) ?_
  refine lv_iconst (v := 0) hx hb dX9_put_1 (by decide) ?_
  refine lv_bipush (v := 7) hx hb dX9_put_2 (by decide) ?_
  refine pci (va_runSN (As := [.int 0, .int 0, .int 7]) (rest := []) ⟨hx, hb, hml, hown, hts⟩ (c_within l D K 0 0 7 0 0 7 s.heap.size rfl rfl rfl) ⟨va_cnB 3 hts gX9_put_X11_within_n52 rfl rfl rfl (nst_at hN 18 rfl) (hts (.initialized RX11) (List.mem_cons_of_mem _ (List.mem_append_left _ (List.mem_of_getElem? (i := 2) rfl)))) (by decide +kernel) ⟨Nat.le_of_ble_eq_true rfl, Nat.le_of_ble_eq_true rfl⟩, (hts (.static yX11_within) (List.mem_cons_of_mem _ (List.mem_append_left _ (List.mem_of_getElem? (i := 1) rfl)))), trivial⟩ (mkS hK hN (hP.sub [] rfl) (hD.sub [] (by decide) rfl)) rfl rfl hl.1 rfl (lv_room (Nat.le_of_ble_eq_true rfl)) dX9_put_4 ⟨Nat.le_of_ble_eq_true rfl, Nat.le_of_ble_eq_true rfl⟩) (fun r_1 hw => ?_)
  rcases hw with ⟨rfl, h_2, h_3⟩ | ⟨rfl, h_4⟩
  · refine lv_if_eq (tgt := 32) hx hb dX9_put_7 (by decide) (fun c_5 => absurd c_5 (by decide)) (fun c_5 => ?_)
    refine lv_iload_n hx hb dX9_put_10 rfl (lv_at hl 2 rfl) ?_
    refine lv_iconst (v := 0) hx hb dX9_put_11 (by decide) ?_
    refine lv_bipush (v := 6) hx hb dX9_put_12 (by decide) ?_
    refine pci (va_runSN (As := [.int 0, .int 0, .int 6]) (rest := []) ⟨hx, hb, hml, hown, hts⟩ (c_within l D K 0 0 6 0 0 6 s.heap.size rfl rfl rfl) ⟨va_cnB 3 hts gX9_put_X11_within_n52 rfl rfl rfl (nst_at hN 18 rfl) (hts (.initialized RX11) (List.mem_cons_of_mem _ (List.mem_append_left _ (List.mem_of_getElem? (i := 2) rfl)))) (by decide +kernel) ⟨Nat.le_of_ble_eq_true rfl, Nat.le_of_ble_eq_true rfl⟩, (hts (.static yX11_within) (List.mem_cons_of_mem _ (List.mem_append_left _ (List.mem_of_getElem? (i := 1) rfl)))), trivial⟩ (mkS hK hN (hP.sub [] rfl) (hD.sub [] (by decide) rfl)) rfl rfl hl.1 rfl (lv_room (Nat.le_of_ble_eq_true rfl)) dX9_put_14 ⟨Nat.le_of_ble_eq_true rfl, Nat.le_of_ble_eq_true rfl⟩) (fun r_6 hw => ?_)
    rcases hw with ⟨rfl, h_7, h_8⟩ | ⟨rfl, h_9⟩
    · refine lv_if_eq (tgt := 32) hx hb dX9_put_17 (by decide) (fun c_10 => absurd c_10 (by decide)) (fun c_10 => ?_)
      refine lv_aload_n hx hb dX9_put_20 rfl (lv_at hl 0 rfl) ?_
      refine va_get (ci := 9) (v := .ref a1) (C := RX9) (T := TX9) (N := 10) hx hb hts hw9 hown hK hP 0 rfl rfl 0 (by decide) (hts (.fieldLink RX9 9 "SmokeTune$Town" "facts" "[I") (List.mem_cons_of_mem _ (List.mem_append_left _ (List.mem_of_getElem? (i := 0) rfl)))) (fun _ h9 => h9) rfl dX9_put_21 ?_
      refine lv_iload_n hx hb dX9_put_24 rfl (lv_at hl 2 rfl) ?_
      refine lv_bipush (v := 8) hx hb dX9_put_25 (by decide) ?_
      refine lv_imul hx hb dX9_put_27 ?_
      refine lv_topi (fun x_11 ex_11 => ?_)
      obtain rfl : x_11 = 0 := ex_11.trans (by first | rfl | decide)
      refine lv_iload_n hx hb dX9_put_28 rfl (lv_at hl 1 rfl) ?_
      refine lv_iadd hx hb dX9_put_29 ?_
      refine lv_topi (fun x_12 ex_12 => ?_)
      obtain rfl : x_12 = 0 := ex_12.trans (by first | rfl | decide)
      refine lv_iload_n hx hb dX9_put_30 rfl (lv_at hl 3 rfl) ?_
      refine va_iast hx hb hK hP hD hS 1 0 rfl rfl (i_in (x := 0) rfl (by omega)) dX9_put_31 (fun H locs hP hD hS => ?_)
      generalize hf_13 : (upd f (0 : Int32).toNatClampNeg x) = f_13 at hP hD
      have hP : va_P D vwCl [(a0, .inr (9, [.ref a1, k1, k2, k3, k4, k5, k6, k7, k8, k9])), (a1, .inl (K 0, 56, .inl f_13))] H := hP
      have hD : va_D A [(a0, .inr (9, [.ref a1, k1, k2, k3, k4, k5, k6, k7, k8, k9])), (a1, .inl (K 0, 56, .inl f_13))] := hD
      have hP9 := hP.sub (ws' := [(a0, .inr (9, [.ref a1, k1, k2, k3, k4, k5, k6, k7, k8, k9])), (a1, .inl (K 0, 56, .inl f_13))]) [0, 1] rfl
      have hD9 := hD.sub (ws' := [(a0, .inr (9, [.ref a1, k1, k2, k3, k4, k5, k6, k7, k8, k9])), (a1, .inl (K 0, 56, .inl f_13))]) [0, 1] (by decide) rfl
      exact W.vret hx hb hr (fun t ht hW => ⟨⟨(fun _ => 0, fun i => match i with | _ => f_13, fun _ => fun _ => 0, fun _ => 0), rfl, trivial, (⟨by rw [ht]; exact hP9, hD9⟩ : Wd D A _ t)⟩, hS.F ht⟩) hS.2.2 dX9_put_32
    · exfalso; omega
  · exfalso; omega
set_option maxHeartbeats 4000000 in
set_option maxRecDepth 100000 in
theorem c_put_1 (l : Launch) (D : va_G) (K : Nat → ClassId) (a0 : Nat) (x : Int32) (a1 : Nat) (k1 : Value) (k2 : Value) (k3 : Value) (k4 : Value) (k5 : Value) (k6 : Value) (k7 : Value) (k8 : Value) (k9 : Value) (f : Nat → Int32) (sz : Nat) : Met l yX9_put wsX9_put ({ frames := 1, cells := 0, slots := 0, locals := 22 }) (va_Pc [.ref a0, .int 0, .int 1, .int x] (Pre D K [(a0, .inr (9, [.ref a1, k1, k2, k3, k4, k5, k6, k7, k8, k9])), (a1, .inl (K 0, 56, .inl f))] sz)) (va_Qv (S := (Nat → Nat) × (Nat → Nat → Int32) × (Nat → Nat → Int64) × (Nat → Int32)) (fun _ => True) (fun u t => Wd D (va_A [(a0, .inr (9, [.ref a1, k1, k2, k3, k4, k5, k6, k7, k8, k9])), (a1, .inl (K 0, 56, .inl f))] sz) ((fun u => [(a0, .inr (9, [.ref a1, k1, k2, k3, k4, k5, k6, k7, k8, k9])), (a1, .inl (K 0, 56, .inl ((u.2.1 0))))]) u) t) (va_A [(a0, .inr (9, [.ref a1, k1, k2, k3, k4, k5, k6, k7, k8, k9])), (a1, .inl (K 0, 56, .inl f))] sz)) 0 0 (va_A [(a0, .inr (9, [.ref a1, k1, k2, k3, k4, k5, k6, k7, k8, k9])), (a1, .inl (K 0, 56, .inl f))] sz) := by
  refine Met.ofW (cc := cX9_put) (maxL := 4) (ret := none) (by decide) rfl ?_
  intro p e s m args below meth c s₁ B hml hv
  obtain ⟨rfl, hsz, hP, hK, hD0, hN⟩ := hv
  have hx := B.exec
  have hb := B.bytes
  have hr := B.returns
  have hts := atoms_spec (ws := wsX9_put) B.pre
  have hown : s.vm.findClass RX9 = some m.cls := findClass_of_methodNamed B.named
  have hlocks := B.notSynchronized
  subst hsz
  have hD := hD0.self (sz := s.heap.size)
  generalize hAe : va_A [(a0, .inr (9, [.ref a1, k1, k2, k3, k4, k5, k6, k7, k8, k9])), (a1, .inl (K 0, 56, .inl f))] s.heap.size = A at hD ⊢
  have hA : ∀ q : Nat, s.heap.size ≤ q → A q := fun q h => by rw [← hAe]; exact Or.inr h
  have hS : va_S A s.heap s.heap [] := va_S.rf
  have hP : va_P D vwCl [(a0, .inr (9, [.ref a1, k1, k2, k3, k4, k5, k6, k7, k8, k9])), (a1, .inl (K 0, 56, .inl f))] s.heap := hP
  have hl := lv_entry [.ref a0, .int 0, .int 1, .int x] (n := 4) (Nat.le_of_ble_eq_true rfl)
  rw [lg_entry_eq]
  generalize (lg_sl [.ref a0, .int 0, .int 1, .int x] ++ List.replicate (4 - (lg_sl [.ref a0, .int 0, .int 1, .int x]).length) Slot.unset).toArray = ls at hl ⊢
  have hl : lv_has ls 4 [(0, .ref a0), (1, .int 0), (2, .int 1), (3, .int x)] := hl
  have hw9 : ∀ w ∈ wsX90, w ∈ wsX9_put := fun w h => (List.mem_cons_of_mem _ (List.mem_append_right _ h))
  refine lv_iload_n hx hb dX9_put_0 rfl (lv_at hl 1 rfl) ?_
  refine lv_iconst (v := 0) hx hb dX9_put_1 (by decide) ?_
  refine lv_bipush (v := 7) hx hb dX9_put_2 (by decide) ?_
  refine pci (va_runSN (As := [.int 0, .int 0, .int 7]) (rest := []) ⟨hx, hb, hml, hown, hts⟩ (c_within l D K 0 0 7 0 0 7 s.heap.size rfl rfl rfl) ⟨va_cnB 3 hts gX9_put_X11_within_n52 rfl rfl rfl (nst_at hN 18 rfl) (hts (.initialized RX11) (List.mem_cons_of_mem _ (List.mem_append_left _ (List.mem_of_getElem? (i := 2) rfl)))) (by decide +kernel) ⟨Nat.le_of_ble_eq_true rfl, Nat.le_of_ble_eq_true rfl⟩, (hts (.static yX11_within) (List.mem_cons_of_mem _ (List.mem_append_left _ (List.mem_of_getElem? (i := 1) rfl)))), trivial⟩ (mkS hK hN (hP.sub [] rfl) (hD.sub [] (by decide) rfl)) rfl rfl hl.1 rfl (lv_room (Nat.le_of_ble_eq_true rfl)) dX9_put_4 ⟨Nat.le_of_ble_eq_true rfl, Nat.le_of_ble_eq_true rfl⟩) (fun r_1 hw => ?_)
  rcases hw with ⟨rfl, h_2, h_3⟩ | ⟨rfl, h_4⟩
  · refine lv_if_eq (tgt := 32) hx hb dX9_put_7 (by decide) (fun c_5 => absurd c_5 (by decide)) (fun c_5 => ?_)
    refine lv_iload_n hx hb dX9_put_10 rfl (lv_at hl 2 rfl) ?_
    refine lv_iconst (v := 0) hx hb dX9_put_11 (by decide) ?_
    refine lv_bipush (v := 6) hx hb dX9_put_12 (by decide) ?_
    refine pci (va_runSN (As := [.int 1, .int 0, .int 6]) (rest := []) ⟨hx, hb, hml, hown, hts⟩ (c_within l D K 1 0 6 1 0 6 s.heap.size rfl rfl rfl) ⟨va_cnB 3 hts gX9_put_X11_within_n52 rfl rfl rfl (nst_at hN 18 rfl) (hts (.initialized RX11) (List.mem_cons_of_mem _ (List.mem_append_left _ (List.mem_of_getElem? (i := 2) rfl)))) (by decide +kernel) ⟨Nat.le_of_ble_eq_true rfl, Nat.le_of_ble_eq_true rfl⟩, (hts (.static yX11_within) (List.mem_cons_of_mem _ (List.mem_append_left _ (List.mem_of_getElem? (i := 1) rfl)))), trivial⟩ (mkS hK hN (hP.sub [] rfl) (hD.sub [] (by decide) rfl)) rfl rfl hl.1 rfl (lv_room (Nat.le_of_ble_eq_true rfl)) dX9_put_14 ⟨Nat.le_of_ble_eq_true rfl, Nat.le_of_ble_eq_true rfl⟩) (fun r_6 hw => ?_)
    rcases hw with ⟨rfl, h_7, h_8⟩ | ⟨rfl, h_9⟩
    · refine lv_if_eq (tgt := 32) hx hb dX9_put_17 (by decide) (fun c_10 => absurd c_10 (by decide)) (fun c_10 => ?_)
      refine lv_aload_n hx hb dX9_put_20 rfl (lv_at hl 0 rfl) ?_
      refine va_get (ci := 9) (v := .ref a1) (C := RX9) (T := TX9) (N := 10) hx hb hts hw9 hown hK hP 0 rfl rfl 0 (by decide) (hts (.fieldLink RX9 9 "SmokeTune$Town" "facts" "[I") (List.mem_cons_of_mem _ (List.mem_append_left _ (List.mem_of_getElem? (i := 0) rfl)))) (fun _ h9 => h9) rfl dX9_put_21 ?_
      refine lv_iload_n hx hb dX9_put_24 rfl (lv_at hl 2 rfl) ?_
      refine lv_bipush (v := 8) hx hb dX9_put_25 (by decide) ?_
      refine lv_imul hx hb dX9_put_27 ?_
      refine lv_topi (fun x_11 ex_11 => ?_)
      obtain rfl : x_11 = 8 := ex_11.trans (by first | rfl | decide)
      refine lv_iload_n hx hb dX9_put_28 rfl (lv_at hl 1 rfl) ?_
      refine lv_iadd hx hb dX9_put_29 ?_
      refine lv_topi (fun x_12 ex_12 => ?_)
      obtain rfl : x_12 = 8 := ex_12.trans (by first | rfl | decide)
      refine lv_iload_n hx hb dX9_put_30 rfl (lv_at hl 3 rfl) ?_
      refine va_iast hx hb hK hP hD hS 1 0 rfl rfl (i_in (x := 8) rfl (by omega)) dX9_put_31 (fun H locs hP hD hS => ?_)
      generalize hf_13 : (upd f (8 : Int32).toNatClampNeg x) = f_13 at hP hD
      have hP : va_P D vwCl [(a0, .inr (9, [.ref a1, k1, k2, k3, k4, k5, k6, k7, k8, k9])), (a1, .inl (K 0, 56, .inl f_13))] H := hP
      have hD : va_D A [(a0, .inr (9, [.ref a1, k1, k2, k3, k4, k5, k6, k7, k8, k9])), (a1, .inl (K 0, 56, .inl f_13))] := hD
      have hP9 := hP.sub (ws' := [(a0, .inr (9, [.ref a1, k1, k2, k3, k4, k5, k6, k7, k8, k9])), (a1, .inl (K 0, 56, .inl f_13))]) [0, 1] rfl
      have hD9 := hD.sub (ws' := [(a0, .inr (9, [.ref a1, k1, k2, k3, k4, k5, k6, k7, k8, k9])), (a1, .inl (K 0, 56, .inl f_13))]) [0, 1] (by decide) rfl
      exact W.vret hx hb hr (fun t ht hW => ⟨⟨(fun _ => 0, fun i => match i with | _ => f_13, fun _ => fun _ => 0, fun _ => 0), rfl, trivial, (⟨by rw [ht]; exact hP9, hD9⟩ : Wd D A _ t)⟩, hS.F ht⟩) hS.2.2 dX9_put_32
    · exfalso; omega
  · exfalso; omega
set_option maxHeartbeats 4000000 in
set_option maxRecDepth 100000 in
theorem c_put_2 (l : Launch) (D : va_G) (K : Nat → ClassId) (a0 : Nat) (x : Int32) (a1 : Nat) (k1 : Value) (k2 : Value) (k3 : Value) (k4 : Value) (k5 : Value) (k6 : Value) (k7 : Value) (k8 : Value) (k9 : Value) (f : Nat → Int32) (sz : Nat) : Met l yX9_put wsX9_put ({ frames := 1, cells := 0, slots := 0, locals := 22 }) (va_Pc [.ref a0, .int 0, .int 2, .int x] (Pre D K [(a0, .inr (9, [.ref a1, k1, k2, k3, k4, k5, k6, k7, k8, k9])), (a1, .inl (K 0, 56, .inl f))] sz)) (va_Qv (S := (Nat → Nat) × (Nat → Nat → Int32) × (Nat → Nat → Int64) × (Nat → Int32)) (fun _ => True) (fun u t => Wd D (va_A [(a0, .inr (9, [.ref a1, k1, k2, k3, k4, k5, k6, k7, k8, k9])), (a1, .inl (K 0, 56, .inl f))] sz) ((fun u => [(a0, .inr (9, [.ref a1, k1, k2, k3, k4, k5, k6, k7, k8, k9])), (a1, .inl (K 0, 56, .inl ((u.2.1 0))))]) u) t) (va_A [(a0, .inr (9, [.ref a1, k1, k2, k3, k4, k5, k6, k7, k8, k9])), (a1, .inl (K 0, 56, .inl f))] sz)) 0 0 (va_A [(a0, .inr (9, [.ref a1, k1, k2, k3, k4, k5, k6, k7, k8, k9])), (a1, .inl (K 0, 56, .inl f))] sz) := by
  refine Met.ofW (cc := cX9_put) (maxL := 4) (ret := none) (by decide) rfl ?_
  intro p e s m args below meth c s₁ B hml hv
  obtain ⟨rfl, hsz, hP, hK, hD0, hN⟩ := hv
  have hx := B.exec
  have hb := B.bytes
  have hr := B.returns
  have hts := atoms_spec (ws := wsX9_put) B.pre
  have hown : s.vm.findClass RX9 = some m.cls := findClass_of_methodNamed B.named
  have hlocks := B.notSynchronized
  subst hsz
  have hD := hD0.self (sz := s.heap.size)
  generalize hAe : va_A [(a0, .inr (9, [.ref a1, k1, k2, k3, k4, k5, k6, k7, k8, k9])), (a1, .inl (K 0, 56, .inl f))] s.heap.size = A at hD ⊢
  have hA : ∀ q : Nat, s.heap.size ≤ q → A q := fun q h => by rw [← hAe]; exact Or.inr h
  have hS : va_S A s.heap s.heap [] := va_S.rf
  have hP : va_P D vwCl [(a0, .inr (9, [.ref a1, k1, k2, k3, k4, k5, k6, k7, k8, k9])), (a1, .inl (K 0, 56, .inl f))] s.heap := hP
  have hl := lv_entry [.ref a0, .int 0, .int 2, .int x] (n := 4) (Nat.le_of_ble_eq_true rfl)
  rw [lg_entry_eq]
  generalize (lg_sl [.ref a0, .int 0, .int 2, .int x] ++ List.replicate (4 - (lg_sl [.ref a0, .int 0, .int 2, .int x]).length) Slot.unset).toArray = ls at hl ⊢
  have hl : lv_has ls 4 [(0, .ref a0), (1, .int 0), (2, .int 2), (3, .int x)] := hl
  have hw9 : ∀ w ∈ wsX90, w ∈ wsX9_put := fun w h => (List.mem_cons_of_mem _ (List.mem_append_right _ h))
  refine lv_iload_n hx hb dX9_put_0 rfl (lv_at hl 1 rfl) ?_
  refine lv_iconst (v := 0) hx hb dX9_put_1 (by decide) ?_
  refine lv_bipush (v := 7) hx hb dX9_put_2 (by decide) ?_
  refine pci (va_runSN (As := [.int 0, .int 0, .int 7]) (rest := []) ⟨hx, hb, hml, hown, hts⟩ (c_within l D K 0 0 7 0 0 7 s.heap.size rfl rfl rfl) ⟨va_cnB 3 hts gX9_put_X11_within_n52 rfl rfl rfl (nst_at hN 18 rfl) (hts (.initialized RX11) (List.mem_cons_of_mem _ (List.mem_append_left _ (List.mem_of_getElem? (i := 2) rfl)))) (by decide +kernel) ⟨Nat.le_of_ble_eq_true rfl, Nat.le_of_ble_eq_true rfl⟩, (hts (.static yX11_within) (List.mem_cons_of_mem _ (List.mem_append_left _ (List.mem_of_getElem? (i := 1) rfl)))), trivial⟩ (mkS hK hN (hP.sub [] rfl) (hD.sub [] (by decide) rfl)) rfl rfl hl.1 rfl (lv_room (Nat.le_of_ble_eq_true rfl)) dX9_put_4 ⟨Nat.le_of_ble_eq_true rfl, Nat.le_of_ble_eq_true rfl⟩) (fun r_1 hw => ?_)
  rcases hw with ⟨rfl, h_2, h_3⟩ | ⟨rfl, h_4⟩
  · refine lv_if_eq (tgt := 32) hx hb dX9_put_7 (by decide) (fun c_5 => absurd c_5 (by decide)) (fun c_5 => ?_)
    refine lv_iload_n hx hb dX9_put_10 rfl (lv_at hl 2 rfl) ?_
    refine lv_iconst (v := 0) hx hb dX9_put_11 (by decide) ?_
    refine lv_bipush (v := 6) hx hb dX9_put_12 (by decide) ?_
    refine pci (va_runSN (As := [.int 2, .int 0, .int 6]) (rest := []) ⟨hx, hb, hml, hown, hts⟩ (c_within l D K 2 0 6 2 0 6 s.heap.size rfl rfl rfl) ⟨va_cnB 3 hts gX9_put_X11_within_n52 rfl rfl rfl (nst_at hN 18 rfl) (hts (.initialized RX11) (List.mem_cons_of_mem _ (List.mem_append_left _ (List.mem_of_getElem? (i := 2) rfl)))) (by decide +kernel) ⟨Nat.le_of_ble_eq_true rfl, Nat.le_of_ble_eq_true rfl⟩, (hts (.static yX11_within) (List.mem_cons_of_mem _ (List.mem_append_left _ (List.mem_of_getElem? (i := 1) rfl)))), trivial⟩ (mkS hK hN (hP.sub [] rfl) (hD.sub [] (by decide) rfl)) rfl rfl hl.1 rfl (lv_room (Nat.le_of_ble_eq_true rfl)) dX9_put_14 ⟨Nat.le_of_ble_eq_true rfl, Nat.le_of_ble_eq_true rfl⟩) (fun r_6 hw => ?_)
    rcases hw with ⟨rfl, h_7, h_8⟩ | ⟨rfl, h_9⟩
    · refine lv_if_eq (tgt := 32) hx hb dX9_put_17 (by decide) (fun c_10 => absurd c_10 (by decide)) (fun c_10 => ?_)
      refine lv_aload_n hx hb dX9_put_20 rfl (lv_at hl 0 rfl) ?_
      refine va_get (ci := 9) (v := .ref a1) (C := RX9) (T := TX9) (N := 10) hx hb hts hw9 hown hK hP 0 rfl rfl 0 (by decide) (hts (.fieldLink RX9 9 "SmokeTune$Town" "facts" "[I") (List.mem_cons_of_mem _ (List.mem_append_left _ (List.mem_of_getElem? (i := 0) rfl)))) (fun _ h9 => h9) rfl dX9_put_21 ?_
      refine lv_iload_n hx hb dX9_put_24 rfl (lv_at hl 2 rfl) ?_
      refine lv_bipush (v := 8) hx hb dX9_put_25 (by decide) ?_
      refine lv_imul hx hb dX9_put_27 ?_
      refine lv_topi (fun x_11 ex_11 => ?_)
      obtain rfl : x_11 = 16 := ex_11.trans (by first | rfl | decide)
      refine lv_iload_n hx hb dX9_put_28 rfl (lv_at hl 1 rfl) ?_
      refine lv_iadd hx hb dX9_put_29 ?_
      refine lv_topi (fun x_12 ex_12 => ?_)
      obtain rfl : x_12 = 16 := ex_12.trans (by first | rfl | decide)
      refine lv_iload_n hx hb dX9_put_30 rfl (lv_at hl 3 rfl) ?_
      refine va_iast hx hb hK hP hD hS 1 0 rfl rfl (i_in (x := 16) rfl (by omega)) dX9_put_31 (fun H locs hP hD hS => ?_)
      generalize hf_13 : (upd f (16 : Int32).toNatClampNeg x) = f_13 at hP hD
      have hP : va_P D vwCl [(a0, .inr (9, [.ref a1, k1, k2, k3, k4, k5, k6, k7, k8, k9])), (a1, .inl (K 0, 56, .inl f_13))] H := hP
      have hD : va_D A [(a0, .inr (9, [.ref a1, k1, k2, k3, k4, k5, k6, k7, k8, k9])), (a1, .inl (K 0, 56, .inl f_13))] := hD
      have hP9 := hP.sub (ws' := [(a0, .inr (9, [.ref a1, k1, k2, k3, k4, k5, k6, k7, k8, k9])), (a1, .inl (K 0, 56, .inl f_13))]) [0, 1] rfl
      have hD9 := hD.sub (ws' := [(a0, .inr (9, [.ref a1, k1, k2, k3, k4, k5, k6, k7, k8, k9])), (a1, .inl (K 0, 56, .inl f_13))]) [0, 1] (by decide) rfl
      exact W.vret hx hb hr (fun t ht hW => ⟨⟨(fun _ => 0, fun i => match i with | _ => f_13, fun _ => fun _ => 0, fun _ => 0), rfl, trivial, (⟨by rw [ht]; exact hP9, hD9⟩ : Wd D A _ t)⟩, hS.F ht⟩) hS.2.2 dX9_put_32
    · exfalso; omega
  · exfalso; omega
set_option maxHeartbeats 4000000 in
set_option maxRecDepth 100000 in
theorem c_put_3 (l : Launch) (D : va_G) (K : Nat → ClassId) (a0 : Nat) (x : Int32) (a1 : Nat) (k1 : Value) (k2 : Value) (k3 : Value) (k4 : Value) (k5 : Value) (k6 : Value) (k7 : Value) (k8 : Value) (k9 : Value) (f : Nat → Int32) (sz : Nat) : Met l yX9_put wsX9_put ({ frames := 1, cells := 0, slots := 0, locals := 22 }) (va_Pc [.ref a0, .int 0, .int 3, .int x] (Pre D K [(a0, .inr (9, [.ref a1, k1, k2, k3, k4, k5, k6, k7, k8, k9])), (a1, .inl (K 0, 56, .inl f))] sz)) (va_Qv (S := (Nat → Nat) × (Nat → Nat → Int32) × (Nat → Nat → Int64) × (Nat → Int32)) (fun _ => True) (fun u t => Wd D (va_A [(a0, .inr (9, [.ref a1, k1, k2, k3, k4, k5, k6, k7, k8, k9])), (a1, .inl (K 0, 56, .inl f))] sz) ((fun u => [(a0, .inr (9, [.ref a1, k1, k2, k3, k4, k5, k6, k7, k8, k9])), (a1, .inl (K 0, 56, .inl ((u.2.1 0))))]) u) t) (va_A [(a0, .inr (9, [.ref a1, k1, k2, k3, k4, k5, k6, k7, k8, k9])), (a1, .inl (K 0, 56, .inl f))] sz)) 0 0 (va_A [(a0, .inr (9, [.ref a1, k1, k2, k3, k4, k5, k6, k7, k8, k9])), (a1, .inl (K 0, 56, .inl f))] sz) := by
  refine Met.ofW (cc := cX9_put) (maxL := 4) (ret := none) (by decide) rfl ?_
  intro p e s m args below meth c s₁ B hml hv
  obtain ⟨rfl, hsz, hP, hK, hD0, hN⟩ := hv
  have hx := B.exec
  have hb := B.bytes
  have hr := B.returns
  have hts := atoms_spec (ws := wsX9_put) B.pre
  have hown : s.vm.findClass RX9 = some m.cls := findClass_of_methodNamed B.named
  have hlocks := B.notSynchronized
  subst hsz
  have hD := hD0.self (sz := s.heap.size)
  generalize hAe : va_A [(a0, .inr (9, [.ref a1, k1, k2, k3, k4, k5, k6, k7, k8, k9])), (a1, .inl (K 0, 56, .inl f))] s.heap.size = A at hD ⊢
  have hA : ∀ q : Nat, s.heap.size ≤ q → A q := fun q h => by rw [← hAe]; exact Or.inr h
  have hS : va_S A s.heap s.heap [] := va_S.rf
  have hP : va_P D vwCl [(a0, .inr (9, [.ref a1, k1, k2, k3, k4, k5, k6, k7, k8, k9])), (a1, .inl (K 0, 56, .inl f))] s.heap := hP
  have hl := lv_entry [.ref a0, .int 0, .int 3, .int x] (n := 4) (Nat.le_of_ble_eq_true rfl)
  rw [lg_entry_eq]
  generalize (lg_sl [.ref a0, .int 0, .int 3, .int x] ++ List.replicate (4 - (lg_sl [.ref a0, .int 0, .int 3, .int x]).length) Slot.unset).toArray = ls at hl ⊢
  have hl : lv_has ls 4 [(0, .ref a0), (1, .int 0), (2, .int 3), (3, .int x)] := hl
  have hw9 : ∀ w ∈ wsX90, w ∈ wsX9_put := fun w h => (List.mem_cons_of_mem _ (List.mem_append_right _ h))
  refine lv_iload_n hx hb dX9_put_0 rfl (lv_at hl 1 rfl) ?_
  refine lv_iconst (v := 0) hx hb dX9_put_1 (by decide) ?_
  refine lv_bipush (v := 7) hx hb dX9_put_2 (by decide) ?_
  refine pci (va_runSN (As := [.int 0, .int 0, .int 7]) (rest := []) ⟨hx, hb, hml, hown, hts⟩ (c_within l D K 0 0 7 0 0 7 s.heap.size rfl rfl rfl) ⟨va_cnB 3 hts gX9_put_X11_within_n52 rfl rfl rfl (nst_at hN 18 rfl) (hts (.initialized RX11) (List.mem_cons_of_mem _ (List.mem_append_left _ (List.mem_of_getElem? (i := 2) rfl)))) (by decide +kernel) ⟨Nat.le_of_ble_eq_true rfl, Nat.le_of_ble_eq_true rfl⟩, (hts (.static yX11_within) (List.mem_cons_of_mem _ (List.mem_append_left _ (List.mem_of_getElem? (i := 1) rfl)))), trivial⟩ (mkS hK hN (hP.sub [] rfl) (hD.sub [] (by decide) rfl)) rfl rfl hl.1 rfl (lv_room (Nat.le_of_ble_eq_true rfl)) dX9_put_4 ⟨Nat.le_of_ble_eq_true rfl, Nat.le_of_ble_eq_true rfl⟩) (fun r_1 hw => ?_)
  rcases hw with ⟨rfl, h_2, h_3⟩ | ⟨rfl, h_4⟩
  · refine lv_if_eq (tgt := 32) hx hb dX9_put_7 (by decide) (fun c_5 => absurd c_5 (by decide)) (fun c_5 => ?_)
    refine lv_iload_n hx hb dX9_put_10 rfl (lv_at hl 2 rfl) ?_
    refine lv_iconst (v := 0) hx hb dX9_put_11 (by decide) ?_
    refine lv_bipush (v := 6) hx hb dX9_put_12 (by decide) ?_
    refine pci (va_runSN (As := [.int 3, .int 0, .int 6]) (rest := []) ⟨hx, hb, hml, hown, hts⟩ (c_within l D K 3 0 6 3 0 6 s.heap.size rfl rfl rfl) ⟨va_cnB 3 hts gX9_put_X11_within_n52 rfl rfl rfl (nst_at hN 18 rfl) (hts (.initialized RX11) (List.mem_cons_of_mem _ (List.mem_append_left _ (List.mem_of_getElem? (i := 2) rfl)))) (by decide +kernel) ⟨Nat.le_of_ble_eq_true rfl, Nat.le_of_ble_eq_true rfl⟩, (hts (.static yX11_within) (List.mem_cons_of_mem _ (List.mem_append_left _ (List.mem_of_getElem? (i := 1) rfl)))), trivial⟩ (mkS hK hN (hP.sub [] rfl) (hD.sub [] (by decide) rfl)) rfl rfl hl.1 rfl (lv_room (Nat.le_of_ble_eq_true rfl)) dX9_put_14 ⟨Nat.le_of_ble_eq_true rfl, Nat.le_of_ble_eq_true rfl⟩) (fun r_6 hw => ?_)
    rcases hw with ⟨rfl, h_7, h_8⟩ | ⟨rfl, h_9⟩
    · refine lv_if_eq (tgt := 32) hx hb dX9_put_17 (by decide) (fun c_10 => absurd c_10 (by decide)) (fun c_10 => ?_)
      refine lv_aload_n hx hb dX9_put_20 rfl (lv_at hl 0 rfl) ?_
      refine va_get (ci := 9) (v := .ref a1) (C := RX9) (T := TX9) (N := 10) hx hb hts hw9 hown hK hP 0 rfl rfl 0 (by decide) (hts (.fieldLink RX9 9 "SmokeTune$Town" "facts" "[I") (List.mem_cons_of_mem _ (List.mem_append_left _ (List.mem_of_getElem? (i := 0) rfl)))) (fun _ h9 => h9) rfl dX9_put_21 ?_
      refine lv_iload_n hx hb dX9_put_24 rfl (lv_at hl 2 rfl) ?_
      refine lv_bipush (v := 8) hx hb dX9_put_25 (by decide) ?_
      refine lv_imul hx hb dX9_put_27 ?_
      refine lv_topi (fun x_11 ex_11 => ?_)
      obtain rfl : x_11 = 24 := ex_11.trans (by first | rfl | decide)
      refine lv_iload_n hx hb dX9_put_28 rfl (lv_at hl 1 rfl) ?_
      refine lv_iadd hx hb dX9_put_29 ?_
      refine lv_topi (fun x_12 ex_12 => ?_)
      obtain rfl : x_12 = 24 := ex_12.trans (by first | rfl | decide)
      refine lv_iload_n hx hb dX9_put_30 rfl (lv_at hl 3 rfl) ?_
      refine va_iast hx hb hK hP hD hS 1 0 rfl rfl (i_in (x := 24) rfl (by omega)) dX9_put_31 (fun H locs hP hD hS => ?_)
      generalize hf_13 : (upd f (24 : Int32).toNatClampNeg x) = f_13 at hP hD
      have hP : va_P D vwCl [(a0, .inr (9, [.ref a1, k1, k2, k3, k4, k5, k6, k7, k8, k9])), (a1, .inl (K 0, 56, .inl f_13))] H := hP
      have hD : va_D A [(a0, .inr (9, [.ref a1, k1, k2, k3, k4, k5, k6, k7, k8, k9])), (a1, .inl (K 0, 56, .inl f_13))] := hD
      have hP9 := hP.sub (ws' := [(a0, .inr (9, [.ref a1, k1, k2, k3, k4, k5, k6, k7, k8, k9])), (a1, .inl (K 0, 56, .inl f_13))]) [0, 1] rfl
      have hD9 := hD.sub (ws' := [(a0, .inr (9, [.ref a1, k1, k2, k3, k4, k5, k6, k7, k8, k9])), (a1, .inl (K 0, 56, .inl f_13))]) [0, 1] (by decide) rfl
      exact W.vret hx hb hr (fun t ht hW => ⟨⟨(fun _ => 0, fun i => match i with | _ => f_13, fun _ => fun _ => 0, fun _ => 0), rfl, trivial, (⟨by rw [ht]; exact hP9, hD9⟩ : Wd D A _ t)⟩, hS.F ht⟩) hS.2.2 dX9_put_32
    · exfalso; omega
  · exfalso; omega
set_option maxHeartbeats 4000000 in
set_option maxRecDepth 100000 in
theorem c_put_4 (l : Launch) (D : va_G) (K : Nat → ClassId) (a0 : Nat) (x : Int32) (a1 : Nat) (k1 : Value) (k2 : Value) (k3 : Value) (k4 : Value) (k5 : Value) (k6 : Value) (k7 : Value) (k8 : Value) (k9 : Value) (f : Nat → Int32) (sz : Nat) : Met l yX9_put wsX9_put ({ frames := 1, cells := 0, slots := 0, locals := 22 }) (va_Pc [.ref a0, .int 0, .int 4, .int x] (Pre D K [(a0, .inr (9, [.ref a1, k1, k2, k3, k4, k5, k6, k7, k8, k9])), (a1, .inl (K 0, 56, .inl f))] sz)) (va_Qv (S := (Nat → Nat) × (Nat → Nat → Int32) × (Nat → Nat → Int64) × (Nat → Int32)) (fun _ => True) (fun u t => Wd D (va_A [(a0, .inr (9, [.ref a1, k1, k2, k3, k4, k5, k6, k7, k8, k9])), (a1, .inl (K 0, 56, .inl f))] sz) ((fun u => [(a0, .inr (9, [.ref a1, k1, k2, k3, k4, k5, k6, k7, k8, k9])), (a1, .inl (K 0, 56, .inl ((u.2.1 0))))]) u) t) (va_A [(a0, .inr (9, [.ref a1, k1, k2, k3, k4, k5, k6, k7, k8, k9])), (a1, .inl (K 0, 56, .inl f))] sz)) 0 0 (va_A [(a0, .inr (9, [.ref a1, k1, k2, k3, k4, k5, k6, k7, k8, k9])), (a1, .inl (K 0, 56, .inl f))] sz) := by
  refine Met.ofW (cc := cX9_put) (maxL := 4) (ret := none) (by decide) rfl ?_
  intro p e s m args below meth c s₁ B hml hv
  obtain ⟨rfl, hsz, hP, hK, hD0, hN⟩ := hv
  have hx := B.exec
  have hb := B.bytes
  have hr := B.returns
  have hts := atoms_spec (ws := wsX9_put) B.pre
  have hown : s.vm.findClass RX9 = some m.cls := findClass_of_methodNamed B.named
  have hlocks := B.notSynchronized
  subst hsz
  have hD := hD0.self (sz := s.heap.size)
  generalize hAe : va_A [(a0, .inr (9, [.ref a1, k1, k2, k3, k4, k5, k6, k7, k8, k9])), (a1, .inl (K 0, 56, .inl f))] s.heap.size = A at hD ⊢
  have hA : ∀ q : Nat, s.heap.size ≤ q → A q := fun q h => by rw [← hAe]; exact Or.inr h
  have hS : va_S A s.heap s.heap [] := va_S.rf
  have hP : va_P D vwCl [(a0, .inr (9, [.ref a1, k1, k2, k3, k4, k5, k6, k7, k8, k9])), (a1, .inl (K 0, 56, .inl f))] s.heap := hP
  have hl := lv_entry [.ref a0, .int 0, .int 4, .int x] (n := 4) (Nat.le_of_ble_eq_true rfl)
  rw [lg_entry_eq]
  generalize (lg_sl [.ref a0, .int 0, .int 4, .int x] ++ List.replicate (4 - (lg_sl [.ref a0, .int 0, .int 4, .int x]).length) Slot.unset).toArray = ls at hl ⊢
  have hl : lv_has ls 4 [(0, .ref a0), (1, .int 0), (2, .int 4), (3, .int x)] := hl
  have hw9 : ∀ w ∈ wsX90, w ∈ wsX9_put := fun w h => (List.mem_cons_of_mem _ (List.mem_append_right _ h))
  refine lv_iload_n hx hb dX9_put_0 rfl (lv_at hl 1 rfl) ?_
  refine lv_iconst (v := 0) hx hb dX9_put_1 (by decide) ?_
  refine lv_bipush (v := 7) hx hb dX9_put_2 (by decide) ?_
  refine pci (va_runSN (As := [.int 0, .int 0, .int 7]) (rest := []) ⟨hx, hb, hml, hown, hts⟩ (c_within l D K 0 0 7 0 0 7 s.heap.size rfl rfl rfl) ⟨va_cnB 3 hts gX9_put_X11_within_n52 rfl rfl rfl (nst_at hN 18 rfl) (hts (.initialized RX11) (List.mem_cons_of_mem _ (List.mem_append_left _ (List.mem_of_getElem? (i := 2) rfl)))) (by decide +kernel) ⟨Nat.le_of_ble_eq_true rfl, Nat.le_of_ble_eq_true rfl⟩, (hts (.static yX11_within) (List.mem_cons_of_mem _ (List.mem_append_left _ (List.mem_of_getElem? (i := 1) rfl)))), trivial⟩ (mkS hK hN (hP.sub [] rfl) (hD.sub [] (by decide) rfl)) rfl rfl hl.1 rfl (lv_room (Nat.le_of_ble_eq_true rfl)) dX9_put_4 ⟨Nat.le_of_ble_eq_true rfl, Nat.le_of_ble_eq_true rfl⟩) (fun r_1 hw => ?_)
  rcases hw with ⟨rfl, h_2, h_3⟩ | ⟨rfl, h_4⟩
  · refine lv_if_eq (tgt := 32) hx hb dX9_put_7 (by decide) (fun c_5 => absurd c_5 (by decide)) (fun c_5 => ?_)
    refine lv_iload_n hx hb dX9_put_10 rfl (lv_at hl 2 rfl) ?_
    refine lv_iconst (v := 0) hx hb dX9_put_11 (by decide) ?_
    refine lv_bipush (v := 6) hx hb dX9_put_12 (by decide) ?_
    refine pci (va_runSN (As := [.int 4, .int 0, .int 6]) (rest := []) ⟨hx, hb, hml, hown, hts⟩ (c_within l D K 4 0 6 4 0 6 s.heap.size rfl rfl rfl) ⟨va_cnB 3 hts gX9_put_X11_within_n52 rfl rfl rfl (nst_at hN 18 rfl) (hts (.initialized RX11) (List.mem_cons_of_mem _ (List.mem_append_left _ (List.mem_of_getElem? (i := 2) rfl)))) (by decide +kernel) ⟨Nat.le_of_ble_eq_true rfl, Nat.le_of_ble_eq_true rfl⟩, (hts (.static yX11_within) (List.mem_cons_of_mem _ (List.mem_append_left _ (List.mem_of_getElem? (i := 1) rfl)))), trivial⟩ (mkS hK hN (hP.sub [] rfl) (hD.sub [] (by decide) rfl)) rfl rfl hl.1 rfl (lv_room (Nat.le_of_ble_eq_true rfl)) dX9_put_14 ⟨Nat.le_of_ble_eq_true rfl, Nat.le_of_ble_eq_true rfl⟩) (fun r_6 hw => ?_)
    rcases hw with ⟨rfl, h_7, h_8⟩ | ⟨rfl, h_9⟩
    · refine lv_if_eq (tgt := 32) hx hb dX9_put_17 (by decide) (fun c_10 => absurd c_10 (by decide)) (fun c_10 => ?_)
      refine lv_aload_n hx hb dX9_put_20 rfl (lv_at hl 0 rfl) ?_
      refine va_get (ci := 9) (v := .ref a1) (C := RX9) (T := TX9) (N := 10) hx hb hts hw9 hown hK hP 0 rfl rfl 0 (by decide) (hts (.fieldLink RX9 9 "SmokeTune$Town" "facts" "[I") (List.mem_cons_of_mem _ (List.mem_append_left _ (List.mem_of_getElem? (i := 0) rfl)))) (fun _ h9 => h9) rfl dX9_put_21 ?_
      refine lv_iload_n hx hb dX9_put_24 rfl (lv_at hl 2 rfl) ?_
      refine lv_bipush (v := 8) hx hb dX9_put_25 (by decide) ?_
      refine lv_imul hx hb dX9_put_27 ?_
      refine lv_topi (fun x_11 ex_11 => ?_)
      obtain rfl : x_11 = 32 := ex_11.trans (by first | rfl | decide)
      refine lv_iload_n hx hb dX9_put_28 rfl (lv_at hl 1 rfl) ?_
      refine lv_iadd hx hb dX9_put_29 ?_
      refine lv_topi (fun x_12 ex_12 => ?_)
      obtain rfl : x_12 = 32 := ex_12.trans (by first | rfl | decide)
      refine lv_iload_n hx hb dX9_put_30 rfl (lv_at hl 3 rfl) ?_
      refine va_iast hx hb hK hP hD hS 1 0 rfl rfl (i_in (x := 32) rfl (by omega)) dX9_put_31 (fun H locs hP hD hS => ?_)
      generalize hf_13 : (upd f (32 : Int32).toNatClampNeg x) = f_13 at hP hD
      have hP : va_P D vwCl [(a0, .inr (9, [.ref a1, k1, k2, k3, k4, k5, k6, k7, k8, k9])), (a1, .inl (K 0, 56, .inl f_13))] H := hP
      have hD : va_D A [(a0, .inr (9, [.ref a1, k1, k2, k3, k4, k5, k6, k7, k8, k9])), (a1, .inl (K 0, 56, .inl f_13))] := hD
      have hP9 := hP.sub (ws' := [(a0, .inr (9, [.ref a1, k1, k2, k3, k4, k5, k6, k7, k8, k9])), (a1, .inl (K 0, 56, .inl f_13))]) [0, 1] rfl
      have hD9 := hD.sub (ws' := [(a0, .inr (9, [.ref a1, k1, k2, k3, k4, k5, k6, k7, k8, k9])), (a1, .inl (K 0, 56, .inl f_13))]) [0, 1] (by decide) rfl
      exact W.vret hx hb hr (fun t ht hW => ⟨⟨(fun _ => 0, fun i => match i with | _ => f_13, fun _ => fun _ => 0, fun _ => 0), rfl, trivial, (⟨by rw [ht]; exact hP9, hD9⟩ : Wd D A _ t)⟩, hS.F ht⟩) hS.2.2 dX9_put_32
    · exfalso; omega
  · exfalso; omega
set_option maxHeartbeats 4000000 in
set_option maxRecDepth 100000 in
theorem c_build (l : Launch) (D : va_G) (K : Nat → ClassId) (a0 : Nat) (x0 : Int32) (x1 : Int32) (x2 : Int32) (x3 : Int32) (x4 : Int32) (a1 : Nat) (k1 : Value) (k2 : Value) (k3 : Value) (k5 : Value) (k6 : Value) (k7 : Value) (k8 : Value) (k9 : Value) (f : Nat → Int32) (sz : Nat) : Met l yX9_build wsX9_build ({ frames := 2, cells := 0, slots := 0, locals := 45 }) (va_Pc [.ref a0, .int x0, .int x1, .int x2, .int x3, .int x4] (Pre D K [(a0, .inr (9, [.ref a1, k1, k2, k3, .int 0, k5, k6, k7, k8, k9])), (a1, .inl (K 0, 56, .inl f))] sz)) (va_Qi (S := Unit) (fun (r : Int32) (_ : Unit) => (r = 0)) (fun u t => Wd D (va_A [(a0, .inr (9, [.ref a1, k1, k2, k3, .int 0, k5, k6, k7, k8, k9])), (a1, .inl (K 0, 56, .inl f))] sz) ((fun _ => []) u) t) (va_A [(a0, .inr (9, [.ref a1, k1, k2, k3, .int 0, k5, k6, k7, k8, k9])), (a1, .inl (K 0, 56, .inl f))] sz)) 0 0 (va_A [(a0, .inr (9, [.ref a1, k1, k2, k3, .int 0, k5, k6, k7, k8, k9])), (a1, .inl (K 0, 56, .inl f))] sz) := by
  refine Met.ofW (cc := cX9_build) (maxL := 7) (ret := (some .int)) (by decide) rfl ?_
  intro p e s m args below meth c s₁ B hml hv
  obtain ⟨rfl, hsz, hP, hK, hD0, hN⟩ := hv
  have hx := B.exec
  have hb := B.bytes
  have hr := B.returns
  have hts := atoms_spec (ws := wsX9_build) B.pre
  have hown : s.vm.findClass RX9 = some m.cls := findClass_of_methodNamed B.named
  have hlocks := B.notSynchronized
  subst hsz
  have hD := hD0.self (sz := s.heap.size)
  generalize hAe : va_A [(a0, .inr (9, [.ref a1, k1, k2, k3, .int 0, k5, k6, k7, k8, k9])), (a1, .inl (K 0, 56, .inl f))] s.heap.size = A at hD ⊢
  have hA : ∀ q : Nat, s.heap.size ≤ q → A q := fun q h => by rw [← hAe]; exact Or.inr h
  have hS : va_S A s.heap s.heap [] := va_S.rf
  have hP : va_P D vwCl [(a0, .inr (9, [.ref a1, k1, k2, k3, .int 0, k5, k6, k7, k8, k9])), (a1, .inl (K 0, 56, .inl f))] s.heap := hP
  have hl := lv_entry [.ref a0, .int x0, .int x1, .int x2, .int x3, .int x4] (n := 7) (Nat.le_of_ble_eq_true rfl)
  rw [lg_entry_eq]
  generalize (lg_sl [.ref a0, .int x0, .int x1, .int x2, .int x3, .int x4] ++ List.replicate (7 - (lg_sl [.ref a0, .int x0, .int x1, .int x2, .int x3, .int x4]).length) Slot.unset).toArray = ls at hl ⊢
  have hl : lv_has ls 7 [(0, .ref a0), (1, .int x0), (2, .int x1), (3, .int x2), (4, .int x3), (5, .int x4)] := hl
  have hw9 : ∀ w ∈ wsX90, w ∈ wsX9_build := fun w h => (List.mem_cons_of_mem _ (List.mem_append_right _ h))
  refine lv_aload_n hx hb dX9_build_0 rfl (lv_at hl 0 rfl) ?_
  refine va_get (ci := 9) (v := .int 0) (C := RX9) (T := TX9) (N := 10) hx hb hts hw9 hown hK hP 0 rfl rfl 4 (by decide) (hts (.fieldLink RX9 27 "SmokeTune$Town" "houses" "I") (List.mem_cons_of_mem _ (List.mem_append_left _ (List.mem_of_getElem? (i := 0) rfl)))) (fun _ h9 => h9) rfl dX9_build_1 ?_
  refine lv_istore (lv' := [(6, .int 0), (0, .ref a0), (1, .int x0), (2, .int x1), (3, .int x2), (4, .int x3), (5, .int x4)]) hx hb dX9_build_4 hl (by decide) rfl (fun ls hl => ?_)
  refine lv_aload_n hx hb dX9_build_6 rfl (lv_at hl 1 rfl) ?_
  refine lv_iload hx hb dX9_build_7 (lv_at hl 0 rfl) ?_
  refine lv_iconst (v := 0) hx hb dX9_build_9 (by decide) ?_
  refine lv_iload_n hx hb dX9_build_10 rfl (lv_at hl 2 rfl) ?_
  refine kcv (wr := []) (va_runV (As := [.int 0, .int 0, .int x0]) (rest := []) ⟨hx, hb, hml, hown, hts⟩ (c_put_0 l D K a0 x0 a1 k1 k2 k3 (.int 0) k5 k6 k7 k8 k9 f s.heap.size) (cwV 3 hts gX9_build_X9_put rfl rfl rfl (by decide +kernel) ⟨Nat.le_of_ble_eq_true rfl, Nat.le_of_ble_eq_true rfl⟩) (mkV hK hN (hP.sub [0, 1] rfl) (hD.sub [0, 1] (by decide) rfl) (ci := 9) (q0 := 0) rfl rfl) rfl rfl hl.1 rfl (lv_room (Nat.le_of_ble_eq_true rfl)) dX9_build_11 ⟨Nat.le_of_ble_eq_true rfl, Nat.le_of_ble_eq_true rfl⟩) hP hD hS hA [0, 1] [] rfl rfl (by decide) (by decide) (fun u_2 H locs hw hP hD hS => ?_)
  have hP : va_P D vwCl [(a0, .inr (9, [.ref a1, k1, k2, k3, .int 0, k5, k6, k7, k8, k9])), (a1, .inl (K 0, 56, .inl ((u_2.2.1 0))))] H := hP
  have hD : va_D A [(a0, .inr (9, [.ref a1, k1, k2, k3, .int 0, k5, k6, k7, k8, k9])), (a1, .inl (K 0, 56, .inl ((u_2.2.1 0))))] := hD
  refine lv_aload_n hx hb dX9_build_14 rfl (lv_at hl 1 rfl) ?_
  refine lv_iload hx hb dX9_build_15 (lv_at hl 0 rfl) ?_
  refine lv_iconst (v := 1) hx hb dX9_build_17 (by decide) ?_
  refine lv_iload_n hx hb dX9_build_18 rfl (lv_at hl 3 rfl) ?_
  refine kcv (wr := []) (va_runV (As := [.int 0, .int 1, .int x1]) (rest := []) ⟨hx, hb, hml, hown, hts⟩ (c_put_1 l D K a0 x1 a1 k1 k2 k3 (.int 0) k5 k6 k7 k8 k9 (u_2.2.1 0) H.size) (cwV 3 hts gX9_build_X9_put rfl rfl rfl (by decide +kernel) ⟨Nat.le_of_ble_eq_true rfl, Nat.le_of_ble_eq_true rfl⟩) (mkV hK hN (hP.sub [0, 1] rfl) (hD.sub [0, 1] (by decide) rfl) (ci := 9) (q0 := 0) rfl rfl) rfl rfl hl.1 rfl (lv_room (Nat.le_of_ble_eq_true rfl)) dX9_build_19 ⟨Nat.le_of_ble_eq_true rfl, Nat.le_of_ble_eq_true rfl⟩) hP hD hS hA [0, 1] [] rfl rfl (by decide) (by decide) (fun u_4 H locs hw hP hD hS => ?_)
  have hP : va_P D vwCl [(a0, .inr (9, [.ref a1, k1, k2, k3, .int 0, k5, k6, k7, k8, k9])), (a1, .inl (K 0, 56, .inl ((u_4.2.1 0))))] H := hP
  have hD : va_D A [(a0, .inr (9, [.ref a1, k1, k2, k3, .int 0, k5, k6, k7, k8, k9])), (a1, .inl (K 0, 56, .inl ((u_4.2.1 0))))] := hD
  refine lv_aload_n hx hb dX9_build_22 rfl (lv_at hl 1 rfl) ?_
  refine lv_iload hx hb dX9_build_23 (lv_at hl 0 rfl) ?_
  refine lv_iconst (v := 2) hx hb dX9_build_25 (by decide) ?_
  refine lv_iload_n hx hb dX9_build_26 rfl (lv_at hl 4 rfl) ?_
  refine kcv (wr := []) (va_runV (As := [.int 0, .int 2, .int x2]) (rest := []) ⟨hx, hb, hml, hown, hts⟩ (c_put_2 l D K a0 x2 a1 k1 k2 k3 (.int 0) k5 k6 k7 k8 k9 (u_4.2.1 0) H.size) (cwV 3 hts gX9_build_X9_put rfl rfl rfl (by decide +kernel) ⟨Nat.le_of_ble_eq_true rfl, Nat.le_of_ble_eq_true rfl⟩) (mkV hK hN (hP.sub [0, 1] rfl) (hD.sub [0, 1] (by decide) rfl) (ci := 9) (q0 := 0) rfl rfl) rfl rfl hl.1 rfl (lv_room (Nat.le_of_ble_eq_true rfl)) dX9_build_27 ⟨Nat.le_of_ble_eq_true rfl, Nat.le_of_ble_eq_true rfl⟩) hP hD hS hA [0, 1] [] rfl rfl (by decide) (by decide) (fun u_6 H locs hw hP hD hS => ?_)
  have hP : va_P D vwCl [(a0, .inr (9, [.ref a1, k1, k2, k3, .int 0, k5, k6, k7, k8, k9])), (a1, .inl (K 0, 56, .inl ((u_6.2.1 0))))] H := hP
  have hD : va_D A [(a0, .inr (9, [.ref a1, k1, k2, k3, .int 0, k5, k6, k7, k8, k9])), (a1, .inl (K 0, 56, .inl ((u_6.2.1 0))))] := hD
  refine lv_aload_n hx hb dX9_build_30 rfl (lv_at hl 1 rfl) ?_
  refine lv_iload hx hb dX9_build_31 (lv_at hl 0 rfl) ?_
  refine lv_iconst (v := 3) hx hb dX9_build_33 (by decide) ?_
  refine lv_iload hx hb dX9_build_34 (lv_at hl 5 rfl) ?_
  refine kcv (wr := []) (va_runV (As := [.int 0, .int 3, .int x3]) (rest := []) ⟨hx, hb, hml, hown, hts⟩ (c_put_3 l D K a0 x3 a1 k1 k2 k3 (.int 0) k5 k6 k7 k8 k9 (u_6.2.1 0) H.size) (cwV 3 hts gX9_build_X9_put rfl rfl rfl (by decide +kernel) ⟨Nat.le_of_ble_eq_true rfl, Nat.le_of_ble_eq_true rfl⟩) (mkV hK hN (hP.sub [0, 1] rfl) (hD.sub [0, 1] (by decide) rfl) (ci := 9) (q0 := 0) rfl rfl) rfl rfl hl.1 rfl (lv_room (Nat.le_of_ble_eq_true rfl)) dX9_build_36 ⟨Nat.le_of_ble_eq_true rfl, Nat.le_of_ble_eq_true rfl⟩) hP hD hS hA [0, 1] [] rfl rfl (by decide) (by decide) (fun u_8 H locs hw hP hD hS => ?_)
  have hP : va_P D vwCl [(a0, .inr (9, [.ref a1, k1, k2, k3, .int 0, k5, k6, k7, k8, k9])), (a1, .inl (K 0, 56, .inl ((u_8.2.1 0))))] H := hP
  have hD : va_D A [(a0, .inr (9, [.ref a1, k1, k2, k3, .int 0, k5, k6, k7, k8, k9])), (a1, .inl (K 0, 56, .inl ((u_8.2.1 0))))] := hD
  refine lv_aload_n hx hb dX9_build_39 rfl (lv_at hl 1 rfl) ?_
  refine lv_iload hx hb dX9_build_40 (lv_at hl 0 rfl) ?_
  refine lv_iconst (v := 4) hx hb dX9_build_42 (by decide) ?_
  refine lv_iload hx hb dX9_build_43 (lv_at hl 6 rfl) ?_
  refine kcv (wr := []) (va_runV (As := [.int 0, .int 4, .int x4]) (rest := []) ⟨hx, hb, hml, hown, hts⟩ (c_put_4 l D K a0 x4 a1 k1 k2 k3 (.int 0) k5 k6 k7 k8 k9 (u_8.2.1 0) H.size) (cwV 3 hts gX9_build_X9_put rfl rfl rfl (by decide +kernel) ⟨Nat.le_of_ble_eq_true rfl, Nat.le_of_ble_eq_true rfl⟩) (mkV hK hN (hP.sub [0, 1] rfl) (hD.sub [0, 1] (by decide) rfl) (ci := 9) (q0 := 0) rfl rfl) rfl rfl hl.1 rfl (lv_room (Nat.le_of_ble_eq_true rfl)) dX9_build_45 ⟨Nat.le_of_ble_eq_true rfl, Nat.le_of_ble_eq_true rfl⟩) hP hD hS hA [0, 1] [] rfl rfl (by decide) (by decide) (fun u_10 H locs hw hP hD hS => ?_)
  have hP : va_P D vwCl [(a0, .inr (9, [.ref a1, k1, k2, k3, .int 0, k5, k6, k7, k8, k9])), (a1, .inl (K 0, 56, .inl ((u_10.2.1 0))))] H := hP
  have hD : va_D A [(a0, .inr (9, [.ref a1, k1, k2, k3, .int 0, k5, k6, k7, k8, k9])), (a1, .inl (K 0, 56, .inl ((u_10.2.1 0))))] := hD
  refine lv_aload_n hx hb dX9_build_48 rfl (lv_at hl 1 rfl) ?_
  refine lv_dup hx hb dX9_build_49 rfl ?_
  refine va_get (ci := 9) (v := .int 0) (C := RX9) (T := TX9) (N := 10) hx hb hts hw9 hown hK hP 0 rfl rfl 4 (by decide) (hts (.fieldLink RX9 27 "SmokeTune$Town" "houses" "I") (List.mem_cons_of_mem _ (List.mem_append_left _ (List.mem_of_getElem? (i := 0) rfl)))) (fun _ h9 => h9) rfl dX9_build_50 ?_
  refine lv_iconst (v := 1) hx hb dX9_build_53 (by decide) ?_
  refine lv_iadd hx hb dX9_build_54 ?_
  refine lv_topi (fun x_11 ex_11 => ?_)
  obtain rfl : x_11 = 1 := ex_11.trans (by first | rfl | decide)
  refine va_put (ci := 9) (v := .int 1) (ty := .int) (C := RX9) (T := TX9) (N := 10) hx hb hts hw9 tyX9 tyX9_ok nmX9 hown hK hP hD hS 0 rfl rfl 4 (by decide) (hts (.fieldLink RX9 27 "SmokeTune$Town" "houses" "I") (List.mem_cons_of_mem _ (List.mem_append_left _ (List.mem_of_getElem? (i := 0) rfl)))) (fun _ h9 => h9) rfl (by decide +kernel) (by first | rfl | decide) (by first | rfl | decide) (Nat.le_of_ble_eq_true rfl) dX9_build_55 (fun H locs hP hD hS => ?_)
  have hP : va_P D vwCl [(a0, .inr (9, [.ref a1, k1, k2, k3, .int 1, k5, k6, k7, k8, k9])), (a1, .inl (K 0, 56, .inl ((u_10.2.1 0))))] H := hP
  have hD : va_D A [(a0, .inr (9, [.ref a1, k1, k2, k3, .int 1, k5, k6, k7, k8, k9])), (a1, .inl (K 0, 56, .inl ((u_10.2.1 0))))] := hD
  refine lv_iload hx hb dX9_build_58 (lv_at hl 0 rfl) ?_
  exact W.iret (v := 0) hx hb hr (fun t ht hW => ⟨⟨0, (), rfl, (by first | exact rfl), Wd.nil⟩, hS.F ht⟩) hS.2.2 dX9_build_60
