theorem dX2_become_0 : decode cX2_become 0 = .ok (.aload_n 1, 1) := by decide +kernel
theorem dX2_become_1 : decode cX2_become 1 = .ok (.getfield 11, 3) := by decide +kernel
theorem dX2_become_4 : decode cX2_become 4 = .ok (.iconst 0, 1) := by decide +kernel
theorem dX2_become_5 : decode cX2_become 5 = .ok (.aload_n 0, 1) := by decide +kernel
theorem dX2_become_6 : decode cX2_become 6 = .ok (.getfield 11, 3) := by decide +kernel
theorem dX2_become_9 : decode cX2_become 9 = .ok (.iconst 0, 1) := by decide +kernel
theorem dX2_become_10 : decode cX2_become 10 = .ok (.aload_n 0, 1) := by decide +kernel
theorem dX2_become_11 : decode cX2_become 11 = .ok (.getfield 11, 3) := by decide +kernel
theorem dX2_become_14 : decode cX2_become 14 = .ok (.arraylength, 1) := by decide +kernel
theorem dX2_become_15 : decode cX2_become 15 = .ok (.invokestatic 22, 3) := by decide +kernel
theorem dX2_become_18 : decode cX2_become 18 = .ok (.aload_n 0, 1) := by decide +kernel
theorem dX2_become_19 : decode cX2_become 19 = .ok (.aload_n 1, 1) := by decide +kernel
theorem dX2_become_20 : decode cX2_become 20 = .ok (.getfield 15, 3) := by decide +kernel
theorem dX2_become_23 : decode cX2_become 23 = .ok (.putfield 15, 3) := by decide +kernel
theorem dX2_become_26 : decode cX2_become 26 = .ok (.aload_n 0, 1) := by decide +kernel
theorem dX2_become_27 : decode cX2_become 27 = .ok (.aload_n 1, 1) := by decide +kernel
theorem dX2_become_28 : decode cX2_become 28 = .ok (.getfield 19, 3) := by decide +kernel
theorem dX2_become_31 : decode cX2_become 31 = .ok (.putfield 19, 3) := by decide +kernel
theorem dX2_become_34 : decode cX2_become 34 = .ok (.return_, 1) := by decide +kernel
theorem dX2_draft_0 : decode cX2_draft 0 = .ok (.aload_n 0, 1) := by decide +kernel
theorem dX2_draft_1 : decode cX2_draft 1 = .ok (.getfield 15, 3) := by decide +kernel
theorem dX2_draft_4 : decode cX2_draft 4 = .ok (.bipush 28, 2) := by decide +kernel
theorem dX2_draft_6 : decode cX2_draft 6 = .ok (.imul, 1) := by decide +kernel
theorem dX2_draft_7 : decode cX2_draft 7 = .ok (.istore_n 2, 1) := by decide +kernel
theorem dX2_draft_8 : decode cX2_draft 8 = .ok (.aload_n 0, 1) := by decide +kernel
theorem dX2_draft_9 : decode cX2_draft 9 = .ok (.getfield 11, 3) := by decide +kernel
theorem dX2_draft_12 : decode cX2_draft 12 = .ok (.iload_n 2, 1) := by decide +kernel
theorem dX2_draft_13 : decode cX2_draft 13 = .ok (.iconst 1, 1) := by decide +kernel
theorem dX2_draft_14 : decode cX2_draft 14 = .ok (.iadd, 1) := by decide +kernel
theorem dX2_draft_15 : decode cX2_draft 15 = .ok (.aload_n 1, 1) := by decide +kernel
theorem dX2_draft_16 : decode cX2_draft 16 = .ok (.getfield 28, 3) := by decide +kernel
theorem dX2_draft_19 : decode cX2_draft 19 = .ok (.iastore, 1) := by decide +kernel
theorem dX2_draft_20 : decode cX2_draft 20 = .ok (.aload_n 0, 1) := by decide +kernel
theorem dX2_draft_21 : decode cX2_draft 21 = .ok (.getfield 11, 3) := by decide +kernel
theorem dX2_draft_24 : decode cX2_draft 24 = .ok (.iload_n 2, 1) := by decide +kernel
theorem dX2_draft_25 : decode cX2_draft 25 = .ok (.iconst 2, 1) := by decide +kernel
theorem dX2_draft_26 : decode cX2_draft 26 = .ok (.iadd, 1) := by decide +kernel
theorem dX2_draft_27 : decode cX2_draft 27 = .ok (.aload_n 1, 1) := by decide +kernel
theorem dX2_draft_28 : decode cX2_draft 28 = .ok (.getfield 33, 3) := by decide +kernel
theorem dX2_draft_31 : decode cX2_draft 31 = .ok (.iconst 0, 1) := by decide +kernel
theorem dX2_draft_32 : decode cX2_draft 32 = .ok (.iaload, 1) := by decide +kernel
theorem dX2_draft_33 : decode cX2_draft 33 = .ok (.iastore, 1) := by decide +kernel
theorem dX2_draft_34 : decode cX2_draft 34 = .ok (.aload_n 0, 1) := by decide +kernel
theorem dX2_draft_35 : decode cX2_draft 35 = .ok (.getfield 11, 3) := by decide +kernel
theorem dX2_draft_38 : decode cX2_draft 38 = .ok (.iload_n 2, 1) := by decide +kernel
theorem dX2_draft_39 : decode cX2_draft 39 = .ok (.iconst 3, 1) := by decide +kernel
theorem dX2_draft_40 : decode cX2_draft 40 = .ok (.iadd, 1) := by decide +kernel
theorem dX2_draft_41 : decode cX2_draft 41 = .ok (.aload_n 1, 1) := by decide +kernel
theorem dX2_draft_42 : decode cX2_draft 42 = .ok (.getfield 33, 3) := by decide +kernel
theorem dX2_draft_45 : decode cX2_draft 45 = .ok (.iconst 1, 1) := by decide +kernel
theorem dX2_draft_46 : decode cX2_draft 46 = .ok (.iaload, 1) := by decide +kernel
theorem dX2_draft_47 : decode cX2_draft 47 = .ok (.iastore, 1) := by decide +kernel
theorem dX2_draft_48 : decode cX2_draft 48 = .ok (.iconst 0, 1) := by decide +kernel
theorem dX2_draft_49 : decode cX2_draft 49 = .ok (.istore_n 3, 1) := by decide +kernel
theorem dX2_draft_50 : decode cX2_draft 50 = .ok (.iload_n 3, 1) := by decide +kernel
theorem dX2_draft_51 : decode cX2_draft 51 = .ok (.iconst 3, 1) := by decide +kernel
theorem dX2_draft_52 : decode cX2_draft 52 = .ok (.if_icmp .ge 37, 3) := by decide +kernel
theorem dX2_draft_55 : decode cX2_draft 55 = .ok (.aload_n 1, 1) := by decide +kernel
theorem dX2_draft_56 : decode cX2_draft 56 = .ok (.getfield 36, 3) := by decide +kernel
theorem dX2_draft_59 : decode cX2_draft 59 = .ok (.iload_n 3, 1) := by decide +kernel
theorem dX2_draft_60 : decode cX2_draft 60 = .ok (.invokestatic 39, 3) := by decide +kernel
theorem dX2_draft_63 : decode cX2_draft 63 = .ok (.bipush 8, 2) := by decide +kernel
theorem dX2_draft_65 : decode cX2_draft 65 = .ok (.imul, 1) := by decide +kernel
theorem dX2_draft_66 : decode cX2_draft 66 = .ok (.aload_n 0, 1) := by decide +kernel
theorem dX2_draft_67 : decode cX2_draft 67 = .ok (.getfield 11, 3) := by decide +kernel
theorem dX2_draft_70 : decode cX2_draft 70 = .ok (.iload_n 2, 1) := by decide +kernel
theorem dX2_draft_71 : decode cX2_draft 71 = .ok (.iconst 4, 1) := by decide +kernel
theorem dX2_draft_72 : decode cX2_draft 72 = .ok (.iadd, 1) := by decide +kernel
theorem dX2_draft_73 : decode cX2_draft 73 = .ok (.iload_n 3, 1) := by decide +kernel
theorem dX2_draft_74 : decode cX2_draft 74 = .ok (.bipush 8, 2) := by decide +kernel
theorem dX2_draft_76 : decode cX2_draft 76 = .ok (.imul, 1) := by decide +kernel
theorem dX2_draft_77 : decode cX2_draft 77 = .ok (.iadd, 1) := by decide +kernel
theorem dX2_draft_78 : decode cX2_draft 78 = .ok (.bipush 8, 2) := by decide +kernel
theorem dX2_draft_80 : decode cX2_draft 80 = .ok (.invokestatic 22, 3) := by decide +kernel
theorem dX2_draft_83 : decode cX2_draft 83 = .ok (.iinc 3 1, 3) := by decide +kernel
theorem dX2_draft_86 : decode cX2_draft 86 = .ok (.goto (-36), 3) := by decide +kernel
theorem dX2_draft_89 : decode cX2_draft 89 = .ok (.return_, 1) := by decide +kernel
theorem dX2_keep_0 : decode cX2_keep 0 = .ok (.aload_n 0, 1) := by decide +kernel
theorem dX2_keep_1 : decode cX2_keep 1 = .ok (.getfield 11, 3) := by decide +kernel
theorem dX2_keep_4 : decode cX2_keep 4 = .ok (.aload_n 0, 1) := by decide +kernel
theorem dX2_keep_5 : decode cX2_keep 5 = .ok (.getfield 15, 3) := by decide +kernel
theorem dX2_keep_8 : decode cX2_keep 8 = .ok (.bipush 28, 2) := by decide +kernel
theorem dX2_keep_10 : decode cX2_keep 10 = .ok (.imul, 1) := by decide +kernel
theorem dX2_keep_11 : decode cX2_keep 11 = .ok (.iload_n 1, 1) := by decide +kernel
theorem dX2_keep_12 : decode cX2_keep 12 = .ok (.iastore, 1) := by decide +kernel
theorem dX2_keep_13 : decode cX2_keep 13 = .ok (.aload_n 0, 1) := by decide +kernel
theorem dX2_keep_14 : decode cX2_keep 14 = .ok (.aload_n 0, 1) := by decide +kernel
theorem dX2_keep_15 : decode cX2_keep 15 = .ok (.getfield 15, 3) := by decide +kernel
theorem dX2_keep_18 : decode cX2_keep 18 = .ok (.iconst 1, 1) := by decide +kernel
theorem dX2_keep_19 : decode cX2_keep 19 = .ok (.iadd, 1) := by decide +kernel
theorem dX2_keep_20 : decode cX2_keep 20 = .ok (.bipush 17, 2) := by decide +kernel
theorem dX2_keep_22 : decode cX2_keep 22 = .ok (.irem, 1) := by decide +kernel
theorem dX2_keep_23 : decode cX2_keep 23 = .ok (.putfield 15, 3) := by decide +kernel
theorem dX2_keep_26 : decode cX2_keep 26 = .ok (.aload_n 0, 1) := by decide +kernel
theorem dX2_keep_27 : decode cX2_keep 27 = .ok (.bipush 16, 2) := by decide +kernel
theorem dX2_keep_29 : decode cX2_keep 29 = .ok (.aload_n 0, 1) := by decide +kernel
theorem dX2_keep_30 : decode cX2_keep 30 = .ok (.getfield 19, 3) := by decide +kernel
theorem dX2_keep_33 : decode cX2_keep 33 = .ok (.iconst 1, 1) := by decide +kernel
theorem dX2_keep_34 : decode cX2_keep 34 = .ok (.iadd, 1) := by decide +kernel
theorem dX2_keep_35 : decode cX2_keep 35 = .ok (.invokestatic 43, 3) := by decide +kernel
theorem dX2_keep_38 : decode cX2_keep 38 = .ok (.putfield 19, 3) := by decide +kernel
theorem dX2_keep_41 : decode cX2_keep 41 = .ok (.return_, 1) := by decide +kernel
theorem dX2_takeBack_0 : decode cX2_takeBack 0 = .ok (.aload_n 0, 1) := by decide +kernel
theorem dX2_takeBack_1 : decode cX2_takeBack 1 = .ok (.getfield 19, 3) := by decide +kernel
theorem dX2_takeBack_4 : decode cX2_takeBack 4 = .ok (.ifCond .ne 5, 3) := by decide +kernel
theorem dX2_takeBack_9 : decode cX2_takeBack 9 = .ok (.aload_n 0, 1) := by decide +kernel
theorem dX2_takeBack_10 : decode cX2_takeBack 10 = .ok (.dup, 1) := by decide +kernel
theorem dX2_takeBack_11 : decode cX2_takeBack 11 = .ok (.getfield 19, 3) := by decide +kernel
theorem dX2_takeBack_14 : decode cX2_takeBack 14 = .ok (.iconst 1, 1) := by decide +kernel
theorem dX2_takeBack_15 : decode cX2_takeBack 15 = .ok (.isub, 1) := by decide +kernel
theorem dX2_takeBack_16 : decode cX2_takeBack 16 = .ok (.putfield 19, 3) := by decide +kernel
theorem dX2_takeBack_19 : decode cX2_takeBack 19 = .ok (.aload_n 0, 1) := by decide +kernel
theorem dX2_takeBack_20 : decode cX2_takeBack 20 = .ok (.aload_n 0, 1) := by decide +kernel
theorem dX2_takeBack_21 : decode cX2_takeBack 21 = .ok (.getfield 15, 3) := by decide +kernel
theorem dX2_takeBack_24 : decode cX2_takeBack 24 = .ok (.bipush 17, 2) := by decide +kernel
theorem dX2_takeBack_26 : decode cX2_takeBack 26 = .ok (.iadd, 1) := by decide +kernel
theorem dX2_takeBack_27 : decode cX2_takeBack 27 = .ok (.iconst 1, 1) := by decide +kernel
theorem dX2_takeBack_28 : decode cX2_takeBack 28 = .ok (.isub, 1) := by decide +kernel
theorem dX2_takeBack_29 : decode cX2_takeBack 29 = .ok (.bipush 17, 2) := by decide +kernel
theorem dX2_takeBack_31 : decode cX2_takeBack 31 = .ok (.irem, 1) := by decide +kernel
theorem dX2_takeBack_32 : decode cX2_takeBack 32 = .ok (.putfield 15, 3) := by decide +kernel
theorem dX2_takeBack_35 : decode cX2_takeBack 35 = .ok (.aload_n 0, 1) := by decide +kernel
theorem dX2_takeBack_36 : decode cX2_takeBack 36 = .ok (.getfield 15, 3) := by decide +kernel
theorem dX2_takeBack_39 : decode cX2_takeBack 39 = .ok (.bipush 28, 2) := by decide +kernel
theorem dX2_takeBack_41 : decode cX2_takeBack 41 = .ok (.imul, 1) := by decide +kernel
theorem dX2_takeBack_42 : decode cX2_takeBack 42 = .ok (.istore_n 2, 1) := by decide +kernel
theorem dX2_takeBack_43 : decode cX2_takeBack 43 = .ok (.aload_n 1, 1) := by decide +kernel
theorem dX2_takeBack_44 : decode cX2_takeBack 44 = .ok (.aload_n 0, 1) := by decide +kernel
theorem dX2_takeBack_45 : decode cX2_takeBack 45 = .ok (.getfield 11, 3) := by decide +kernel
theorem dX2_takeBack_48 : decode cX2_takeBack 48 = .ok (.iload_n 2, 1) := by decide +kernel
theorem dX2_takeBack_49 : decode cX2_takeBack 49 = .ok (.iconst 1, 1) := by decide +kernel
theorem dX2_takeBack_50 : decode cX2_takeBack 50 = .ok (.iadd, 1) := by decide +kernel
theorem dX2_takeBack_51 : decode cX2_takeBack 51 = .ok (.iaload, 1) := by decide +kernel
theorem dX2_takeBack_52 : decode cX2_takeBack 52 = .ok (.putfield 28, 3) := by decide +kernel
theorem dX2_takeBack_55 : decode cX2_takeBack 55 = .ok (.aload_n 1, 1) := by decide +kernel
theorem dX2_takeBack_56 : decode cX2_takeBack 56 = .ok (.getfield 33, 3) := by decide +kernel
theorem dX2_takeBack_59 : decode cX2_takeBack 59 = .ok (.iconst 0, 1) := by decide +kernel
theorem dX2_takeBack_60 : decode cX2_takeBack 60 = .ok (.aload_n 0, 1) := by decide +kernel
theorem dX2_takeBack_61 : decode cX2_takeBack 61 = .ok (.getfield 11, 3) := by decide +kernel
theorem dX2_takeBack_64 : decode cX2_takeBack 64 = .ok (.iload_n 2, 1) := by decide +kernel
theorem dX2_takeBack_65 : decode cX2_takeBack 65 = .ok (.iconst 2, 1) := by decide +kernel
theorem dX2_takeBack_66 : decode cX2_takeBack 66 = .ok (.iadd, 1) := by decide +kernel
theorem dX2_takeBack_67 : decode cX2_takeBack 67 = .ok (.iaload, 1) := by decide +kernel
theorem dX2_takeBack_68 : decode cX2_takeBack 68 = .ok (.iastore, 1) := by decide +kernel
theorem dX2_takeBack_69 : decode cX2_takeBack 69 = .ok (.aload_n 1, 1) := by decide +kernel
theorem dX2_takeBack_70 : decode cX2_takeBack 70 = .ok (.getfield 33, 3) := by decide +kernel
theorem dX2_takeBack_73 : decode cX2_takeBack 73 = .ok (.iconst 1, 1) := by decide +kernel
theorem dX2_takeBack_74 : decode cX2_takeBack 74 = .ok (.aload_n 0, 1) := by decide +kernel
theorem dX2_takeBack_75 : decode cX2_takeBack 75 = .ok (.getfield 11, 3) := by decide +kernel
theorem dX2_takeBack_78 : decode cX2_takeBack 78 = .ok (.iload_n 2, 1) := by decide +kernel
theorem dX2_takeBack_79 : decode cX2_takeBack 79 = .ok (.iconst 3, 1) := by decide +kernel
theorem dX2_takeBack_80 : decode cX2_takeBack 80 = .ok (.iadd, 1) := by decide +kernel
theorem dX2_takeBack_81 : decode cX2_takeBack 81 = .ok (.iaload, 1) := by decide +kernel
theorem dX2_takeBack_82 : decode cX2_takeBack 82 = .ok (.iastore, 1) := by decide +kernel
theorem dX2_takeBack_83 : decode cX2_takeBack 83 = .ok (.iconst 0, 1) := by decide +kernel
theorem dX2_takeBack_84 : decode cX2_takeBack 84 = .ok (.istore_n 3, 1) := by decide +kernel
theorem dX2_takeBack_85 : decode cX2_takeBack 85 = .ok (.iload_n 3, 1) := by decide +kernel
theorem dX2_takeBack_86 : decode cX2_takeBack 86 = .ok (.iconst 3, 1) := by decide +kernel
theorem dX2_takeBack_87 : decode cX2_takeBack 87 = .ok (.if_icmp .ge 37, 3) := by decide +kernel
theorem dX2_takeBack_90 : decode cX2_takeBack 90 = .ok (.aload_n 0, 1) := by decide +kernel
theorem dX2_takeBack_91 : decode cX2_takeBack 91 = .ok (.getfield 11, 3) := by decide +kernel
theorem dX2_takeBack_94 : decode cX2_takeBack 94 = .ok (.iload_n 2, 1) := by decide +kernel
theorem dX2_takeBack_95 : decode cX2_takeBack 95 = .ok (.iconst 4, 1) := by decide +kernel
theorem dX2_takeBack_96 : decode cX2_takeBack 96 = .ok (.iadd, 1) := by decide +kernel
theorem dX2_takeBack_97 : decode cX2_takeBack 97 = .ok (.iload_n 3, 1) := by decide +kernel
theorem dX2_takeBack_98 : decode cX2_takeBack 98 = .ok (.bipush 8, 2) := by decide +kernel
theorem dX2_takeBack_100 : decode cX2_takeBack 100 = .ok (.imul, 1) := by decide +kernel
theorem dX2_takeBack_101 : decode cX2_takeBack 101 = .ok (.iadd, 1) := by decide +kernel
theorem dX2_takeBack_102 : decode cX2_takeBack 102 = .ok (.aload_n 1, 1) := by decide +kernel
theorem dX2_takeBack_103 : decode cX2_takeBack 103 = .ok (.getfield 36, 3) := by decide +kernel
theorem dX2_takeBack_106 : decode cX2_takeBack 106 = .ok (.iload_n 3, 1) := by decide +kernel
theorem dX2_takeBack_107 : decode cX2_takeBack 107 = .ok (.invokestatic 39, 3) := by decide +kernel
theorem dX2_takeBack_110 : decode cX2_takeBack 110 = .ok (.bipush 8, 2) := by decide +kernel
theorem dX2_takeBack_112 : decode cX2_takeBack 112 = .ok (.imul, 1) := by decide +kernel
theorem dX2_takeBack_113 : decode cX2_takeBack 113 = .ok (.bipush 8, 2) := by decide +kernel
theorem dX2_takeBack_115 : decode cX2_takeBack 115 = .ok (.invokestatic 22, 3) := by decide +kernel
theorem dX2_takeBack_118 : decode cX2_takeBack 118 = .ok (.iinc 3 1, 3) := by decide +kernel
theorem dX2_takeBack_121 : decode cX2_takeBack 121 = .ok (.goto (-36), 3) := by decide +kernel
theorem dX2_takeBack_124 : decode cX2_takeBack 124 = .ok (.aload_n 0, 1) := by decide +kernel
theorem dX2_takeBack_125 : decode cX2_takeBack 125 = .ok (.getfield 11, 3) := by decide +kernel
theorem dX2_takeBack_128 : decode cX2_takeBack 128 = .ok (.iload_n 2, 1) := by decide +kernel
theorem dX2_takeBack_129 : decode cX2_takeBack 129 = .ok (.iaload, 1) := by decide +kernel
theorem dX2_takeBack_130 : decode cX2_takeBack 130 = .ok (.ireturn, 1) := by decide +kernel
theorem dX2_takeBack_7 : decode cX2_takeBack 7 = .ok (.iconst (-1), 1) := by decide +kernel
theorem dX2_takeBack_8 : decode cX2_takeBack 8 = .ok (.ireturn, 1) := by decide +kernel
set_option maxRecDepth 20000 in
theorem ggX2_draft_X2_changing : GoodIn wsX2_draft wsX2_changing := goodIn_r _ [10] (by decide +kernel) (by decide +kernel)
set_option maxRecDepth 20000 in
theorem gX2_draft_X2_changing : GoodIn wsX2_draft (va_wsS RX2 39 yX2_changing wsX2_changing) := goodIn_app (goodIn_of _ (by decide +kernel)) ggX2_draft_X2_changing
set_option maxRecDepth 20000 in
theorem ggX2_takeBack_X2_changing : GoodIn wsX2_takeBack wsX2_changing := goodIn_r _ [11] (by decide +kernel) (by decide +kernel)
set_option maxRecDepth 20000 in
theorem gX2_takeBack_X2_changing : GoodIn wsX2_takeBack (va_wsS RX2 39 yX2_changing wsX2_changing) := goodIn_app (goodIn_of _ (by decide +kernel)) ggX2_takeBack_X2_changing
set_option maxHeartbeats 4000000 in
set_option maxRecDepth 100000 in
theorem w_clear (l : Launch) (D : va_G) (K : Nat → ClassId) (a0 : Nat) (a2 : Nat) (dr : Int32) (kp : Int32) (sz : Nat) : Met l yX2_clear wsX2_clear ({ frames := 0, cells := 0, slots := 0, locals := 0 }) (va_Pc [.ref a0] (Pre D K [(a0, .inr (2, [.ref a2, .int dr, .int kp]))] sz)) (va_Qv (S := Su) (fun (u : Su) => True) (fun u t => Wd D (va_A [(a0, .inr (2, [.ref a2, .int dr, .int kp]))] sz) ((fun u => [(a0, .inr (2, [.ref a2, .int dr, .int 0]))]) u) t) (va_A [(a0, .inr (2, [.ref a2, .int dr, .int kp]))] sz)) 0 0 (va_A [(a0, .inr (2, [.ref a2, .int dr, .int kp]))] sz) := by
  refine Met.ofW (cc := cX2_clear) (maxL := 1) (ret := none) (by decide) rfl ?_
  intro p e s m args below meth c s₁ B hml hv
  obtain ⟨rfl, hsz, hP, hK, hD0, hN⟩ := hv
  have hx := B.exec
  have hb := B.bytes
  have hr := B.returns
  have hts := atoms_spec (ws := wsX2_clear) B.pre
  have hown : s.vm.findClass RX2 = some m.cls := findClass_of_methodNamed B.named
  have hlocks := B.notSynchronized
  subst hsz
  have hD := hD0.self (sz := s.heap.size)
  generalize hAe : va_A [(a0, .inr (2, [.ref a2, .int dr, .int kp]))] s.heap.size = A at hD ⊢
  have hA : ∀ q : Nat, s.heap.size ≤ q → A q := fun q h => by rw [← hAe]; exact Or.inr h
  have hS : va_S A s.heap s.heap [] := va_S.rf
  have hP : va_P D vwCl [(a0, .inr (2, [.ref a2, .int dr, .int kp]))] s.heap := hP
  have hl := lv_entry [.ref a0] (n := 1) (Nat.le_of_ble_eq_true rfl)
  rw [lg_entry_eq]
  generalize (lg_sl [.ref a0] ++ List.replicate (1 - (lg_sl [.ref a0]).length) Slot.unset).toArray = ls at hl ⊢
  have hl : lv_has ls 1 [(0, .ref a0)] := hl
  have hw2 : ∀ w ∈ wsX20, w ∈ wsX2_clear := fun w h => (List.mem_cons_of_mem _ (List.mem_append_right _ h))
  generalize hQ : MQ below _ _ s _ _ _ = Q
  refine lv_aload_n hx hb dX2_clear_0 rfl (lv_at hl 0 rfl) ?_
  refine lv_iconst (v := 0) hx hb dX2_clear_1 (by decide) ?_
  refine va_put (ci := 2) (v := .int 0) (ty := .int) (C := RX2) (T := TX2) (N := 3) hx hb hts hw2 tyX2 tyX2_ok nmX2 hown hK hP hD hS 0 rfl rfl 2 (by decide) (hts (.fieldLink RX2 19 "SmokeTune$History" "kept" "I") (List.mem_cons_of_mem _ (List.mem_append_left _ (List.mem_of_getElem? (i := 0) rfl)))) (fun _ h9 => h9) rfl (by decide +kernel) (by first | rfl | decide) (by first | rfl | decide) (Nat.le_of_ble_eq_true rfl) dX2_clear_2 (fun H locs hP hD hS => ?_)
  have hP : va_P D vwCl [(a0, .inr (2, [.ref a2, .int dr, .int 0]))] H := hP
  have hD : va_D A [(a0, .inr (2, [.ref a2, .int dr, .int 0]))] := hD
  rw [← hQ]
  have hP9 := hP.sub (ws' := [(a0, .inr (2, [.ref a2, .int dr, .int 0]))]) [0] rfl
  have hD9 := hD.sub (ws' := [(a0, .inr (2, [.ref a2, .int dr, .int 0]))]) [0] (by decide) rfl
  exact W.vret hx hb hr (fun t ht hW => ⟨⟨((fun _ => 0, fun _ => fun _ => 0, fun _ => fun _ => 0, fun _ => 0, fun _ => 0, fun _ => fun _ => none) : Su), rfl, trivial, (⟨by rw [ht]; exact hP9, hD9⟩ : Wd D A _ t)⟩, hS.F ht⟩) hS.2.2 dX2_clear_5
set_option maxHeartbeats 4000000 in
set_option maxRecDepth 100000 in
theorem w_hbecome (l : Launch) (D : va_G) (K : Nat → ClassId) (a0 : Nat) (b0 : Nat) (a2 : Nat) (h_1 : Value) (h_2 : Value) (f : Nat → Int32) (b2 : Nat) (dr : Int32) (kp : Int32) (f2 : Nat → Int32) (sz : Nat) (zdr : 0 ≤ dr.toInt ∧ dr.toInt ≤ 16) (zkp : 0 ≤ kp.toInt ∧ kp.toInt ≤ 16) : Met l yX2_become wsX2_become ({ frames := 1, cells := 0, slots := 0, locals := 40 }) (va_Pc [.ref a0, .ref b0] (Pre D K [(a0, .inr (2, [.ref a2, h_1, h_2])), (a2, .inl (K 0, 476, .inl f)), (b0, .inr (2, [.ref b2, .int dr, .int kp])), (b2, .inl (K 0, 476, .inl f2))] sz)) (va_Qv (S := Su) (fun (u : Su) => (0 ≤ (u.2.2.2.1 0).toInt ∧ (u.2.2.2.1 0).toInt ≤ 16) ∧ (0 ≤ (u.2.2.2.1 1).toInt ∧ (u.2.2.2.1 1).toInt ≤ 16) ∧ True) (fun u t => Wd D (va_A [(a0, .inr (2, [.ref a2, h_1, h_2])), (a2, .inl (K 0, 476, .inl f)), (b0, .inr (2, [.ref b2, .int dr, .int kp])), (b2, .inl (K 0, 476, .inl f2))] sz) ((fun u => [(a0, .inr (2, [.ref a2, .int (u.2.2.2.1 0), .int (u.2.2.2.1 1)])), (a2, .inl (K 0, 476, .inl (u.2.1 0))), (b0, .inr (2, [.ref b2, .int dr, .int kp])), (b2, .inl (K 0, 476, .inl f2))]) u) t) (va_A [(a0, .inr (2, [.ref a2, h_1, h_2])), (a2, .inl (K 0, 476, .inl f)), (b0, .inr (2, [.ref b2, .int dr, .int kp])), (b2, .inl (K 0, 476, .inl f2))] sz)) 0 0 (va_A [(a0, .inr (2, [.ref a2, h_1, h_2])), (a2, .inl (K 0, 476, .inl f)), (b0, .inr (2, [.ref b2, .int dr, .int kp])), (b2, .inl (K 0, 476, .inl f2))] sz) := by
  refine Met.ofW (cc := cX2_become) (maxL := 2) (ret := none) (by decide) rfl ?_
  intro p e s m args below meth c s₁ B hml hv
  obtain ⟨rfl, hsz, hP, hK, hD0, hN⟩ := hv
  have hx := B.exec
  have hb := B.bytes
  have hr := B.returns
  have hts := atoms_spec (ws := wsX2_become) B.pre
  have hown : s.vm.findClass RX2 = some m.cls := findClass_of_methodNamed B.named
  have hlocks := B.notSynchronized
  subst hsz
  have hD := hD0.self (sz := s.heap.size)
  generalize hAe : va_A [(a0, .inr (2, [.ref a2, h_1, h_2])), (a2, .inl (K 0, 476, .inl f)), (b0, .inr (2, [.ref b2, .int dr, .int kp])), (b2, .inl (K 0, 476, .inl f2))] s.heap.size = A at hD ⊢
  have hA : ∀ q : Nat, s.heap.size ≤ q → A q := fun q h => by rw [← hAe]; exact Or.inr h
  have hS : va_S A s.heap s.heap [] := va_S.rf
  have hP : va_P D vwCl [(a0, .inr (2, [.ref a2, h_1, h_2])), (a2, .inl (K 0, 476, .inl f)), (b0, .inr (2, [.ref b2, .int dr, .int kp])), (b2, .inl (K 0, 476, .inl f2))] s.heap := hP
  have hl := lv_entry [.ref a0, .ref b0] (n := 2) (Nat.le_of_ble_eq_true rfl)
  rw [lg_entry_eq]
  generalize (lg_sl [.ref a0, .ref b0] ++ List.replicate (2 - (lg_sl [.ref a0, .ref b0]).length) Slot.unset).toArray = ls at hl ⊢
  have hl : lv_has ls 2 [(0, .ref a0), (1, .ref b0)] := hl
  have hw2 : ∀ w ∈ wsX20, w ∈ wsX2_become := fun w h => (List.mem_cons_of_mem _ (List.mem_append_right _ h))
  generalize hQ : MQ below _ _ s _ _ _ = Q
  refine lv_aload_n hx hb dX2_become_0 rfl (lv_at hl 1 rfl) ?_
  refine va_get (ci := 2) (v := .ref b2) (C := RX2) (T := TX2) (N := 3) hx hb hts hw2 hown hK hP 2 rfl rfl 0 (by decide) (hts (.fieldLink RX2 11 "SmokeTune$History" "slots" "[I") (List.mem_cons_of_mem _ (List.mem_append_left _ (List.mem_of_getElem? (i := 0) rfl)))) (fun _ h9 => h9) rfl dX2_become_1 ?_
  refine lv_iconst (v := 0) hx hb dX2_become_4 (by decide) ?_
  refine lv_aload_n hx hb dX2_become_5 rfl (lv_at hl 0 rfl) ?_
  refine va_get (ci := 2) (v := .ref a2) (C := RX2) (T := TX2) (N := 3) hx hb hts hw2 hown hK hP 0 rfl rfl 0 (by decide) (hts (.fieldLink RX2 11 "SmokeTune$History" "slots" "[I") (List.mem_cons_of_mem _ (List.mem_append_left _ (List.mem_of_getElem? (i := 0) rfl)))) (fun _ h9 => h9) rfl dX2_become_6 ?_
  refine lv_iconst (v := 0) hx hb dX2_become_9 (by decide) ?_
  refine lv_aload_n hx hb dX2_become_10 rfl (lv_at hl 0 rfl) ?_
  refine va_get (ci := 2) (v := .ref a2) (C := RX2) (T := TX2) (N := 3) hx hb hts hw2 hown hK hP 0 rfl rfl 0 (by decide) (hts (.fieldLink RX2 11 "SmokeTune$History" "slots" "[I") (List.mem_cons_of_mem _ (List.mem_append_left _ (List.mem_of_getElem? (i := 0) rfl)))) (fun _ h9 => h9) rfl dX2_become_11 ?_
  refine va_alen (v := 476) hx hb hK hP 1 0 rfl rfl rfl dX2_become_14 ?_
  refine va_copyi hx hb (hml.trans hl.1.symm) hown (hts (.methodLink RX2 22 arraycopyName) (List.mem_cons_of_mem _ (List.mem_append_left _ (List.mem_of_getElem? (i := 1) rfl)))) (hts (.native arraycopyName) (List.mem_cons_of_mem _ (List.mem_append_left _ (List.mem_of_getElem? (i := 2) rfl)))) (hts (.static arraycopyName) (List.mem_cons_of_mem _ (List.mem_append_left _ (List.mem_of_getElem? (i := 3) rfl)))) (hts (.initialized "java/lang/System") (List.mem_cons_of_mem _ (List.mem_append_left _ (List.mem_of_getElem? (i := 4) rfl)))) hK hP hD hS 3 1 0 0 rfl rfl rfl rfl rfl (by decide) (by decide) (by decide) (by decide) (by decide) (fun _ _ => rfl) (Nat.le_of_ble_eq_true rfl) (by decide +kernel) dX2_become_15 (fun H locs hP hD hS => ?_)
  generalize hf_3 : (va_cpy (α := Int32) f2 f (0 : Int32).toNatClampNeg (0 : Int32).toNatClampNeg (476 : Int32).toNatClampNeg) = f_3 at hP hD
  have hP : va_P D vwCl [(a0, .inr (2, [.ref a2, h_1, h_2])), (a2, .inl (K 0, 476, .inl f_3)), (b0, .inr (2, [.ref b2, .int dr, .int kp])), (b2, .inl (K 0, 476, .inl f2))] H := hP
  have hD : va_D A [(a0, .inr (2, [.ref a2, h_1, h_2])), (a2, .inl (K 0, 476, .inl f_3)), (b0, .inr (2, [.ref b2, .int dr, .int kp])), (b2, .inl (K 0, 476, .inl f2))] := hD
  refine lv_aload_n hx hb dX2_become_18 rfl (lv_at hl 0 rfl) ?_
  refine lv_aload_n hx hb dX2_become_19 rfl (lv_at hl 1 rfl) ?_
  refine va_get (ci := 2) (v := .int dr) (C := RX2) (T := TX2) (N := 3) hx hb hts hw2 hown hK hP 2 rfl rfl 1 (by decide) (hts (.fieldLink RX2 15 "SmokeTune$History" "drafted" "I") (List.mem_cons_of_mem _ (List.mem_append_left _ (List.mem_of_getElem? (i := 5) rfl)))) (fun _ h9 => h9) rfl dX2_become_20 ?_
  refine va_put (ci := 2) (v := .int dr) (ty := .int) (C := RX2) (T := TX2) (N := 3) hx hb hts hw2 tyX2 tyX2_ok nmX2 hown hK hP hD hS 0 rfl rfl 1 (by decide) (hts (.fieldLink RX2 15 "SmokeTune$History" "drafted" "I") (List.mem_cons_of_mem _ (List.mem_append_left _ (List.mem_of_getElem? (i := 5) rfl)))) (fun _ h9 => h9) rfl (by decide +kernel) (by first | rfl | decide) (by first | rfl | decide) (Nat.le_of_ble_eq_true rfl) dX2_become_23 (fun H locs hP hD hS => ?_)
  have hP : va_P D vwCl [(a0, .inr (2, [.ref a2, .int dr, h_2])), (a2, .inl (K 0, 476, .inl f_3)), (b0, .inr (2, [.ref b2, .int dr, .int kp])), (b2, .inl (K 0, 476, .inl f2))] H := hP
  have hD : va_D A [(a0, .inr (2, [.ref a2, .int dr, h_2])), (a2, .inl (K 0, 476, .inl f_3)), (b0, .inr (2, [.ref b2, .int dr, .int kp])), (b2, .inl (K 0, 476, .inl f2))] := hD
  refine lv_aload_n hx hb dX2_become_26 rfl (lv_at hl 0 rfl) ?_
  refine lv_aload_n hx hb dX2_become_27 rfl (lv_at hl 1 rfl) ?_
  refine va_get (ci := 2) (v := .int kp) (C := RX2) (T := TX2) (N := 3) hx hb hts hw2 hown hK hP 2 rfl rfl 2 (by decide) (hts (.fieldLink RX2 19 "SmokeTune$History" "kept" "I") (List.mem_cons_of_mem _ (List.mem_append_left _ (List.mem_of_getElem? (i := 6) rfl)))) (fun _ h9 => h9) rfl dX2_become_28 ?_
  refine va_put (ci := 2) (v := .int kp) (ty := .int) (C := RX2) (T := TX2) (N := 3) hx hb hts hw2 tyX2 tyX2_ok nmX2 hown hK hP hD hS 0 rfl rfl 2 (by decide) (hts (.fieldLink RX2 19 "SmokeTune$History" "kept" "I") (List.mem_cons_of_mem _ (List.mem_append_left _ (List.mem_of_getElem? (i := 6) rfl)))) (fun _ h9 => h9) rfl (by decide +kernel) (by first | rfl | decide) (by first | rfl | decide) (Nat.le_of_ble_eq_true rfl) dX2_become_31 (fun H locs hP hD hS => ?_)
  have hP : va_P D vwCl [(a0, .inr (2, [.ref a2, .int dr, .int kp])), (a2, .inl (K 0, 476, .inl f_3)), (b0, .inr (2, [.ref b2, .int dr, .int kp])), (b2, .inl (K 0, 476, .inl f2))] H := hP
  have hD : va_D A [(a0, .inr (2, [.ref a2, .int dr, .int kp])), (a2, .inl (K 0, 476, .inl f_3)), (b0, .inr (2, [.ref b2, .int dr, .int kp])), (b2, .inl (K 0, 476, .inl f2))] := hD
  rw [← hQ]
  have hP9 := hP.sub (ws' := [(a0, .inr (2, [.ref a2, .int dr, .int kp])), (a2, .inl (K 0, 476, .inl f_3)), (b0, .inr (2, [.ref b2, .int dr, .int kp])), (b2, .inl (K 0, 476, .inl f2))]) [0, 1, 2, 3] rfl
  have hD9 := hD.sub (ws' := [(a0, .inr (2, [.ref a2, .int dr, .int kp])), (a2, .inl (K 0, 476, .inl f_3)), (b0, .inr (2, [.ref b2, .int dr, .int kp])), (b2, .inl (K 0, 476, .inl f2))]) [0, 1, 2, 3] (by decide) rfl
  exact W.vret hx hb hr (fun t ht hW => ⟨⟨((fun _ => 0, fun i => match i with | _ => f_3, fun _ => fun _ => 0, fun i => match i with | 0 => dr | _ => kp, fun _ => 0, fun _ => fun _ => none) : Su), rfl, ⟨(show 0 ≤ (dr : Int32).toInt ∧ (dr : Int32).toInt ≤ 16 by omega), (show 0 ≤ (kp : Int32).toInt ∧ (kp : Int32).toInt ≤ 16 by omega), trivial⟩, (⟨by rw [ht]; exact hP9, hD9⟩ : Wd D A _ t)⟩, hS.F ht⟩) hS.2.2 dX2_become_34
set_option maxHeartbeats 4000000 in
set_option maxRecDepth 100000 in
theorem w_changing (l : Launch) (D : va_G) (K : Nat → ClassId) (x : Int32) (sz : Nat) : Met l yX2_changing wsX2_changing ({ frames := 0, cells := 0, slots := 0, locals := 0 }) (va_Pc [.int x] (Pre D K [] sz)) (vp_Si (fun r : Int32 => (2 ≤ r.toInt ∧ r.toInt ≤ 6) ∧ True)) 0 0 (fun _ => False) := by
  refine Met.ofW (cc := cX2_changing) (maxL := 1) (ret := (some .int)) (by decide) rfl ?_
  intro p e s m args below meth c s₁ B hml hv
  obtain ⟨rfl, hsz, hP, hK, hD0, hN⟩ := hv
  have hx := B.exec
  have hb := B.bytes
  have hr := B.returns
  have hts := atoms_spec (ws := wsX2_changing) B.pre
  have hown : s.vm.findClass RX2 = some m.cls := findClass_of_methodNamed B.named
  have hlocks := B.notSynchronized
  subst hsz
  have hD := hD0
  have hP : va_P D vwCl [] s.heap := hP
  have hl := lv_entry [.int x] (n := 1) (Nat.le_of_ble_eq_true rfl)
  rw [lg_entry_eq]
  generalize (lg_sl [.int x] ++ List.replicate (1 - (lg_sl [.int x]).length) Slot.unset).toArray = ls at hl ⊢
  have hl : lv_has ls 1 [(0, .int x)] := hl
  generalize hQ : MQ below _ _ s _ _ _ = Q
  refine lv_iload_n hx hb dX2_changing_0 rfl (lv_at hl 0 rfl) ?_
  refine lv_if_ne (tgt := 8) hx hb dX2_changing_1 (by decide) (fun c_5 => ?_) (fun c_5 => ?_)
  · have c_5i := i_ne (x := x.toInt) (y := 0) rfl rfl c_5
    refine lv_iload_n hx hb dX2_changing_8 rfl (lv_at hl 0 rfl) ?_
    refine lv_iconst (v := 1) hx hb dX2_changing_9 (by decide) ?_
    refine lv_icmp_ne (tgt := 17) hx hb dX2_changing_10 (by decide) (fun c_6 => ?_) (fun c_6 => ?_)
    · have c_6i := i_ne (x := x.toInt) (y := 1) rfl rfl c_6
      refine lv_bipush (v := 6) hx hb dX2_changing_17 (by decide) ?_
      rw [← hQ]
      exact W.iret (v := 6) hx hb hr (fun t ht hW => ⟨_, rfl, ⟨(show 2 ≤ (6 : Int32).toInt ∧ (6 : Int32).toInt ≤ 6 by decide), trivial⟩, ht⟩) (fun q hq => by cases hq) dX2_changing_19
    · have c_6i := i_eq (x := x.toInt) (y := 1) rfl rfl c_6
      refine lv_iconst (v := 5) hx hb dX2_changing_13 (by decide) ?_
      refine lv_goto (tgt := 19) hx hb dX2_changing_14 (by decide) ?_
      rw [← hQ]
      exact W.iret (v := 5) hx hb hr (fun t ht hW => ⟨_, rfl, ⟨(show 2 ≤ (5 : Int32).toInt ∧ (5 : Int32).toInt ≤ 6 by decide), trivial⟩, ht⟩) (fun q hq => by cases hq) dX2_changing_19
  · have c_5i := i_eq (x := x.toInt) (y := 0) rfl rfl c_5
    refine lv_iconst (v := 2) hx hb dX2_changing_4 (by decide) ?_
    refine lv_goto (tgt := 19) hx hb dX2_changing_5 (by decide) ?_
    rw [← hQ]
    exact W.iret (v := 2) hx hb hr (fun t ht hW => ⟨_, rfl, ⟨(show 2 ≤ (2 : Int32).toInt ∧ (2 : Int32).toInt ≤ 6 by decide), trivial⟩, ht⟩) (fun q hq => by cases hq) dX2_changing_19
set_option maxHeartbeats 4000000 in
set_option maxRecDepth 100000 in
theorem w_draft (l : Launch) (D : va_G) (K : Nat → ClassId) (a0 : Nat) (t0 : Nat) (a2 : Nat) (dr : Int32) (h_2 : Value) (f : Nat → Int32) (t1 : Nat) (k_1 : Value) (t2 : Nat) (k_3 : Value) (k_4 : Value) (k_5 : Value) (k_6 : Value) (fi : Int32) (k_8 : Value) (k_9 : Value) (f1 : Nat → Int32) (f2 : Nat → Int32) (sz : Nat) (zdr : 0 ≤ dr.toInt ∧ dr.toInt ≤ 16) : Met l yX2_draft wsX2_draft ({ frames := 1, cells := 0, slots := 0, locals := 40 }) (va_Pc [.ref a0, .ref t0] (Pre D K [(a0, .inr (2, [.ref a2, .int dr, h_2])), (a2, .inl (K 0, 476, .inl f)), (t0, .inr (9, [.ref t1, k_1, .ref t2, k_3, k_4, k_5, k_6, .int fi, k_8, k_9])), (t1, .inl (K 0, 56, .inl f1)), (t2, .inl (K 0, 6, .inl f2))] sz)) (va_Qv (S := Su) (fun (u : Su) => True) (fun u t => Wd D (va_A [(a0, .inr (2, [.ref a2, .int dr, h_2])), (a2, .inl (K 0, 476, .inl f)), (t0, .inr (9, [.ref t1, k_1, .ref t2, k_3, k_4, k_5, k_6, .int fi, k_8, k_9])), (t1, .inl (K 0, 56, .inl f1)), (t2, .inl (K 0, 6, .inl f2))] sz) ((fun u => [(a0, .inr (2, [.ref a2, .int dr, h_2])), (a2, .inl (K 0, 476, .inl (u.2.1 0))), (t0, .inr (9, [.ref t1, k_1, .ref t2, k_3, k_4, k_5, k_6, .int fi, k_8, k_9])), (t1, .inl (K 0, 56, .inl f1)), (t2, .inl (K 0, 6, .inl f2))]) u) t) (va_A [(a0, .inr (2, [.ref a2, .int dr, h_2])), (a2, .inl (K 0, 476, .inl f)), (t0, .inr (9, [.ref t1, k_1, .ref t2, k_3, k_4, k_5, k_6, .int fi, k_8, k_9])), (t1, .inl (K 0, 56, .inl f1)), (t2, .inl (K 0, 6, .inl f2))] sz)) 0 0 (va_A [(a0, .inr (2, [.ref a2, .int dr, h_2])), (a2, .inl (K 0, 476, .inl f)), (t0, .inr (9, [.ref t1, k_1, .ref t2, k_3, k_4, k_5, k_6, .int fi, k_8, k_9])), (t1, .inl (K 0, 56, .inl f1)), (t2, .inl (K 0, 6, .inl f2))] sz) := by
  refine Met.ofW (cc := cX2_draft) (maxL := 4) (ret := none) (by decide) rfl ?_
  intro p e s m args below meth c s₁ B hml hv
  obtain ⟨rfl, hsz, hP, hK, hD0, hN⟩ := hv
  have hx := B.exec
  have hb := B.bytes
  have hr := B.returns
  have hts := atoms_spec (ws := wsX2_draft) B.pre
  have hown : s.vm.findClass RX2 = some m.cls := findClass_of_methodNamed B.named
  have hlocks := B.notSynchronized
  subst hsz
  have hD := hD0.self (sz := s.heap.size)
  generalize hAe : va_A [(a0, .inr (2, [.ref a2, .int dr, h_2])), (a2, .inl (K 0, 476, .inl f)), (t0, .inr (9, [.ref t1, k_1, .ref t2, k_3, k_4, k_5, k_6, .int fi, k_8, k_9])), (t1, .inl (K 0, 56, .inl f1)), (t2, .inl (K 0, 6, .inl f2))] s.heap.size = A at hD ⊢
  have hA : ∀ q : Nat, s.heap.size ≤ q → A q := fun q h => by rw [← hAe]; exact Or.inr h
  have hS : va_S A s.heap s.heap [] := va_S.rf
  have hP : va_P D vwCl [(a0, .inr (2, [.ref a2, .int dr, h_2])), (a2, .inl (K 0, 476, .inl f)), (t0, .inr (9, [.ref t1, k_1, .ref t2, k_3, k_4, k_5, k_6, .int fi, k_8, k_9])), (t1, .inl (K 0, 56, .inl f1)), (t2, .inl (K 0, 6, .inl f2))] s.heap := hP
  have hl := lv_entry [.ref a0, .ref t0] (n := 4) (Nat.le_of_ble_eq_true rfl)
  rw [lg_entry_eq]
  generalize (lg_sl [.ref a0, .ref t0] ++ List.replicate (4 - (lg_sl [.ref a0, .ref t0]).length) Slot.unset).toArray = ls at hl ⊢
  have hl : lv_has ls 4 [(0, .ref a0), (1, .ref t0)] := hl
  have hw2 : ∀ w ∈ wsX20, w ∈ wsX2_draft := fun w h => (List.mem_cons_of_mem _ (List.mem_append_left _ (List.mem_append_right _ h)))
  have hw9 : ∀ w ∈ wsX90, w ∈ wsX2_draft := fun w h => (List.mem_cons_of_mem _ (List.mem_append_right _ h))
  generalize hQ : MQ below _ _ s _ _ _ = Q
  refine lv_aload_n hx hb dX2_draft_0 rfl (lv_at hl 0 rfl) ?_
  refine va_get (ci := 2) (v := .int dr) (C := RX2) (T := TX2) (N := 3) hx hb hts hw2 hown hK hP 0 rfl rfl 1 (by decide) (hts (.fieldLink RX2 15 "SmokeTune$History" "drafted" "I") (List.mem_cons_of_mem _ (List.mem_append_left _ (List.mem_append_left _ (List.mem_of_getElem? (i := 0) rfl))))) (fun _ h9 => h9) rfl dX2_draft_1 ?_
  refine lv_bipush (v := 28) hx hb dX2_draft_4 (by decide) ?_
  refine lv_imul hx hb dX2_draft_6 ?_
  refine lv_topi (fun x_167 ex_167 => ?_)
  have hx_167 : x_167.toInt = (dr.toInt * 28) := by rw [ex_167]; exact i_mul rfl (show (28 : Int32).toInt = 28 from rfl) (by omega)
  refine lv_istore_n (lv' := [(2, .int x_167), (0, .ref a0), (1, .ref t0)]) hx hb dX2_draft_7 rfl hl (by decide) rfl (fun ls hl => ?_)
  refine lv_aload_n hx hb dX2_draft_8 rfl (lv_at hl 1 rfl) ?_
  refine va_get (ci := 2) (v := .ref a2) (C := RX2) (T := TX2) (N := 3) hx hb hts hw2 hown hK hP 0 rfl rfl 0 (by decide) (hts (.fieldLink RX2 11 "SmokeTune$History" "slots" "[I") (List.mem_cons_of_mem _ (List.mem_append_left _ (List.mem_append_left _ (List.mem_of_getElem? (i := 1) rfl))))) (fun _ h9 => h9) rfl dX2_draft_9 ?_
  refine lv_iload_n hx hb dX2_draft_12 rfl (lv_at hl 0 rfl) ?_
  refine lv_iconst (v := 1) hx hb dX2_draft_13 (by decide) ?_
  refine lv_iadd hx hb dX2_draft_14 ?_
  refine lv_topi (fun x_168 ex_168 => ?_)
  have hx_168 : x_168.toInt = ((dr.toInt * 28) + 1) := by rw [ex_168]; exact i_add hx_167 (show (1 : Int32).toInt = 1 from rfl) (by omega)
  refine lv_aload_n hx hb dX2_draft_15 rfl (lv_at hl 2 rfl) ?_
  refine va_getN (ci := 9) (v := .int fi) (C := RX9) (T := TX9) (N := 10) hx hb hts hw9 hown hK hP 2 rfl rfl 7 (by decide) (nst_use hN 113 rfl) (fun _ h9 => h9) rfl dX2_draft_16 ?_
  refine va_iast hx hb hK hP hD hS 1 0 rfl rfl (i_in hx_168 (by omega)) dX2_draft_19 (fun H locs hP hD hS => ?_)
  generalize hf_169 : (upd f (x_168 : Int32).toNatClampNeg fi) = f_169 at hP hD
  have hP : va_P D vwCl [(a0, .inr (2, [.ref a2, .int dr, h_2])), (a2, .inl (K 0, 476, .inl f_169)), (t0, .inr (9, [.ref t1, k_1, .ref t2, k_3, k_4, k_5, k_6, .int fi, k_8, k_9])), (t1, .inl (K 0, 56, .inl f1)), (t2, .inl (K 0, 6, .inl f2))] H := hP
  have hD : va_D A [(a0, .inr (2, [.ref a2, .int dr, h_2])), (a2, .inl (K 0, 476, .inl f_169)), (t0, .inr (9, [.ref t1, k_1, .ref t2, k_3, k_4, k_5, k_6, .int fi, k_8, k_9])), (t1, .inl (K 0, 56, .inl f1)), (t2, .inl (K 0, 6, .inl f2))] := hD
  refine lv_aload_n hx hb dX2_draft_20 rfl (lv_at hl 1 rfl) ?_
  refine va_get (ci := 2) (v := .ref a2) (C := RX2) (T := TX2) (N := 3) hx hb hts hw2 hown hK hP 0 rfl rfl 0 (by decide) (hts (.fieldLink RX2 11 "SmokeTune$History" "slots" "[I") (List.mem_cons_of_mem _ (List.mem_append_left _ (List.mem_append_left _ (List.mem_of_getElem? (i := 1) rfl))))) (fun _ h9 => h9) rfl dX2_draft_21 ?_
  refine lv_iload_n hx hb dX2_draft_24 rfl (lv_at hl 0 rfl) ?_
  refine lv_iconst (v := 2) hx hb dX2_draft_25 (by decide) ?_
  refine lv_iadd hx hb dX2_draft_26 ?_
  refine lv_topi (fun x_170 ex_170 => ?_)
  have hx_170 : x_170.toInt = ((dr.toInt * 28) + 2) := by rw [ex_170]; exact i_add hx_167 (show (2 : Int32).toInt = 2 from rfl) (by omega)
  refine lv_aload_n hx hb dX2_draft_27 rfl (lv_at hl 2 rfl) ?_
  refine va_getN (ci := 9) (v := .ref t2) (C := RX9) (T := TX9) (N := 10) hx hb hts hw9 hown hK hP 2 rfl rfl 2 (by decide) (nst_use hN 102 rfl) (fun _ h9 => h9) rfl dX2_draft_28 ?_
  refine lv_iconst (v := 0) hx hb dX2_draft_31 (by decide) ?_
  refine va_iald hx hb hK hP 4 0 rfl rfl (i_in (x := 0) rfl (by omega)) dX2_draft_32 ?_
  refine lv_topi (fun x_171 ex_171 => ?_)
  refine va_iast hx hb hK hP hD hS 1 0 rfl rfl (i_in hx_170 (by omega)) dX2_draft_33 (fun H locs hP hD hS => ?_)
  generalize hf_172 : (upd f_169 (x_170 : Int32).toNatClampNeg x_171) = f_172 at hP hD
  have hP : va_P D vwCl [(a0, .inr (2, [.ref a2, .int dr, h_2])), (a2, .inl (K 0, 476, .inl f_172)), (t0, .inr (9, [.ref t1, k_1, .ref t2, k_3, k_4, k_5, k_6, .int fi, k_8, k_9])), (t1, .inl (K 0, 56, .inl f1)), (t2, .inl (K 0, 6, .inl f2))] H := hP
  have hD : va_D A [(a0, .inr (2, [.ref a2, .int dr, h_2])), (a2, .inl (K 0, 476, .inl f_172)), (t0, .inr (9, [.ref t1, k_1, .ref t2, k_3, k_4, k_5, k_6, .int fi, k_8, k_9])), (t1, .inl (K 0, 56, .inl f1)), (t2, .inl (K 0, 6, .inl f2))] := hD
  refine lv_aload_n hx hb dX2_draft_34 rfl (lv_at hl 1 rfl) ?_
  refine va_get (ci := 2) (v := .ref a2) (C := RX2) (T := TX2) (N := 3) hx hb hts hw2 hown hK hP 0 rfl rfl 0 (by decide) (hts (.fieldLink RX2 11 "SmokeTune$History" "slots" "[I") (List.mem_cons_of_mem _ (List.mem_append_left _ (List.mem_append_left _ (List.mem_of_getElem? (i := 1) rfl))))) (fun _ h9 => h9) rfl dX2_draft_35 ?_
  refine lv_iload_n hx hb dX2_draft_38 rfl (lv_at hl 0 rfl) ?_
  refine lv_iconst (v := 3) hx hb dX2_draft_39 (by decide) ?_
  refine lv_iadd hx hb dX2_draft_40 ?_
  refine lv_topi (fun x_173 ex_173 => ?_)
  have hx_173 : x_173.toInt = ((dr.toInt * 28) + 3) := by rw [ex_173]; exact i_add hx_167 (show (3 : Int32).toInt = 3 from rfl) (by omega)
  refine lv_aload_n hx hb dX2_draft_41 rfl (lv_at hl 2 rfl) ?_
  refine va_getN (ci := 9) (v := .ref t2) (C := RX9) (T := TX9) (N := 10) hx hb hts hw9 hown hK hP 2 rfl rfl 2 (by decide) (nst_use hN 102 rfl) (fun _ h9 => h9) rfl dX2_draft_42 ?_
  refine lv_iconst (v := 1) hx hb dX2_draft_45 (by decide) ?_
  refine va_iald hx hb hK hP 4 0 rfl rfl (i_in (x := 1) rfl (by omega)) dX2_draft_46 ?_
  refine lv_topi (fun x_174 ex_174 => ?_)
  refine va_iast hx hb hK hP hD hS 1 0 rfl rfl (i_in hx_173 (by omega)) dX2_draft_47 (fun H locs hP hD hS => ?_)
  generalize hf_175 : (upd f_172 (x_173 : Int32).toNatClampNeg x_174) = f_175 at hP hD
  have hP : va_P D vwCl [(a0, .inr (2, [.ref a2, .int dr, h_2])), (a2, .inl (K 0, 476, .inl f_175)), (t0, .inr (9, [.ref t1, k_1, .ref t2, k_3, k_4, k_5, k_6, .int fi, k_8, k_9])), (t1, .inl (K 0, 56, .inl f1)), (t2, .inl (K 0, 6, .inl f2))] H := hP
  have hD : va_D A [(a0, .inr (2, [.ref a2, .int dr, h_2])), (a2, .inl (K 0, 476, .inl f_175)), (t0, .inr (9, [.ref t1, k_1, .ref t2, k_3, k_4, k_5, k_6, .int fi, k_8, k_9])), (t1, .inl (K 0, 56, .inl f1)), (t2, .inl (K 0, 6, .inl f2))] := hD
  refine lv_iconst (v := 0) hx hb dX2_draft_48 (by decide) ?_
  refine lv_istore_n (lv' := [(3, .int 0), (2, .int x_167), (0, .ref a0), (1, .ref t0)]) hx hb dX2_draft_49 rfl hl (by decide) rfl (fun ls hl => ?_)
  have lp_239 : ∀ (nn_ : Nat) (v_217 : Int32) (f_218 : Nat → Int32) (hv_217 : 0 ≤ v_217.toInt ∧ v_217.toInt ≤ 3) (hn : (4 - v_217.toInt : Int).toNat < nn_) (H : Heap) (locs : List Loc) (hP : va_P D vwCl [(a0, .inr (2, [.ref a2, .int dr, h_2])), (a2, .inl (K 0, 476, .inl f_218)), (t0, .inr (9, [.ref t1, k_1, .ref t2, k_3, k_4, k_5, k_6, .int fi, k_8, k_9])), (t1, .inl (K 0, 56, .inl f1)), (t2, .inl (K 0, 6, .inl f2))] H) (hD : va_D A [(a0, .inr (2, [.ref a2, .int dr, h_2])), (a2, .inl (K 0, 476, .inl f_218)), (t0, .inr (9, [.ref t1, k_1, .ref t2, k_3, k_4, k_5, k_6, .int fi, k_8, k_9])), (t1, .inl (K 0, 56, .inl f1)), (t2, .inl (K 0, 6, .inl f2))]) (hS : va_S A s.heap H locs) (ls : Array Slot) (hl : lv_has ls 4 [(3, .int v_217), (2, .int x_167), (0, .ref a0), (1, .ref t0)]), W p l e ({ frames := 1, cells := 0, slots := 0, locals := 40 }) s m (([.ref a0, .ref t0] : List Value).toArray) below meth c H locs 0 0 Q (F0 m 50 ls []) := by
    intro nn_
    induction nn_ with
    | zero =>
      intro v_217 f_218 hv_217 hn H locs hP hD hS ls hl
      exact absurd hn (Nat.not_lt_zero _)
    | succ nn_ ih_240 =>
      intro v_217 f_218 hv_217 hn H locs hP hD hS ls hl
      refine lv_iload_n hx hb dX2_draft_50 rfl (lv_at hl 0 rfl) ?_
      refine lv_iconst (v := 3) hx hb dX2_draft_51 (by decide) ?_
      refine lv_icmp_ge (tgt := 89) hx hb dX2_draft_52 (by decide) (fun c_241 => ?_) (fun c_241 => ?_)
      · have c_241i := i_le (x := 3) (y := v_217.toInt) rfl rfl c_241
        rw [← hQ]
        have hP9 := hP.sub (ws' := [(a0, .inr (2, [.ref a2, .int dr, h_2])), (a2, .inl (K 0, 476, .inl f_218)), (t0, .inr (9, [.ref t1, k_1, .ref t2, k_3, k_4, k_5, k_6, .int fi, k_8, k_9])), (t1, .inl (K 0, 56, .inl f1)), (t2, .inl (K 0, 6, .inl f2))]) [0, 1, 2, 3, 4] rfl
        have hD9 := hD.sub (ws' := [(a0, .inr (2, [.ref a2, .int dr, h_2])), (a2, .inl (K 0, 476, .inl f_218)), (t0, .inr (9, [.ref t1, k_1, .ref t2, k_3, k_4, k_5, k_6, .int fi, k_8, k_9])), (t1, .inl (K 0, 56, .inl f1)), (t2, .inl (K 0, 6, .inl f2))]) [0, 1, 2, 3, 4] (by decide) rfl
        exact W.vret hx hb hr (fun t ht hW => ⟨⟨((fun _ => 0, fun i => match i with | _ => f_218, fun _ => fun _ => 0, fun _ => 0, fun _ => 0, fun _ => fun _ => none) : Su), rfl, trivial, (⟨by rw [ht]; exact hP9, hD9⟩ : Wd D A _ t)⟩, hS.F ht⟩) hS.2.2 dX2_draft_89
      · have c_241i := i_nle (x := 3) (y := v_217.toInt) rfl rfl c_241
        refine lv_aload_n hx hb dX2_draft_55 rfl (lv_at hl 3 rfl) ?_
        refine va_getN (ci := 9) (v := .ref t1) (C := RX9) (T := TX9) (N := 10) hx hb hts hw9 hown hK hP 2 rfl rfl 0 (by decide) (nst_use hN 97 rfl) (fun _ h9 => h9) rfl dX2_draft_56 ?_
        refine lv_iload_n hx hb dX2_draft_59 rfl (lv_at hl 0 rfl) ?_
        refine pci (va_runS (As := [.int v_217]) (rest := [.ref t1]) ⟨hx, hb, hml, hown, hts⟩ (w_changing l D K v_217 H.size) (va_cwS 1 hts gX2_draft_X2_changing rfl rfl rfl (by decide +kernel) ⟨Nat.le_of_ble_eq_true rfl, Nat.le_of_ble_eq_true rfl⟩) (mkS hK hN (va_P.nil) (va_D.nil (A := fun _ => True))) rfl rfl hl.1 rfl (lv_room (Nat.le_of_ble_eq_true rfl)) dX2_draft_60 ⟨Nat.le_of_ble_eq_true rfl, Nat.le_of_ble_eq_true rfl⟩) (fun r_242 hw => ?_)
        obtain ⟨h_243, -⟩ := hw
        refine lv_bipush (v := 8) hx hb dX2_draft_63 (by decide) ?_
        refine lv_imul hx hb dX2_draft_65 ?_
        refine lv_topi (fun x_244 ex_244 => ?_)
        have hx_244 : x_244.toInt = (r_242.toInt * 8) := by rw [ex_244]; exact i_mul rfl (show (8 : Int32).toInt = 8 from rfl) (by omega)
        refine lv_aload_n hx hb dX2_draft_66 rfl (lv_at hl 2 rfl) ?_
        refine va_get (ci := 2) (v := .ref a2) (C := RX2) (T := TX2) (N := 3) hx hb hts hw2 hown hK hP 0 rfl rfl 0 (by decide) (hts (.fieldLink RX2 11 "SmokeTune$History" "slots" "[I") (List.mem_cons_of_mem _ (List.mem_append_left _ (List.mem_append_left _ (List.mem_of_getElem? (i := 1) rfl))))) (fun _ h9 => h9) rfl dX2_draft_67 ?_
        refine lv_iload_n hx hb dX2_draft_70 rfl (lv_at hl 1 rfl) ?_
        refine lv_iconst (v := 4) hx hb dX2_draft_71 (by decide) ?_
        refine lv_iadd hx hb dX2_draft_72 ?_
        refine lv_topi (fun x_245 ex_245 => ?_)
        have hx_245 : x_245.toInt = ((dr.toInt * 28) + 4) := by rw [ex_245]; exact i_add hx_167 (show (4 : Int32).toInt = 4 from rfl) (by omega)
        refine lv_iload_n hx hb dX2_draft_73 rfl (lv_at hl 0 rfl) ?_
        refine lv_bipush (v := 8) hx hb dX2_draft_74 (by decide) ?_
        refine lv_imul hx hb dX2_draft_76 ?_
        refine lv_topi (fun x_246 ex_246 => ?_)
        have hx_246 : x_246.toInt = (v_217.toInt * 8) := by rw [ex_246]; exact i_mul rfl (show (8 : Int32).toInt = 8 from rfl) (by omega)
        refine lv_iadd hx hb dX2_draft_77 ?_
        refine lv_topi (fun x_247 ex_247 => ?_)
        have hx_247 : x_247.toInt = (((dr.toInt * 28) + 4) + (v_217.toInt * 8)) := by rw [ex_247]; exact i_add hx_245 hx_246 (by omega)
        refine lv_bipush (v := 8) hx hb dX2_draft_78 (by decide) ?_
        refine va_copyi hx hb (hml.trans hl.1.symm) hown (hts (.methodLink RX2 22 arraycopyName) (List.mem_cons_of_mem _ (List.mem_append_left _ (List.mem_append_left _ (List.mem_of_getElem? (i := 2) rfl))))) (hts (.native arraycopyName) (List.mem_cons_of_mem _ (List.mem_append_left _ (List.mem_append_left _ (List.mem_of_getElem? (i := 3) rfl))))) (hts (.static arraycopyName) (List.mem_cons_of_mem _ (List.mem_append_left _ (List.mem_append_left _ (List.mem_of_getElem? (i := 4) rfl))))) (hts (.initialized "java/lang/System") (List.mem_cons_of_mem _ (List.mem_append_left _ (List.mem_append_left _ (List.mem_of_getElem? (i := 5) rfl))))) hK hP hD hS 3 1 0 0 rfl rfl rfl rfl rfl (fun h9 => by have h8 := i_lt (x := (r_242.toInt * 8)) (y := 0) hx_244 rfl h9; omega) (fun h9 => by have h8 := i_lt (x := (((dr.toInt * 28) + 4) + (v_217.toInt * 8))) (y := 0) hx_247 rfl h9; omega) (by decide) (by rw [i_clamp hx_244, i_clamp (show (8 : Int32).toInt = 8 from rfl)]; omega) (by rw [i_clamp hx_247, i_clamp (show (8 : Int32).toInt = 8 from rfl)]; omega) (fun _ _ => rfl) (Nat.le_of_ble_eq_true rfl) (by decide +kernel) dX2_draft_80 (fun H locs hP hD hS => ?_)
        generalize hf_248 : (va_cpy (α := Int32) f1 f_218 (x_244 : Int32).toNatClampNeg (x_247 : Int32).toNatClampNeg (8 : Int32).toNatClampNeg) = f_248 at hP hD
        have hP : va_P D vwCl [(a0, .inr (2, [.ref a2, .int dr, h_2])), (a2, .inl (K 0, 476, .inl f_248)), (t0, .inr (9, [.ref t1, k_1, .ref t2, k_3, k_4, k_5, k_6, .int fi, k_8, k_9])), (t1, .inl (K 0, 56, .inl f1)), (t2, .inl (K 0, 6, .inl f2))] H := hP
        have hD : va_D A [(a0, .inr (2, [.ref a2, .int dr, h_2])), (a2, .inl (K 0, 476, .inl f_248)), (t0, .inr (9, [.ref t1, k_1, .ref t2, k_3, k_4, k_5, k_6, .int fi, k_8, k_9])), (t1, .inl (K 0, 56, .inl f1)), (t2, .inl (K 0, 6, .inl f2))] := hD
        obtain ⟨x_249, ex_249⟩ : ∃ y : Int32, y = v_217 + Int32.ofInt 1 := ⟨_, rfl⟩
        have hx_249 : x_249.toInt = (v_217.toInt + 1) := by rw [ex_249]; exact i_add rfl (show (Int32.ofInt 1).toInt = 1 from rfl) (by omega)
        refine lv_iinc (v := x_249) (lv' := [(3, .int x_249), (2, .int x_167), (0, .ref a0), (1, .ref t0)]) hx hb dX2_draft_83 hl (k := 0) rfl (by rw [ex_249]) (by decide) rfl (fun ls hl => ?_)
        refine lv_goto (tgt := 50) hx hb dX2_draft_86 (by decide) ?_
        exact ih_240 x_249 f_248 (by rw [hx_249]; omega) (by omega) _ _ hP hD hS ls (lv_sub hl [0, 1, 2, 3] rfl)
  exact lp_239 ((4 - (0 : Int32).toInt : Int).toNat + 1) 0 f_175 (by decide) (Nat.lt_succ_self _) _ _ hP hD hS ls (lv_sub hl [0, 1, 2, 3] rfl)
set_option maxHeartbeats 4000000 in
set_option maxRecDepth 100000 in
theorem w_keep (l : Launch) (D : va_G) (K : Nat → ClassId) (a0 : Nat) (x : Int32) (a2 : Nat) (dr : Int32) (kp : Int32) (f : Nat → Int32) (sz : Nat) (zdr : 0 ≤ dr.toInt ∧ dr.toInt ≤ 16) (zkp : 0 ≤ kp.toInt ∧ kp.toInt ≤ 16) : Met l yX2_keep wsX2_keep ({ frames := 1, cells := 0, slots := 0, locals := 14 }) (va_Pc [.ref a0, .int x] (Pre D K [(a0, .inr (2, [.ref a2, .int dr, .int kp])), (a2, .inl (K 0, 476, .inl f))] sz)) (va_Qv (S := Su) (fun (u : Su) => (0 ≤ (u.2.2.2.1 0).toInt ∧ (u.2.2.2.1 0).toInt ≤ 16) ∧ (1 ≤ (u.2.2.2.1 1).toInt ∧ (u.2.2.2.1 1).toInt ≤ 16) ∧ True) (fun u t => Wd D (va_A [(a0, .inr (2, [.ref a2, .int dr, .int kp])), (a2, .inl (K 0, 476, .inl f))] sz) ((fun u => [(a0, .inr (2, [.ref a2, .int (u.2.2.2.1 0), .int (u.2.2.2.1 1)])), (a2, .inl (K 0, 476, .inl (u.2.1 0)))]) u) t) (va_A [(a0, .inr (2, [.ref a2, .int dr, .int kp])), (a2, .inl (K 0, 476, .inl f))] sz)) 0 0 (va_A [(a0, .inr (2, [.ref a2, .int dr, .int kp])), (a2, .inl (K 0, 476, .inl f))] sz) := by
  refine Met.ofW (cc := cX2_keep) (maxL := 2) (ret := none) (by decide) rfl ?_
  intro p e s m args below meth c s₁ B hml hv
  obtain ⟨rfl, hsz, hP, hK, hD0, hN⟩ := hv
  have hx := B.exec
  have hb := B.bytes
  have hr := B.returns
  have hts := atoms_spec (ws := wsX2_keep) B.pre
  have hown : s.vm.findClass RX2 = some m.cls := findClass_of_methodNamed B.named
  have hlocks := B.notSynchronized
  subst hsz
  have hD := hD0.self (sz := s.heap.size)
  generalize hAe : va_A [(a0, .inr (2, [.ref a2, .int dr, .int kp])), (a2, .inl (K 0, 476, .inl f))] s.heap.size = A at hD ⊢
  have hA : ∀ q : Nat, s.heap.size ≤ q → A q := fun q h => by rw [← hAe]; exact Or.inr h
  have hS : va_S A s.heap s.heap [] := va_S.rf
  have hP : va_P D vwCl [(a0, .inr (2, [.ref a2, .int dr, .int kp])), (a2, .inl (K 0, 476, .inl f))] s.heap := hP
  have hl := lv_entry [.ref a0, .int x] (n := 2) (Nat.le_of_ble_eq_true rfl)
  rw [lg_entry_eq]
  generalize (lg_sl [.ref a0, .int x] ++ List.replicate (2 - (lg_sl [.ref a0, .int x]).length) Slot.unset).toArray = ls at hl ⊢
  have hl : lv_has ls 2 [(0, .ref a0), (1, .int x)] := hl
  have hw2 : ∀ w ∈ wsX20, w ∈ wsX2_keep := fun w h => (List.mem_cons_of_mem _ (List.mem_append_right _ h))
  generalize hQ : MQ below _ _ s _ _ _ = Q
  refine lv_aload_n hx hb dX2_keep_0 rfl (lv_at hl 0 rfl) ?_
  refine va_get (ci := 2) (v := .ref a2) (C := RX2) (T := TX2) (N := 3) hx hb hts hw2 hown hK hP 0 rfl rfl 0 (by decide) (hts (.fieldLink RX2 11 "SmokeTune$History" "slots" "[I") (List.mem_cons_of_mem _ (List.mem_append_left _ (List.mem_of_getElem? (i := 0) rfl)))) (fun _ h9 => h9) rfl dX2_keep_1 ?_
  refine lv_aload_n hx hb dX2_keep_4 rfl (lv_at hl 0 rfl) ?_
  refine va_get (ci := 2) (v := .int dr) (C := RX2) (T := TX2) (N := 3) hx hb hts hw2 hown hK hP 0 rfl rfl 1 (by decide) (hts (.fieldLink RX2 15 "SmokeTune$History" "drafted" "I") (List.mem_cons_of_mem _ (List.mem_append_left _ (List.mem_of_getElem? (i := 1) rfl)))) (fun _ h9 => h9) rfl dX2_keep_5 ?_
  refine lv_bipush (v := 28) hx hb dX2_keep_8 (by decide) ?_
  refine lv_imul hx hb dX2_keep_10 ?_
  refine lv_topi (fun x_13 ex_13 => ?_)
  have hx_13 : x_13.toInt = (dr.toInt * 28) := by rw [ex_13]; exact i_mul rfl (show (28 : Int32).toInt = 28 from rfl) (by omega)
  refine lv_iload_n hx hb dX2_keep_11 rfl (lv_at hl 1 rfl) ?_
  refine va_iast hx hb hK hP hD hS 1 0 rfl rfl (i_in hx_13 (by omega)) dX2_keep_12 (fun H locs hP hD hS => ?_)
  generalize hf_14 : (upd f (x_13 : Int32).toNatClampNeg x) = f_14 at hP hD
  have hP : va_P D vwCl [(a0, .inr (2, [.ref a2, .int dr, .int kp])), (a2, .inl (K 0, 476, .inl f_14))] H := hP
  have hD : va_D A [(a0, .inr (2, [.ref a2, .int dr, .int kp])), (a2, .inl (K 0, 476, .inl f_14))] := hD
  refine lv_aload_n hx hb dX2_keep_13 rfl (lv_at hl 0 rfl) ?_
  refine lv_aload_n hx hb dX2_keep_14 rfl (lv_at hl 0 rfl) ?_
  refine va_get (ci := 2) (v := .int dr) (C := RX2) (T := TX2) (N := 3) hx hb hts hw2 hown hK hP 0 rfl rfl 1 (by decide) (hts (.fieldLink RX2 15 "SmokeTune$History" "drafted" "I") (List.mem_cons_of_mem _ (List.mem_append_left _ (List.mem_of_getElem? (i := 1) rfl)))) (fun _ h9 => h9) rfl dX2_keep_15 ?_
  refine lv_iconst (v := 1) hx hb dX2_keep_18 (by decide) ?_
  refine lv_iadd hx hb dX2_keep_19 ?_
  refine lv_topi (fun x_15 ex_15 => ?_)
  have hx_15 : x_15.toInt = (dr.toInt + 1) := by rw [ex_15]; exact i_add rfl (show (1 : Int32).toInt = 1 from rfl) (by omega)
  refine lv_bipush (v := 17) hx hb dX2_keep_20 (by decide) ?_
  refine lv_irem hx hb dX2_keep_22 (by decide) ?_
  refine lv_topi (fun x_16 ex_16 => ?_)
  have hx_16 : x_16.toInt = ((dr.toInt + 1) % 17) := by rw [ex_16]; exact i_rem hx_15 (show (17 : Int32).toInt = 17 from rfl) (by omega) (by omega)
  refine va_put (ci := 2) (v := .int x_16) (ty := .int) (C := RX2) (T := TX2) (N := 3) hx hb hts hw2 tyX2 tyX2_ok nmX2 hown hK hP hD hS 0 rfl rfl 1 (by decide) (hts (.fieldLink RX2 15 "SmokeTune$History" "drafted" "I") (List.mem_cons_of_mem _ (List.mem_append_left _ (List.mem_of_getElem? (i := 1) rfl)))) (fun _ h9 => h9) rfl (by decide +kernel) (by first | rfl | decide) (by first | rfl | decide) (Nat.le_of_ble_eq_true rfl) dX2_keep_23 (fun H locs hP hD hS => ?_)
  have hP : va_P D vwCl [(a0, .inr (2, [.ref a2, .int x_16, .int kp])), (a2, .inl (K 0, 476, .inl f_14))] H := hP
  have hD : va_D A [(a0, .inr (2, [.ref a2, .int x_16, .int kp])), (a2, .inl (K 0, 476, .inl f_14))] := hD
  refine lv_aload_n hx hb dX2_keep_26 rfl (lv_at hl 0 rfl) ?_
  refine lv_bipush (v := 16) hx hb dX2_keep_27 (by decide) ?_
  refine lv_aload_n hx hb dX2_keep_29 rfl (lv_at hl 0 rfl) ?_
  refine va_get (ci := 2) (v := .int kp) (C := RX2) (T := TX2) (N := 3) hx hb hts hw2 hown hK hP 0 rfl rfl 2 (by decide) (hts (.fieldLink RX2 19 "SmokeTune$History" "kept" "I") (List.mem_cons_of_mem _ (List.mem_append_left _ (List.mem_of_getElem? (i := 2) rfl)))) (fun _ h9 => h9) rfl dX2_keep_30 ?_
  refine lv_iconst (v := 1) hx hb dX2_keep_33 (by decide) ?_
  refine lv_iadd hx hb dX2_keep_34 ?_
  refine lv_topi (fun x_17 ex_17 => ?_)
  have hx_17 : x_17.toInt = (kp.toInt + 1) := by rw [ex_17]; exact i_add rfl (show (1 : Int32).toInt = 1 from rfl) (by omega)
  refine va_mmin hx hb (hml.trans hl.1.symm) hown (hts (.methodLink RX2 43 Lib.Math.min.name) (List.mem_cons_of_mem _ (List.mem_append_left _ (List.mem_of_getElem? (i := 3) rfl)))) (hts (.static Lib.Math.min.name) (List.mem_cons_of_mem _ (List.mem_append_left _ (List.mem_of_getElem? (i := 4) rfl)))) (hts (.initialized "java/lang/Math") (List.mem_cons_of_mem _ (List.mem_append_left _ (List.mem_of_getElem? (i := 5) rfl)))) (hts (.code Lib.Math.min.name Lib.Math.min.code 2 (some .int)) (List.mem_cons_of_mem _ (List.mem_append_left _ (List.mem_of_getElem? (i := 6) rfl)))) (Nat.le_of_ble_eq_true rfl) (Nat.le_of_ble_eq_true rfl) (Nat.le_of_ble_eq_true rfl) (Nat.le_of_ble_eq_true rfl) dX2_keep_35 ?_
  refine lv_topi (fun x_18 ex_18 => ?_)
  have hx_18 : (16 ≤ (kp.toInt + 1) ∧ x_18.toInt = 16) ∨ ((kp.toInt + 1) < 16 ∧ x_18.toInt = (kp.toInt + 1)) := by rw [ex_18]; exact i_min (show (16 : Int32).toInt = 16 from rfl) hx_17
  replace hx_18 : x_18.toInt ≤ (kp.toInt + 1) ∧ 1 ≤ x_18.toInt ∧ x_18.toInt ≤ 16 := by omega
  refine va_put (ci := 2) (v := .int x_18) (ty := .int) (C := RX2) (T := TX2) (N := 3) hx hb hts hw2 tyX2 tyX2_ok nmX2 hown hK hP hD hS 0 rfl rfl 2 (by decide) (hts (.fieldLink RX2 19 "SmokeTune$History" "kept" "I") (List.mem_cons_of_mem _ (List.mem_append_left _ (List.mem_of_getElem? (i := 2) rfl)))) (fun _ h9 => h9) rfl (by decide +kernel) (by first | rfl | decide) (by first | rfl | decide) (Nat.le_of_ble_eq_true rfl) dX2_keep_38 (fun H locs hP hD hS => ?_)
  have hP : va_P D vwCl [(a0, .inr (2, [.ref a2, .int x_16, .int x_18])), (a2, .inl (K 0, 476, .inl f_14))] H := hP
  have hD : va_D A [(a0, .inr (2, [.ref a2, .int x_16, .int x_18])), (a2, .inl (K 0, 476, .inl f_14))] := hD
  rw [← hQ]
  have hP9 := hP.sub (ws' := [(a0, .inr (2, [.ref a2, .int x_16, .int x_18])), (a2, .inl (K 0, 476, .inl f_14))]) [0, 1] rfl
  have hD9 := hD.sub (ws' := [(a0, .inr (2, [.ref a2, .int x_16, .int x_18])), (a2, .inl (K 0, 476, .inl f_14))]) [0, 1] (by decide) rfl
  exact W.vret hx hb hr (fun t ht hW => ⟨⟨((fun _ => 0, fun i => match i with | _ => f_14, fun _ => fun _ => 0, fun i => match i with | 0 => x_16 | _ => x_18, fun _ => 0, fun _ => fun _ => none) : Su), rfl, ⟨(show 0 ≤ (x_16 : Int32).toInt ∧ (x_16 : Int32).toInt ≤ 16 by rw [hx_16]; omega), (show 1 ≤ (x_18 : Int32).toInt ∧ (x_18 : Int32).toInt ≤ 16 by omega), trivial⟩, (⟨by rw [ht]; exact hP9, hD9⟩ : Wd D A _ t)⟩, hS.F ht⟩) hS.2.2 dX2_keep_41
set_option maxHeartbeats 4000000 in
set_option maxRecDepth 100000 in
theorem w_takeBack (l : Launch) (D : va_G) (K : Nat → ClassId) (a0 : Nat) (t0 : Nat) (a2 : Nat) (dr : Int32) (kp : Int32) (f : Nat → Int32) (t1 : Nat) (k_1 : Value) (t2 : Nat) (k_3 : Value) (k_4 : Value) (k_5 : Value) (k_6 : Value) (fi : Int32) (k_8 : Value) (k_9 : Value) (f1 : Nat → Int32) (f2 : Nat → Int32) (sz : Nat) (zdr : 0 ≤ dr.toInt ∧ dr.toInt ≤ 16) (zkp : 0 ≤ kp.toInt ∧ kp.toInt ≤ 16) : Met l yX2_takeBack wsX2_takeBack ({ frames := 1, cells := 0, slots := 0, locals := 40 }) (va_Pc [.ref a0, .ref t0] (Pre D K [(a0, .inr (2, [.ref a2, .int dr, .int kp])), (a2, .inl (K 0, 476, .inl f)), (t0, .inr (9, [.ref t1, k_1, .ref t2, k_3, k_4, k_5, k_6, .int fi, k_8, k_9])), (t1, .inl (K 0, 56, .inl f1)), (t2, .inl (K 0, 6, .inl f2))] sz)) (va_Qi (S := Su) (fun (r : Int32) (u : Su) => (0 ≤ (u.2.2.2.1 0).toInt ∧ (u.2.2.2.1 0).toInt ≤ 16) ∧ (0 ≤ (u.2.2.2.1 1).toInt ∧ (u.2.2.2.1 1).toInt ≤ 15) ∧ True) (fun u t => Wd D (va_A [(a0, .inr (2, [.ref a2, .int dr, .int kp])), (a2, .inl (K 0, 476, .inl f)), (t0, .inr (9, [.ref t1, k_1, .ref t2, k_3, k_4, k_5, k_6, .int fi, k_8, k_9])), (t1, .inl (K 0, 56, .inl f1)), (t2, .inl (K 0, 6, .inl f2))] sz) ((fun u => [(a0, .inr (2, [.ref a2, .int (u.2.2.2.1 0), .int (u.2.2.2.1 1)])), (a2, .inl (K 0, 476, .inl f)), (t0, .inr (9, [.ref t1, k_1, .ref t2, k_3, k_4, k_5, k_6, .int (u.2.2.2.1 2), k_8, k_9])), (t1, .inl (K 0, 56, .inl (u.2.1 0))), (t2, .inl (K 0, 6, .inl (u.2.1 1)))]) u) t) (va_A [(a0, .inr (2, [.ref a2, .int dr, .int kp])), (a2, .inl (K 0, 476, .inl f)), (t0, .inr (9, [.ref t1, k_1, .ref t2, k_3, k_4, k_5, k_6, .int fi, k_8, k_9])), (t1, .inl (K 0, 56, .inl f1)), (t2, .inl (K 0, 6, .inl f2))] sz)) 0 0 (va_A [(a0, .inr (2, [.ref a2, .int dr, .int kp])), (a2, .inl (K 0, 476, .inl f)), (t0, .inr (9, [.ref t1, k_1, .ref t2, k_3, k_4, k_5, k_6, .int fi, k_8, k_9])), (t1, .inl (K 0, 56, .inl f1)), (t2, .inl (K 0, 6, .inl f2))] sz) := by
  refine Met.ofW (cc := cX2_takeBack) (maxL := 4) (ret := (some .int)) (by decide) rfl ?_
  intro p e s m args below meth c s₁ B hml hv
  obtain ⟨rfl, hsz, hP, hK, hD0, hN⟩ := hv
  have hx := B.exec
  have hb := B.bytes
  have hr := B.returns
  have hts := atoms_spec (ws := wsX2_takeBack) B.pre
  have hown : s.vm.findClass RX2 = some m.cls := findClass_of_methodNamed B.named
  have hlocks := B.notSynchronized
  subst hsz
  have hD := hD0.self (sz := s.heap.size)
  generalize hAe : va_A [(a0, .inr (2, [.ref a2, .int dr, .int kp])), (a2, .inl (K 0, 476, .inl f)), (t0, .inr (9, [.ref t1, k_1, .ref t2, k_3, k_4, k_5, k_6, .int fi, k_8, k_9])), (t1, .inl (K 0, 56, .inl f1)), (t2, .inl (K 0, 6, .inl f2))] s.heap.size = A at hD ⊢
  have hA : ∀ q : Nat, s.heap.size ≤ q → A q := fun q h => by rw [← hAe]; exact Or.inr h
  have hS : va_S A s.heap s.heap [] := va_S.rf
  have hP : va_P D vwCl [(a0, .inr (2, [.ref a2, .int dr, .int kp])), (a2, .inl (K 0, 476, .inl f)), (t0, .inr (9, [.ref t1, k_1, .ref t2, k_3, k_4, k_5, k_6, .int fi, k_8, k_9])), (t1, .inl (K 0, 56, .inl f1)), (t2, .inl (K 0, 6, .inl f2))] s.heap := hP
  have hl := lv_entry [.ref a0, .ref t0] (n := 4) (Nat.le_of_ble_eq_true rfl)
  rw [lg_entry_eq]
  generalize (lg_sl [.ref a0, .ref t0] ++ List.replicate (4 - (lg_sl [.ref a0, .ref t0]).length) Slot.unset).toArray = ls at hl ⊢
  have hl : lv_has ls 4 [(0, .ref a0), (1, .ref t0)] := hl
  have hw2 : ∀ w ∈ wsX20, w ∈ wsX2_takeBack := fun w h => (List.mem_cons_of_mem _ (List.mem_append_left _ (List.mem_append_right _ h)))
  have hw9 : ∀ w ∈ wsX90, w ∈ wsX2_takeBack := fun w h => (List.mem_cons_of_mem _ (List.mem_append_right _ h))
  generalize hQ : MQ below _ _ s _ _ _ = Q
  refine lv_aload_n hx hb dX2_takeBack_0 rfl (lv_at hl 0 rfl) ?_
  refine va_get (ci := 2) (v := .int kp) (C := RX2) (T := TX2) (N := 3) hx hb hts hw2 hown hK hP 0 rfl rfl 2 (by decide) (hts (.fieldLink RX2 19 "SmokeTune$History" "kept" "I") (List.mem_cons_of_mem _ (List.mem_append_left _ (List.mem_append_left _ (List.mem_of_getElem? (i := 0) rfl))))) (fun _ h9 => h9) rfl dX2_takeBack_1 ?_
  refine lv_if_ne (tgt := 9) hx hb dX2_takeBack_4 (by decide) (fun c_179 => ?_) (fun c_179 => ?_)
  · have c_179i := i_ne (x := kp.toInt) (y := 0) rfl rfl c_179
    refine lv_aload_n hx hb dX2_takeBack_9 rfl (lv_at hl 0 rfl) ?_
    refine lv_dup hx hb dX2_takeBack_10 rfl ?_
    refine va_get (ci := 2) (v := .int kp) (C := RX2) (T := TX2) (N := 3) hx hb hts hw2 hown hK hP 0 rfl rfl 2 (by decide) (hts (.fieldLink RX2 19 "SmokeTune$History" "kept" "I") (List.mem_cons_of_mem _ (List.mem_append_left _ (List.mem_append_left _ (List.mem_of_getElem? (i := 0) rfl))))) (fun _ h9 => h9) rfl dX2_takeBack_11 ?_
    refine lv_iconst (v := 1) hx hb dX2_takeBack_14 (by decide) ?_
    refine lv_isub hx hb dX2_takeBack_15 ?_
    refine lv_topi (fun x_180 ex_180 => ?_)
    have hx_180 : x_180.toInt = (kp.toInt - 1) := by rw [ex_180]; exact i_sub rfl (show (1 : Int32).toInt = 1 from rfl) (by omega)
    refine va_put (ci := 2) (v := .int x_180) (ty := .int) (C := RX2) (T := TX2) (N := 3) hx hb hts hw2 tyX2 tyX2_ok nmX2 hown hK hP hD hS 0 rfl rfl 2 (by decide) (hts (.fieldLink RX2 19 "SmokeTune$History" "kept" "I") (List.mem_cons_of_mem _ (List.mem_append_left _ (List.mem_append_left _ (List.mem_of_getElem? (i := 0) rfl))))) (fun _ h9 => h9) rfl (by decide +kernel) (by first | rfl | decide) (by first | rfl | decide) (Nat.le_of_ble_eq_true rfl) dX2_takeBack_16 (fun H locs hP hD hS => ?_)
    have hP : va_P D vwCl [(a0, .inr (2, [.ref a2, .int dr, .int x_180])), (a2, .inl (K 0, 476, .inl f)), (t0, .inr (9, [.ref t1, k_1, .ref t2, k_3, k_4, k_5, k_6, .int fi, k_8, k_9])), (t1, .inl (K 0, 56, .inl f1)), (t2, .inl (K 0, 6, .inl f2))] H := hP
    have hD : va_D A [(a0, .inr (2, [.ref a2, .int dr, .int x_180])), (a2, .inl (K 0, 476, .inl f)), (t0, .inr (9, [.ref t1, k_1, .ref t2, k_3, k_4, k_5, k_6, .int fi, k_8, k_9])), (t1, .inl (K 0, 56, .inl f1)), (t2, .inl (K 0, 6, .inl f2))] := hD
    refine lv_aload_n hx hb dX2_takeBack_19 rfl (lv_at hl 0 rfl) ?_
    refine lv_aload_n hx hb dX2_takeBack_20 rfl (lv_at hl 0 rfl) ?_
    refine va_get (ci := 2) (v := .int dr) (C := RX2) (T := TX2) (N := 3) hx hb hts hw2 hown hK hP 0 rfl rfl 1 (by decide) (hts (.fieldLink RX2 15 "SmokeTune$History" "drafted" "I") (List.mem_cons_of_mem _ (List.mem_append_left _ (List.mem_append_left _ (List.mem_of_getElem? (i := 1) rfl))))) (fun _ h9 => h9) rfl dX2_takeBack_21 ?_
    refine lv_bipush (v := 17) hx hb dX2_takeBack_24 (by decide) ?_
    refine lv_iadd hx hb dX2_takeBack_26 ?_
    refine lv_topi (fun x_181 ex_181 => ?_)
    have hx_181 : x_181.toInt = (dr.toInt + 17) := by rw [ex_181]; exact i_add rfl (show (17 : Int32).toInt = 17 from rfl) (by omega)
    refine lv_iconst (v := 1) hx hb dX2_takeBack_27 (by decide) ?_
    refine lv_isub hx hb dX2_takeBack_28 ?_
    refine lv_topi (fun x_182 ex_182 => ?_)
    have hx_182 : x_182.toInt = ((dr.toInt + 17) - 1) := by rw [ex_182]; exact i_sub hx_181 (show (1 : Int32).toInt = 1 from rfl) (by omega)
    refine lv_bipush (v := 17) hx hb dX2_takeBack_29 (by decide) ?_
    refine lv_irem hx hb dX2_takeBack_31 (by decide) ?_
    refine lv_topi (fun x_183 ex_183 => ?_)
    have hx_183 : x_183.toInt = (((dr.toInt + 17) - 1) % 17) := by rw [ex_183]; exact i_rem hx_182 (show (17 : Int32).toInt = 17 from rfl) (by omega) (by omega)
    refine va_put (ci := 2) (v := .int x_183) (ty := .int) (C := RX2) (T := TX2) (N := 3) hx hb hts hw2 tyX2 tyX2_ok nmX2 hown hK hP hD hS 0 rfl rfl 1 (by decide) (hts (.fieldLink RX2 15 "SmokeTune$History" "drafted" "I") (List.mem_cons_of_mem _ (List.mem_append_left _ (List.mem_append_left _ (List.mem_of_getElem? (i := 1) rfl))))) (fun _ h9 => h9) rfl (by decide +kernel) (by first | rfl | decide) (by first | rfl | decide) (Nat.le_of_ble_eq_true rfl) dX2_takeBack_32 (fun H locs hP hD hS => ?_)
    have hP : va_P D vwCl [(a0, .inr (2, [.ref a2, .int x_183, .int x_180])), (a2, .inl (K 0, 476, .inl f)), (t0, .inr (9, [.ref t1, k_1, .ref t2, k_3, k_4, k_5, k_6, .int fi, k_8, k_9])), (t1, .inl (K 0, 56, .inl f1)), (t2, .inl (K 0, 6, .inl f2))] H := hP
    have hD : va_D A [(a0, .inr (2, [.ref a2, .int x_183, .int x_180])), (a2, .inl (K 0, 476, .inl f)), (t0, .inr (9, [.ref t1, k_1, .ref t2, k_3, k_4, k_5, k_6, .int fi, k_8, k_9])), (t1, .inl (K 0, 56, .inl f1)), (t2, .inl (K 0, 6, .inl f2))] := hD
    refine lv_aload_n hx hb dX2_takeBack_35 rfl (lv_at hl 0 rfl) ?_
    refine va_get (ci := 2) (v := .int x_183) (C := RX2) (T := TX2) (N := 3) hx hb hts hw2 hown hK hP 0 rfl rfl 1 (by decide) (hts (.fieldLink RX2 15 "SmokeTune$History" "drafted" "I") (List.mem_cons_of_mem _ (List.mem_append_left _ (List.mem_append_left _ (List.mem_of_getElem? (i := 1) rfl))))) (fun _ h9 => h9) rfl dX2_takeBack_36 ?_
    refine lv_bipush (v := 28) hx hb dX2_takeBack_39 (by decide) ?_
    refine lv_imul hx hb dX2_takeBack_41 ?_
    refine lv_topi (fun x_184 ex_184 => ?_)
    have hx_184 : x_184.toInt = ((((dr.toInt + 17) - 1) % 17) * 28) := by rw [ex_184]; exact i_mul hx_183 (show (28 : Int32).toInt = 28 from rfl) (by omega)
    refine lv_istore_n (lv' := [(2, .int x_184), (0, .ref a0), (1, .ref t0)]) hx hb dX2_takeBack_42 rfl hl (by decide) rfl (fun ls hl => ?_)
    refine lv_aload_n hx hb dX2_takeBack_43 rfl (lv_at hl 2 rfl) ?_
    refine lv_aload_n hx hb dX2_takeBack_44 rfl (lv_at hl 1 rfl) ?_
    refine va_get (ci := 2) (v := .ref a2) (C := RX2) (T := TX2) (N := 3) hx hb hts hw2 hown hK hP 0 rfl rfl 0 (by decide) (hts (.fieldLink RX2 11 "SmokeTune$History" "slots" "[I") (List.mem_cons_of_mem _ (List.mem_append_left _ (List.mem_append_left _ (List.mem_of_getElem? (i := 2) rfl))))) (fun _ h9 => h9) rfl dX2_takeBack_45 ?_
    refine lv_iload_n hx hb dX2_takeBack_48 rfl (lv_at hl 0 rfl) ?_
    refine lv_iconst (v := 1) hx hb dX2_takeBack_49 (by decide) ?_
    refine lv_iadd hx hb dX2_takeBack_50 ?_
    refine lv_topi (fun x_185 ex_185 => ?_)
    have hx_185 : x_185.toInt = (((((dr.toInt + 17) - 1) % 17) * 28) + 1) := by rw [ex_185]; exact i_add hx_184 (show (1 : Int32).toInt = 1 from rfl) (by omega)
    refine va_iald hx hb hK hP 1 0 rfl rfl (i_in hx_185 (by omega)) dX2_takeBack_51 ?_
    refine lv_topi (fun x_186 ex_186 => ?_)
    refine va_putN (ci := 9) (v := .int x_186) (ty := .int) (C := RX9) (T := TX9) (N := 10) hx hb hts hw9 tyX9 tyX9_ok nmX9 hown hK hP hD hS 2 rfl rfl 7 (by decide) (nst_use hN 113 rfl) (fun _ h9 => h9) rfl (by decide +kernel) (by first | rfl | decide) (by first | rfl | decide) (Nat.le_of_ble_eq_true rfl) dX2_takeBack_52 (fun H locs hP hD hS => ?_)
    have hP : va_P D vwCl [(a0, .inr (2, [.ref a2, .int x_183, .int x_180])), (a2, .inl (K 0, 476, .inl f)), (t0, .inr (9, [.ref t1, k_1, .ref t2, k_3, k_4, k_5, k_6, .int x_186, k_8, k_9])), (t1, .inl (K 0, 56, .inl f1)), (t2, .inl (K 0, 6, .inl f2))] H := hP
    have hD : va_D A [(a0, .inr (2, [.ref a2, .int x_183, .int x_180])), (a2, .inl (K 0, 476, .inl f)), (t0, .inr (9, [.ref t1, k_1, .ref t2, k_3, k_4, k_5, k_6, .int x_186, k_8, k_9])), (t1, .inl (K 0, 56, .inl f1)), (t2, .inl (K 0, 6, .inl f2))] := hD
    refine lv_aload_n hx hb dX2_takeBack_55 rfl (lv_at hl 2 rfl) ?_
    refine va_getN (ci := 9) (v := .ref t2) (C := RX9) (T := TX9) (N := 10) hx hb hts hw9 hown hK hP 2 rfl rfl 2 (by decide) (nst_use hN 102 rfl) (fun _ h9 => h9) rfl dX2_takeBack_56 ?_
    refine lv_iconst (v := 0) hx hb dX2_takeBack_59 (by decide) ?_
    refine lv_aload_n hx hb dX2_takeBack_60 rfl (lv_at hl 1 rfl) ?_
    refine va_get (ci := 2) (v := .ref a2) (C := RX2) (T := TX2) (N := 3) hx hb hts hw2 hown hK hP 0 rfl rfl 0 (by decide) (hts (.fieldLink RX2 11 "SmokeTune$History" "slots" "[I") (List.mem_cons_of_mem _ (List.mem_append_left _ (List.mem_append_left _ (List.mem_of_getElem? (i := 2) rfl))))) (fun _ h9 => h9) rfl dX2_takeBack_61 ?_
    refine lv_iload_n hx hb dX2_takeBack_64 rfl (lv_at hl 0 rfl) ?_
    refine lv_iconst (v := 2) hx hb dX2_takeBack_65 (by decide) ?_
    refine lv_iadd hx hb dX2_takeBack_66 ?_
    refine lv_topi (fun x_187 ex_187 => ?_)
    have hx_187 : x_187.toInt = (((((dr.toInt + 17) - 1) % 17) * 28) + 2) := by rw [ex_187]; exact i_add hx_184 (show (2 : Int32).toInt = 2 from rfl) (by omega)
    refine va_iald hx hb hK hP 1 0 rfl rfl (i_in hx_187 (by omega)) dX2_takeBack_67 ?_
    refine lv_topi (fun x_188 ex_188 => ?_)
    refine va_iast hx hb hK hP hD hS 4 0 rfl rfl (i_in (x := 0) rfl (by omega)) dX2_takeBack_68 (fun H locs hP hD hS => ?_)
    generalize hf_189 : (upd f2 (0 : Int32).toNatClampNeg x_188) = f_189 at hP hD
    have hP : va_P D vwCl [(a0, .inr (2, [.ref a2, .int x_183, .int x_180])), (a2, .inl (K 0, 476, .inl f)), (t0, .inr (9, [.ref t1, k_1, .ref t2, k_3, k_4, k_5, k_6, .int x_186, k_8, k_9])), (t1, .inl (K 0, 56, .inl f1)), (t2, .inl (K 0, 6, .inl f_189))] H := hP
    have hD : va_D A [(a0, .inr (2, [.ref a2, .int x_183, .int x_180])), (a2, .inl (K 0, 476, .inl f)), (t0, .inr (9, [.ref t1, k_1, .ref t2, k_3, k_4, k_5, k_6, .int x_186, k_8, k_9])), (t1, .inl (K 0, 56, .inl f1)), (t2, .inl (K 0, 6, .inl f_189))] := hD
    refine lv_aload_n hx hb dX2_takeBack_69 rfl (lv_at hl 2 rfl) ?_
    refine va_getN (ci := 9) (v := .ref t2) (C := RX9) (T := TX9) (N := 10) hx hb hts hw9 hown hK hP 2 rfl rfl 2 (by decide) (nst_use hN 102 rfl) (fun _ h9 => h9) rfl dX2_takeBack_70 ?_
    refine lv_iconst (v := 1) hx hb dX2_takeBack_73 (by decide) ?_
    refine lv_aload_n hx hb dX2_takeBack_74 rfl (lv_at hl 1 rfl) ?_
    refine va_get (ci := 2) (v := .ref a2) (C := RX2) (T := TX2) (N := 3) hx hb hts hw2 hown hK hP 0 rfl rfl 0 (by decide) (hts (.fieldLink RX2 11 "SmokeTune$History" "slots" "[I") (List.mem_cons_of_mem _ (List.mem_append_left _ (List.mem_append_left _ (List.mem_of_getElem? (i := 2) rfl))))) (fun _ h9 => h9) rfl dX2_takeBack_75 ?_
    refine lv_iload_n hx hb dX2_takeBack_78 rfl (lv_at hl 0 rfl) ?_
    refine lv_iconst (v := 3) hx hb dX2_takeBack_79 (by decide) ?_
    refine lv_iadd hx hb dX2_takeBack_80 ?_
    refine lv_topi (fun x_190 ex_190 => ?_)
    have hx_190 : x_190.toInt = (((((dr.toInt + 17) - 1) % 17) * 28) + 3) := by rw [ex_190]; exact i_add hx_184 (show (3 : Int32).toInt = 3 from rfl) (by omega)
    refine va_iald hx hb hK hP 1 0 rfl rfl (i_in hx_190 (by omega)) dX2_takeBack_81 ?_
    refine lv_topi (fun x_191 ex_191 => ?_)
    refine va_iast hx hb hK hP hD hS 4 0 rfl rfl (i_in (x := 1) rfl (by omega)) dX2_takeBack_82 (fun H locs hP hD hS => ?_)
    generalize hf_192 : (upd f_189 (1 : Int32).toNatClampNeg x_191) = f_192 at hP hD
    have hP : va_P D vwCl [(a0, .inr (2, [.ref a2, .int x_183, .int x_180])), (a2, .inl (K 0, 476, .inl f)), (t0, .inr (9, [.ref t1, k_1, .ref t2, k_3, k_4, k_5, k_6, .int x_186, k_8, k_9])), (t1, .inl (K 0, 56, .inl f1)), (t2, .inl (K 0, 6, .inl f_192))] H := hP
    have hD : va_D A [(a0, .inr (2, [.ref a2, .int x_183, .int x_180])), (a2, .inl (K 0, 476, .inl f)), (t0, .inr (9, [.ref t1, k_1, .ref t2, k_3, k_4, k_5, k_6, .int x_186, k_8, k_9])), (t1, .inl (K 0, 56, .inl f1)), (t2, .inl (K 0, 6, .inl f_192))] := hD
    refine lv_iconst (v := 0) hx hb dX2_takeBack_83 (by decide) ?_
    refine lv_istore_n (lv' := [(3, .int 0), (2, .int x_184), (0, .ref a0), (1, .ref t0)]) hx hb dX2_takeBack_84 rfl hl (by decide) rfl (fun ls hl => ?_)
    have lp_256 : ∀ (nn_ : Nat) (v_234 : Int32) (f_235 : Nat → Int32) (hv_234 : 0 ≤ v_234.toInt ∧ v_234.toInt ≤ 3) (hn : (4 - v_234.toInt : Int).toNat < nn_) (H : Heap) (locs : List Loc) (hP : va_P D vwCl [(a0, .inr (2, [.ref a2, .int x_183, .int x_180])), (a2, .inl (K 0, 476, .inl f)), (t0, .inr (9, [.ref t1, k_1, .ref t2, k_3, k_4, k_5, k_6, .int x_186, k_8, k_9])), (t1, .inl (K 0, 56, .inl f_235)), (t2, .inl (K 0, 6, .inl f_192))] H) (hD : va_D A [(a0, .inr (2, [.ref a2, .int x_183, .int x_180])), (a2, .inl (K 0, 476, .inl f)), (t0, .inr (9, [.ref t1, k_1, .ref t2, k_3, k_4, k_5, k_6, .int x_186, k_8, k_9])), (t1, .inl (K 0, 56, .inl f_235)), (t2, .inl (K 0, 6, .inl f_192))]) (hS : va_S A s.heap H locs) (ls : Array Slot) (hl : lv_has ls 4 [(3, .int v_234), (2, .int x_184), (0, .ref a0), (1, .ref t0)]), W p l e ({ frames := 1, cells := 0, slots := 0, locals := 40 }) s m (([.ref a0, .ref t0] : List Value).toArray) below meth c H locs 0 0 Q (F0 m 85 ls []) := by
      intro nn_
      induction nn_ with
      | zero =>
        intro v_234 f_235 hv_234 hn H locs hP hD hS ls hl
        exact absurd hn (Nat.not_lt_zero _)
      | succ nn_ ih_257 =>
        intro v_234 f_235 hv_234 hn H locs hP hD hS ls hl
        refine lv_iload_n hx hb dX2_takeBack_85 rfl (lv_at hl 0 rfl) ?_
        refine lv_iconst (v := 3) hx hb dX2_takeBack_86 (by decide) ?_
        refine lv_icmp_ge (tgt := 124) hx hb dX2_takeBack_87 (by decide) (fun c_258 => ?_) (fun c_258 => ?_)
        · have c_258i := i_le (x := 3) (y := v_234.toInt) rfl rfl c_258
          refine lv_aload_n hx hb dX2_takeBack_124 rfl (lv_at hl 2 rfl) ?_
          refine va_get (ci := 2) (v := .ref a2) (C := RX2) (T := TX2) (N := 3) hx hb hts hw2 hown hK hP 0 rfl rfl 0 (by decide) (hts (.fieldLink RX2 11 "SmokeTune$History" "slots" "[I") (List.mem_cons_of_mem _ (List.mem_append_left _ (List.mem_append_left _ (List.mem_of_getElem? (i := 2) rfl))))) (fun _ h9 => h9) rfl dX2_takeBack_125 ?_
          refine lv_iload_n hx hb dX2_takeBack_128 rfl (lv_at hl 1 rfl) ?_
          refine va_iald hx hb hK hP 1 0 rfl rfl (i_in hx_184 (by omega)) dX2_takeBack_129 ?_
          refine lv_topi (fun x_259 ex_259 => ?_)
          rw [← hQ]
          have hP9 := hP.sub (ws' := [(a0, .inr (2, [.ref a2, .int x_183, .int x_180])), (a2, .inl (K 0, 476, .inl f)), (t0, .inr (9, [.ref t1, k_1, .ref t2, k_3, k_4, k_5, k_6, .int x_186, k_8, k_9])), (t1, .inl (K 0, 56, .inl f_235)), (t2, .inl (K 0, 6, .inl f_192))]) [0, 1, 2, 3, 4] rfl
          have hD9 := hD.sub (ws' := [(a0, .inr (2, [.ref a2, .int x_183, .int x_180])), (a2, .inl (K 0, 476, .inl f)), (t0, .inr (9, [.ref t1, k_1, .ref t2, k_3, k_4, k_5, k_6, .int x_186, k_8, k_9])), (t1, .inl (K 0, 56, .inl f_235)), (t2, .inl (K 0, 6, .inl f_192))]) [0, 1, 2, 3, 4] (by decide) rfl
          exact W.iret (v := x_259) hx hb hr (fun t ht hW => ⟨⟨x_259, ((fun _ => 0, fun i => match i with | 0 => f_235 | _ => f_192, fun _ => fun _ => 0, fun i => match i with | 0 => x_183 | 1 => x_180 | _ => x_186, fun _ => 0, fun _ => fun _ => none) : Su), rfl, ⟨(show 0 ≤ (x_183 : Int32).toInt ∧ (x_183 : Int32).toInt ≤ 16 by rw [hx_183]; omega), (show 0 ≤ (x_180 : Int32).toInt ∧ (x_180 : Int32).toInt ≤ 15 by rw [hx_180]; omega), trivial⟩, (⟨by rw [ht]; exact hP9, hD9⟩ : Wd D A _ t)⟩, hS.F ht⟩) hS.2.2 dX2_takeBack_130
        · have c_258i := i_nle (x := 3) (y := v_234.toInt) rfl rfl c_258
          refine lv_aload_n hx hb dX2_takeBack_90 rfl (lv_at hl 2 rfl) ?_
          refine va_get (ci := 2) (v := .ref a2) (C := RX2) (T := TX2) (N := 3) hx hb hts hw2 hown hK hP 0 rfl rfl 0 (by decide) (hts (.fieldLink RX2 11 "SmokeTune$History" "slots" "[I") (List.mem_cons_of_mem _ (List.mem_append_left _ (List.mem_append_left _ (List.mem_of_getElem? (i := 2) rfl))))) (fun _ h9 => h9) rfl dX2_takeBack_91 ?_
          refine lv_iload_n hx hb dX2_takeBack_94 rfl (lv_at hl 1 rfl) ?_
          refine lv_iconst (v := 4) hx hb dX2_takeBack_95 (by decide) ?_
          refine lv_iadd hx hb dX2_takeBack_96 ?_
          refine lv_topi (fun x_260 ex_260 => ?_)
          have hx_260 : x_260.toInt = (((((dr.toInt + 17) - 1) % 17) * 28) + 4) := by rw [ex_260]; exact i_add hx_184 (show (4 : Int32).toInt = 4 from rfl) (by omega)
          refine lv_iload_n hx hb dX2_takeBack_97 rfl (lv_at hl 0 rfl) ?_
          refine lv_bipush (v := 8) hx hb dX2_takeBack_98 (by decide) ?_
          refine lv_imul hx hb dX2_takeBack_100 ?_
          refine lv_topi (fun x_261 ex_261 => ?_)
          have hx_261 : x_261.toInt = (v_234.toInt * 8) := by rw [ex_261]; exact i_mul rfl (show (8 : Int32).toInt = 8 from rfl) (by omega)
          refine lv_iadd hx hb dX2_takeBack_101 ?_
          refine lv_topi (fun x_262 ex_262 => ?_)
          have hx_262 : x_262.toInt = ((((((dr.toInt + 17) - 1) % 17) * 28) + 4) + (v_234.toInt * 8)) := by rw [ex_262]; exact i_add hx_260 hx_261 (by omega)
          refine lv_aload_n hx hb dX2_takeBack_102 rfl (lv_at hl 3 rfl) ?_
          refine va_getN (ci := 9) (v := .ref t1) (C := RX9) (T := TX9) (N := 10) hx hb hts hw9 hown hK hP 2 rfl rfl 0 (by decide) (nst_use hN 97 rfl) (fun _ h9 => h9) rfl dX2_takeBack_103 ?_
          refine lv_iload_n hx hb dX2_takeBack_106 rfl (lv_at hl 0 rfl) ?_
          refine pci (va_runS (As := [.int v_234]) (rest := [.ref t1, .int x_262, .ref a2]) ⟨hx, hb, hml, hown, hts⟩ (w_changing l D K v_234 H.size) (va_cwS 1 hts gX2_takeBack_X2_changing rfl rfl rfl (by decide +kernel) ⟨Nat.le_of_ble_eq_true rfl, Nat.le_of_ble_eq_true rfl⟩) (mkS hK hN (va_P.nil) (va_D.nil (A := fun _ => True))) rfl rfl hl.1 rfl (lv_room (Nat.le_of_ble_eq_true rfl)) dX2_takeBack_107 ⟨Nat.le_of_ble_eq_true rfl, Nat.le_of_ble_eq_true rfl⟩) (fun r_263 hw => ?_)
          obtain ⟨h_264, -⟩ := hw
          refine lv_bipush (v := 8) hx hb dX2_takeBack_110 (by decide) ?_
          refine lv_imul hx hb dX2_takeBack_112 ?_
          refine lv_topi (fun x_265 ex_265 => ?_)
          have hx_265 : x_265.toInt = (r_263.toInt * 8) := by rw [ex_265]; exact i_mul rfl (show (8 : Int32).toInt = 8 from rfl) (by omega)
          refine lv_bipush (v := 8) hx hb dX2_takeBack_113 (by decide) ?_
          refine va_copyi hx hb (hml.trans hl.1.symm) hown (hts (.methodLink RX2 22 arraycopyName) (List.mem_cons_of_mem _ (List.mem_append_left _ (List.mem_append_left _ (List.mem_of_getElem? (i := 3) rfl))))) (hts (.native arraycopyName) (List.mem_cons_of_mem _ (List.mem_append_left _ (List.mem_append_left _ (List.mem_of_getElem? (i := 4) rfl))))) (hts (.static arraycopyName) (List.mem_cons_of_mem _ (List.mem_append_left _ (List.mem_append_left _ (List.mem_of_getElem? (i := 5) rfl))))) (hts (.initialized "java/lang/System") (List.mem_cons_of_mem _ (List.mem_append_left _ (List.mem_append_left _ (List.mem_of_getElem? (i := 6) rfl))))) hK hP hD hS 1 3 0 0 rfl rfl rfl rfl rfl (fun h9 => by have h8 := i_lt (x := ((((((dr.toInt + 17) - 1) % 17) * 28) + 4) + (v_234.toInt * 8))) (y := 0) hx_262 rfl h9; omega) (fun h9 => by have h8 := i_lt (x := (r_263.toInt * 8)) (y := 0) hx_265 rfl h9; omega) (by decide) (by rw [i_clamp hx_262, i_clamp (show (8 : Int32).toInt = 8 from rfl)]; omega) (by rw [i_clamp hx_265, i_clamp (show (8 : Int32).toInt = 8 from rfl)]; omega) (fun _ _ => rfl) (Nat.le_of_ble_eq_true rfl) (by decide +kernel) dX2_takeBack_115 (fun H locs hP hD hS => ?_)
          generalize hf_266 : (va_cpy (α := Int32) f f_235 (x_262 : Int32).toNatClampNeg (x_265 : Int32).toNatClampNeg (8 : Int32).toNatClampNeg) = f_266 at hP hD
          have hP : va_P D vwCl [(a0, .inr (2, [.ref a2, .int x_183, .int x_180])), (a2, .inl (K 0, 476, .inl f)), (t0, .inr (9, [.ref t1, k_1, .ref t2, k_3, k_4, k_5, k_6, .int x_186, k_8, k_9])), (t1, .inl (K 0, 56, .inl f_266)), (t2, .inl (K 0, 6, .inl f_192))] H := hP
          have hD : va_D A [(a0, .inr (2, [.ref a2, .int x_183, .int x_180])), (a2, .inl (K 0, 476, .inl f)), (t0, .inr (9, [.ref t1, k_1, .ref t2, k_3, k_4, k_5, k_6, .int x_186, k_8, k_9])), (t1, .inl (K 0, 56, .inl f_266)), (t2, .inl (K 0, 6, .inl f_192))] := hD
          obtain ⟨x_267, ex_267⟩ : ∃ y : Int32, y = v_234 + Int32.ofInt 1 := ⟨_, rfl⟩
          have hx_267 : x_267.toInt = (v_234.toInt + 1) := by rw [ex_267]; exact i_add rfl (show (Int32.ofInt 1).toInt = 1 from rfl) (by omega)
          refine lv_iinc (v := x_267) (lv' := [(3, .int x_267), (2, .int x_184), (0, .ref a0), (1, .ref t0)]) hx hb dX2_takeBack_118 hl (k := 0) rfl (by rw [ex_267]) (by decide) rfl (fun ls hl => ?_)
          refine lv_goto (tgt := 85) hx hb dX2_takeBack_121 (by decide) ?_
          exact ih_257 x_267 f_266 (by rw [hx_267]; omega) (by omega) _ _ hP hD hS ls (lv_sub hl [0, 1, 2, 3] rfl)
    exact lp_256 ((4 - (0 : Int32).toInt : Int).toNat + 1) 0 f1 (by decide) (Nat.lt_succ_self _) _ _ hP hD hS ls (lv_sub hl [0, 1, 2, 3] rfl)
  · have c_179i := i_eq (x := kp.toInt) (y := 0) rfl rfl c_179
    refine lv_iconst (v := (-1)) hx hb dX2_takeBack_7 (by decide) ?_
    rw [← hQ]
    have hP9 := hP.sub (ws' := [(a0, .inr (2, [.ref a2, .int dr, .int kp])), (a2, .inl (K 0, 476, .inl f)), (t0, .inr (9, [.ref t1, k_1, .ref t2, k_3, k_4, k_5, k_6, .int fi, k_8, k_9])), (t1, .inl (K 0, 56, .inl f1)), (t2, .inl (K 0, 6, .inl f2))]) [0, 1, 2, 3, 4] rfl
    have hD9 := hD.sub (ws' := [(a0, .inr (2, [.ref a2, .int dr, .int kp])), (a2, .inl (K 0, 476, .inl f)), (t0, .inr (9, [.ref t1, k_1, .ref t2, k_3, k_4, k_5, k_6, .int fi, k_8, k_9])), (t1, .inl (K 0, 56, .inl f1)), (t2, .inl (K 0, 6, .inl f2))]) [0, 1, 2, 3, 4] (by decide) rfl
    exact W.iret (v := (-1)) hx hb hr (fun t ht hW => ⟨⟨(-1), ((fun _ => 0, fun i => match i with | 0 => f1 | _ => f2, fun _ => fun _ => 0, fun i => match i with | 0 => dr | 1 => kp | _ => fi, fun _ => 0, fun _ => fun _ => none) : Su), rfl, ⟨(show 0 ≤ (dr : Int32).toInt ∧ (dr : Int32).toInt ≤ 16 by omega), (show 0 ≤ (kp : Int32).toInt ∧ (kp : Int32).toInt ≤ 15 by omega), trivial⟩, (⟨by rw [ht]; exact hP9, hD9⟩ : Wd D A _ t)⟩, hS.F ht⟩) hS.2.2 dX2_takeBack_8
