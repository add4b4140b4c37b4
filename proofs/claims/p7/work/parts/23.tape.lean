theorem dX8_byteAt_0 : decode cX8_byteAt 0 = .ok (.iload_n 1, 1) := by decide +kernel
theorem dX8_byteAt_1 : decode cX8_byteAt 1 = .ok (.ifCond .lt 27, 3) := by decide +kernel
theorem dX8_byteAt_28 : decode cX8_byteAt 28 = .ok (.iconst (-1), 1) := by decide +kernel
theorem dX8_byteAt_29 : decode cX8_byteAt 29 = .ok (.ireturn, 1) := by decide +kernel
theorem dX8_byteAt_4 : decode cX8_byteAt 4 = .ok (.iload_n 1, 1) := by decide +kernel
theorem dX8_byteAt_5 : decode cX8_byteAt 5 = .ok (.aload_n 0, 1) := by decide +kernel
theorem dX8_byteAt_6 : decode cX8_byteAt 6 = .ok (.getfield 15, 3) := by decide +kernel
theorem dX8_byteAt_9 : decode cX8_byteAt 9 = .ok (.if_icmp .ge 19, 3) := by decide +kernel
theorem dX8_byteAt_12 : decode cX8_byteAt 12 = .ok (.iload_n 1, 1) := by decide +kernel
theorem dX8_byteAt_13 : decode cX8_byteAt 13 = .ok (.sipush 400, 3) := by decide +kernel
theorem dX8_byteAt_16 : decode cX8_byteAt 16 = .ok (.if_icmp .ge 12, 3) := by decide +kernel
theorem dX8_byteAt_19 : decode cX8_byteAt 19 = .ok (.aload_n 0, 1) := by decide +kernel
theorem dX8_byteAt_20 : decode cX8_byteAt 20 = .ok (.getfield 11, 3) := by decide +kernel
theorem dX8_byteAt_23 : decode cX8_byteAt 23 = .ok (.iload_n 1, 1) := by decide +kernel
theorem dX8_byteAt_24 : decode cX8_byteAt 24 = .ok (.iaload, 1) := by decide +kernel
theorem dX8_byteAt_25 : decode cX8_byteAt 25 = .ok (.goto 4, 3) := by decide +kernel
theorem dX8_step_0 : decode cX8_step 0 = .ok (.aload_n 0, 1) := by decide +kernel
theorem dX8_step_1 : decode cX8_step 1 = .ok (.aload_n 0, 1) := by decide +kernel
theorem dX8_step_2 : decode cX8_step 2 = .ok (.getfield 22, 3) := by decide +kernel
theorem dX8_step_5 : decode cX8_step 5 = .ok (.putfield 19, 3) := by decide +kernel
theorem dX8_step_8 : decode cX8_step 8 = .ok (.aload_n 0, 1) := by decide +kernel
theorem dX8_step_9 : decode cX8_step 9 = .ok (.getfield 19, 3) := by decide +kernel
theorem dX8_step_12 : decode cX8_step 12 = .ok (.aload_n 0, 1) := by decide +kernel
theorem dX8_step_13 : decode cX8_step 13 = .ok (.getfield 15, 3) := by decide +kernel
theorem dX8_step_16 : decode cX8_step 16 = .ok (.if_icmp .ge 30, 3) := by decide +kernel
theorem dX8_step_19 : decode cX8_step 19 = .ok (.aload_n 0, 1) := by decide +kernel
theorem dX8_step_20 : decode cX8_step 20 = .ok (.getfield 11, 3) := by decide +kernel
theorem dX8_step_23 : decode cX8_step 23 = .ok (.aload_n 0, 1) := by decide +kernel
theorem dX8_step_24 : decode cX8_step 24 = .ok (.getfield 19, 3) := by decide +kernel
theorem dX8_step_27 : decode cX8_step 27 = .ok (.iaload, 1) := by decide +kernel
theorem dX8_step_28 : decode cX8_step 28 = .ok (.bipush 32, 2) := by decide +kernel
theorem dX8_step_30 : decode cX8_step 30 = .ok (.if_icmp .ne 16, 3) := by decide +kernel
theorem dX8_step_33 : decode cX8_step 33 = .ok (.aload_n 0, 1) := by decide +kernel
theorem dX8_step_34 : decode cX8_step 34 = .ok (.dup, 1) := by decide +kernel
theorem dX8_step_35 : decode cX8_step 35 = .ok (.getfield 19, 3) := by decide +kernel
theorem dX8_step_38 : decode cX8_step 38 = .ok (.iconst 1, 1) := by decide +kernel
theorem dX8_step_39 : decode cX8_step 39 = .ok (.iadd, 1) := by decide +kernel
theorem dX8_step_40 : decode cX8_step 40 = .ok (.putfield 19, 3) := by decide +kernel
theorem dX8_step_43 : decode cX8_step 43 = .ok (.goto (-35), 3) := by decide +kernel
theorem dX8_step_46 : decode cX8_step 46 = .ok (.aload_n 0, 1) := by decide +kernel
theorem dX8_step_47 : decode cX8_step 47 = .ok (.aload_n 0, 1) := by decide +kernel
theorem dX8_step_48 : decode cX8_step 48 = .ok (.getfield 19, 3) := by decide +kernel
theorem dX8_step_51 : decode cX8_step 51 = .ok (.aload_n 0, 1) := by decide +kernel
theorem dX8_step_52 : decode cX8_step 52 = .ok (.getfield 15, 3) := by decide +kernel
theorem dX8_step_55 : decode cX8_step 55 = .ok (.if_icmp .ge 15, 3) := by decide +kernel
theorem dX8_step_70 : decode cX8_step 70 = .ok (.iconst (-1), 1) := by decide +kernel
theorem dX8_step_71 : decode cX8_step 71 = .ok (.putfield 25, 3) := by decide +kernel
theorem dX8_step_74 : decode cX8_step 74 = .ok (.aload_n 0, 1) := by decide +kernel
theorem dX8_step_75 : decode cX8_step 75 = .ok (.aload_n 0, 1) := by decide +kernel
theorem dX8_step_76 : decode cX8_step 76 = .ok (.getfield 25, 3) := by decide +kernel
theorem dX8_step_79 : decode cX8_step 79 = .ok (.bipush 48, 2) := by decide +kernel
theorem dX8_step_81 : decode cX8_step 81 = .ok (.if_icmp .lt 22, 3) := by decide +kernel
theorem dX8_step_103 : decode cX8_step 103 = .ok (.iconst (-1), 1) := by decide +kernel
theorem dX8_step_104 : decode cX8_step 104 = .ok (.putfield 28, 3) := by decide +kernel
theorem dX8_step_107 : decode cX8_step 107 = .ok (.aload_n 0, 1) := by decide +kernel
theorem dX8_step_108 : decode cX8_step 108 = .ok (.getfield 25, 3) := by decide +kernel
theorem dX8_step_111 : decode cX8_step 111 = .ok (.bipush 97, 2) := by decide +kernel
theorem dX8_step_113 : decode cX8_step 113 = .ok (.if_icmp .lt 16, 3) := by decide +kernel
theorem dX8_step_58 : decode cX8_step 58 = .ok (.aload_n 0, 1) := by decide +kernel
theorem dX8_step_59 : decode cX8_step 59 = .ok (.getfield 11, 3) := by decide +kernel
theorem dX8_step_62 : decode cX8_step 62 = .ok (.aload_n 0, 1) := by decide +kernel
theorem dX8_step_63 : decode cX8_step 63 = .ok (.getfield 19, 3) := by decide +kernel
theorem dX8_step_66 : decode cX8_step 66 = .ok (.iaload, 1) := by decide +kernel
theorem dX8_step_67 : decode cX8_step 67 = .ok (.goto 4, 3) := by decide +kernel
theorem dX8_step_84 : decode cX8_step 84 = .ok (.aload_n 0, 1) := by decide +kernel
theorem dX8_step_85 : decode cX8_step 85 = .ok (.getfield 25, 3) := by decide +kernel
theorem dX8_step_88 : decode cX8_step 88 = .ok (.bipush 57, 2) := by decide +kernel
theorem dX8_step_90 : decode cX8_step 90 = .ok (.if_icmp .gt 13, 3) := by decide +kernel
theorem dX8_step_116 : decode cX8_step 116 = .ok (.aload_n 0, 1) := by decide +kernel
theorem dX8_step_117 : decode cX8_step 117 = .ok (.getfield 25, 3) := by decide +kernel
theorem dX8_step_120 : decode cX8_step 120 = .ok (.bipush 122, 2) := by decide +kernel
theorem dX8_step_122 : decode cX8_step 122 = .ok (.if_icmp .gt 7, 3) := by decide +kernel
theorem dX8_step_125 : decode cX8_step 125 = .ok (.iconst 1, 1) := by decide +kernel
theorem dX8_step_126 : decode cX8_step 126 = .ok (.goto 4, 3) := by decide +kernel
theorem dX8_step_130 : decode cX8_step 130 = .ok (.istore_n 1, 1) := by decide +kernel
theorem dX8_step_131 : decode cX8_step 131 = .ok (.aload_n 0, 1) := by decide +kernel
theorem dX8_step_132 : decode cX8_step 132 = .ok (.aload_n 0, 1) := by decide +kernel
theorem dX8_step_133 : decode cX8_step 133 = .ok (.getfield 15, 3) := by decide +kernel
theorem dX8_step_136 : decode cX8_step 136 = .ok (.aload_n 0, 1) := by decide +kernel
theorem dX8_step_137 : decode cX8_step 137 = .ok (.getfield 19, 3) := by decide +kernel
theorem dX8_step_140 : decode cX8_step 140 = .ok (.iconst 1, 1) := by decide +kernel
theorem dX8_step_141 : decode cX8_step 141 = .ok (.iadd, 1) := by decide +kernel
theorem dX8_step_142 : decode cX8_step 142 = .ok (.invokestatic 31, 3) := by decide +kernel
theorem dX8_step_145 : decode cX8_step 145 = .ok (.putfield 22, 3) := by decide +kernel
theorem dX8_step_148 : decode cX8_step 148 = .ok (.aload_n 0, 1) := by decide +kernel
theorem dX8_step_149 : decode cX8_step 149 = .ok (.getfield 22, 3) := by decide +kernel
theorem dX8_step_152 : decode cX8_step 152 = .ok (.aload_n 0, 1) := by decide +kernel
theorem dX8_step_153 : decode cX8_step 153 = .ok (.getfield 15, 3) := by decide +kernel
theorem dX8_step_156 : decode cX8_step 156 = .ok (.if_icmp .ge 116, 3) := by decide +kernel
theorem dX8_step_159 : decode cX8_step 159 = .ok (.aload_n 0, 1) := by decide +kernel
theorem dX8_step_160 : decode cX8_step 160 = .ok (.getfield 11, 3) := by decide +kernel
theorem dX8_step_163 : decode cX8_step 163 = .ok (.aload_n 0, 1) := by decide +kernel
theorem dX8_step_164 : decode cX8_step 164 = .ok (.getfield 22, 3) := by decide +kernel
theorem dX8_step_167 : decode cX8_step 167 = .ok (.iaload, 1) := by decide +kernel
theorem dX8_step_168 : decode cX8_step 168 = .ok (.istore_n 2, 1) := by decide +kernel
theorem dX8_step_169 : decode cX8_step 169 = .ok (.aload_n 0, 1) := by decide +kernel
theorem dX8_step_170 : decode cX8_step 170 = .ok (.getfield 28, 3) := by decide +kernel
theorem dX8_step_173 : decode cX8_step 173 = .ok (.iconst (-1), 1) := by decide +kernel
theorem dX8_step_174 : decode cX8_step 174 = .ok (.if_icmp .eq 19, 3) := by decide +kernel
theorem dX8_step_193 : decode cX8_step 193 = .ok (.iconst 0, 1) := by decide +kernel
theorem dX8_step_194 : decode cX8_step 194 = .ok (.istore_n 3, 1) := by decide +kernel
theorem dX8_step_195 : decode cX8_step 195 = .ok (.iload_n 1, 1) := by decide +kernel
theorem dX8_step_196 : decode cX8_step 196 = .ok (.ifCond .eq 19, 3) := by decide +kernel
theorem dX8_step_199 : decode cX8_step 199 = .ok (.iload_n 2, 1) := by decide +kernel
theorem dX8_step_200 : decode cX8_step 200 = .ok (.bipush 97, 2) := by decide +kernel
theorem dX8_step_202 : decode cX8_step 202 = .ok (.if_icmp .lt 13, 3) := by decide +kernel
theorem dX8_step_215 : decode cX8_step 215 = .ok (.iconst 0, 1) := by decide +kernel
theorem dX8_step_216 : decode cX8_step 216 = .ok (.istore 4, 2) := by decide +kernel
theorem dX8_step_218 : decode cX8_step 218 = .ok (.iload_n 3, 1) := by decide +kernel
theorem dX8_step_219 : decode cX8_step 219 = .ok (.ifCond .ne 11, 3) := by decide +kernel
theorem dX8_step_222 : decode cX8_step 222 = .ok (.iload 4, 2) := by decide +kernel
theorem dX8_step_224 : decode cX8_step 224 = .ok (.ifCond .ne 6, 3) := by decide +kernel
theorem dX8_step_205 : decode cX8_step 205 = .ok (.iload_n 2, 1) := by decide +kernel
theorem dX8_step_206 : decode cX8_step 206 = .ok (.bipush 122, 2) := by decide +kernel
theorem dX8_step_208 : decode cX8_step 208 = .ok (.if_icmp .gt 7, 3) := by decide +kernel
theorem dX8_step_211 : decode cX8_step 211 = .ok (.iconst 1, 1) := by decide +kernel
theorem dX8_step_212 : decode cX8_step 212 = .ok (.goto 4, 3) := by decide +kernel
theorem dX8_step_230 : decode cX8_step 230 = .ok (.aload_n 0, 1) := by decide +kernel
theorem dX8_step_231 : decode cX8_step 231 = .ok (.iload_n 3, 1) := by decide +kernel
theorem dX8_step_232 : decode cX8_step 232 = .ok (.ifCond .eq 23, 3) := by decide +kernel
theorem dX8_step_255 : decode cX8_step 255 = .ok (.iconst (-1), 1) := by decide +kernel
theorem dX8_step_256 : decode cX8_step 256 = .ok (.putfield 28, 3) := by decide +kernel
theorem dX8_step_259 : decode cX8_step 259 = .ok (.aload_n 0, 1) := by decide +kernel
theorem dX8_step_260 : decode cX8_step 260 = .ok (.dup, 1) := by decide +kernel
theorem dX8_step_261 : decode cX8_step 261 = .ok (.getfield 22, 3) := by decide +kernel
theorem dX8_step_264 : decode cX8_step 264 = .ok (.iconst 1, 1) := by decide +kernel
theorem dX8_step_265 : decode cX8_step 265 = .ok (.iadd, 1) := by decide +kernel
theorem dX8_step_266 : decode cX8_step 266 = .ok (.putfield 22, 3) := by decide +kernel
theorem dX8_step_269 : decode cX8_step 269 = .ok (.goto (-121), 3) := by decide +kernel
theorem dX8_step_227 : decode cX8_step 227 = .ok (.goto 45, 3) := by decide +kernel
theorem dX8_step_272 : decode cX8_step 272 = .ok (.return_, 1) := by decide +kernel
theorem dX8_step_93 : decode cX8_step 93 = .ok (.aload_n 0, 1) := by decide +kernel
theorem dX8_step_94 : decode cX8_step 94 = .ok (.getfield 25, 3) := by decide +kernel
theorem dX8_step_97 : decode cX8_step 97 = .ok (.bipush 48, 2) := by decide +kernel
theorem dX8_step_99 : decode cX8_step 99 = .ok (.isub, 1) := by decide +kernel
theorem dX8_step_100 : decode cX8_step 100 = .ok (.goto 4, 3) := by decide +kernel
theorem dX8_step_129 : decode cX8_step 129 = .ok (.iconst 0, 1) := by decide +kernel
theorem dX8_step_177 : decode cX8_step 177 = .ok (.iload_n 2, 1) := by decide +kernel
theorem dX8_step_178 : decode cX8_step 178 = .ok (.bipush 48, 2) := by decide +kernel
theorem dX8_step_180 : decode cX8_step 180 = .ok (.if_icmp .lt 13, 3) := by decide +kernel
theorem dX8_step_183 : decode cX8_step 183 = .ok (.iload_n 2, 1) := by decide +kernel
theorem dX8_step_184 : decode cX8_step 184 = .ok (.bipush 57, 2) := by decide +kernel
theorem dX8_step_186 : decode cX8_step 186 = .ok (.if_icmp .gt 7, 3) := by decide +kernel
theorem dX8_step_189 : decode cX8_step 189 = .ok (.iconst 1, 1) := by decide +kernel
theorem dX8_step_190 : decode cX8_step 190 = .ok (.goto 4, 3) := by decide +kernel
theorem dX8_step_235 : decode cX8_step 235 = .ok (.ldc 37, 2) := by decide +kernel
theorem dX8_step_237 : decode cX8_step 237 = .ok (.aload_n 0, 1) := by decide +kernel
theorem dX8_step_238 : decode cX8_step 238 = .ok (.getfield 28, 3) := by decide +kernel
theorem dX8_step_241 : decode cX8_step 241 = .ok (.bipush 10, 2) := by decide +kernel
theorem dX8_step_243 : decode cX8_step 243 = .ok (.imul, 1) := by decide +kernel
theorem dX8_step_244 : decode cX8_step 244 = .ok (.iload_n 2, 1) := by decide +kernel
theorem dX8_step_245 : decode cX8_step 245 = .ok (.iadd, 1) := by decide +kernel
theorem dX8_step_246 : decode cX8_step 246 = .ok (.bipush 48, 2) := by decide +kernel
theorem dX8_step_248 : decode cX8_step 248 = .ok (.isub, 1) := by decide +kernel
theorem dX8_step_249 : decode cX8_step 249 = .ok (.invokestatic 31, 3) := by decide +kernel
theorem dX8_step_252 : decode cX8_step 252 = .ok (.goto 4, 3) := by decide +kernel
set_option maxHeartbeats 4000000 in
set_option maxRecDepth 100000 in
theorem w_take (l : Launch) (D : va_G) (K : Nat → ClassId) (a0 : Nat) (x : Int32) (a1 : Nat) (ln : Int32) (p_2 : Value) (p_3 : Value) (p_4 : Value) (p_5 : Value) (f : Nat → Int32) (sz : Nat) (zln : 0 ≤ ln.toInt ∧ ln.toInt ≤ 400) : Met l yX8_take wsX8_take ({ frames := 0, cells := 0, slots := 0, locals := 0 }) (va_Pc [.ref a0, .int x] (Pre D K [(a0, .inr (8, [.ref a1, .int ln, p_2, p_3, p_4, p_5])), (a1, .inl (K 0, 400, .inl f))] sz)) (va_Qv (S := Su) (fun (u : Su) => (0 ≤ (u.2.2.2.1 0).toInt ∧ (u.2.2.2.1 0).toInt ≤ 400) ∧ True) (fun u t => Wd D (va_A [(a0, .inr (8, [.ref a1, .int ln, p_2, p_3, p_4, p_5])), (a1, .inl (K 0, 400, .inl f))] sz) ((fun u => [(a0, .inr (8, [.ref a1, .int (u.2.2.2.1 0), p_2, p_3, p_4, p_5])), (a1, .inl (K 0, 400, .inl (u.2.1 0)))]) u) t) (va_A [(a0, .inr (8, [.ref a1, .int ln, p_2, p_3, p_4, p_5])), (a1, .inl (K 0, 400, .inl f))] sz)) 0 0 (va_A [(a0, .inr (8, [.ref a1, .int ln, p_2, p_3, p_4, p_5])), (a1, .inl (K 0, 400, .inl f))] sz) := by
  refine Met.ofW (cc := cX8_take) (maxL := 3) (ret := none) (by decide) rfl ?_
  intro p e s m args below meth c s₁ B hml hv
  obtain ⟨rfl, hsz, hP, hK, hD0, hN⟩ := hv
  have hx := B.exec
  have hb := B.bytes
  have hr := B.returns
  have hts := atoms_spec (ws := wsX8_take) B.pre
  have hown : s.vm.findClass RX8 = some m.cls := findClass_of_methodNamed B.named
  have hlocks := B.notSynchronized
  subst hsz
  have hD := hD0.self (sz := s.heap.size)
  generalize hAe : va_A [(a0, .inr (8, [.ref a1, .int ln, p_2, p_3, p_4, p_5])), (a1, .inl (K 0, 400, .inl f))] s.heap.size = A at hD ⊢
  have hA : ∀ q : Nat, s.heap.size ≤ q → A q := fun q h => by rw [← hAe]; exact Or.inr h
  have hS : va_S A s.heap s.heap [] := va_S.rf
  have hP : va_P D vwCl [(a0, .inr (8, [.ref a1, .int ln, p_2, p_3, p_4, p_5])), (a1, .inl (K 0, 400, .inl f))] s.heap := hP
  have hl := lv_entry [.ref a0, .int x] (n := 3) (Nat.le_of_ble_eq_true rfl)
  rw [lg_entry_eq]
  generalize (lg_sl [.ref a0, .int x] ++ List.replicate (3 - (lg_sl [.ref a0, .int x]).length) Slot.unset).toArray = ls at hl ⊢
  have hl : lv_has ls 3 [(0, .ref a0), (1, .int x)] := hl
  have hw8 : ∀ w ∈ wsX80, w ∈ wsX8_take := fun w h => (List.mem_cons_of_mem _ (List.mem_append_right _ h))
  generalize hQ : MQ below _ _ s _ _ _ = Q
  refine lv_bipush (v := 24) hx hb dX8_take_0 (by decide) ?_
  refine lv_istore_n (lv' := [(2, .int 24), (0, .ref a0), (1, .int x)]) hx hb dX8_take_2 rfl hl (by decide) rfl (fun ls hl => ?_)
  have lp_338 : ∀ (nn_ : Nat) (v_302 : Int32) (v_303 : Int32) (f_304 : Nat → Int32) (hv_302 : (-8) ≤ v_302.toInt ∧ v_302.toInt ≤ 24) (hv_303 : 0 ≤ v_303.toInt ∧ v_303.toInt ≤ 400) (hn : (v_302.toInt - (-9) : Int).toNat < nn_) (H : Heap) (locs : List Loc) (hP : va_P D vwCl [(a0, .inr (8, [.ref a1, .int v_303, p_2, p_3, p_4, p_5])), (a1, .inl (K 0, 400, .inl f_304))] H) (hD : va_D A [(a0, .inr (8, [.ref a1, .int v_303, p_2, p_3, p_4, p_5])), (a1, .inl (K 0, 400, .inl f_304))]) (hS : va_S A s.heap H locs) (ls : Array Slot) (hl : lv_has ls 3 [(2, .int v_302), (0, .ref a0), (1, .int x)]), W p l e ({ frames := 0, cells := 0, slots := 0, locals := 0 }) s m (([.ref a0, .int x] : List Value).toArray) below meth c H locs 0 0 Q (F0 m 3 ls []) := by
    intro nn_
    induction nn_ with
    | zero =>
      intro v_302 v_303 f_304 hv_302 hv_303 hn H locs hP hD hS ls hl
      exact absurd hn (Nat.not_lt_zero _)
    | succ nn_ ih_339 =>
      intro v_302 v_303 f_304 hv_302 hv_303 hn H locs hP hD hS ls hl
      refine lv_iload_n hx hb dX8_take_3 rfl (lv_at hl 0 rfl) ?_
      have j_347 : ∀ (H : Heap) (locs : List Loc) (hP : va_P D vwCl [(a0, .inr (8, [.ref a1, .int v_303, p_2, p_3, p_4, p_5])), (a1, .inl (K 0, 400, .inl f_304))] H) (hD : va_D A [(a0, .inr (8, [.ref a1, .int v_303, p_2, p_3, p_4, p_5])), (a1, .inl (K 0, 400, .inl f_304))]) (hS : va_S A s.heap H locs) (ls : Array Slot) (hl : lv_has ls 3 []), W p l e ({ frames := 0, cells := 0, slots := 0, locals := 0 }) s m (([.ref a0, .int x] : List Value).toArray) below meth c H locs 0 0 Q (F0 m 49 ls []) := by
        intro H locs hP hD hS ls hl
        rw [← hQ]
        have hP9 := hP.sub (ws' := [(a0, .inr (8, [.ref a1, .int v_303, p_2, p_3, p_4, p_5])), (a1, .inl (K 0, 400, .inl f_304))]) [0, 1] rfl
        have hD9 := hD.sub (ws' := [(a0, .inr (8, [.ref a1, .int v_303, p_2, p_3, p_4, p_5])), (a1, .inl (K 0, 400, .inl f_304))]) [0, 1] (by decide) rfl
        exact W.vret hx hb hr (fun t ht hW => ⟨⟨((fun _ => 0, fun i => match i with | _ => f_304, fun _ => fun _ => 0, fun i => match i with | _ => v_303, fun _ => 0, fun _ => fun _ => none) : Su), rfl, ⟨(show 0 ≤ (v_303 : Int32).toInt ∧ (v_303 : Int32).toInt ≤ 400 by omega), trivial⟩, (⟨by rw [ht]; exact hP9, hD9⟩ : Wd D A _ t)⟩, hS.F ht⟩) hS.2.2 dX8_take_49
      refine lv_if_lt (tgt := 49) hx hb dX8_take_4 (by decide) (fun c_348 => ?_) (fun c_348 => ?_)
      · have c_348i := i_lt (x := v_302.toInt) (y := 0) rfl rfl c_348
        exact j_347   _ _ hP hD hS ls (lv_sub hl [] rfl)
      · have c_348i := i_nlt (x := v_302.toInt) (y := 0) rfl rfl c_348
        refine lv_aload_n hx hb dX8_take_7 rfl (lv_at hl 1 rfl) ?_
        refine va_get (ci := 8) (v := .int v_303) (C := RX8) (T := TX8) (N := 6) hx hb hts hw8 hown hK hP 0 rfl rfl 1 (by decide) (hts (.fieldLink RX8 15 "SmokeTune$Tape" "length" "I") (List.mem_cons_of_mem _ (List.mem_append_left _ (List.mem_of_getElem? (i := 0) rfl)))) (fun _ h9 => h9) rfl dX8_take_8 ?_
        refine lv_sipush (v := 400) hx hb dX8_take_11 (by decide) ?_
        refine lv_icmp_ge (tgt := 49) hx hb dX8_take_14 (by decide) (fun c_349 => ?_) (fun c_349 => ?_)
        · have c_349i := i_le (x := 400) (y := v_303.toInt) rfl rfl c_349
          exact j_347   _ _ hP hD hS ls (lv_sub hl [] rfl)
        · have c_349i := i_nle (x := 400) (y := v_303.toInt) rfl rfl c_349
          refine lv_aload_n hx hb dX8_take_17 rfl (lv_at hl 1 rfl) ?_
          refine va_get (ci := 8) (v := .ref a1) (C := RX8) (T := TX8) (N := 6) hx hb hts hw8 hown hK hP 0 rfl rfl 0 (by decide) (hts (.fieldLink RX8 11 "SmokeTune$Tape" "bytes" "[I") (List.mem_cons_of_mem _ (List.mem_append_left _ (List.mem_of_getElem? (i := 1) rfl)))) (fun _ h9 => h9) rfl dX8_take_18 ?_
          refine lv_aload_n hx hb dX8_take_21 rfl (lv_at hl 1 rfl) ?_
          refine va_get (ci := 8) (v := .int v_303) (C := RX8) (T := TX8) (N := 6) hx hb hts hw8 hown hK hP 0 rfl rfl 1 (by decide) (hts (.fieldLink RX8 15 "SmokeTune$Tape" "length" "I") (List.mem_cons_of_mem _ (List.mem_append_left _ (List.mem_of_getElem? (i := 0) rfl)))) (fun _ h9 => h9) rfl dX8_take_22 ?_
          refine lv_iload_n hx hb dX8_take_25 rfl (lv_at hl 2 rfl) ?_
          refine lv_iload_n hx hb dX8_take_26 rfl (lv_at hl 0 rfl) ?_
          refine lv_ishr hx hb dX8_take_27 ?_
          refine lv_topi (fun x_350 ex_350 => ?_)
          refine lv_sipush (v := 255) hx hb dX8_take_28 (by decide) ?_
          refine lv_iand hx hb dX8_take_31 ?_
          refine lv_topi (fun x_351 ex_351 => ?_)
          have hx_351 : 0 ≤ x_351.toInt ∧ x_351.toInt ≤ 255 := by rw [ex_351]; exact i_mask x_350 8 rfl (by decide)
          refine va_iast hx hb hK hP hD hS 1 0 rfl rfl (i_in rfl (by omega)) dX8_take_32 (fun H locs hP hD hS => ?_)
          generalize hf_352 : (upd f_304 (v_303 : Int32).toNatClampNeg x_351) = f_352 at hP hD
          have hP : va_P D vwCl [(a0, .inr (8, [.ref a1, .int v_303, p_2, p_3, p_4, p_5])), (a1, .inl (K 0, 400, .inl f_352))] H := hP
          have hD : va_D A [(a0, .inr (8, [.ref a1, .int v_303, p_2, p_3, p_4, p_5])), (a1, .inl (K 0, 400, .inl f_352))] := hD
          refine lv_aload_n hx hb dX8_take_33 rfl (lv_at hl 1 rfl) ?_
          refine lv_dup hx hb dX8_take_34 rfl ?_
          refine va_get (ci := 8) (v := .int v_303) (C := RX8) (T := TX8) (N := 6) hx hb hts hw8 hown hK hP 0 rfl rfl 1 (by decide) (hts (.fieldLink RX8 15 "SmokeTune$Tape" "length" "I") (List.mem_cons_of_mem _ (List.mem_append_left _ (List.mem_of_getElem? (i := 0) rfl)))) (fun _ h9 => h9) rfl dX8_take_35 ?_
          refine lv_iconst (v := 1) hx hb dX8_take_38 (by decide) ?_
          refine lv_iadd hx hb dX8_take_39 ?_
          refine lv_topi (fun x_353 ex_353 => ?_)
          have hx_353 : x_353.toInt = (v_303.toInt + 1) := by rw [ex_353]; exact i_add rfl (show (1 : Int32).toInt = 1 from rfl) (by omega)
          refine va_put (ci := 8) (v := .int x_353) (ty := .int) (C := RX8) (T := TX8) (N := 6) hx hb hts hw8 tyX8 tyX8_ok nmX8 hown hK hP hD hS 0 rfl rfl 1 (by decide) (hts (.fieldLink RX8 15 "SmokeTune$Tape" "length" "I") (List.mem_cons_of_mem _ (List.mem_append_left _ (List.mem_of_getElem? (i := 0) rfl)))) (fun _ h9 => h9) rfl (by decide +kernel) (by first | rfl | decide) (by first | rfl | decide) (Nat.le_of_ble_eq_true rfl) dX8_take_40 (fun H locs hP hD hS => ?_)
          have hP : va_P D vwCl [(a0, .inr (8, [.ref a1, .int x_353, p_2, p_3, p_4, p_5])), (a1, .inl (K 0, 400, .inl f_352))] H := hP
          have hD : va_D A [(a0, .inr (8, [.ref a1, .int x_353, p_2, p_3, p_4, p_5])), (a1, .inl (K 0, 400, .inl f_352))] := hD
          obtain ⟨x_354, ex_354⟩ : ∃ y : Int32, y = v_302 + Int32.ofInt (-8) := ⟨_, rfl⟩
          have hx_354 : x_354.toInt = (v_302.toInt + (-8)) := by rw [ex_354]; exact i_add rfl (show (Int32.ofInt (-8)).toInt = (-8) from rfl) (by omega)
          refine lv_iinc (v := x_354) (lv' := [(2, .int x_354), (0, .ref a0), (1, .int x)]) hx hb dX8_take_43 hl (k := 0) rfl (by rw [ex_354]) (by decide) rfl (fun ls hl => ?_)
          refine lv_goto (tgt := 3) hx hb dX8_take_46 (by decide) ?_
          exact ih_339 x_354 x_353 f_352 (by rw [hx_354]; omega) (by rw [hx_353]; omega) (by omega) _ _ hP hD hS ls (lv_sub hl [0, 1, 2] rfl)
  exact lp_338 (((24 : Int32).toInt - (-9) : Int).toNat + 1) 24 ln f (by decide) (by omega) (Nat.lt_succ_self _) _ _ hP hD hS ls (lv_sub hl [0, 1, 2] rfl)
set_option maxHeartbeats 4000000 in
set_option maxRecDepth 100000 in
theorem w_byteAt (l : Launch) (D : va_G) (K : Nat → ClassId) (a0 : Nat) (x : Int32) (a1 : Nat) (ln : Int32) (p_2 : Value) (p_3 : Value) (p_4 : Value) (p_5 : Value) (f : Nat → Int32) (sz : Nat) : Met l yX8_byteAt wsX8_byteAt ({ frames := 0, cells := 0, slots := 0, locals := 0 }) (va_Pc [.ref a0, .int x] (Pre D K [(a0, .inr (8, [.ref a1, .int ln, p_2, p_3, p_4, p_5])), (a1, .inl (K 0, 400, .inl f))] sz)) (vp_Si (fun r : Int32 => True)) 0 0 (fun _ => False) := by
  refine Met.ofW (cc := cX8_byteAt) (maxL := 2) (ret := (some .int)) (by decide) rfl ?_
  intro p e s m args below meth c s₁ B hml hv
  obtain ⟨rfl, hsz, hP, hK, hD0, hN⟩ := hv
  have hx := B.exec
  have hb := B.bytes
  have hr := B.returns
  have hts := atoms_spec (ws := wsX8_byteAt) B.pre
  have hown : s.vm.findClass RX8 = some m.cls := findClass_of_methodNamed B.named
  have hlocks := B.notSynchronized
  subst hsz
  have hD := hD0
  have hP : va_P D vwCl [(a0, .inr (8, [.ref a1, .int ln, p_2, p_3, p_4, p_5])), (a1, .inl (K 0, 400, .inl f))] s.heap := hP
  have hl := lv_entry [.ref a0, .int x] (n := 2) (Nat.le_of_ble_eq_true rfl)
  rw [lg_entry_eq]
  generalize (lg_sl [.ref a0, .int x] ++ List.replicate (2 - (lg_sl [.ref a0, .int x]).length) Slot.unset).toArray = ls at hl ⊢
  have hl : lv_has ls 2 [(0, .ref a0), (1, .int x)] := hl
  have hw8 : ∀ w ∈ wsX80, w ∈ wsX8_byteAt := fun w h => (List.mem_cons_of_mem _ (List.mem_append_right _ h))
  generalize hQ : MQ below _ _ s _ _ _ = Q
  refine lv_iload_n hx hb dX8_byteAt_0 rfl (lv_at hl 1 rfl) ?_
  refine lv_if_lt (tgt := 28) hx hb dX8_byteAt_1 (by decide) (fun c_5 => ?_) (fun c_5 => ?_)
  · have c_5i := i_lt (x := x.toInt) (y := 0) rfl rfl c_5
    refine lv_iconst (v := (-1)) hx hb dX8_byteAt_28 (by decide) ?_
    rw [← hQ]
    exact W.iret (v := (-1)) hx hb hr (fun t ht hW => ⟨_, rfl, trivial, ht⟩) (fun q hq => by cases hq) dX8_byteAt_29
  · have c_5i := i_nlt (x := x.toInt) (y := 0) rfl rfl c_5
    refine lv_iload_n hx hb dX8_byteAt_4 rfl (lv_at hl 1 rfl) ?_
    refine lv_aload_n hx hb dX8_byteAt_5 rfl (lv_at hl 0 rfl) ?_
    refine va_get (ci := 8) (v := .int ln) (C := RX8) (T := TX8) (N := 6) hx hb hts hw8 hown hK hP 0 rfl rfl 1 (by decide) (hts (.fieldLink RX8 15 "SmokeTune$Tape" "length" "I") (List.mem_cons_of_mem _ (List.mem_append_left _ (List.mem_of_getElem? (i := 0) rfl)))) (fun _ h9 => h9) rfl dX8_byteAt_6 ?_
    refine lv_icmp_ge (tgt := 28) hx hb dX8_byteAt_9 (by decide) (fun c_6 => ?_) (fun c_6 => ?_)
    · have c_6i := i_le (x := ln.toInt) (y := x.toInt) rfl rfl c_6
      refine lv_iconst (v := (-1)) hx hb dX8_byteAt_28 (by decide) ?_
      rw [← hQ]
      exact W.iret (v := (-1)) hx hb hr (fun t ht hW => ⟨_, rfl, trivial, ht⟩) (fun q hq => by cases hq) dX8_byteAt_29
    · have c_6i := i_nle (x := ln.toInt) (y := x.toInt) rfl rfl c_6
      refine lv_iload_n hx hb dX8_byteAt_12 rfl (lv_at hl 1 rfl) ?_
      refine lv_sipush (v := 400) hx hb dX8_byteAt_13 (by decide) ?_
      refine lv_icmp_ge (tgt := 28) hx hb dX8_byteAt_16 (by decide) (fun c_7 => ?_) (fun c_7 => ?_)
      · have c_7i := i_le (x := 400) (y := x.toInt) rfl rfl c_7
        refine lv_iconst (v := (-1)) hx hb dX8_byteAt_28 (by decide) ?_
        rw [← hQ]
        exact W.iret (v := (-1)) hx hb hr (fun t ht hW => ⟨_, rfl, trivial, ht⟩) (fun q hq => by cases hq) dX8_byteAt_29
      · have c_7i := i_nle (x := 400) (y := x.toInt) rfl rfl c_7
        refine lv_aload_n hx hb dX8_byteAt_19 rfl (lv_at hl 0 rfl) ?_
        refine va_get (ci := 8) (v := .ref a1) (C := RX8) (T := TX8) (N := 6) hx hb hts hw8 hown hK hP 0 rfl rfl 0 (by decide) (hts (.fieldLink RX8 11 "SmokeTune$Tape" "bytes" "[I") (List.mem_cons_of_mem _ (List.mem_append_left _ (List.mem_of_getElem? (i := 1) rfl)))) (fun _ h9 => h9) rfl dX8_byteAt_20 ?_
        refine lv_iload_n hx hb dX8_byteAt_23 rfl (lv_at hl 1 rfl) ?_
        refine va_iald hx hb hK hP 1 0 rfl rfl (i_in rfl (by omega)) dX8_byteAt_24 ?_
        refine lv_topi (fun x_8 ex_8 => ?_)
        refine lv_goto (tgt := 29) hx hb dX8_byteAt_25 (by decide) ?_
        rw [← hQ]
        exact W.iret (v := x_8) hx hb hr (fun t ht hW => ⟨_, rfl, trivial, ht⟩) (fun q hq => by cases hq) dX8_byteAt_29
set_option maxHeartbeats 4000000 in
set_option maxRecDepth 100000 in
theorem w_step (l : Launch) (D : va_G) (K : Nat → ClassId) (a0 : Nat) (a1 : Nat) (ln : Int32) (fr : Int32) (to : Int32) (fi : Int32) (nu : Int32) (f : Nat → Int32) (sz : Nat) (zln : 0 ≤ ln.toInt ∧ ln.toInt ≤ 400) (zto : 0 ≤ to.toInt ∧ to.toInt ≤ 400) : Met l yX8_step wsX8_step ({ frames := 1, cells := 0, slots := 0, locals := 14 }) (va_Pc [.ref a0] (Pre D K [(a0, .inr (8, [.ref a1, .int ln, .int fr, .int to, .int fi, .int nu])), (a1, .inl (K 0, 400, .inl f))] sz)) (va_Qv (S := Su) (fun (u : Su) => (0 ≤ (u.2.2.2.1 0).toInt ∧ (u.2.2.2.1 0).toInt ≤ 400) ∧ (0 ≤ (u.2.2.2.1 1).toInt ∧ (u.2.2.2.1 1).toInt ≤ 400) ∧ ((-1) ≤ (u.2.2.2.1 3).toInt ∧ (u.2.2.2.1 3).toInt ≤ 1000000) ∧ True) (fun u t => Wd D (va_A [(a0, .inr (8, [.ref a1, .int ln, .int fr, .int to, .int fi, .int nu])), (a1, .inl (K 0, 400, .inl f))] sz) ((fun u => [(a0, .inr (8, [.ref a1, .int ln, .int (u.2.2.2.1 0), .int (u.2.2.2.1 1), .int (u.2.2.2.1 2), .int (u.2.2.2.1 3)])), (a1, .inl (K 0, 400, .inl f))]) u) t) (va_A [(a0, .inr (8, [.ref a1, .int ln, .int fr, .int to, .int fi, .int nu])), (a1, .inl (K 0, 400, .inl f))] sz)) 0 0 (va_A [(a0, .inr (8, [.ref a1, .int ln, .int fr, .int to, .int fi, .int nu])), (a1, .inl (K 0, 400, .inl f))] sz) := by
  refine Met.ofW (cc := cX8_step) (maxL := 5) (ret := none) (by decide) rfl ?_
  intro p e s m args below meth c s₁ B hml hv
  obtain ⟨rfl, hsz, hP, hK, hD0, hN⟩ := hv
  have hx := B.exec
  have hb := B.bytes
  have hr := B.returns
  have hts := atoms_spec (ws := wsX8_step) B.pre
  have hown : s.vm.findClass RX8 = some m.cls := findClass_of_methodNamed B.named
  have hlocks := B.notSynchronized
  subst hsz
  have hD := hD0.self (sz := s.heap.size)
  generalize hAe : va_A [(a0, .inr (8, [.ref a1, .int ln, .int fr, .int to, .int fi, .int nu])), (a1, .inl (K 0, 400, .inl f))] s.heap.size = A at hD ⊢
  have hA : ∀ q : Nat, s.heap.size ≤ q → A q := fun q h => by rw [← hAe]; exact Or.inr h
  have hS : va_S A s.heap s.heap [] := va_S.rf
  have hP : va_P D vwCl [(a0, .inr (8, [.ref a1, .int ln, .int fr, .int to, .int fi, .int nu])), (a1, .inl (K 0, 400, .inl f))] s.heap := hP
  have hl := lv_entry [.ref a0] (n := 5) (Nat.le_of_ble_eq_true rfl)
  rw [lg_entry_eq]
  generalize (lg_sl [.ref a0] ++ List.replicate (5 - (lg_sl [.ref a0]).length) Slot.unset).toArray = ls at hl ⊢
  have hl : lv_has ls 5 [(0, .ref a0)] := hl
  have hw8 : ∀ w ∈ wsX80, w ∈ wsX8_step := fun w h => (List.mem_cons_of_mem _ (List.mem_append_right _ h))
  generalize hQ : MQ below _ _ s _ _ _ = Q
  refine lv_aload_n hx hb dX8_step_0 rfl (lv_at hl 0 rfl) ?_
  refine lv_aload_n hx hb dX8_step_1 rfl (lv_at hl 0 rfl) ?_
  refine va_get (ci := 8) (v := .int to) (C := RX8) (T := TX8) (N := 6) hx hb hts hw8 hown hK hP 0 rfl rfl 3 (by decide) (hts (.fieldLink RX8 22 "SmokeTune$Tape" "to" "I") (List.mem_cons_of_mem _ (List.mem_append_left _ (List.mem_of_getElem? (i := 0) rfl)))) (fun _ h9 => h9) rfl dX8_step_2 ?_
  refine va_put (ci := 8) (v := .int to) (ty := .int) (C := RX8) (T := TX8) (N := 6) hx hb hts hw8 tyX8 tyX8_ok nmX8 hown hK hP hD hS 0 rfl rfl 2 (by decide) (hts (.fieldLink RX8 19 "SmokeTune$Tape" "from" "I") (List.mem_cons_of_mem _ (List.mem_append_left _ (List.mem_of_getElem? (i := 1) rfl)))) (fun _ h9 => h9) rfl (by decide +kernel) (by first | rfl | decide) (by first | rfl | decide) (Nat.le_of_ble_eq_true rfl) dX8_step_5 (fun H locs hP hD hS => ?_)
  have hP : va_P D vwCl [(a0, .inr (8, [.ref a1, .int ln, .int to, .int to, .int fi, .int nu])), (a1, .inl (K 0, 400, .inl f))] H := hP
  have hD : va_D A [(a0, .inr (8, [.ref a1, .int ln, .int to, .int to, .int fi, .int nu])), (a1, .inl (K 0, 400, .inl f))] := hD
  have lp_5464 : ∀ (nn_ : Nat) (v_5444 : Int32) (hv_5444 : 0 ≤ v_5444.toInt ∧ v_5444.toInt ≤ 400) (hn : (400 - v_5444.toInt : Int).toNat < nn_) (H : Heap) (locs : List Loc) (hP : va_P D vwCl [(a0, .inr (8, [.ref a1, .int ln, .int v_5444, .int to, .int fi, .int nu])), (a1, .inl (K 0, 400, .inl f))] H) (hD : va_D A [(a0, .inr (8, [.ref a1, .int ln, .int v_5444, .int to, .int fi, .int nu])), (a1, .inl (K 0, 400, .inl f))]) (hS : va_S A s.heap H locs) (ls : Array Slot) (hl : lv_has ls 5 [(0, .ref a0)]), W p l e ({ frames := 1, cells := 0, slots := 0, locals := 14 }) s m (([.ref a0] : List Value).toArray) below meth c H locs 0 0 Q (F0 m 8 ls []) := by
    intro nn_
    induction nn_ with
    | zero =>
      intro v_5444 hv_5444 hn H locs hP hD hS ls hl
      exact absurd hn (Nat.not_lt_zero _)
    | succ nn_ ih_5465 =>
      intro v_5444 hv_5444 hn H locs hP hD hS ls hl
      refine lv_aload_n hx hb dX8_step_8 rfl (lv_at hl 0 rfl) ?_
      refine va_get (ci := 8) (v := .int v_5444) (C := RX8) (T := TX8) (N := 6) hx hb hts hw8 hown hK hP 0 rfl rfl 2 (by decide) (hts (.fieldLink RX8 19 "SmokeTune$Tape" "from" "I") (List.mem_cons_of_mem _ (List.mem_append_left _ (List.mem_of_getElem? (i := 1) rfl)))) (fun _ h9 => h9) rfl dX8_step_9 ?_
      refine lv_aload_n hx hb dX8_step_12 rfl (lv_at hl 0 rfl) ?_
      refine va_get (ci := 8) (v := .int ln) (C := RX8) (T := TX8) (N := 6) hx hb hts hw8 hown hK hP 0 rfl rfl 1 (by decide) (hts (.fieldLink RX8 15 "SmokeTune$Tape" "length" "I") (List.mem_cons_of_mem _ (List.mem_append_left _ (List.mem_of_getElem? (i := 2) rfl)))) (fun _ h9 => h9) rfl dX8_step_13 ?_
      have j_6801 : ∀ (H : Heap) (locs : List Loc) (hP : va_P D vwCl [(a0, .inr (8, [.ref a1, .int ln, .int v_5444, .int to, .int fi, .int nu])), (a1, .inl (K 0, 400, .inl f))] H) (hD : va_D A [(a0, .inr (8, [.ref a1, .int ln, .int v_5444, .int to, .int fi, .int nu])), (a1, .inl (K 0, 400, .inl f))]) (hS : va_S A s.heap H locs) (ls : Array Slot) (hl : lv_has ls 5 [(0, .ref a0)]), W p l e ({ frames := 1, cells := 0, slots := 0, locals := 14 }) s m (([.ref a0] : List Value).toArray) below meth c H locs 0 0 Q (F0 m 46 ls []) := by
        intro H locs hP hD hS ls hl
        refine lv_aload_n hx hb dX8_step_46 rfl (lv_at hl 0 rfl) ?_
        refine lv_aload_n hx hb dX8_step_47 rfl (lv_at hl 0 rfl) ?_
        refine va_get (ci := 8) (v := .int v_5444) (C := RX8) (T := TX8) (N := 6) hx hb hts hw8 hown hK hP 0 rfl rfl 2 (by decide) (hts (.fieldLink RX8 19 "SmokeTune$Tape" "from" "I") (List.mem_cons_of_mem _ (List.mem_append_left _ (List.mem_of_getElem? (i := 1) rfl)))) (fun _ h9 => h9) rfl dX8_step_48 ?_
        refine lv_aload_n hx hb dX8_step_51 rfl (lv_at hl 0 rfl) ?_
        refine va_get (ci := 8) (v := .int ln) (C := RX8) (T := TX8) (N := 6) hx hb hts hw8 hown hK hP 0 rfl rfl 1 (by decide) (hts (.fieldLink RX8 15 "SmokeTune$Tape" "length" "I") (List.mem_cons_of_mem _ (List.mem_append_left _ (List.mem_of_getElem? (i := 2) rfl)))) (fun _ h9 => h9) rfl dX8_step_52 ?_
        have j_7468 : ∀ (v_7081 : Int32) (v_7082 : Int32) (hv_7082 : (-1) ≤ v_7082.toInt ∧ v_7082.toInt ≤ 9) (H : Heap) (locs : List Loc) (hP : va_P D vwCl [(a0, .inr (8, [.ref a1, .int ln, .int v_5444, .int to, .int v_7081, .int v_7082])), (a1, .inl (K 0, 400, .inl f))] H) (hD : va_D A [(a0, .inr (8, [.ref a1, .int ln, .int v_5444, .int to, .int v_7081, .int v_7082])), (a1, .inl (K 0, 400, .inl f))]) (hS : va_S A s.heap H locs) (ls : Array Slot) (hl : lv_has ls 5 [(0, .ref a0)]), W p l e ({ frames := 1, cells := 0, slots := 0, locals := 14 }) s m (([.ref a0] : List Value).toArray) below meth c H locs 0 0 Q (F0 m 129 ls []) := by
          intro v_7081 v_7082 hv_7082 H locs hP hD hS ls hl
          refine lv_iconst (v := 0) hx hb dX8_step_129 (by decide) ?_
          refine lv_istore_n (lv' := [(1, .int 0), (0, .ref a0)]) hx hb dX8_step_130 rfl hl (by decide) rfl (fun ls hl => ?_)
          refine lv_aload_n hx hb dX8_step_131 rfl (lv_at hl 1 rfl) ?_
          refine lv_aload_n hx hb dX8_step_132 rfl (lv_at hl 1 rfl) ?_
          refine va_get (ci := 8) (v := .int ln) (C := RX8) (T := TX8) (N := 6) hx hb hts hw8 hown hK hP 0 rfl rfl 1 (by decide) (hts (.fieldLink RX8 15 "SmokeTune$Tape" "length" "I") (List.mem_cons_of_mem _ (List.mem_append_left _ (List.mem_of_getElem? (i := 2) rfl)))) (fun _ h9 => h9) rfl dX8_step_133 ?_
          refine lv_aload_n hx hb dX8_step_136 rfl (lv_at hl 1 rfl) ?_
          refine va_get (ci := 8) (v := .int v_5444) (C := RX8) (T := TX8) (N := 6) hx hb hts hw8 hown hK hP 0 rfl rfl 2 (by decide) (hts (.fieldLink RX8 19 "SmokeTune$Tape" "from" "I") (List.mem_cons_of_mem _ (List.mem_append_left _ (List.mem_of_getElem? (i := 1) rfl)))) (fun _ h9 => h9) rfl dX8_step_137 ?_
          refine lv_iconst (v := 1) hx hb dX8_step_140 (by decide) ?_
          refine lv_iadd hx hb dX8_step_141 ?_
          refine lv_topi (fun x_7469 ex_7469 => ?_)
          have hx_7469 : x_7469.toInt = (v_5444.toInt + 1) := by rw [ex_7469]; exact i_add rfl (show (1 : Int32).toInt = 1 from rfl) (by omega)
          refine va_mmin hx hb (hml.trans hl.1.symm) hown (hts (.methodLink RX8 31 Lib.Math.min.name) (List.mem_cons_of_mem _ (List.mem_append_left _ (List.mem_of_getElem? (i := 6) rfl)))) (hts (.static Lib.Math.min.name) (List.mem_cons_of_mem _ (List.mem_append_left _ (List.mem_of_getElem? (i := 7) rfl)))) (hts (.initialized "java/lang/Math") (List.mem_cons_of_mem _ (List.mem_append_left _ (List.mem_of_getElem? (i := 8) rfl)))) (hts (.code Lib.Math.min.name Lib.Math.min.code 2 (some .int)) (List.mem_cons_of_mem _ (List.mem_append_left _ (List.mem_of_getElem? (i := 9) rfl)))) (Nat.le_of_ble_eq_true rfl) (Nat.le_of_ble_eq_true rfl) (Nat.le_of_ble_eq_true rfl) (Nat.le_of_ble_eq_true rfl) dX8_step_142 ?_
          refine lv_topi (fun x_7470 ex_7470 => ?_)
          have hx_7470 : (ln.toInt ≤ (v_5444.toInt + 1) ∧ x_7470.toInt = ln.toInt) ∨ ((v_5444.toInt + 1) < ln.toInt ∧ x_7470.toInt = (v_5444.toInt + 1)) := by rw [ex_7470]; exact i_min rfl hx_7469
          replace hx_7470 : x_7470.toInt ≤ ln.toInt ∧ x_7470.toInt ≤ (v_5444.toInt + 1) ∧ 0 ≤ x_7470.toInt ∧ x_7470.toInt ≤ 400 := by omega
          refine va_put (ci := 8) (v := .int x_7470) (ty := .int) (C := RX8) (T := TX8) (N := 6) hx hb hts hw8 tyX8 tyX8_ok nmX8 hown hK hP hD hS 0 rfl rfl 3 (by decide) (hts (.fieldLink RX8 22 "SmokeTune$Tape" "to" "I") (List.mem_cons_of_mem _ (List.mem_append_left _ (List.mem_of_getElem? (i := 0) rfl)))) (fun _ h9 => h9) rfl (by decide +kernel) (by first | rfl | decide) (by first | rfl | decide) (Nat.le_of_ble_eq_true rfl) dX8_step_145 (fun H locs hP hD hS => ?_)
          have hP : va_P D vwCl [(a0, .inr (8, [.ref a1, .int ln, .int v_5444, .int x_7470, .int v_7081, .int v_7082])), (a1, .inl (K 0, 400, .inl f))] H := hP
          have hD : va_D A [(a0, .inr (8, [.ref a1, .int ln, .int v_5444, .int x_7470, .int v_7081, .int v_7082])), (a1, .inl (K 0, 400, .inl f))] := hD
          have lp_7789 : ∀ (nn_ : Nat) (v_7661 : Int32) (v_7662 : Int32) (hv_7661 : 0 ≤ v_7661.toInt ∧ v_7661.toInt ≤ 400) (hv_7662 : (-1) ≤ v_7662.toInt ∧ v_7662.toInt ≤ 1000000) (hn : (400 - v_7661.toInt : Int).toNat < nn_) (H : Heap) (locs : List Loc) (hP : va_P D vwCl [(a0, .inr (8, [.ref a1, .int ln, .int v_5444, .int v_7661, .int v_7081, .int v_7662])), (a1, .inl (K 0, 400, .inl f))] H) (hD : va_D A [(a0, .inr (8, [.ref a1, .int ln, .int v_5444, .int v_7661, .int v_7081, .int v_7662])), (a1, .inl (K 0, 400, .inl f))]) (hS : va_S A s.heap H locs) (ls : Array Slot) (hl : lv_has ls 5 [(1, .int 0), (0, .ref a0)]), W p l e ({ frames := 1, cells := 0, slots := 0, locals := 14 }) s m (([.ref a0] : List Value).toArray) below meth c H locs 0 0 Q (F0 m 148 ls []) := by
            intro nn_
            induction nn_ with
            | zero =>
              intro v_7661 v_7662 hv_7661 hv_7662 hn H locs hP hD hS ls hl
              exact absurd hn (Nat.not_lt_zero _)
            | succ nn_ ih_7790 =>
              intro v_7661 v_7662 hv_7661 hv_7662 hn H locs hP hD hS ls hl
              refine lv_aload_n hx hb dX8_step_148 rfl (lv_at hl 1 rfl) ?_
              refine va_get (ci := 8) (v := .int v_7661) (C := RX8) (T := TX8) (N := 6) hx hb hts hw8 hown hK hP 0 rfl rfl 3 (by decide) (hts (.fieldLink RX8 22 "SmokeTune$Tape" "to" "I") (List.mem_cons_of_mem _ (List.mem_append_left _ (List.mem_of_getElem? (i := 0) rfl)))) (fun _ h9 => h9) rfl dX8_step_149 ?_
              refine lv_aload_n hx hb dX8_step_152 rfl (lv_at hl 1 rfl) ?_
              refine va_get (ci := 8) (v := .int ln) (C := RX8) (T := TX8) (N := 6) hx hb hts hw8 hown hK hP 0 rfl rfl 1 (by decide) (hts (.fieldLink RX8 15 "SmokeTune$Tape" "length" "I") (List.mem_cons_of_mem _ (List.mem_append_left _ (List.mem_of_getElem? (i := 2) rfl)))) (fun _ h9 => h9) rfl dX8_step_153 ?_
              have j_7822 : ∀ (H : Heap) (locs : List Loc) (hP : va_P D vwCl [(a0, .inr (8, [.ref a1, .int ln, .int v_5444, .int v_7661, .int v_7081, .int v_7662])), (a1, .inl (K 0, 400, .inl f))] H) (hD : va_D A [(a0, .inr (8, [.ref a1, .int ln, .int v_5444, .int v_7661, .int v_7081, .int v_7662])), (a1, .inl (K 0, 400, .inl f))]) (hS : va_S A s.heap H locs) (ls : Array Slot) (hl : lv_has ls 5 []), W p l e ({ frames := 1, cells := 0, slots := 0, locals := 14 }) s m (([.ref a0] : List Value).toArray) below meth c H locs 0 0 Q (F0 m 272 ls []) := by
                intro H locs hP hD hS ls hl
                rw [← hQ]
                have hP9 := hP.sub (ws' := [(a0, .inr (8, [.ref a1, .int ln, .int v_5444, .int v_7661, .int v_7081, .int v_7662])), (a1, .inl (K 0, 400, .inl f))]) [0, 1] rfl
                have hD9 := hD.sub (ws' := [(a0, .inr (8, [.ref a1, .int ln, .int v_5444, .int v_7661, .int v_7081, .int v_7662])), (a1, .inl (K 0, 400, .inl f))]) [0, 1] (by decide) rfl
                exact W.vret hx hb hr (fun t ht hW => ⟨⟨((fun _ => 0, fun _ => fun _ => 0, fun _ => fun _ => 0, fun i => match i with | 0 => v_5444 | 1 => v_7661 | 2 => v_7081 | _ => v_7662, fun _ => 0, fun _ => fun _ => none) : Su), rfl, ⟨(show 0 ≤ (v_5444 : Int32).toInt ∧ (v_5444 : Int32).toInt ≤ 400 by omega), (show 0 ≤ (v_7661 : Int32).toInt ∧ (v_7661 : Int32).toInt ≤ 400 by omega), (show (-1) ≤ (v_7662 : Int32).toInt ∧ (v_7662 : Int32).toInt ≤ 1000000 by omega), trivial⟩, (⟨by rw [ht]; exact hP9, hD9⟩ : Wd D A _ t)⟩, hS.F ht⟩) hS.2.2 dX8_step_272
              refine lv_icmp_ge (tgt := 272) hx hb dX8_step_156 (by decide) (fun c_7823 => ?_) (fun c_7823 => ?_)
              · have c_7823i := i_le (x := ln.toInt) (y := v_7661.toInt) rfl rfl c_7823
                exact j_7822   _ _ hP hD hS ls (lv_sub hl [] rfl)
              · have c_7823i := i_nle (x := ln.toInt) (y := v_7661.toInt) rfl rfl c_7823
                refine lv_aload_n hx hb dX8_step_159 rfl (lv_at hl 1 rfl) ?_
                refine va_get (ci := 8) (v := .ref a1) (C := RX8) (T := TX8) (N := 6) hx hb hts hw8 hown hK hP 0 rfl rfl 0 (by decide) (hts (.fieldLink RX8 11 "SmokeTune$Tape" "bytes" "[I") (List.mem_cons_of_mem _ (List.mem_append_left _ (List.mem_of_getElem? (i := 3) rfl)))) (fun _ h9 => h9) rfl dX8_step_160 ?_
                refine lv_aload_n hx hb dX8_step_163 rfl (lv_at hl 1 rfl) ?_
                refine va_get (ci := 8) (v := .int v_7661) (C := RX8) (T := TX8) (N := 6) hx hb hts hw8 hown hK hP 0 rfl rfl 3 (by decide) (hts (.fieldLink RX8 22 "SmokeTune$Tape" "to" "I") (List.mem_cons_of_mem _ (List.mem_append_left _ (List.mem_of_getElem? (i := 0) rfl)))) (fun _ h9 => h9) rfl dX8_step_164 ?_
                refine va_iald hx hb hK hP 1 0 rfl rfl (i_in rfl (by omega)) dX8_step_167 ?_
                refine lv_topi (fun x_7824 ex_7824 => ?_)
                refine lv_istore_n (lv' := [(2, .int x_7824), (1, .int 0), (0, .ref a0)]) hx hb dX8_step_168 rfl hl (by decide) rfl (fun ls hl => ?_)
                refine lv_aload_n hx hb dX8_step_169 rfl (lv_at hl 2 rfl) ?_
                refine va_get (ci := 8) (v := .int v_7662) (C := RX8) (T := TX8) (N := 6) hx hb hts hw8 hown hK hP 0 rfl rfl 5 (by decide) (hts (.fieldLink RX8 28 "SmokeTune$Tape" "number" "I") (List.mem_cons_of_mem _ (List.mem_append_left _ (List.mem_of_getElem? (i := 5) rfl)))) (fun _ h9 => h9) rfl dX8_step_170 ?_
                refine lv_iconst (v := (-1)) hx hb dX8_step_173 (by decide) ?_
                have j_7839 : ∀ (H : Heap) (locs : List Loc) (hP : va_P D vwCl [(a0, .inr (8, [.ref a1, .int ln, .int v_5444, .int v_7661, .int v_7081, .int v_7662])), (a1, .inl (K 0, 400, .inl f))] H) (hD : va_D A [(a0, .inr (8, [.ref a1, .int ln, .int v_5444, .int v_7661, .int v_7081, .int v_7662])), (a1, .inl (K 0, 400, .inl f))]) (hS : va_S A s.heap H locs) (ls : Array Slot) (hl : lv_has ls 5 [(2, .int x_7824), (1, .int 0), (0, .ref a0)]), W p l e ({ frames := 1, cells := 0, slots := 0, locals := 14 }) s m (([.ref a0] : List Value).toArray) below meth c H locs 0 0 Q (F0 m 193 ls []) := by
                  intro H locs hP hD hS ls hl
                  refine lv_iconst (v := 0) hx hb dX8_step_193 (by decide) ?_
                  refine lv_istore_n (lv' := [(3, .int 0), (2, .int x_7824), (1, .int 0), (0, .ref a0)]) hx hb dX8_step_194 rfl hl (by decide) rfl (fun ls hl => ?_)
                  refine lv_iload_n hx hb dX8_step_195 rfl (lv_at hl 2 rfl) ?_
                  refine lv_if_eq (tgt := 215) hx hb dX8_step_196 (by decide) (fun c_7840 => ?_) (fun c_7840 => absurd (by decide) c_7840)
                  refine lv_iconst (v := 0) hx hb dX8_step_215 (by decide) ?_
                  refine lv_istore (lv' := [(4, .int 0), (3, .int 0), (2, .int x_7824), (1, .int 0), (0, .ref a0)]) hx hb dX8_step_216 hl (by decide) rfl (fun ls hl => ?_)
                  refine lv_iload_n hx hb dX8_step_218 rfl (lv_at hl 1 rfl) ?_
                  refine lv_if_ne (tgt := 230) hx hb dX8_step_219 (by decide) (fun c_7841 => absurd (by decide) c_7841) (fun c_7841 => ?_)
                  refine lv_iload hx hb dX8_step_222 (lv_at hl 0 rfl) ?_
                  refine lv_if_ne (tgt := 230) hx hb dX8_step_224 (by decide) (fun c_7842 => absurd (by decide) c_7842) (fun c_7842 => ?_)
                  refine lv_goto (tgt := 272) hx hb dX8_step_227 (by decide) ?_
                  exact j_7822   _ _ hP hD hS ls (lv_sub hl [] rfl)
                refine lv_icmp_eq (tgt := 193) hx hb dX8_step_174 (by decide) (fun c_7843 => ?_) (fun c_7843 => ?_)
                · have c_7843i := i_eq (x := v_7662.toInt) (y := (-1)) rfl rfl c_7843
                  exact j_7839   _ _ hP hD hS ls (lv_sub hl [0, 1, 2] rfl)
                · have c_7843i := i_ne (x := v_7662.toInt) (y := (-1)) rfl rfl c_7843
                  refine lv_iload_n hx hb dX8_step_177 rfl (lv_at hl 0 rfl) ?_
                  refine lv_bipush (v := 48) hx hb dX8_step_178 (by decide) ?_
                  refine lv_icmp_lt (tgt := 193) hx hb dX8_step_180 (by decide) (fun c_7844 => ?_) (fun c_7844 => ?_)
                  · have c_7844i := i_lt (x := x_7824.toInt) (y := 48) rfl rfl c_7844
                    exact j_7839   _ _ hP hD hS ls (lv_sub hl [0, 1, 2] rfl)
                  · have c_7844i := i_nlt (x := x_7824.toInt) (y := 48) rfl rfl c_7844
                    refine lv_iload_n hx hb dX8_step_183 rfl (lv_at hl 0 rfl) ?_
                    refine lv_bipush (v := 57) hx hb dX8_step_184 (by decide) ?_
                    refine lv_icmp_gt (tgt := 193) hx hb dX8_step_186 (by decide) (fun c_7845 => ?_) (fun c_7845 => ?_)
                    · have c_7845i := i_lt (x := 57) (y := x_7824.toInt) rfl rfl c_7845
                      exact j_7839   _ _ hP hD hS ls (lv_sub hl [0, 1, 2] rfl)
                    · have c_7845i := i_nlt (x := 57) (y := x_7824.toInt) rfl rfl c_7845
                      refine lv_iconst (v := 1) hx hb dX8_step_189 (by decide) ?_
                      refine lv_goto (tgt := 194) hx hb dX8_step_190 (by decide) ?_
                      refine lv_istore_n (lv' := [(3, .int 1), (2, .int x_7824), (1, .int 0), (0, .ref a0)]) hx hb dX8_step_194 rfl hl (by decide) rfl (fun ls hl => ?_)
                      refine lv_iload_n hx hb dX8_step_195 rfl (lv_at hl 2 rfl) ?_
                      refine lv_if_eq (tgt := 215) hx hb dX8_step_196 (by decide) (fun c_7846 => ?_) (fun c_7846 => absurd (by decide) c_7846)
                      refine lv_iconst (v := 0) hx hb dX8_step_215 (by decide) ?_
                      refine lv_istore (lv' := [(4, .int 0), (3, .int 1), (2, .int x_7824), (1, .int 0), (0, .ref a0)]) hx hb dX8_step_216 hl (by decide) rfl (fun ls hl => ?_)
                      refine lv_iload_n hx hb dX8_step_218 rfl (lv_at hl 1 rfl) ?_
                      refine lv_if_ne (tgt := 230) hx hb dX8_step_219 (by decide) (fun c_7847 => ?_) (fun c_7847 => absurd c_7847 (by decide))
                      refine lv_aload_n hx hb dX8_step_230 rfl (lv_at hl 4 rfl) ?_
                      refine lv_iload_n hx hb dX8_step_231 rfl (lv_at hl 1 rfl) ?_
                      refine lv_if_eq (tgt := 255) hx hb dX8_step_232 (by decide) (fun c_7848 => absurd c_7848 (by decide)) (fun c_7848 => ?_)
                      refine lv_ldc (v := 1000000) hx hb hown (hts (.constant RX8 37 (1000000)) (List.mem_cons_of_mem _ (List.mem_append_left _ (List.mem_of_getElem? (i := 10) rfl)))) dX8_step_235 ?_
                      refine lv_aload_n hx hb dX8_step_237 rfl (lv_at hl 4 rfl) ?_
                      refine va_get (ci := 8) (v := .int v_7662) (C := RX8) (T := TX8) (N := 6) hx hb hts hw8 hown hK hP 0 rfl rfl 5 (by decide) (hts (.fieldLink RX8 28 "SmokeTune$Tape" "number" "I") (List.mem_cons_of_mem _ (List.mem_append_left _ (List.mem_of_getElem? (i := 5) rfl)))) (fun _ h9 => h9) rfl dX8_step_238 ?_
                      refine lv_bipush (v := 10) hx hb dX8_step_241 (by decide) ?_
                      refine lv_imul hx hb dX8_step_243 ?_
                      refine lv_topi (fun x_7849 ex_7849 => ?_)
                      have hx_7849 : x_7849.toInt = (v_7662.toInt * 10) := by rw [ex_7849]; exact i_mul rfl (show (10 : Int32).toInt = 10 from rfl) (by omega)
                      refine lv_iload_n hx hb dX8_step_244 rfl (lv_at hl 2 rfl) ?_
                      refine lv_iadd hx hb dX8_step_245 ?_
                      refine lv_topi (fun x_7850 ex_7850 => ?_)
                      have hx_7850 : x_7850.toInt = ((v_7662.toInt * 10) + x_7824.toInt) := by rw [ex_7850]; exact i_add hx_7849 rfl (by omega)
                      refine lv_bipush (v := 48) hx hb dX8_step_246 (by decide) ?_
                      refine lv_isub hx hb dX8_step_248 ?_
                      refine lv_topi (fun x_7851 ex_7851 => ?_)
                      have hx_7851 : x_7851.toInt = (((v_7662.toInt * 10) + x_7824.toInt) - 48) := by rw [ex_7851]; exact i_sub hx_7850 (show (48 : Int32).toInt = 48 from rfl) (by omega)
                      refine va_mmin hx hb (hml.trans hl.1.symm) hown (hts (.methodLink RX8 31 Lib.Math.min.name) (List.mem_cons_of_mem _ (List.mem_append_left _ (List.mem_of_getElem? (i := 6) rfl)))) (hts (.static Lib.Math.min.name) (List.mem_cons_of_mem _ (List.mem_append_left _ (List.mem_of_getElem? (i := 7) rfl)))) (hts (.initialized "java/lang/Math") (List.mem_cons_of_mem _ (List.mem_append_left _ (List.mem_of_getElem? (i := 8) rfl)))) (hts (.code Lib.Math.min.name Lib.Math.min.code 2 (some .int)) (List.mem_cons_of_mem _ (List.mem_append_left _ (List.mem_of_getElem? (i := 9) rfl)))) (Nat.le_of_ble_eq_true rfl) (Nat.le_of_ble_eq_true rfl) (Nat.le_of_ble_eq_true rfl) (Nat.le_of_ble_eq_true rfl) dX8_step_249 ?_
                      refine lv_topi (fun x_7852 ex_7852 => ?_)
                      have hx_7852 : (1000000 ≤ (((v_7662.toInt * 10) + x_7824.toInt) - 48) ∧ x_7852.toInt = 1000000) ∨ ((((v_7662.toInt * 10) + x_7824.toInt) - 48) < 1000000 ∧ x_7852.toInt = (((v_7662.toInt * 10) + x_7824.toInt) - 48)) := by rw [ex_7852]; exact i_min (show (1000000 : Int32).toInt = 1000000 from rfl) hx_7851
                      replace hx_7852 : x_7852.toInt ≤ (((v_7662.toInt * 10) + x_7824.toInt) - 48) ∧ 0 ≤ x_7852.toInt ∧ x_7852.toInt ≤ 1000000 := by omega
                      refine lv_goto (tgt := 256) hx hb dX8_step_252 (by decide) ?_
                      refine va_put (ci := 8) (v := .int x_7852) (ty := .int) (C := RX8) (T := TX8) (N := 6) hx hb hts hw8 tyX8 tyX8_ok nmX8 hown hK hP hD hS 0 rfl rfl 5 (by decide) (hts (.fieldLink RX8 28 "SmokeTune$Tape" "number" "I") (List.mem_cons_of_mem _ (List.mem_append_left _ (List.mem_of_getElem? (i := 5) rfl)))) (fun _ h9 => h9) rfl (by decide +kernel) (by first | rfl | decide) (by first | rfl | decide) (Nat.le_of_ble_eq_true rfl) dX8_step_256 (fun H locs hP hD hS => ?_)
                      have hP : va_P D vwCl [(a0, .inr (8, [.ref a1, .int ln, .int v_5444, .int v_7661, .int v_7081, .int x_7852])), (a1, .inl (K 0, 400, .inl f))] H := hP
                      have hD : va_D A [(a0, .inr (8, [.ref a1, .int ln, .int v_5444, .int v_7661, .int v_7081, .int x_7852])), (a1, .inl (K 0, 400, .inl f))] := hD
                      refine lv_aload_n hx hb dX8_step_259 rfl (lv_at hl 4 rfl) ?_
                      refine lv_dup hx hb dX8_step_260 rfl ?_
                      refine va_get (ci := 8) (v := .int v_7661) (C := RX8) (T := TX8) (N := 6) hx hb hts hw8 hown hK hP 0 rfl rfl 3 (by decide) (hts (.fieldLink RX8 22 "SmokeTune$Tape" "to" "I") (List.mem_cons_of_mem _ (List.mem_append_left _ (List.mem_of_getElem? (i := 0) rfl)))) (fun _ h9 => h9) rfl dX8_step_261 ?_
                      refine lv_iconst (v := 1) hx hb dX8_step_264 (by decide) ?_
                      refine lv_iadd hx hb dX8_step_265 ?_
                      refine lv_topi (fun x_7853 ex_7853 => ?_)
                      have hx_7853 : x_7853.toInt = (v_7661.toInt + 1) := by rw [ex_7853]; exact i_add rfl (show (1 : Int32).toInt = 1 from rfl) (by omega)
                      refine va_put (ci := 8) (v := .int x_7853) (ty := .int) (C := RX8) (T := TX8) (N := 6) hx hb hts hw8 tyX8 tyX8_ok nmX8 hown hK hP hD hS 0 rfl rfl 3 (by decide) (hts (.fieldLink RX8 22 "SmokeTune$Tape" "to" "I") (List.mem_cons_of_mem _ (List.mem_append_left _ (List.mem_of_getElem? (i := 0) rfl)))) (fun _ h9 => h9) rfl (by decide +kernel) (by first | rfl | decide) (by first | rfl | decide) (Nat.le_of_ble_eq_true rfl) dX8_step_266 (fun H locs hP hD hS => ?_)
                      have hP : va_P D vwCl [(a0, .inr (8, [.ref a1, .int ln, .int v_5444, .int x_7853, .int v_7081, .int x_7852])), (a1, .inl (K 0, 400, .inl f))] H := hP
                      have hD : va_D A [(a0, .inr (8, [.ref a1, .int ln, .int v_5444, .int x_7853, .int v_7081, .int x_7852])), (a1, .inl (K 0, 400, .inl f))] := hD
                      refine lv_goto (tgt := 148) hx hb dX8_step_269 (by decide) ?_
                      exact ih_7790 x_7853 x_7852 (by rw [hx_7853]; omega) (by omega) (by omega) _ _ hP hD hS ls (lv_sub hl [3, 4] rfl)
          exact lp_7789 ((400 - (x_7470 : Int32).toInt : Int).toNat + 1) x_7470 v_7082 (by omega) (by omega) (Nat.lt_succ_self _) _ _ hP hD hS ls (lv_sub hl [0, 1] rfl)
        refine lv_icmp_ge (tgt := 70) hx hb dX8_step_55 (by decide) (fun c_7854 => ?_) (fun c_7854 => ?_)
        · have c_7854i := i_le (x := ln.toInt) (y := v_5444.toInt) rfl rfl c_7854
          refine lv_iconst (v := (-1)) hx hb dX8_step_70 (by decide) ?_
          refine va_put (ci := 8) (v := .int (-1)) (ty := .int) (C := RX8) (T := TX8) (N := 6) hx hb hts hw8 tyX8 tyX8_ok nmX8 hown hK hP hD hS 0 rfl rfl 4 (by decide) (hts (.fieldLink RX8 25 "SmokeTune$Tape" "first" "I") (List.mem_cons_of_mem _ (List.mem_append_left _ (List.mem_of_getElem? (i := 4) rfl)))) (fun _ h9 => h9) rfl (by decide +kernel) (by first | rfl | decide) (by first | rfl | decide) (Nat.le_of_ble_eq_true rfl) dX8_step_71 (fun H locs hP hD hS => ?_)
          have hP : va_P D vwCl [(a0, .inr (8, [.ref a1, .int ln, .int v_5444, .int to, .int (-1), .int nu])), (a1, .inl (K 0, 400, .inl f))] H := hP
          have hD : va_D A [(a0, .inr (8, [.ref a1, .int ln, .int v_5444, .int to, .int (-1), .int nu])), (a1, .inl (K 0, 400, .inl f))] := hD
          refine lv_aload_n hx hb dX8_step_74 rfl (lv_at hl 0 rfl) ?_
          refine lv_aload_n hx hb dX8_step_75 rfl (lv_at hl 0 rfl) ?_
          refine va_get (ci := 8) (v := .int (-1)) (C := RX8) (T := TX8) (N := 6) hx hb hts hw8 hown hK hP 0 rfl rfl 4 (by decide) (hts (.fieldLink RX8 25 "SmokeTune$Tape" "first" "I") (List.mem_cons_of_mem _ (List.mem_append_left _ (List.mem_of_getElem? (i := 4) rfl)))) (fun _ h9 => h9) rfl dX8_step_76 ?_
          refine lv_bipush (v := 48) hx hb dX8_step_79 (by decide) ?_
          refine lv_icmp_lt (tgt := 103) hx hb dX8_step_81 (by decide) (fun c_7855 => ?_) (fun c_7855 => absurd (by decide) c_7855)
          refine lv_iconst (v := (-1)) hx hb dX8_step_103 (by decide) ?_
          refine va_put (ci := 8) (v := .int (-1)) (ty := .int) (C := RX8) (T := TX8) (N := 6) hx hb hts hw8 tyX8 tyX8_ok nmX8 hown hK hP hD hS 0 rfl rfl 5 (by decide) (hts (.fieldLink RX8 28 "SmokeTune$Tape" "number" "I") (List.mem_cons_of_mem _ (List.mem_append_left _ (List.mem_of_getElem? (i := 5) rfl)))) (fun _ h9 => h9) rfl (by decide +kernel) (by first | rfl | decide) (by first | rfl | decide) (Nat.le_of_ble_eq_true rfl) dX8_step_104 (fun H locs hP hD hS => ?_)
          have hP : va_P D vwCl [(a0, .inr (8, [.ref a1, .int ln, .int v_5444, .int to, .int (-1), .int (-1)])), (a1, .inl (K 0, 400, .inl f))] H := hP
          have hD : va_D A [(a0, .inr (8, [.ref a1, .int ln, .int v_5444, .int to, .int (-1), .int (-1)])), (a1, .inl (K 0, 400, .inl f))] := hD
          refine lv_aload_n hx hb dX8_step_107 rfl (lv_at hl 0 rfl) ?_
          refine va_get (ci := 8) (v := .int (-1)) (C := RX8) (T := TX8) (N := 6) hx hb hts hw8 hown hK hP 0 rfl rfl 4 (by decide) (hts (.fieldLink RX8 25 "SmokeTune$Tape" "first" "I") (List.mem_cons_of_mem _ (List.mem_append_left _ (List.mem_of_getElem? (i := 4) rfl)))) (fun _ h9 => h9) rfl dX8_step_108 ?_
          refine lv_bipush (v := 97) hx hb dX8_step_111 (by decide) ?_
          refine lv_icmp_lt (tgt := 129) hx hb dX8_step_113 (by decide) (fun c_7856 => ?_) (fun c_7856 => absurd (by decide) c_7856)
          exact j_7468 (-1) (-1) (by decide) _ _ hP hD hS ls (lv_sub hl [0] rfl)
        · have c_7854i := i_nle (x := ln.toInt) (y := v_5444.toInt) rfl rfl c_7854
          refine lv_aload_n hx hb dX8_step_58 rfl (lv_at hl 0 rfl) ?_
          refine va_get (ci := 8) (v := .ref a1) (C := RX8) (T := TX8) (N := 6) hx hb hts hw8 hown hK hP 0 rfl rfl 0 (by decide) (hts (.fieldLink RX8 11 "SmokeTune$Tape" "bytes" "[I") (List.mem_cons_of_mem _ (List.mem_append_left _ (List.mem_of_getElem? (i := 3) rfl)))) (fun _ h9 => h9) rfl dX8_step_59 ?_
          refine lv_aload_n hx hb dX8_step_62 rfl (lv_at hl 0 rfl) ?_
          refine va_get (ci := 8) (v := .int v_5444) (C := RX8) (T := TX8) (N := 6) hx hb hts hw8 hown hK hP 0 rfl rfl 2 (by decide) (hts (.fieldLink RX8 19 "SmokeTune$Tape" "from" "I") (List.mem_cons_of_mem _ (List.mem_append_left _ (List.mem_of_getElem? (i := 1) rfl)))) (fun _ h9 => h9) rfl dX8_step_63 ?_
          refine va_iald hx hb hK hP 1 0 rfl rfl (i_in rfl (by omega)) dX8_step_66 ?_
          refine lv_topi (fun x_7857 ex_7857 => ?_)
          refine lv_goto (tgt := 71) hx hb dX8_step_67 (by decide) ?_
          refine va_put (ci := 8) (v := .int x_7857) (ty := .int) (C := RX8) (T := TX8) (N := 6) hx hb hts hw8 tyX8 tyX8_ok nmX8 hown hK hP hD hS 0 rfl rfl 4 (by decide) (hts (.fieldLink RX8 25 "SmokeTune$Tape" "first" "I") (List.mem_cons_of_mem _ (List.mem_append_left _ (List.mem_of_getElem? (i := 4) rfl)))) (fun _ h9 => h9) rfl (by decide +kernel) (by first | rfl | decide) (by first | rfl | decide) (Nat.le_of_ble_eq_true rfl) dX8_step_71 (fun H locs hP hD hS => ?_)
          have hP : va_P D vwCl [(a0, .inr (8, [.ref a1, .int ln, .int v_5444, .int to, .int x_7857, .int nu])), (a1, .inl (K 0, 400, .inl f))] H := hP
          have hD : va_D A [(a0, .inr (8, [.ref a1, .int ln, .int v_5444, .int to, .int x_7857, .int nu])), (a1, .inl (K 0, 400, .inl f))] := hD
          refine lv_aload_n hx hb dX8_step_74 rfl (lv_at hl 0 rfl) ?_
          refine lv_aload_n hx hb dX8_step_75 rfl (lv_at hl 0 rfl) ?_
          refine va_get (ci := 8) (v := .int x_7857) (C := RX8) (T := TX8) (N := 6) hx hb hts hw8 hown hK hP 0 rfl rfl 4 (by decide) (hts (.fieldLink RX8 25 "SmokeTune$Tape" "first" "I") (List.mem_cons_of_mem _ (List.mem_append_left _ (List.mem_of_getElem? (i := 4) rfl)))) (fun _ h9 => h9) rfl dX8_step_76 ?_
          refine lv_bipush (v := 48) hx hb dX8_step_79 (by decide) ?_
          refine lv_icmp_lt (tgt := 103) hx hb dX8_step_81 (by decide) (fun c_7858 => ?_) (fun c_7858 => ?_)
          · have c_7858i := i_lt (x := x_7857.toInt) (y := 48) rfl rfl c_7858
            refine lv_iconst (v := (-1)) hx hb dX8_step_103 (by decide) ?_
            refine va_put (ci := 8) (v := .int (-1)) (ty := .int) (C := RX8) (T := TX8) (N := 6) hx hb hts hw8 tyX8 tyX8_ok nmX8 hown hK hP hD hS 0 rfl rfl 5 (by decide) (hts (.fieldLink RX8 28 "SmokeTune$Tape" "number" "I") (List.mem_cons_of_mem _ (List.mem_append_left _ (List.mem_of_getElem? (i := 5) rfl)))) (fun _ h9 => h9) rfl (by decide +kernel) (by first | rfl | decide) (by first | rfl | decide) (Nat.le_of_ble_eq_true rfl) dX8_step_104 (fun H locs hP hD hS => ?_)
            have hP : va_P D vwCl [(a0, .inr (8, [.ref a1, .int ln, .int v_5444, .int to, .int x_7857, .int (-1)])), (a1, .inl (K 0, 400, .inl f))] H := hP
            have hD : va_D A [(a0, .inr (8, [.ref a1, .int ln, .int v_5444, .int to, .int x_7857, .int (-1)])), (a1, .inl (K 0, 400, .inl f))] := hD
            refine lv_aload_n hx hb dX8_step_107 rfl (lv_at hl 0 rfl) ?_
            refine va_get (ci := 8) (v := .int x_7857) (C := RX8) (T := TX8) (N := 6) hx hb hts hw8 hown hK hP 0 rfl rfl 4 (by decide) (hts (.fieldLink RX8 25 "SmokeTune$Tape" "first" "I") (List.mem_cons_of_mem _ (List.mem_append_left _ (List.mem_of_getElem? (i := 4) rfl)))) (fun _ h9 => h9) rfl dX8_step_108 ?_
            refine lv_bipush (v := 97) hx hb dX8_step_111 (by decide) ?_
            refine lv_icmp_lt (tgt := 129) hx hb dX8_step_113 (by decide) (fun c_7859 => ?_) (fun c_7859 => ?_)
            · have c_7859i := i_lt (x := x_7857.toInt) (y := 97) rfl rfl c_7859
              exact j_7468 x_7857 (-1) (by decide) _ _ hP hD hS ls (lv_sub hl [0] rfl)
            · have c_7859i := i_nlt (x := x_7857.toInt) (y := 97) rfl rfl c_7859
              exfalso; omega
          · have c_7858i := i_nlt (x := x_7857.toInt) (y := 48) rfl rfl c_7858
            refine lv_aload_n hx hb dX8_step_84 rfl (lv_at hl 0 rfl) ?_
            refine va_get (ci := 8) (v := .int x_7857) (C := RX8) (T := TX8) (N := 6) hx hb hts hw8 hown hK hP 0 rfl rfl 4 (by decide) (hts (.fieldLink RX8 25 "SmokeTune$Tape" "first" "I") (List.mem_cons_of_mem _ (List.mem_append_left _ (List.mem_of_getElem? (i := 4) rfl)))) (fun _ h9 => h9) rfl dX8_step_85 ?_
            refine lv_bipush (v := 57) hx hb dX8_step_88 (by decide) ?_
            refine lv_icmp_gt (tgt := 103) hx hb dX8_step_90 (by decide) (fun c_7860 => ?_) (fun c_7860 => ?_)
            · have c_7860i := i_lt (x := 57) (y := x_7857.toInt) rfl rfl c_7860
              refine lv_iconst (v := (-1)) hx hb dX8_step_103 (by decide) ?_
              refine va_put (ci := 8) (v := .int (-1)) (ty := .int) (C := RX8) (T := TX8) (N := 6) hx hb hts hw8 tyX8 tyX8_ok nmX8 hown hK hP hD hS 0 rfl rfl 5 (by decide) (hts (.fieldLink RX8 28 "SmokeTune$Tape" "number" "I") (List.mem_cons_of_mem _ (List.mem_append_left _ (List.mem_of_getElem? (i := 5) rfl)))) (fun _ h9 => h9) rfl (by decide +kernel) (by first | rfl | decide) (by first | rfl | decide) (Nat.le_of_ble_eq_true rfl) dX8_step_104 (fun H locs hP hD hS => ?_)
              have hP : va_P D vwCl [(a0, .inr (8, [.ref a1, .int ln, .int v_5444, .int to, .int x_7857, .int (-1)])), (a1, .inl (K 0, 400, .inl f))] H := hP
              have hD : va_D A [(a0, .inr (8, [.ref a1, .int ln, .int v_5444, .int to, .int x_7857, .int (-1)])), (a1, .inl (K 0, 400, .inl f))] := hD
              refine lv_aload_n hx hb dX8_step_107 rfl (lv_at hl 0 rfl) ?_
              refine va_get (ci := 8) (v := .int x_7857) (C := RX8) (T := TX8) (N := 6) hx hb hts hw8 hown hK hP 0 rfl rfl 4 (by decide) (hts (.fieldLink RX8 25 "SmokeTune$Tape" "first" "I") (List.mem_cons_of_mem _ (List.mem_append_left _ (List.mem_of_getElem? (i := 4) rfl)))) (fun _ h9 => h9) rfl dX8_step_108 ?_
              refine lv_bipush (v := 97) hx hb dX8_step_111 (by decide) ?_
              refine lv_icmp_lt (tgt := 129) hx hb dX8_step_113 (by decide) (fun c_7861 => ?_) (fun c_7861 => ?_)
              · have c_7861i := i_lt (x := x_7857.toInt) (y := 97) rfl rfl c_7861
                exact j_7468 x_7857 (-1) (by decide) _ _ hP hD hS ls (lv_sub hl [0] rfl)
              · have c_7861i := i_nlt (x := x_7857.toInt) (y := 97) rfl rfl c_7861
                refine lv_aload_n hx hb dX8_step_116 rfl (lv_at hl 0 rfl) ?_
                refine va_get (ci := 8) (v := .int x_7857) (C := RX8) (T := TX8) (N := 6) hx hb hts hw8 hown hK hP 0 rfl rfl 4 (by decide) (hts (.fieldLink RX8 25 "SmokeTune$Tape" "first" "I") (List.mem_cons_of_mem _ (List.mem_append_left _ (List.mem_of_getElem? (i := 4) rfl)))) (fun _ h9 => h9) rfl dX8_step_117 ?_
                refine lv_bipush (v := 122) hx hb dX8_step_120 (by decide) ?_
                refine lv_icmp_gt (tgt := 129) hx hb dX8_step_122 (by decide) (fun c_7862 => ?_) (fun c_7862 => ?_)
                · have c_7862i := i_lt (x := 122) (y := x_7857.toInt) rfl rfl c_7862
                  exact j_7468 x_7857 (-1) (by decide) _ _ hP hD hS ls (lv_sub hl [0] rfl)
                · have c_7862i := i_nlt (x := 122) (y := x_7857.toInt) rfl rfl c_7862
                  refine lv_iconst (v := 1) hx hb dX8_step_125 (by decide) ?_
                  refine lv_goto (tgt := 130) hx hb dX8_step_126 (by decide) ?_
                  refine lv_istore_n (lv' := [(1, .int 1), (0, .ref a0)]) hx hb dX8_step_130 rfl hl (by decide) rfl (fun ls hl => ?_)
                  refine lv_aload_n hx hb dX8_step_131 rfl (lv_at hl 1 rfl) ?_
                  refine lv_aload_n hx hb dX8_step_132 rfl (lv_at hl 1 rfl) ?_
                  refine va_get (ci := 8) (v := .int ln) (C := RX8) (T := TX8) (N := 6) hx hb hts hw8 hown hK hP 0 rfl rfl 1 (by decide) (hts (.fieldLink RX8 15 "SmokeTune$Tape" "length" "I") (List.mem_cons_of_mem _ (List.mem_append_left _ (List.mem_of_getElem? (i := 2) rfl)))) (fun _ h9 => h9) rfl dX8_step_133 ?_
                  refine lv_aload_n hx hb dX8_step_136 rfl (lv_at hl 1 rfl) ?_
                  refine va_get (ci := 8) (v := .int v_5444) (C := RX8) (T := TX8) (N := 6) hx hb hts hw8 hown hK hP 0 rfl rfl 2 (by decide) (hts (.fieldLink RX8 19 "SmokeTune$Tape" "from" "I") (List.mem_cons_of_mem _ (List.mem_append_left _ (List.mem_of_getElem? (i := 1) rfl)))) (fun _ h9 => h9) rfl dX8_step_137 ?_
                  refine lv_iconst (v := 1) hx hb dX8_step_140 (by decide) ?_
                  refine lv_iadd hx hb dX8_step_141 ?_
                  refine lv_topi (fun x_7863 ex_7863 => ?_)
                  have hx_7863 : x_7863.toInt = (v_5444.toInt + 1) := by rw [ex_7863]; exact i_add rfl (show (1 : Int32).toInt = 1 from rfl) (by omega)
                  refine va_mmin hx hb (hml.trans hl.1.symm) hown (hts (.methodLink RX8 31 Lib.Math.min.name) (List.mem_cons_of_mem _ (List.mem_append_left _ (List.mem_of_getElem? (i := 6) rfl)))) (hts (.static Lib.Math.min.name) (List.mem_cons_of_mem _ (List.mem_append_left _ (List.mem_of_getElem? (i := 7) rfl)))) (hts (.initialized "java/lang/Math") (List.mem_cons_of_mem _ (List.mem_append_left _ (List.mem_of_getElem? (i := 8) rfl)))) (hts (.code Lib.Math.min.name Lib.Math.min.code 2 (some .int)) (List.mem_cons_of_mem _ (List.mem_append_left _ (List.mem_of_getElem? (i := 9) rfl)))) (Nat.le_of_ble_eq_true rfl) (Nat.le_of_ble_eq_true rfl) (Nat.le_of_ble_eq_true rfl) (Nat.le_of_ble_eq_true rfl) dX8_step_142 ?_
                  refine lv_topi (fun x_7864 ex_7864 => ?_)
                  have hx_7864 : (ln.toInt ≤ (v_5444.toInt + 1) ∧ x_7864.toInt = ln.toInt) ∨ ((v_5444.toInt + 1) < ln.toInt ∧ x_7864.toInt = (v_5444.toInt + 1)) := by rw [ex_7864]; exact i_min rfl hx_7863
                  replace hx_7864 : x_7864.toInt ≤ ln.toInt ∧ x_7864.toInt ≤ (v_5444.toInt + 1) ∧ 1 ≤ x_7864.toInt ∧ x_7864.toInt ≤ 400 := by omega
                  refine va_put (ci := 8) (v := .int x_7864) (ty := .int) (C := RX8) (T := TX8) (N := 6) hx hb hts hw8 tyX8 tyX8_ok nmX8 hown hK hP hD hS 0 rfl rfl 3 (by decide) (hts (.fieldLink RX8 22 "SmokeTune$Tape" "to" "I") (List.mem_cons_of_mem _ (List.mem_append_left _ (List.mem_of_getElem? (i := 0) rfl)))) (fun _ h9 => h9) rfl (by decide +kernel) (by first | rfl | decide) (by first | rfl | decide) (Nat.le_of_ble_eq_true rfl) dX8_step_145 (fun H locs hP hD hS => ?_)
                  have hP : va_P D vwCl [(a0, .inr (8, [.ref a1, .int ln, .int v_5444, .int x_7864, .int x_7857, .int (-1)])), (a1, .inl (K 0, 400, .inl f))] H := hP
                  have hD : va_D A [(a0, .inr (8, [.ref a1, .int ln, .int v_5444, .int x_7864, .int x_7857, .int (-1)])), (a1, .inl (K 0, 400, .inl f))] := hD
                  have lp_8076 : ∀ (nn_ : Nat) (v_7970 : Int32) (hv_7970 : 1 ≤ v_7970.toInt ∧ v_7970.toInt ≤ 400) (hn : (400 - v_7970.toInt : Int).toNat < nn_) (H : Heap) (locs : List Loc) (hP : va_P D vwCl [(a0, .inr (8, [.ref a1, .int ln, .int v_5444, .int v_7970, .int x_7857, .int (-1)])), (a1, .inl (K 0, 400, .inl f))] H) (hD : va_D A [(a0, .inr (8, [.ref a1, .int ln, .int v_5444, .int v_7970, .int x_7857, .int (-1)])), (a1, .inl (K 0, 400, .inl f))]) (hS : va_S A s.heap H locs) (ls : Array Slot) (hl : lv_has ls 5 [(1, .int 1), (0, .ref a0)]), W p l e ({ frames := 1, cells := 0, slots := 0, locals := 14 }) s m (([.ref a0] : List Value).toArray) below meth c H locs 0 0 Q (F0 m 148 ls []) := by
                    intro nn_
                    induction nn_ with
                    | zero =>
                      intro v_7970 hv_7970 hn H locs hP hD hS ls hl
                      exact absurd hn (Nat.not_lt_zero _)
                    | succ nn_ ih_8077 =>
                      intro v_7970 hv_7970 hn H locs hP hD hS ls hl
                      refine lv_aload_n hx hb dX8_step_148 rfl (lv_at hl 1 rfl) ?_
                      refine va_get (ci := 8) (v := .int v_7970) (C := RX8) (T := TX8) (N := 6) hx hb hts hw8 hown hK hP 0 rfl rfl 3 (by decide) (hts (.fieldLink RX8 22 "SmokeTune$Tape" "to" "I") (List.mem_cons_of_mem _ (List.mem_append_left _ (List.mem_of_getElem? (i := 0) rfl)))) (fun _ h9 => h9) rfl dX8_step_149 ?_
                      refine lv_aload_n hx hb dX8_step_152 rfl (lv_at hl 1 rfl) ?_
                      refine va_get (ci := 8) (v := .int ln) (C := RX8) (T := TX8) (N := 6) hx hb hts hw8 hown hK hP 0 rfl rfl 1 (by decide) (hts (.fieldLink RX8 15 "SmokeTune$Tape" "length" "I") (List.mem_cons_of_mem _ (List.mem_append_left _ (List.mem_of_getElem? (i := 2) rfl)))) (fun _ h9 => h9) rfl dX8_step_153 ?_
                      have j_8104 : ∀ (H : Heap) (locs : List Loc) (hP : va_P D vwCl [(a0, .inr (8, [.ref a1, .int ln, .int v_5444, .int v_7970, .int x_7857, .int (-1)])), (a1, .inl (K 0, 400, .inl f))] H) (hD : va_D A [(a0, .inr (8, [.ref a1, .int ln, .int v_5444, .int v_7970, .int x_7857, .int (-1)])), (a1, .inl (K 0, 400, .inl f))]) (hS : va_S A s.heap H locs) (ls : Array Slot) (hl : lv_has ls 5 []), W p l e ({ frames := 1, cells := 0, slots := 0, locals := 14 }) s m (([.ref a0] : List Value).toArray) below meth c H locs 0 0 Q (F0 m 272 ls []) := by
                        intro H locs hP hD hS ls hl
                        rw [← hQ]
                        have hP9 := hP.sub (ws' := [(a0, .inr (8, [.ref a1, .int ln, .int v_5444, .int v_7970, .int x_7857, .int (-1)])), (a1, .inl (K 0, 400, .inl f))]) [0, 1] rfl
                        have hD9 := hD.sub (ws' := [(a0, .inr (8, [.ref a1, .int ln, .int v_5444, .int v_7970, .int x_7857, .int (-1)])), (a1, .inl (K 0, 400, .inl f))]) [0, 1] (by decide) rfl
                        exact W.vret hx hb hr (fun t ht hW => ⟨⟨((fun _ => 0, fun _ => fun _ => 0, fun _ => fun _ => 0, fun i => match i with | 0 => v_5444 | 1 => v_7970 | 2 => x_7857 | _ => (-1), fun _ => 0, fun _ => fun _ => none) : Su), rfl, ⟨(show 0 ≤ (v_5444 : Int32).toInt ∧ (v_5444 : Int32).toInt ≤ 400 by omega), (show 0 ≤ (v_7970 : Int32).toInt ∧ (v_7970 : Int32).toInt ≤ 400 by omega), (show (-1) ≤ ((-1) : Int32).toInt ∧ ((-1) : Int32).toInt ≤ 1000000 by decide), trivial⟩, (⟨by rw [ht]; exact hP9, hD9⟩ : Wd D A _ t)⟩, hS.F ht⟩) hS.2.2 dX8_step_272
                      refine lv_icmp_ge (tgt := 272) hx hb dX8_step_156 (by decide) (fun c_8105 => ?_) (fun c_8105 => ?_)
                      · have c_8105i := i_le (x := ln.toInt) (y := v_7970.toInt) rfl rfl c_8105
                        exact j_8104   _ _ hP hD hS ls (lv_sub hl [] rfl)
                      · have c_8105i := i_nle (x := ln.toInt) (y := v_7970.toInt) rfl rfl c_8105
                        refine lv_aload_n hx hb dX8_step_159 rfl (lv_at hl 1 rfl) ?_
                        refine va_get (ci := 8) (v := .ref a1) (C := RX8) (T := TX8) (N := 6) hx hb hts hw8 hown hK hP 0 rfl rfl 0 (by decide) (hts (.fieldLink RX8 11 "SmokeTune$Tape" "bytes" "[I") (List.mem_cons_of_mem _ (List.mem_append_left _ (List.mem_of_getElem? (i := 3) rfl)))) (fun _ h9 => h9) rfl dX8_step_160 ?_
                        refine lv_aload_n hx hb dX8_step_163 rfl (lv_at hl 1 rfl) ?_
                        refine va_get (ci := 8) (v := .int v_7970) (C := RX8) (T := TX8) (N := 6) hx hb hts hw8 hown hK hP 0 rfl rfl 3 (by decide) (hts (.fieldLink RX8 22 "SmokeTune$Tape" "to" "I") (List.mem_cons_of_mem _ (List.mem_append_left _ (List.mem_of_getElem? (i := 0) rfl)))) (fun _ h9 => h9) rfl dX8_step_164 ?_
                        refine va_iald hx hb hK hP 1 0 rfl rfl (i_in rfl (by omega)) dX8_step_167 ?_
                        refine lv_topi (fun x_8106 ex_8106 => ?_)
                        refine lv_istore_n (lv' := [(2, .int x_8106), (1, .int 1), (0, .ref a0)]) hx hb dX8_step_168 rfl hl (by decide) rfl (fun ls hl => ?_)
                        refine lv_aload_n hx hb dX8_step_169 rfl (lv_at hl 2 rfl) ?_
                        refine va_get (ci := 8) (v := .int (-1)) (C := RX8) (T := TX8) (N := 6) hx hb hts hw8 hown hK hP 0 rfl rfl 5 (by decide) (hts (.fieldLink RX8 28 "SmokeTune$Tape" "number" "I") (List.mem_cons_of_mem _ (List.mem_append_left _ (List.mem_of_getElem? (i := 5) rfl)))) (fun _ h9 => h9) rfl dX8_step_170 ?_
                        refine lv_iconst (v := (-1)) hx hb dX8_step_173 (by decide) ?_
                        refine lv_icmp_eq (tgt := 193) hx hb dX8_step_174 (by decide) (fun c_8119 => ?_) (fun c_8119 => absurd (by decide) c_8119)
                        refine lv_iconst (v := 0) hx hb dX8_step_193 (by decide) ?_
                        refine lv_istore_n (lv' := [(3, .int 0), (2, .int x_8106), (1, .int 1), (0, .ref a0)]) hx hb dX8_step_194 rfl hl (by decide) rfl (fun ls hl => ?_)
                        refine lv_iload_n hx hb dX8_step_195 rfl (lv_at hl 2 rfl) ?_
                        refine lv_if_eq (tgt := 215) hx hb dX8_step_196 (by decide) (fun c_8120 => absurd c_8120 (by decide)) (fun c_8120 => ?_)
                        refine lv_iload_n hx hb dX8_step_199 rfl (lv_at hl 1 rfl) ?_
                        refine lv_bipush (v := 97) hx hb dX8_step_200 (by decide) ?_
                        refine lv_icmp_lt (tgt := 215) hx hb dX8_step_202 (by decide) (fun c_8121 => ?_) (fun c_8121 => ?_)
                        · have c_8121i := i_lt (x := x_8106.toInt) (y := 97) rfl rfl c_8121
                          refine lv_iconst (v := 0) hx hb dX8_step_215 (by decide) ?_
                          refine lv_istore (lv' := [(4, .int 0), (3, .int 0), (2, .int x_8106), (1, .int 1), (0, .ref a0)]) hx hb dX8_step_216 hl (by decide) rfl (fun ls hl => ?_)
                          refine lv_iload_n hx hb dX8_step_218 rfl (lv_at hl 1 rfl) ?_
                          refine lv_if_ne (tgt := 230) hx hb dX8_step_219 (by decide) (fun c_8122 => absurd (by decide) c_8122) (fun c_8122 => ?_)
                          refine lv_iload hx hb dX8_step_222 (lv_at hl 0 rfl) ?_
                          refine lv_if_ne (tgt := 230) hx hb dX8_step_224 (by decide) (fun c_8123 => absurd (by decide) c_8123) (fun c_8123 => ?_)
                          refine lv_goto (tgt := 272) hx hb dX8_step_227 (by decide) ?_
                          exact j_8104   _ _ hP hD hS ls (lv_sub hl [] rfl)
                        · have c_8121i := i_nlt (x := x_8106.toInt) (y := 97) rfl rfl c_8121
                          refine lv_iload_n hx hb dX8_step_205 rfl (lv_at hl 1 rfl) ?_
                          refine lv_bipush (v := 122) hx hb dX8_step_206 (by decide) ?_
                          refine lv_icmp_gt (tgt := 215) hx hb dX8_step_208 (by decide) (fun c_8124 => ?_) (fun c_8124 => ?_)
                          · have c_8124i := i_lt (x := 122) (y := x_8106.toInt) rfl rfl c_8124
                            refine lv_iconst (v := 0) hx hb dX8_step_215 (by decide) ?_
                            refine lv_istore (lv' := [(4, .int 0), (3, .int 0), (2, .int x_8106), (1, .int 1), (0, .ref a0)]) hx hb dX8_step_216 hl (by decide) rfl (fun ls hl => ?_)
                            refine lv_iload_n hx hb dX8_step_218 rfl (lv_at hl 1 rfl) ?_
                            refine lv_if_ne (tgt := 230) hx hb dX8_step_219 (by decide) (fun c_8125 => absurd (by decide) c_8125) (fun c_8125 => ?_)
                            refine lv_iload hx hb dX8_step_222 (lv_at hl 0 rfl) ?_
                            refine lv_if_ne (tgt := 230) hx hb dX8_step_224 (by decide) (fun c_8126 => absurd (by decide) c_8126) (fun c_8126 => ?_)
                            refine lv_goto (tgt := 272) hx hb dX8_step_227 (by decide) ?_
                            exact j_8104   _ _ hP hD hS ls (lv_sub hl [] rfl)
                          · have c_8124i := i_nlt (x := 122) (y := x_8106.toInt) rfl rfl c_8124
                            refine lv_iconst (v := 1) hx hb dX8_step_211 (by decide) ?_
                            refine lv_goto (tgt := 216) hx hb dX8_step_212 (by decide) ?_
                            refine lv_istore (lv' := [(4, .int 1), (3, .int 0), (2, .int x_8106), (1, .int 1), (0, .ref a0)]) hx hb dX8_step_216 hl (by decide) rfl (fun ls hl => ?_)
                            refine lv_iload_n hx hb dX8_step_218 rfl (lv_at hl 1 rfl) ?_
                            refine lv_if_ne (tgt := 230) hx hb dX8_step_219 (by decide) (fun c_8127 => absurd (by decide) c_8127) (fun c_8127 => ?_)
                            refine lv_iload hx hb dX8_step_222 (lv_at hl 0 rfl) ?_
                            refine lv_if_ne (tgt := 230) hx hb dX8_step_224 (by decide) (fun c_8128 => ?_) (fun c_8128 => absurd c_8128 (by decide))
                            refine lv_aload_n hx hb dX8_step_230 rfl (lv_at hl 4 rfl) ?_
                            refine lv_iload_n hx hb dX8_step_231 rfl (lv_at hl 1 rfl) ?_
                            refine lv_if_eq (tgt := 255) hx hb dX8_step_232 (by decide) (fun c_8129 => ?_) (fun c_8129 => absurd (by decide) c_8129)
                            refine lv_iconst (v := (-1)) hx hb dX8_step_255 (by decide) ?_
                            refine va_put (ci := 8) (v := .int (-1)) (ty := .int) (C := RX8) (T := TX8) (N := 6) hx hb hts hw8 tyX8 tyX8_ok nmX8 hown hK hP hD hS 0 rfl rfl 5 (by decide) (hts (.fieldLink RX8 28 "SmokeTune$Tape" "number" "I") (List.mem_cons_of_mem _ (List.mem_append_left _ (List.mem_of_getElem? (i := 5) rfl)))) (fun _ h9 => h9) rfl (by decide +kernel) (by first | rfl | decide) (by first | rfl | decide) (Nat.le_of_ble_eq_true rfl) dX8_step_256 (fun H locs hP hD hS => ?_)
                            have hP : va_P D vwCl [(a0, .inr (8, [.ref a1, .int ln, .int v_5444, .int v_7970, .int x_7857, .int (-1)])), (a1, .inl (K 0, 400, .inl f))] H := hP
                            have hD : va_D A [(a0, .inr (8, [.ref a1, .int ln, .int v_5444, .int v_7970, .int x_7857, .int (-1)])), (a1, .inl (K 0, 400, .inl f))] := hD
                            refine lv_aload_n hx hb dX8_step_259 rfl (lv_at hl 4 rfl) ?_
                            refine lv_dup hx hb dX8_step_260 rfl ?_
                            refine va_get (ci := 8) (v := .int v_7970) (C := RX8) (T := TX8) (N := 6) hx hb hts hw8 hown hK hP 0 rfl rfl 3 (by decide) (hts (.fieldLink RX8 22 "SmokeTune$Tape" "to" "I") (List.mem_cons_of_mem _ (List.mem_append_left _ (List.mem_of_getElem? (i := 0) rfl)))) (fun _ h9 => h9) rfl dX8_step_261 ?_
                            refine lv_iconst (v := 1) hx hb dX8_step_264 (by decide) ?_
                            refine lv_iadd hx hb dX8_step_265 ?_
                            refine lv_topi (fun x_8130 ex_8130 => ?_)
                            have hx_8130 : x_8130.toInt = (v_7970.toInt + 1) := by rw [ex_8130]; exact i_add rfl (show (1 : Int32).toInt = 1 from rfl) (by omega)
                            refine va_put (ci := 8) (v := .int x_8130) (ty := .int) (C := RX8) (T := TX8) (N := 6) hx hb hts hw8 tyX8 tyX8_ok nmX8 hown hK hP hD hS 0 rfl rfl 3 (by decide) (hts (.fieldLink RX8 22 "SmokeTune$Tape" "to" "I") (List.mem_cons_of_mem _ (List.mem_append_left _ (List.mem_of_getElem? (i := 0) rfl)))) (fun _ h9 => h9) rfl (by decide +kernel) (by first | rfl | decide) (by first | rfl | decide) (Nat.le_of_ble_eq_true rfl) dX8_step_266 (fun H locs hP hD hS => ?_)
                            have hP : va_P D vwCl [(a0, .inr (8, [.ref a1, .int ln, .int v_5444, .int x_8130, .int x_7857, .int (-1)])), (a1, .inl (K 0, 400, .inl f))] H := hP
                            have hD : va_D A [(a0, .inr (8, [.ref a1, .int ln, .int v_5444, .int x_8130, .int x_7857, .int (-1)])), (a1, .inl (K 0, 400, .inl f))] := hD
                            refine lv_goto (tgt := 148) hx hb dX8_step_269 (by decide) ?_
                            exact ih_8077 x_8130 (by rw [hx_8130]; omega) (by omega) _ _ hP hD hS ls (lv_sub hl [3, 4] rfl)
                  exact lp_8076 ((400 - (x_7864 : Int32).toInt : Int).toNat + 1) x_7864 (by omega) (Nat.lt_succ_self _) _ _ hP hD hS ls (lv_sub hl [0, 1] rfl)
            · have c_7860i := i_nlt (x := 57) (y := x_7857.toInt) rfl rfl c_7860
              refine lv_aload_n hx hb dX8_step_93 rfl (lv_at hl 0 rfl) ?_
              refine va_get (ci := 8) (v := .int x_7857) (C := RX8) (T := TX8) (N := 6) hx hb hts hw8 hown hK hP 0 rfl rfl 4 (by decide) (hts (.fieldLink RX8 25 "SmokeTune$Tape" "first" "I") (List.mem_cons_of_mem _ (List.mem_append_left _ (List.mem_of_getElem? (i := 4) rfl)))) (fun _ h9 => h9) rfl dX8_step_94 ?_
              refine lv_bipush (v := 48) hx hb dX8_step_97 (by decide) ?_
              refine lv_isub hx hb dX8_step_99 ?_
              refine lv_topi (fun x_8131 ex_8131 => ?_)
              have hx_8131 : x_8131.toInt = (x_7857.toInt - 48) := by rw [ex_8131]; exact i_sub rfl (show (48 : Int32).toInt = 48 from rfl) (by omega)
              refine lv_goto (tgt := 104) hx hb dX8_step_100 (by decide) ?_
              refine va_put (ci := 8) (v := .int x_8131) (ty := .int) (C := RX8) (T := TX8) (N := 6) hx hb hts hw8 tyX8 tyX8_ok nmX8 hown hK hP hD hS 0 rfl rfl 5 (by decide) (hts (.fieldLink RX8 28 "SmokeTune$Tape" "number" "I") (List.mem_cons_of_mem _ (List.mem_append_left _ (List.mem_of_getElem? (i := 5) rfl)))) (fun _ h9 => h9) rfl (by decide +kernel) (by first | rfl | decide) (by first | rfl | decide) (Nat.le_of_ble_eq_true rfl) dX8_step_104 (fun H locs hP hD hS => ?_)
              have hP : va_P D vwCl [(a0, .inr (8, [.ref a1, .int ln, .int v_5444, .int to, .int x_7857, .int x_8131])), (a1, .inl (K 0, 400, .inl f))] H := hP
              have hD : va_D A [(a0, .inr (8, [.ref a1, .int ln, .int v_5444, .int to, .int x_7857, .int x_8131])), (a1, .inl (K 0, 400, .inl f))] := hD
              refine lv_aload_n hx hb dX8_step_107 rfl (lv_at hl 0 rfl) ?_
              refine va_get (ci := 8) (v := .int x_7857) (C := RX8) (T := TX8) (N := 6) hx hb hts hw8 hown hK hP 0 rfl rfl 4 (by decide) (hts (.fieldLink RX8 25 "SmokeTune$Tape" "first" "I") (List.mem_cons_of_mem _ (List.mem_append_left _ (List.mem_of_getElem? (i := 4) rfl)))) (fun _ h9 => h9) rfl dX8_step_108 ?_
              refine lv_bipush (v := 97) hx hb dX8_step_111 (by decide) ?_
              refine lv_icmp_lt (tgt := 129) hx hb dX8_step_113 (by decide) (fun c_8132 => ?_) (fun c_8132 => ?_)
              · have c_8132i := i_lt (x := x_7857.toInt) (y := 97) rfl rfl c_8132
                exact j_7468 x_7857 x_8131 (by rw [hx_8131]; omega) _ _ hP hD hS ls (lv_sub hl [0] rfl)
              · have c_8132i := i_nlt (x := x_7857.toInt) (y := 97) rfl rfl c_8132
                exfalso; omega
      refine lv_icmp_ge (tgt := 46) hx hb dX8_step_16 (by decide) (fun c_8133 => ?_) (fun c_8133 => ?_)
      · have c_8133i := i_le (x := ln.toInt) (y := v_5444.toInt) rfl rfl c_8133
        exact j_6801   _ _ hP hD hS ls (lv_sub hl [0] rfl)
      · have c_8133i := i_nle (x := ln.toInt) (y := v_5444.toInt) rfl rfl c_8133
        refine lv_aload_n hx hb dX8_step_19 rfl (lv_at hl 0 rfl) ?_
        refine va_get (ci := 8) (v := .ref a1) (C := RX8) (T := TX8) (N := 6) hx hb hts hw8 hown hK hP 0 rfl rfl 0 (by decide) (hts (.fieldLink RX8 11 "SmokeTune$Tape" "bytes" "[I") (List.mem_cons_of_mem _ (List.mem_append_left _ (List.mem_of_getElem? (i := 3) rfl)))) (fun _ h9 => h9) rfl dX8_step_20 ?_
        refine lv_aload_n hx hb dX8_step_23 rfl (lv_at hl 0 rfl) ?_
        refine va_get (ci := 8) (v := .int v_5444) (C := RX8) (T := TX8) (N := 6) hx hb hts hw8 hown hK hP 0 rfl rfl 2 (by decide) (hts (.fieldLink RX8 19 "SmokeTune$Tape" "from" "I") (List.mem_cons_of_mem _ (List.mem_append_left _ (List.mem_of_getElem? (i := 1) rfl)))) (fun _ h9 => h9) rfl dX8_step_24 ?_
        refine va_iald hx hb hK hP 1 0 rfl rfl (i_in rfl (by omega)) dX8_step_27 ?_
        refine lv_topi (fun x_8134 ex_8134 => ?_)
        refine lv_bipush (v := 32) hx hb dX8_step_28 (by decide) ?_
        refine lv_icmp_ne (tgt := 46) hx hb dX8_step_30 (by decide) (fun c_8135 => ?_) (fun c_8135 => ?_)
        · have c_8135i := i_ne (x := x_8134.toInt) (y := 32) rfl rfl c_8135
          exact j_6801   _ _ hP hD hS ls (lv_sub hl [0] rfl)
        · have c_8135i := i_eq (x := x_8134.toInt) (y := 32) rfl rfl c_8135
          refine lv_aload_n hx hb dX8_step_33 rfl (lv_at hl 0 rfl) ?_
          refine lv_dup hx hb dX8_step_34 rfl ?_
          refine va_get (ci := 8) (v := .int v_5444) (C := RX8) (T := TX8) (N := 6) hx hb hts hw8 hown hK hP 0 rfl rfl 2 (by decide) (hts (.fieldLink RX8 19 "SmokeTune$Tape" "from" "I") (List.mem_cons_of_mem _ (List.mem_append_left _ (List.mem_of_getElem? (i := 1) rfl)))) (fun _ h9 => h9) rfl dX8_step_35 ?_
          refine lv_iconst (v := 1) hx hb dX8_step_38 (by decide) ?_
          refine lv_iadd hx hb dX8_step_39 ?_
          refine lv_topi (fun x_8136 ex_8136 => ?_)
          have hx_8136 : x_8136.toInt = (v_5444.toInt + 1) := by rw [ex_8136]; exact i_add rfl (show (1 : Int32).toInt = 1 from rfl) (by omega)
          refine va_put (ci := 8) (v := .int x_8136) (ty := .int) (C := RX8) (T := TX8) (N := 6) hx hb hts hw8 tyX8 tyX8_ok nmX8 hown hK hP hD hS 0 rfl rfl 2 (by decide) (hts (.fieldLink RX8 19 "SmokeTune$Tape" "from" "I") (List.mem_cons_of_mem _ (List.mem_append_left _ (List.mem_of_getElem? (i := 1) rfl)))) (fun _ h9 => h9) rfl (by decide +kernel) (by first | rfl | decide) (by first | rfl | decide) (Nat.le_of_ble_eq_true rfl) dX8_step_40 (fun H locs hP hD hS => ?_)
          have hP : va_P D vwCl [(a0, .inr (8, [.ref a1, .int ln, .int x_8136, .int to, .int fi, .int nu])), (a1, .inl (K 0, 400, .inl f))] H := hP
          have hD : va_D A [(a0, .inr (8, [.ref a1, .int ln, .int x_8136, .int to, .int fi, .int nu])), (a1, .inl (K 0, 400, .inl f))] := hD
          refine lv_goto (tgt := 8) hx hb dX8_step_43 (by decide) ?_
          exact ih_5465 x_8136 (by rw [hx_8136]; omega) (by omega) _ _ hP hD hS ls (lv_sub hl [0] rfl)
  exact lp_5464 ((400 - (to : Int32).toInt : Int).toNat + 1) to (by omega) (Nat.lt_succ_self _) _ _ hP hD hS ls (lv_sub hl [0] rfl)
