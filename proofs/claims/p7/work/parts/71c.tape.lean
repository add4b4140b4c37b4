
/-! the tape: what is written, and what of it counts -/
def pu (f : Nat → Int32) (n : Nat) (x : Int32) : Nat → Nat → Int32
  | 0 => f
  | k + 1 => upd (pu f n x k) (n + k) ((x >>> (Int32.ofInt (24 - 8 * (k : Int)) &&& 31)) &&& 255)
theorem pu_put {f g : Nat → Int32} {n len : Int} {x i sh w z : Int32} (h : g = pu f n.toNat x (len - n).toNat) (h0 : 0 ≤ n ∧ n ≤ len) (hi : i.toInt = len) (hs : 8 * (len - n) = 24 - sh.toInt) (hz : z = x >>> (sh &&& 31)) (hw : w = z &&& 255) : upd g i.toNatClampNeg w = pu f n.toNat x (len + 1 - n).toNat := by
  have e : (len + 1 - n).toNat = (len - n).toNat + 1 := by omega
  have e2 : i.toNatClampNeg = n.toNat + (len - n).toNat := by rw [i_clamp hi]; omega
  have e3 : sh = Int32.ofInt (24 - 8 * (((len - n).toNat : Nat) : Int)) := by
    rw [show (24 - 8 * (((len - n).toNat : Nat) : Int)) = sh.toInt by omega, Int32.ofInt_toInt]
  rw [e, e2, h, hw, hz, e3]
  rfl
theorem pu_rel {f g : Nat → Int32} {n : Nat} {x : Int32} (h : ∀ j, j < n → f j = g j) : ∀ k j, j < n + k → pu f n x k j = pu g n x k j := by
  intro k
  induction k with
  | zero => intro j hj; exact h j hj
  | succ k ih =>
    intro j hj
    show upd (pu f n x k) (n + k) _ j = upd (pu g n x k) (n + k) _ j
    by_cases e : j = n + k
    · subst e; rw [pk_us, pk_us]
    · rw [pk_un e, pk_un e]; exact ih j (by omega)
theorem pu_nn {f : Nat → Int32} {n : Nat} {x : Int32} (h : ∀ j, j < n → 0 ≤ (f j).toInt) : ∀ k j, j < n + k → 0 ≤ (pu f n x k j).toInt := by
  intro k
  induction k with
  | zero => intro j hj; exact h j hj
  | succ k ih =>
    intro j hj
    show 0 ≤ (upd (pu f n x k) (n + k) _ j).toInt
    by_cases e : j = n + k
    · subst e; rw [pk_us]; exact (i_mask _ 8 rfl (by decide)).1
    · rw [pk_un e]; exact ih j (by omega)
def fe (f : Nat → Int32) (n : Nat) (x0 x1 x2 x3 x4 : Int32) : Nat → Int32 := pu (pu (pu (pu (pu f n x0 4) (n + 4) x1 4) (n + 8) x2 4) (n + 12) x3 4) (n + 16) x4 4
theorem fe_rel {f g : Nat → Int32} {n : Nat} {x0 x1 x2 x3 x4 : Int32} (h : ∀ j, j < n → f j = g j) : ∀ j, j < n + 20 → fe f n x0 x1 x2 x3 x4 j = fe g n x0 x1 x2 x3 x4 j := by
  have h1 := pu_rel (x := x0) h 4
  have h2 := pu_rel (x := x1) h1 4
  have h3 := pu_rel (x := x2) h2 4
  have h4 := pu_rel (x := x3) h3 4
  exact pu_rel (x := x4) h4 4
theorem fe_nn {f : Nat → Int32} {n : Nat} {x0 x1 x2 x3 x4 : Int32} (h : ∀ j, j < n → 0 ≤ (f j).toInt) : ∀ j, j < n + 20 → 0 ≤ (fe f n x0 x1 x2 x3 x4 j).toInt := by
  have h1 := pu_nn (x := x0) h 4
  have h2 := pu_nn (x := x1) h1 4
  have h3 := pu_nn (x := x2) h2 4
  have h4 := pu_nn (x := x3) h3 4
  exact pu_nn (x := x4) h4 4
/-- both tapes hold the same up to n -/
def RT (f g : Nat → Int32) (n : Int) : Prop := ∀ j : Nat, (j : Int) < n → f j = g j ∧ 0 ≤ (f j).toInt
theorem RT.zero {f g : Nat → Int32} : RT f g 0 := fun j hj => absurd hj (by omega)
theorem RT.le {f g : Nat → Int32} {n m : Int} (h : RT f g n) (hn : m ≤ n) : RT f g m := fun j hj => h j (by omega)
theorem RT.feed {f g f' g' : Nat → Int32} {n m n' : Int} {x0 x1 x2 x3 x4 y0 y1 y2 y3 y4 : Int32} (h : RT f g n) (h0 : 0 ≤ n) (hm : n = m) (e0 : x0 = y0) (e1 : x1 = y1) (e2 : x2 = y2) (e3 : x3 = y3) (e4 : x4 = y4) (hf : f' = fe f n.toNat x0 x1 x2 x3 x4) (hg : g' = fe g m.toNat y0 y1 y2 y3 y4) (hn : n' = n + 20) : RT f' g' n' := by
  subst hm e0 e1 e2 e3 e4
  intro j hj
  rw [hf, hg]
  exact ⟨fe_rel (fun i hi => (h i (by omega)).1) j (by omega), fe_nn (fun i hi => (h i (by omega)).2) j (by omega)⟩
def cnt (f : Nat → Int32) : Nat → Int
  | 0 => 0
  | k + 1 => cnt f k + (if k < 24 ∧ (f k).toInt < 128 then 1 else 0)
theorem cnt_yes {f : Nat → Int32} {k t : Int} {r : Int32} (h0 : 0 ≤ k ∧ k < 24) (hr : r = f k.toNat) (hv : r.toInt < 128) (ht : t = cnt f k.toNat) : t + 1 = cnt f (k + 1).toNat := by
  rw [show (k + 1).toNat = k.toNat + 1 by omega]
  show t + 1 = cnt f k.toNat + (if k.toNat < 24 ∧ (f k.toNat).toInt < 128 then 1 else 0)
  rw [if_pos ⟨by omega, by rw [← hr]; exact hv⟩, ← ht]
theorem cnt_no {f : Nat → Int32} {k t : Int} {r : Int32} (h0 : 0 ≤ k) (hr : r = f k.toNat) (hv : 128 ≤ r.toInt) (ht : t = cnt f k.toNat) : t = cnt f (k + 1).toNat := by
  rw [show (k + 1).toNat = k.toNat + 1 by omega]
  show t = cnt f k.toNat + (if k.toNat < 24 ∧ (f k.toNat).toInt < 128 then 1 else 0)
  rw [if_neg (fun q => absurd q.2 (by rw [← hr]; omega)), ← ht]
  omega
theorem cnt_far {f : Nat → Int32} {k t : Int} (h0 : 24 ≤ k) (ht : t = cnt f k.toNat) : t = cnt f (k + 1).toNat := by
  rw [show (k + 1).toNat = k.toNat + 1 by omega]
  show t = cnt f k.toNat + (if k.toNat < 24 ∧ (f k.toNat).toInt < 128 then 1 else 0)
  rw [if_neg (fun q => absurd q.1 (by omega)), ← ht]
  omega
theorem cnt_rel {f g : Nat → Int32} {n : Nat} (h : ∀ j, j < n → f j = g j) : cnt f n = cnt g n := by
  induction n with
  | zero => rfl
  | succ k ih =>
    show cnt f k + (if k < 24 ∧ (f k).toInt < 128 then 1 else 0) = cnt g k + (if k < 24 ∧ (g k).toInt < 128 then 1 else 0)
    rw [ih (fun j hj => h j (by omega)), h k (by omega)]
theorem RT.cnt {f g : Nat → Int32} {n m : Int} (h : RT f g n) (hm : n = m) : cnt f n.toNat = cnt g m.toNat := by
  subst hm
  exact cnt_rel (fun j hj => (h j (by omega)).1)
/-- which images are kept -/
def KF (f g : Nat → Int32) : Prop := (f 0).toInt = (g 0).toInt ∧ (f 1).toInt = (g 1).toInt
theorem KF.upd {f g : Nat → Int32} {k m : Int} (h : KF f g) (hk : 0 ≤ k ∧ k ≤ 1) (e : k = m) : KF (upd f k.toNat 1) (upd g m.toNat 1) := by
  subst e
  rcases (show k = 0 ∨ k = 1 by omega) with rfl | rfl
  · exact ⟨by rw [show (0 : Int).toNat = 0 from rfl, pk_us, pk_us], by rw [show (0 : Int).toNat = 0 from rfl, pk_un (by decide), pk_un (by decide)]; exact h.2⟩
  · exact ⟨by rw [show (1 : Int).toNat = 1 from rfl, pk_un (by decide), pk_un (by decide)]; exact h.1, by rw [show (1 : Int).toNat = 1 from rfl, pk_us, pk_us]⟩
theorem KF.at {f g : Nat → Int32} {k m : Int} (h : KF f g) (hk : 0 ≤ k ∧ k ≤ 1) (e : k = m) : (f k.toNat).toInt = (g m.toNat).toInt := by
  subst e
  rcases (show k = 0 ∨ k = 1 by omega) with rfl | rfl
  · exact h.1
  · exact h.2
set_option maxHeartbeats 4000000 in
set_option maxRecDepth 100000 in
theorem w_takeX (l : Launch) (D : va_G) (K : Nat → ClassId) (a0 : Nat) (x : Int32) (a1 : Nat) (ln : Int32) (p_2 : Value) (p_3 : Value) (p_4 : Value) (p_5 : Value) (f : Nat → Int32) (sz : Nat) (zln : 0 ≤ ln.toInt ∧ ln.toInt ≤ 396) : Met l yX8_take wsX8_take ({ frames := 0, cells := 0, slots := 0, locals := 0 }) (va_Pc [.ref a0, .int x] (Pre D K [(a0, .inr (8, [.ref a1, .int ln, p_2, p_3, p_4, p_5])), (a1, .inl (K 0, 400, .inl f))] sz)) (va_Qv (S := Su) (fun (u : Su) => (0 ≤ (u.2.2.2.1 0).toInt ∧ (u.2.2.2.1 0).toInt ≤ 400) ∧ (((u.2.1 0) = pu f ln.toInt.toNat x 4 ∧ (u.2.2.2.1 0).toInt = ln.toInt + 4)) ∧ True) (fun u t => Wd D (va_A [(a0, .inr (8, [.ref a1, .int ln, p_2, p_3, p_4, p_5])), (a1, .inl (K 0, 400, .inl f))] sz) ((fun u => [(a0, .inr (8, [.ref a1, .int (u.2.2.2.1 0), p_2, p_3, p_4, p_5])), (a1, .inl (K 0, 400, .inl (u.2.1 0)))]) u) t) (va_A [(a0, .inr (8, [.ref a1, .int ln, p_2, p_3, p_4, p_5])), (a1, .inl (K 0, 400, .inl f))] sz)) 0 0 (va_A [(a0, .inr (8, [.ref a1, .int ln, p_2, p_3, p_4, p_5])), (a1, .inl (K 0, 400, .inl f))] sz) := by
  refine Met.ofW (cc := cX8_take) (maxL := 3) (ret := none) (by decide) rfl ?_
  intro p e s m args below meth c s₁ B hml hv
  obtain ⟨rfl, hsz, hP, hK, hD0, hN⟩ := hv
  have hx := B.exec
  have hb := B.bytes
  have hr := B.returns
  have hts := atoms_spec (ws := wsX8_take) B.pre
  have hown : s.vm.findClass RX8 = some m.cls := findClass_of_methodNamed B.named
  have hlocks := B.notSynchronized
  subst hsz
  have hD := hD0.self (sz := s.heap.size)
  generalize hAe : va_A [(a0, .inr (8, [.ref a1, .int ln, p_2, p_3, p_4, p_5])), (a1, .inl (K 0, 400, .inl f))] s.heap.size = A at hD ⊢
  have hA : ∀ q : Nat, s.heap.size ≤ q → A q := fun q h => by rw [← hAe]; exact Or.inr h
  have hS : va_S A s.heap s.heap [] := va_S.rf
  have hP : va_P D vwCl [(a0, .inr (8, [.ref a1, .int ln, p_2, p_3, p_4, p_5])), (a1, .inl (K 0, 400, .inl f))] s.heap := hP
  have hl := lv_entry [.ref a0, .int x] (n := 3) (Nat.le_of_ble_eq_true rfl)
  rw [lg_entry_eq]
  generalize (lg_sl [.ref a0, .int x] ++ List.replicate (3 - (lg_sl [.ref a0, .int x]).length) Slot.unset).toArray = ls at hl ⊢
  have hl : lv_has ls 3 [(0, .ref a0), (1, .int x)] := hl
  have hw8 : ∀ w ∈ wsX80, w ∈ wsX8_take := fun w h => (List.mem_cons_of_mem _ (List.mem_append_right _ h))
  generalize hQ : MQ below _ _ s _ _ _ = Q
  refine lv_bipush (v := 24) hx hb dX8_take_0 (by decide) ?_
  refine lv_istore_n (lv' := [(2, .int 24), (0, .ref a0), (1, .int x)]) hx hb dX8_take_2 rfl hl (by decide) rfl (fun ls hl => ?_)
  have lp_249 : ∀ (nn_ : Nat) (v_229 : Int32) (v_230 : Int32) (f_231 : Nat → Int32) (hv_229 : (-8) ≤ v_229.toInt ∧ v_229.toInt ≤ 24) (hv_230 : 0 ≤ v_230.toInt ∧ v_230.toInt ≤ 400) (hr0_lp_249 : 8 * (v_230.toInt - ln.toInt) = 24 - v_229.toInt ∧ -8 ≤ v_229.toInt) (hr1_lp_249 : f_231 = pu f ln.toInt.toNat x (v_230.toInt - ln.toInt).toNat) (hn : (v_229.toInt - (-9) : Int).toNat < nn_) (H : Heap) (locs : List Loc) (hP : va_P D vwCl [(a0, .inr (8, [.ref a1, .int v_230, p_2, p_3, p_4, p_5])), (a1, .inl (K 0, 400, .inl f_231))] H) (hD : va_D A [(a0, .inr (8, [.ref a1, .int v_230, p_2, p_3, p_4, p_5])), (a1, .inl (K 0, 400, .inl f_231))]) (hS : va_S A s.heap H locs) (ls : Array Slot) (hl : lv_has ls 3 [(2, .int v_229), (0, .ref a0), (1, .int x)]), W p l e ({ frames := 0, cells := 0, slots := 0, locals := 0 }) s m (([.ref a0, .int x] : List Value).toArray) below meth c H locs 0 0 Q (F0 m 3 ls []) := by
    intro nn_
    induction nn_ with
    | zero =>
      intro v_229 v_230 f_231 hv_229 hv_230 hr0_lp_249 hr1_lp_249 hn H locs hP hD hS ls hl
      exact absurd hn (Nat.not_lt_zero _)
    | succ nn_ ih_250 =>
      intro v_229 v_230 f_231 hv_229 hv_230 hr0_lp_249 hr1_lp_249 hn H locs hP hD hS ls hl
      refine lv_iload_n hx hb dX8_take_3 rfl (lv_at hl 0 rfl) ?_
      refine lv_if_lt (tgt := 49) hx hb dX8_take_4 (by decide) (fun c_251 => ?_) (fun c_251 => ?_)
      · have c_251i := i_lt (x := v_229.toInt) (y := 0) rfl rfl c_251
        rw [← hQ]
        have hP9 := hP.sub (ws' := [(a0, .inr (8, [.ref a1, .int v_230, p_2, p_3, p_4, p_5])), (a1, .inl (K 0, 400, .inl f_231))]) [0, 1] rfl
        have hD9 := hD.sub (ws' := [(a0, .inr (8, [.ref a1, .int v_230, p_2, p_3, p_4, p_5])), (a1, .inl (K 0, 400, .inl f_231))]) [0, 1] (by decide) rfl
        exact W.vret hx hb hr (fun t ht hW => ⟨⟨((fun _ => 0, fun i => match i with | _ => f_231, fun _ => fun _ => 0, fun i => match i with | _ => v_230, fun _ => 0, fun _ => fun _ => none) : Su), rfl, ⟨(show 0 ≤ (v_230 : Int32).toInt ∧ (v_230 : Int32).toInt ≤ 400 by omega), (show (f_231 = pu f ln.toInt.toNat x 4 ∧ (v_230 : Int32).toInt = ln.toInt + 4) by have q9 := hr1_lp_249; rw [show (v_230.toInt - ln.toInt).toNat = 4 by omega] at q9; exact ⟨q9, by omega⟩), trivial⟩, (⟨by rw [ht]; exact hP9, hD9⟩ : Wd D A _ t)⟩, hS.F ht⟩) hS.2.2 dX8_take_49
      · have c_251i := i_nlt (x := v_229.toInt) (y := 0) rfl rfl c_251
        refine lv_aload_n hx hb dX8_take_7 rfl (lv_at hl 1 rfl) ?_
        refine va_get (ci := 8) (v := .int v_230) (C := RX8) (T := TX8) (N := 6) hx hb hts hw8 hown hK hP 0 rfl rfl 1 (by decide) (hts (.fieldLink RX8 15 "SmokeTune$Tape" "length" "I") (List.mem_cons_of_mem _ (List.mem_append_left _ (List.mem_of_getElem? (i := 0) rfl)))) (fun _ h9 => h9) rfl dX8_take_8 ?_
        refine lv_sipush (v := 400) hx hb dX8_take_11 (by decide) ?_
        refine lv_icmp_ge (tgt := 49) hx hb dX8_take_14 (by decide) (fun c_252 => ?_) (fun c_252 => ?_)
        · have c_252i := i_le (x := 400) (y := v_230.toInt) rfl rfl c_252
          rw [← hQ]
          have hP9 := hP.sub (ws' := [(a0, .inr (8, [.ref a1, .int v_230, p_2, p_3, p_4, p_5])), (a1, .inl (K 0, 400, .inl f_231))]) [0, 1] rfl
          have hD9 := hD.sub (ws' := [(a0, .inr (8, [.ref a1, .int v_230, p_2, p_3, p_4, p_5])), (a1, .inl (K 0, 400, .inl f_231))]) [0, 1] (by decide) rfl
          exact W.vret hx hb hr (fun t ht hW => ⟨⟨((fun _ => 0, fun i => match i with | _ => f_231, fun _ => fun _ => 0, fun i => match i with | _ => v_230, fun _ => 0, fun _ => fun _ => none) : Su), rfl, ⟨(show 0 ≤ (v_230 : Int32).toInt ∧ (v_230 : Int32).toInt ≤ 400 by omega), (show (f_231 = pu f ln.toInt.toNat x 4 ∧ (v_230 : Int32).toInt = ln.toInt + 4) by have q9 := hr1_lp_249; rw [show (v_230.toInt - ln.toInt).toNat = 4 by omega] at q9; exact ⟨q9, by omega⟩), trivial⟩, (⟨by rw [ht]; exact hP9, hD9⟩ : Wd D A _ t)⟩, hS.F ht⟩) hS.2.2 dX8_take_49
        · have c_252i := i_nle (x := 400) (y := v_230.toInt) rfl rfl c_252
          refine lv_aload_n hx hb dX8_take_17 rfl (lv_at hl 1 rfl) ?_
          refine va_get (ci := 8) (v := .ref a1) (C := RX8) (T := TX8) (N := 6) hx hb hts hw8 hown hK hP 0 rfl rfl 0 (by decide) (hts (.fieldLink RX8 11 "SmokeTune$Tape" "bytes" "[I") (List.mem_cons_of_mem _ (List.mem_append_left _ (List.mem_of_getElem? (i := 1) rfl)))) (fun _ h9 => h9) rfl dX8_take_18 ?_
          refine lv_aload_n hx hb dX8_take_21 rfl (lv_at hl 1 rfl) ?_
          refine va_get (ci := 8) (v := .int v_230) (C := RX8) (T := TX8) (N := 6) hx hb hts hw8 hown hK hP 0 rfl rfl 1 (by decide) (hts (.fieldLink RX8 15 "SmokeTune$Tape" "length" "I") (List.mem_cons_of_mem _ (List.mem_append_left _ (List.mem_of_getElem? (i := 0) rfl)))) (fun _ h9 => h9) rfl dX8_take_22 ?_
          refine lv_iload_n hx hb dX8_take_25 rfl (lv_at hl 2 rfl) ?_
          refine lv_iload_n hx hb dX8_take_26 rfl (lv_at hl 0 rfl) ?_
          refine lv_ishr hx hb dX8_take_27 ?_
          refine lv_topi (fun x_253 ex_253 => ?_)
          refine lv_sipush (v := 255) hx hb dX8_take_28 (by decide) ?_
          refine lv_iand hx hb dX8_take_31 ?_
          refine lv_topi (fun x_254 ex_254 => ?_)
          have hx_254 : 0 ≤ x_254.toInt ∧ x_254.toInt ≤ 255 := by rw [ex_254]; exact i_mask x_253 8 rfl (by decide)
          refine va_iast hx hb hK hP hD hS 1 0 rfl rfl (i_in rfl (by omega)) dX8_take_32 (fun H locs hP hD hS => ?_)
          generalize hf_255 : (upd f_231 (v_230 : Int32).toNatClampNeg x_254) = f_255 at hP hD
          have hP : va_P D vwCl [(a0, .inr (8, [.ref a1, .int v_230, p_2, p_3, p_4, p_5])), (a1, .inl (K 0, 400, .inl f_255))] H := hP
          have hD : va_D A [(a0, .inr (8, [.ref a1, .int v_230, p_2, p_3, p_4, p_5])), (a1, .inl (K 0, 400, .inl f_255))] := hD
          refine lv_aload_n hx hb dX8_take_33 rfl (lv_at hl 1 rfl) ?_
          refine lv_dup hx hb dX8_take_34 rfl ?_
          refine va_get (ci := 8) (v := .int v_230) (C := RX8) (T := TX8) (N := 6) hx hb hts hw8 hown hK hP 0 rfl rfl 1 (by decide) (hts (.fieldLink RX8 15 "SmokeTune$Tape" "length" "I") (List.mem_cons_of_mem _ (List.mem_append_left _ (List.mem_of_getElem? (i := 0) rfl)))) (fun _ h9 => h9) rfl dX8_take_35 ?_
          refine lv_iconst (v := 1) hx hb dX8_take_38 (by decide) ?_
          refine lv_iadd hx hb dX8_take_39 ?_
          refine lv_topi (fun x_256 ex_256 => ?_)
          have hx_256 : x_256.toInt = (v_230.toInt + 1) := by rw [ex_256]; exact i_add rfl (show (1 : Int32).toInt = 1 from rfl) (by omega)
          refine va_put (ci := 8) (v := .int x_256) (ty := .int) (C := RX8) (T := TX8) (N := 6) hx hb hts hw8 tyX8 tyX8_ok nmX8 hown hK hP hD hS 0 rfl rfl 1 (by decide) (hts (.fieldLink RX8 15 "SmokeTune$Tape" "length" "I") (List.mem_cons_of_mem _ (List.mem_append_left _ (List.mem_of_getElem? (i := 0) rfl)))) (fun _ h9 => h9) rfl (by decide +kernel) (by first | rfl | decide) (by first | rfl | decide) (Nat.le_of_ble_eq_true rfl) dX8_take_40 (fun H locs hP hD hS => ?_)
          have hP : va_P D vwCl [(a0, .inr (8, [.ref a1, .int x_256, p_2, p_3, p_4, p_5])), (a1, .inl (K 0, 400, .inl f_255))] H := hP
          have hD : va_D A [(a0, .inr (8, [.ref a1, .int x_256, p_2, p_3, p_4, p_5])), (a1, .inl (K 0, 400, .inl f_255))] := hD
          obtain ⟨x_257, ex_257⟩ : ∃ y : Int32, y = v_229 + Int32.ofInt (-8) := ⟨_, rfl⟩
          have hx_257 : x_257.toInt = (v_229.toInt + (-8)) := by rw [ex_257]; exact i_add rfl (show (Int32.ofInt (-8)).toInt = (-8) from rfl) (by omega)
          refine lv_iinc (v := x_257) (lv' := [(2, .int x_257), (0, .ref a0), (1, .int x)]) hx hb dX8_take_43 hl (k := 0) rfl (by rw [ex_257]) (by decide) rfl (fun ls hl => ?_)
          refine lv_goto (tgt := 3) hx hb dX8_take_46 (by decide) ?_
          exact ih_250 x_257 x_256 f_255 (by rw [hx_257]; omega) (by rw [hx_256]; omega) (show 8 * ((x_256 : Int32).toInt - ln.toInt) = 24 - (x_257 : Int32).toInt ∧ -8 ≤ (x_257 : Int32).toInt by omega) (show f_255 = pu f ln.toInt.toNat x ((x_256 : Int32).toInt - ln.toInt).toNat by rw [hx_256, ← hf_255]; exact pu_put hr1_lp_249 (by omega) rfl (by omega) ex_253 ex_254) (by omega) _ _ hP hD hS ls (lv_sub hl [0, 1, 2] rfl)
  have hz_258 : (24 : Int32).toInt = 24 := rfl
  exact lp_249 (((24 : Int32).toInt - (-9) : Int).toNat + 1) 24 ln f (by decide) (by omega) (show 8 * ((ln : Int32).toInt - ln.toInt) = 24 - (24 : Int32).toInt ∧ -8 ≤ (24 : Int32).toInt by omega) (show f = pu f ln.toInt.toNat x ((ln : Int32).toInt - ln.toInt).toNat by rw [Int.sub_self]; rfl) (Nat.lt_succ_self _) _ _ hP hD hS ls (lv_sub hl [0, 1, 2] rfl)
set_option maxHeartbeats 4000000 in
set_option maxRecDepth 100000 in
theorem v_fourX (l : Launch) (D : va_G) (K : Nat → ClassId) (m0 : Nat) (x : Int32) (m_0 : Value) (m_1 : Value) (m_2 : Value) (m_3 : Value) (m_4 : Value) (m_5 : Value) (m_6 : Value) (m_7 : Value) (m_8 : Value) (m_9 : Value) (m_10 : Value) (m_11 : Value) (t0 : Nat) (ta : Int32) (m_14 : Value) (m_15 : Value) (m_16 : Value) (m_17 : Value) (m_18 : Value) (m_19 : Value) (m_20 : Value) (m_21 : Value) (m_22 : Value) (m_23 : Value) (m_24 : Value) (m_25 : Value) (m_26 : Value) (m_27 : Value) (m_28 : Value) (m_29 : Value) (m_30 : Value) (m_31 : Value) (m_32 : Value) (m_33 : Value) (m_34 : Value) (m_35 : Value) (m_36 : Value) (m_37 : Value) (m_38 : Value) (m_39 : Value) (m_40 : Value) (m_41 : Value) (m_42 : Value) (m_43 : Value) (m_44 : Value) (m_45 : Value) (m_46 : Value) (m_47 : Value) (m_48 : Value) (m_49 : Value) (m_50 : Value) (m_51 : Value) (m_52 : Value) (m_53 : Value) (m_54 : Value) (m_55 : Value) (m_56 : Value) (m_57 : Value) (m_58 : Value) (m_59 : Value) (ft : Nat → Int32) (sz : Nat) (zta : 0 ≤ ta.toInt ∧ ta.toInt ≤ 396) : Met l yX12_four wsX12_four ({ frames := 0, cells := 0, slots := 0, locals := 0 }) (va_Pc [.ref m0, .int x] (Pre D K [(m0, .inr (12, [m_0, m_1, m_2, m_3, m_4, m_5, m_6, m_7, m_8, m_9, m_10, m_11, .ref t0, .int ta, m_14, m_15, m_16, m_17, m_18, m_19, m_20, m_21, m_22, m_23, m_24, m_25, m_26, m_27, m_28, m_29, m_30, m_31, m_32, m_33, m_34, m_35, m_36, m_37, m_38, m_39, m_40, m_41, m_42, m_43, m_44, m_45, m_46, m_47, m_48, m_49, m_50, m_51, m_52, m_53, m_54, m_55, m_56, m_57, m_58, m_59])), (t0, .inl (K 0, 400, .inl ft))] sz)) (va_Qv (S := Su) (fun (u : Su) => (0 ≤ (u.2.2.2.1 0).toInt ∧ (u.2.2.2.1 0).toInt ≤ 400) ∧ (((u.2.1 0) = pu ft ta.toInt.toNat x 4 ∧ (u.2.2.2.1 0).toInt = ta.toInt + 4)) ∧ True) (fun u t => Wd D (va_A [(m0, .inr (12, [m_0, m_1, m_2, m_3, m_4, m_5, m_6, m_7, m_8, m_9, m_10, m_11, .ref t0, .int ta, m_14, m_15, m_16, m_17, m_18, m_19, m_20, m_21, m_22, m_23, m_24, m_25, m_26, m_27, m_28, m_29, m_30, m_31, m_32, m_33, m_34, m_35, m_36, m_37, m_38, m_39, m_40, m_41, m_42, m_43, m_44, m_45, m_46, m_47, m_48, m_49, m_50, m_51, m_52, m_53, m_54, m_55, m_56, m_57, m_58, m_59])), (t0, .inl (K 0, 400, .inl ft))] sz) ((fun u => [(m0, .inr (12, [m_0, m_1, m_2, m_3, m_4, m_5, m_6, m_7, m_8, m_9, m_10, m_11, .ref t0, .int (u.2.2.2.1 0), m_14, m_15, m_16, m_17, m_18, m_19, m_20, m_21, m_22, m_23, m_24, m_25, m_26, m_27, m_28, m_29, m_30, m_31, m_32, m_33, m_34, m_35, m_36, m_37, m_38, m_39, m_40, m_41, m_42, m_43, m_44, m_45, m_46, m_47, m_48, m_49, m_50, m_51, m_52, m_53, m_54, m_55, m_56, m_57, m_58, m_59])), (t0, .inl (K 0, 400, .inl (u.2.1 0)))]) u) t) (va_A [(m0, .inr (12, [m_0, m_1, m_2, m_3, m_4, m_5, m_6, m_7, m_8, m_9, m_10, m_11, .ref t0, .int ta, m_14, m_15, m_16, m_17, m_18, m_19, m_20, m_21, m_22, m_23, m_24, m_25, m_26, m_27, m_28, m_29, m_30, m_31, m_32, m_33, m_34, m_35, m_36, m_37, m_38, m_39, m_40, m_41, m_42, m_43, m_44, m_45, m_46, m_47, m_48, m_49, m_50, m_51, m_52, m_53, m_54, m_55, m_56, m_57, m_58, m_59])), (t0, .inl (K 0, 400, .inl ft))] sz)) 0 0 (va_A [(m0, .inr (12, [m_0, m_1, m_2, m_3, m_4, m_5, m_6, m_7, m_8, m_9, m_10, m_11, .ref t0, .int ta, m_14, m_15, m_16, m_17, m_18, m_19, m_20, m_21, m_22, m_23, m_24, m_25, m_26, m_27, m_28, m_29, m_30, m_31, m_32, m_33, m_34, m_35, m_36, m_37, m_38, m_39, m_40, m_41, m_42, m_43, m_44, m_45, m_46, m_47, m_48, m_49, m_50, m_51, m_52, m_53, m_54, m_55, m_56, m_57, m_58, m_59])), (t0, .inl (K 0, 400, .inl ft))] sz) := by
  refine Met.ofW (cc := cX12_four) (maxL := 3) (ret := none) (by decide) rfl ?_
  intro p e s m args below meth c s₁ B hml hv
  obtain ⟨rfl, hsz, hP, hK, hD0, hN⟩ := hv
  have hx := B.exec
  have hb := B.bytes
  have hr := B.returns
  have hts := atoms_spec (ws := wsX12_four) B.pre
  have hown : s.vm.findClass RX12 = some m.cls := findClass_of_methodNamed B.named
  have hlocks := B.notSynchronized
  subst hsz
  have hD := hD0.self (sz := s.heap.size)
  generalize hAe : va_A [(m0, .inr (12, [m_0, m_1, m_2, m_3, m_4, m_5, m_6, m_7, m_8, m_9, m_10, m_11, .ref t0, .int ta, m_14, m_15, m_16, m_17, m_18, m_19, m_20, m_21, m_22, m_23, m_24, m_25, m_26, m_27, m_28, m_29, m_30, m_31, m_32, m_33, m_34, m_35, m_36, m_37, m_38, m_39, m_40, m_41, m_42, m_43, m_44, m_45, m_46, m_47, m_48, m_49, m_50, m_51, m_52, m_53, m_54, m_55, m_56, m_57, m_58, m_59])), (t0, .inl (K 0, 400, .inl ft))] s.heap.size = A at hD ⊢
  have hA : ∀ q : Nat, s.heap.size ≤ q → A q := fun q h => by rw [← hAe]; exact Or.inr h
  have hS : va_S A s.heap s.heap [] := va_S.rf
  have hP : va_P D vwCl [(m0, .inr (12, [m_0, m_1, m_2, m_3, m_4, m_5, m_6, m_7, m_8, m_9, m_10, m_11, .ref t0, .int ta, m_14, m_15, m_16, m_17, m_18, m_19, m_20, m_21, m_22, m_23, m_24, m_25, m_26, m_27, m_28, m_29, m_30, m_31, m_32, m_33, m_34, m_35, m_36, m_37, m_38, m_39, m_40, m_41, m_42, m_43, m_44, m_45, m_46, m_47, m_48, m_49, m_50, m_51, m_52, m_53, m_54, m_55, m_56, m_57, m_58, m_59])), (t0, .inl (K 0, 400, .inl ft))] s.heap := hP
  have hl := lv_entry [.ref m0, .int x] (n := 3) (Nat.le_of_ble_eq_true rfl)
  rw [lg_entry_eq]
  generalize (lg_sl [.ref m0, .int x] ++ List.replicate (3 - (lg_sl [.ref m0, .int x]).length) Slot.unset).toArray = ls at hl ⊢
  have hl : lv_has ls 3 [(0, .ref m0), (1, .int x)] := hl
  have hw12 : ∀ w ∈ wsX120, w ∈ wsX12_four := fun w h => (List.mem_cons_of_mem _ (List.mem_append_right _ h))
  generalize hQ : MQ below _ _ s _ _ _ = Q
  refine lv_bipush (v := 24) hx hb dX12_four_0 (by decide) ?_
  refine lv_istore_n (lv' := [(2, .int 24), (0, .ref m0), (1, .int x)]) hx hb dX12_four_2 rfl hl (by decide) rfl (fun ls hl => ?_)
  have lp_202 : ∀ (nn_ : Nat) (v_184 : Int32) (v_185 : Int32) (f_186 : Nat → Int32) (hv_184 : (-8) ≤ v_184.toInt ∧ v_184.toInt ≤ 24) (hv_185 : 0 ≤ v_185.toInt ∧ v_185.toInt ≤ 400) (hr0_lp_202 : 8 * (v_185.toInt - ta.toInt) = 24 - v_184.toInt ∧ -8 ≤ v_184.toInt) (hr1_lp_202 : f_186 = pu ft ta.toInt.toNat x (v_185.toInt - ta.toInt).toNat) (hn : (v_184.toInt - (-9) : Int).toNat < nn_) (H : Heap) (locs : List Loc) (hP : va_P D vwCl [(m0, .inr (12, [m_0, m_1, m_2, m_3, m_4, m_5, m_6, m_7, m_8, m_9, m_10, m_11, .ref t0, .int v_185, m_14, m_15, m_16, m_17, m_18, m_19, m_20, m_21, m_22, m_23, m_24, m_25, m_26, m_27, m_28, m_29, m_30, m_31, m_32, m_33, m_34, m_35, m_36, m_37, m_38, m_39, m_40, m_41, m_42, m_43, m_44, m_45, m_46, m_47, m_48, m_49, m_50, m_51, m_52, m_53, m_54, m_55, m_56, m_57, m_58, m_59])), (t0, .inl (K 0, 400, .inl f_186))] H) (hD : va_D A [(m0, .inr (12, [m_0, m_1, m_2, m_3, m_4, m_5, m_6, m_7, m_8, m_9, m_10, m_11, .ref t0, .int v_185, m_14, m_15, m_16, m_17, m_18, m_19, m_20, m_21, m_22, m_23, m_24, m_25, m_26, m_27, m_28, m_29, m_30, m_31, m_32, m_33, m_34, m_35, m_36, m_37, m_38, m_39, m_40, m_41, m_42, m_43, m_44, m_45, m_46, m_47, m_48, m_49, m_50, m_51, m_52, m_53, m_54, m_55, m_56, m_57, m_58, m_59])), (t0, .inl (K 0, 400, .inl f_186))]) (hS : va_S A s.heap H locs) (ls : Array Slot) (hl : lv_has ls 3 [(2, .int v_184), (0, .ref m0), (1, .int x)]), W p l e ({ frames := 0, cells := 0, slots := 0, locals := 0 }) s m (([.ref m0, .int x] : List Value).toArray) below meth c H locs 0 0 Q (F0 m 3 ls []) := by
    intro nn_
    induction nn_ with
    | zero =>
      intro v_184 v_185 f_186 hv_184 hv_185 hr0_lp_202 hr1_lp_202 hn H locs hP hD hS ls hl
      exact absurd hn (Nat.not_lt_zero _)
    | succ nn_ ih_203 =>
      intro v_184 v_185 f_186 hv_184 hv_185 hr0_lp_202 hr1_lp_202 hn H locs hP hD hS ls hl
      refine lv_iload_n hx hb dX12_four_3 rfl (lv_at hl 0 rfl) ?_
      refine lv_if_lt (tgt := 39) hx hb dX12_four_4 (by decide) (fun c_204 => ?_) (fun c_204 => ?_)
      · have c_204i := i_lt (x := v_184.toInt) (y := 0) rfl rfl c_204
        rw [← hQ]
        have hP9 := hP.sub (ws' := [(m0, .inr (12, [m_0, m_1, m_2, m_3, m_4, m_5, m_6, m_7, m_8, m_9, m_10, m_11, .ref t0, .int v_185, m_14, m_15, m_16, m_17, m_18, m_19, m_20, m_21, m_22, m_23, m_24, m_25, m_26, m_27, m_28, m_29, m_30, m_31, m_32, m_33, m_34, m_35, m_36, m_37, m_38, m_39, m_40, m_41, m_42, m_43, m_44, m_45, m_46, m_47, m_48, m_49, m_50, m_51, m_52, m_53, m_54, m_55, m_56, m_57, m_58, m_59])), (t0, .inl (K 0, 400, .inl f_186))]) [0, 1] rfl
        have hD9 := hD.sub (ws' := [(m0, .inr (12, [m_0, m_1, m_2, m_3, m_4, m_5, m_6, m_7, m_8, m_9, m_10, m_11, .ref t0, .int v_185, m_14, m_15, m_16, m_17, m_18, m_19, m_20, m_21, m_22, m_23, m_24, m_25, m_26, m_27, m_28, m_29, m_30, m_31, m_32, m_33, m_34, m_35, m_36, m_37, m_38, m_39, m_40, m_41, m_42, m_43, m_44, m_45, m_46, m_47, m_48, m_49, m_50, m_51, m_52, m_53, m_54, m_55, m_56, m_57, m_58, m_59])), (t0, .inl (K 0, 400, .inl f_186))]) [0, 1] (by decide) rfl
        exact W.vret hx hb hr (fun t ht hW => ⟨⟨((fun _ => 0, fun i => match i with | _ => f_186, fun _ => fun _ => 0, fun i => match i with | _ => v_185, fun _ => 0, fun _ => fun _ => none) : Su), rfl, ⟨(show 0 ≤ (v_185 : Int32).toInt ∧ (v_185 : Int32).toInt ≤ 400 by omega), (show (f_186 = pu ft ta.toInt.toNat x 4 ∧ (v_185 : Int32).toInt = ta.toInt + 4) by have q9 := hr1_lp_202; rw [show (v_185.toInt - ta.toInt).toNat = 4 by omega] at q9; exact ⟨q9, by omega⟩), trivial⟩, (⟨by rw [ht]; exact hP9, hD9⟩ : Wd D A _ t)⟩, hS.F ht⟩) hS.2.2 dX12_four_39
      · have c_204i := i_nlt (x := v_184.toInt) (y := 0) rfl rfl c_204
        refine lv_aload_n hx hb dX12_four_7 rfl (lv_at hl 1 rfl) ?_
        refine va_get (ci := 12) (v := .ref t0) (C := RX12) (T := TX12) (N := 60) hx hb hts hw12 hown hK hP 0 rfl rfl 12 (by decide) (hts (.fieldLink RX12 35 "SmokeTuneModel" "tape" "[I") (List.mem_cons_of_mem _ (List.mem_append_left _ (List.mem_of_getElem? (i := 0) rfl)))) (fun _ h9 => h9) rfl dX12_four_8 ?_
        refine lv_aload_n hx hb dX12_four_11 rfl (lv_at hl 1 rfl) ?_
        refine va_get (ci := 12) (v := .int v_185) (C := RX12) (T := TX12) (N := 60) hx hb hts hw12 hown hK hP 0 rfl rfl 13 (by decide) (hts (.fieldLink RX12 227 "SmokeTuneModel" "taped" "I") (List.mem_cons_of_mem _ (List.mem_append_left _ (List.mem_of_getElem? (i := 1) rfl)))) (fun _ h9 => h9) rfl dX12_four_12 ?_
        refine lv_iload_n hx hb dX12_four_15 rfl (lv_at hl 2 rfl) ?_
        refine lv_iload_n hx hb dX12_four_16 rfl (lv_at hl 0 rfl) ?_
        refine lv_ishr hx hb dX12_four_17 ?_
        refine lv_topi (fun x_205 ex_205 => ?_)
        refine lv_sipush (v := 255) hx hb dX12_four_18 (by decide) ?_
        refine lv_iand hx hb dX12_four_21 ?_
        refine lv_topi (fun x_206 ex_206 => ?_)
        have hx_206 : 0 ≤ x_206.toInt ∧ x_206.toInt ≤ 255 := by rw [ex_206]; exact i_mask x_205 8 rfl (by decide)
        refine va_iast hx hb hK hP hD hS 1 0 rfl rfl (i_in rfl (by omega)) dX12_four_22 (fun H locs hP hD hS => ?_)
        generalize hf_207 : (upd f_186 (v_185 : Int32).toNatClampNeg x_206) = f_207 at hP hD
        have hP : va_P D vwCl [(m0, .inr (12, [m_0, m_1, m_2, m_3, m_4, m_5, m_6, m_7, m_8, m_9, m_10, m_11, .ref t0, .int v_185, m_14, m_15, m_16, m_17, m_18, m_19, m_20, m_21, m_22, m_23, m_24, m_25, m_26, m_27, m_28, m_29, m_30, m_31, m_32, m_33, m_34, m_35, m_36, m_37, m_38, m_39, m_40, m_41, m_42, m_43, m_44, m_45, m_46, m_47, m_48, m_49, m_50, m_51, m_52, m_53, m_54, m_55, m_56, m_57, m_58, m_59])), (t0, .inl (K 0, 400, .inl f_207))] H := hP
        have hD : va_D A [(m0, .inr (12, [m_0, m_1, m_2, m_3, m_4, m_5, m_6, m_7, m_8, m_9, m_10, m_11, .ref t0, .int v_185, m_14, m_15, m_16, m_17, m_18, m_19, m_20, m_21, m_22, m_23, m_24, m_25, m_26, m_27, m_28, m_29, m_30, m_31, m_32, m_33, m_34, m_35, m_36, m_37, m_38, m_39, m_40, m_41, m_42, m_43, m_44, m_45, m_46, m_47, m_48, m_49, m_50, m_51, m_52, m_53, m_54, m_55, m_56, m_57, m_58, m_59])), (t0, .inl (K 0, 400, .inl f_207))] := hD
        refine lv_aload_n hx hb dX12_four_23 rfl (lv_at hl 1 rfl) ?_
        refine lv_dup hx hb dX12_four_24 rfl ?_
        refine va_get (ci := 12) (v := .int v_185) (C := RX12) (T := TX12) (N := 60) hx hb hts hw12 hown hK hP 0 rfl rfl 13 (by decide) (hts (.fieldLink RX12 227 "SmokeTuneModel" "taped" "I") (List.mem_cons_of_mem _ (List.mem_append_left _ (List.mem_of_getElem? (i := 1) rfl)))) (fun _ h9 => h9) rfl dX12_four_25 ?_
        refine lv_iconst (v := 1) hx hb dX12_four_28 (by decide) ?_
        refine lv_iadd hx hb dX12_four_29 ?_
        refine lv_topi (fun x_208 ex_208 => ?_)
        have hx_208 : x_208.toInt = (v_185.toInt + 1) := by rw [ex_208]; exact i_add rfl (show (1 : Int32).toInt = 1 from rfl) (by omega)
        refine va_put (ci := 12) (v := .int x_208) (ty := .int) (C := RX12) (T := TX12) (N := 60) hx hb hts hw12 tyX12 tyX12_ok nmX12 hown hK hP hD hS 0 rfl rfl 13 (by decide) (hts (.fieldLink RX12 227 "SmokeTuneModel" "taped" "I") (List.mem_cons_of_mem _ (List.mem_append_left _ (List.mem_of_getElem? (i := 1) rfl)))) (fun _ h9 => h9) rfl (by decide +kernel) (by first | rfl | decide) (by first | rfl | decide) (Nat.le_of_ble_eq_true rfl) dX12_four_30 (fun H locs hP hD hS => ?_)
        have hP : va_P D vwCl [(m0, .inr (12, [m_0, m_1, m_2, m_3, m_4, m_5, m_6, m_7, m_8, m_9, m_10, m_11, .ref t0, .int x_208, m_14, m_15, m_16, m_17, m_18, m_19, m_20, m_21, m_22, m_23, m_24, m_25, m_26, m_27, m_28, m_29, m_30, m_31, m_32, m_33, m_34, m_35, m_36, m_37, m_38, m_39, m_40, m_41, m_42, m_43, m_44, m_45, m_46, m_47, m_48, m_49, m_50, m_51, m_52, m_53, m_54, m_55, m_56, m_57, m_58, m_59])), (t0, .inl (K 0, 400, .inl f_207))] H := hP
        have hD : va_D A [(m0, .inr (12, [m_0, m_1, m_2, m_3, m_4, m_5, m_6, m_7, m_8, m_9, m_10, m_11, .ref t0, .int x_208, m_14, m_15, m_16, m_17, m_18, m_19, m_20, m_21, m_22, m_23, m_24, m_25, m_26, m_27, m_28, m_29, m_30, m_31, m_32, m_33, m_34, m_35, m_36, m_37, m_38, m_39, m_40, m_41, m_42, m_43, m_44, m_45, m_46, m_47, m_48, m_49, m_50, m_51, m_52, m_53, m_54, m_55, m_56, m_57, m_58, m_59])), (t0, .inl (K 0, 400, .inl f_207))] := hD
        obtain ⟨x_209, ex_209⟩ : ∃ y : Int32, y = v_184 + Int32.ofInt (-8) := ⟨_, rfl⟩
        have hx_209 : x_209.toInt = (v_184.toInt + (-8)) := by rw [ex_209]; exact i_add rfl (show (Int32.ofInt (-8)).toInt = (-8) from rfl) (by omega)
        refine lv_iinc (v := x_209) (lv' := [(2, .int x_209), (0, .ref m0), (1, .int x)]) hx hb dX12_four_33 hl (k := 0) rfl (by rw [ex_209]) (by decide) rfl (fun ls hl => ?_)
        refine lv_goto (tgt := 3) hx hb dX12_four_36 (by decide) ?_
        exact ih_203 x_209 x_208 f_207 (by rw [hx_209]; omega) (by rw [hx_208]; omega) (show 8 * ((x_208 : Int32).toInt - ta.toInt) = 24 - (x_209 : Int32).toInt ∧ -8 ≤ (x_209 : Int32).toInt by omega) (show f_207 = pu ft ta.toInt.toNat x ((x_208 : Int32).toInt - ta.toInt).toNat by rw [hx_208, ← hf_207]; exact pu_put hr1_lp_202 (by omega) rfl (by omega) ex_205 ex_206) (by omega) _ _ hP hD hS ls (lv_sub hl [0, 1, 2] rfl)
  have hz_210 : (24 : Int32).toInt = 24 := rfl
  exact lp_202 (((24 : Int32).toInt - (-9) : Int).toNat + 1) 24 ta ft (by decide) (by omega) (show 8 * ((ta : Int32).toInt - ta.toInt) = 24 - (24 : Int32).toInt ∧ -8 ≤ (24 : Int32).toInt by omega) (show ft = pu ft ta.toInt.toNat x ((ta : Int32).toInt - ta.toInt).toNat by rw [Int.sub_self]; rfl) (Nat.lt_succ_self _) _ _ hP hD hS ls (lv_sub hl [0, 1, 2] rfl)
set_option maxHeartbeats 4000000 in
set_option maxRecDepth 100000 in
theorem w_feedX (l : Launch) (D : va_G) (K : Nat → ClassId) (o0 : Nat) (x0 : Int32) (x1 : Int32) (x2 : Int32) (x3 : Int32) (x4 : Int32) (o_0 : Value) (o_1 : Value) (o_2 : Value) (o_3 : Value) (o_4 : Value) (p0 : Nat) (o_6 : Value) (o_7 : Value) (o_8 : Value) (o_9 : Value) (o_10 : Value) (o_11 : Value) (o_12 : Value) (o_13 : Value) (o_14 : Value) (o_15 : Value) (o_16 : Value) (p1 : Nat) (ln : Int32) (p_2 : Value) (p_3 : Value) (p_4 : Value) (p_5 : Value) (fb : Nat → Int32) (sz : Nat) (zln : 0 ≤ ln.toInt ∧ ln.toInt ≤ 400) : Met l yX11_feed wsX11_feed ({ frames := 1, cells := 0, slots := 0, locals := 22 }) (va_Pc [.ref o0, .int x0, .int x1, .int x2, .int x3, .int x4] (Pre D K [(o0, .inr (11, [o_0, o_1, o_2, o_3, o_4, .ref p0, o_6, o_7, o_8, o_9, o_10, o_11, o_12, o_13, o_14, o_15, o_16])), (p0, .inr (8, [.ref p1, .int ln, p_2, p_3, p_4, p_5])), (p1, .inl (K 0, 400, .inl fb))] sz)) (va_Qi (S := Su) (fun (r : Int32) (u : Su) => ((-1) ≤ r.toInt ∧ r.toInt ≤ 400) ∧ (0 ≤ (u.2.2.2.1 0).toInt ∧ (u.2.2.2.1 0).toInt ≤ 400) ∧ (((400 < ln.toInt + 20 ∧ (u.2.2.2.1 0).toInt = ln.toInt ∧ r.toInt = -1 ∧ (u.2.1 0) = fb) ∨ (ln.toInt + 20 ≤ 400 ∧ (u.2.2.2.1 0).toInt = ln.toInt + 20 ∧ r.toInt = ln.toInt + 20 ∧ (u.2.1 0) = fe fb ln.toInt.toNat x0 x1 x2 x3 x4))) ∧ True) (fun u t => Wd D (va_A [(o0, .inr (11, [o_0, o_1, o_2, o_3, o_4, .ref p0, o_6, o_7, o_8, o_9, o_10, o_11, o_12, o_13, o_14, o_15, o_16])), (p0, .inr (8, [.ref p1, .int ln, p_2, p_3, p_4, p_5])), (p1, .inl (K 0, 400, .inl fb))] sz) ((fun u => [(o0, .inr (11, [o_0, o_1, o_2, o_3, o_4, .ref p0, o_6, o_7, o_8, o_9, o_10, o_11, o_12, o_13, o_14, o_15, o_16])), (p0, .inr (8, [.ref p1, .int (u.2.2.2.1 0), p_2, p_3, p_4, p_5])), (p1, .inl (K 0, 400, .inl (u.2.1 0)))]) u) t) (va_A [(o0, .inr (11, [o_0, o_1, o_2, o_3, o_4, .ref p0, o_6, o_7, o_8, o_9, o_10, o_11, o_12, o_13, o_14, o_15, o_16])), (p0, .inr (8, [.ref p1, .int ln, p_2, p_3, p_4, p_5])), (p1, .inl (K 0, 400, .inl fb))] sz)) 0 0 (va_A [(o0, .inr (11, [o_0, o_1, o_2, o_3, o_4, .ref p0, o_6, o_7, o_8, o_9, o_10, o_11, o_12, o_13, o_14, o_15, o_16])), (p0, .inr (8, [.ref p1, .int ln, p_2, p_3, p_4, p_5])), (p1, .inl (K 0, 400, .inl fb))] sz) := by
  refine Met.ofW (cc := cX11_feed) (maxL := 6) (ret := (some .int)) (by decide) rfl ?_
  intro p e s m args below meth c s₁ B hml hv
  obtain ⟨rfl, hsz, hP, hK, hD0, hN⟩ := hv
  have hx := B.exec
  have hb := B.bytes
  have hr := B.returns
  have hts := atoms_spec (ws := wsX11_feed) B.pre
  have hown : s.vm.findClass RX11 = some m.cls := findClass_of_methodNamed B.named
  have hlocks := B.notSynchronized
  subst hsz
  have hD := hD0.self (sz := s.heap.size)
  generalize hAe : va_A [(o0, .inr (11, [o_0, o_1, o_2, o_3, o_4, .ref p0, o_6, o_7, o_8, o_9, o_10, o_11, o_12, o_13, o_14, o_15, o_16])), (p0, .inr (8, [.ref p1, .int ln, p_2, p_3, p_4, p_5])), (p1, .inl (K 0, 400, .inl fb))] s.heap.size = A at hD ⊢
  have hA : ∀ q : Nat, s.heap.size ≤ q → A q := fun q h => by rw [← hAe]; exact Or.inr h
  have hS : va_S A s.heap s.heap [] := va_S.rf
  have hP : va_P D vwCl [(o0, .inr (11, [o_0, o_1, o_2, o_3, o_4, .ref p0, o_6, o_7, o_8, o_9, o_10, o_11, o_12, o_13, o_14, o_15, o_16])), (p0, .inr (8, [.ref p1, .int ln, p_2, p_3, p_4, p_5])), (p1, .inl (K 0, 400, .inl fb))] s.heap := hP
  have hl := lv_entry [.ref o0, .int x0, .int x1, .int x2, .int x3, .int x4] (n := 6) (Nat.le_of_ble_eq_true rfl)
  rw [lg_entry_eq]
  generalize (lg_sl [.ref o0, .int x0, .int x1, .int x2, .int x3, .int x4] ++ List.replicate (6 - (lg_sl [.ref o0, .int x0, .int x1, .int x2, .int x3, .int x4]).length) Slot.unset).toArray = ls at hl ⊢
  have hl : lv_has ls 6 [(0, .ref o0), (1, .int x0), (2, .int x1), (3, .int x2), (4, .int x3), (5, .int x4)] := hl
  have hw8 : ∀ w ∈ wsX80, w ∈ wsX11_feed := fun w h => (List.mem_cons_of_mem _ (List.mem_append_right _ h))
  have hw11 : ∀ w ∈ wsX110, w ∈ wsX11_feed := fun w h => (List.mem_cons_of_mem _ (List.mem_append_left _ (List.mem_append_right _ h)))
  generalize hQ : MQ below _ _ s _ _ _ = Q
  refine lv_aload_n hx hb dX11_feed_0 rfl (lv_at hl 0 rfl) ?_
  refine va_get (ci := 11) (v := .ref p0) (C := RX11) (T := TX11) (N := 17) hx hb hts hw11 hown hK hP 0 rfl rfl 5 (by decide) (hts (.fieldLink RX11 38 "SmokeTune" "tape" "LSmokeTune$Tape;") (List.mem_cons_of_mem _ (List.mem_append_left _ (List.mem_append_left _ (List.mem_of_getElem? (i := 0) rfl))))) (fun _ h9 => h9) rfl dX11_feed_1 ?_
  refine va_getN (ci := 8) (v := .int ln) (C := RX8) (T := TX8) (N := 6) hx hb hts hw8 hown hK hP 1 rfl rfl 1 (by decide) (nst_use hN 120 rfl) (fun _ h9 => h9) rfl dX11_feed_4 ?_
  refine lv_bipush (v := 20) hx hb dX11_feed_7 (by decide) ?_
  refine lv_iadd hx hb dX11_feed_9 ?_
  refine lv_topi (fun x_105 ex_105 => ?_)
  have hx_105 : x_105.toInt = (ln.toInt + 20) := by rw [ex_105]; exact i_add rfl (show (20 : Int32).toInt = 20 from rfl) (by omega)
  refine lv_sipush (v := 400) hx hb dX11_feed_10 (by decide) ?_
  refine lv_icmp_le (tgt := 18) hx hb dX11_feed_13 (by decide) (fun c_106 => ?_) (fun c_106 => ?_)
  · have c_106i := i_le (x := (ln.toInt + 20)) (y := 400) hx_105 rfl c_106
    refine lv_aload_n hx hb dX11_feed_18 rfl (lv_at hl 0 rfl) ?_
    refine va_get (ci := 11) (v := .ref p0) (C := RX11) (T := TX11) (N := 17) hx hb hts hw11 hown hK hP 0 rfl rfl 5 (by decide) (hts (.fieldLink RX11 38 "SmokeTune" "tape" "LSmokeTune$Tape;") (List.mem_cons_of_mem _ (List.mem_append_left _ (List.mem_append_left _ (List.mem_of_getElem? (i := 0) rfl))))) (fun _ h9 => h9) rfl dX11_feed_19 ?_
    refine lv_iload_n hx hb dX11_feed_22 rfl (lv_at hl 1 rfl) ?_
    refine kcv (S := Su) (wr := [(o0, .inr (11, [o_0, o_1, o_2, o_3, o_4, .ref p0, o_6, o_7, o_8, o_9, o_10, o_11, o_12, o_13, o_14, o_15, o_16]))]) (va_runVN (As := [.int x0]) (rest := []) ⟨hx, hb, hml, hown, hts⟩ (w_takeX l D K p0 x0 p1 ln p_2 p_3 p_4 p_5 fb s.heap.size (by first | omega | decide)) ⟨va_cnB 1 hts gX11_feed_X8_take_n166 rfl rfl rfl (nst_at hN 29 rfl) (hts (.initialized RX8) (List.mem_cons_of_mem _ (List.mem_append_left _ (List.mem_append_left _ (List.mem_of_getElem? (i := 2) rfl))))) (by decide +kernel) ⟨Nat.le_of_ble_eq_true rfl, Nat.le_of_ble_eq_true rfl⟩, (hts (.instanceMethod yX8_take) (List.mem_cons_of_mem _ (List.mem_append_left _ (List.mem_append_left _ (List.mem_of_getElem? (i := 1) rfl))))), (hts (.selects RX8 yX8_take yX8_take) (List.mem_cons_of_mem _ (List.mem_append_left _ (List.mem_append_left _ (List.mem_of_getElem? (i := 3) rfl)))))⟩ (mkV hK hN (hP.sub [1, 2] rfl) (hD.sub [1, 2] (by decide) rfl) (ci := 8) (q0 := 0) rfl rfl) rfl rfl hl.1 rfl (lv_room (Nat.le_of_ble_eq_true rfl)) dX11_feed_23 ⟨Nat.le_of_ble_eq_true rfl, Nat.le_of_ble_eq_true rfl⟩) hP hD hS hA [1, 2] [0] rfl rfl (by decide) (by decide) (fun u_108 H locs hw hP hD hS => ?_)
    have hP : va_P D vwCl [(o0, .inr (11, [o_0, o_1, o_2, o_3, o_4, .ref p0, o_6, o_7, o_8, o_9, o_10, o_11, o_12, o_13, o_14, o_15, o_16])), (p0, .inr (8, [.ref p1, .int (u_108.2.2.2.1 0), p_2, p_3, p_4, p_5])), (p1, .inl (K 0, 400, .inl (u_108.2.1 0)))] H := hP
    have hD : va_D A [(o0, .inr (11, [o_0, o_1, o_2, o_3, o_4, .ref p0, o_6, o_7, o_8, o_9, o_10, o_11, o_12, o_13, o_14, o_15, o_16])), (p0, .inr (8, [.ref p1, .int (u_108.2.2.2.1 0), p_2, p_3, p_4, p_5])), (p1, .inl (K 0, 400, .inl (u_108.2.1 0)))] := hD
    obtain ⟨k_109, k_110, -⟩ := hw
    obtain ⟨ck_110, lk_110⟩ := k_110
    refine lv_aload_n hx hb dX11_feed_26 rfl (lv_at hl 0 rfl) ?_
    refine va_get (ci := 11) (v := .ref p0) (C := RX11) (T := TX11) (N := 17) hx hb hts hw11 hown hK hP 0 rfl rfl 5 (by decide) (hts (.fieldLink RX11 38 "SmokeTune" "tape" "LSmokeTune$Tape;") (List.mem_cons_of_mem _ (List.mem_append_left _ (List.mem_append_left _ (List.mem_of_getElem? (i := 0) rfl))))) (fun _ h9 => h9) rfl dX11_feed_27 ?_
    refine lv_iload_n hx hb dX11_feed_30 rfl (lv_at hl 2 rfl) ?_
    refine kcv (S := Su) (wr := [(o0, .inr (11, [o_0, o_1, o_2, o_3, o_4, .ref p0, o_6, o_7, o_8, o_9, o_10, o_11, o_12, o_13, o_14, o_15, o_16]))]) (va_runVN (As := [.int x1]) (rest := []) ⟨hx, hb, hml, hown, hts⟩ (w_takeX l D K p0 x1 p1 (u_108.2.2.2.1 0) p_2 p_3 p_4 p_5 (u_108.2.1 0) H.size (by first | omega | decide)) ⟨va_cnB 1 hts gX11_feed_X8_take_n166 rfl rfl rfl (nst_at hN 29 rfl) (hts (.initialized RX8) (List.mem_cons_of_mem _ (List.mem_append_left _ (List.mem_append_left _ (List.mem_of_getElem? (i := 2) rfl))))) (by decide +kernel) ⟨Nat.le_of_ble_eq_true rfl, Nat.le_of_ble_eq_true rfl⟩, (hts (.instanceMethod yX8_take) (List.mem_cons_of_mem _ (List.mem_append_left _ (List.mem_append_left _ (List.mem_of_getElem? (i := 1) rfl))))), (hts (.selects RX8 yX8_take yX8_take) (List.mem_cons_of_mem _ (List.mem_append_left _ (List.mem_append_left _ (List.mem_of_getElem? (i := 3) rfl)))))⟩ (mkV hK hN (hP.sub [1, 2] rfl) (hD.sub [1, 2] (by decide) rfl) (ci := 8) (q0 := 0) rfl rfl) rfl rfl hl.1 rfl (lv_room (Nat.le_of_ble_eq_true rfl)) dX11_feed_31 ⟨Nat.le_of_ble_eq_true rfl, Nat.le_of_ble_eq_true rfl⟩) hP hD hS hA [1, 2] [0] rfl rfl (by decide) (by decide) (fun u_112 H locs hw hP hD hS => ?_)
    have hP : va_P D vwCl [(o0, .inr (11, [o_0, o_1, o_2, o_3, o_4, .ref p0, o_6, o_7, o_8, o_9, o_10, o_11, o_12, o_13, o_14, o_15, o_16])), (p0, .inr (8, [.ref p1, .int (u_112.2.2.2.1 0), p_2, p_3, p_4, p_5])), (p1, .inl (K 0, 400, .inl (u_112.2.1 0)))] H := hP
    have hD : va_D A [(o0, .inr (11, [o_0, o_1, o_2, o_3, o_4, .ref p0, o_6, o_7, o_8, o_9, o_10, o_11, o_12, o_13, o_14, o_15, o_16])), (p0, .inr (8, [.ref p1, .int (u_112.2.2.2.1 0), p_2, p_3, p_4, p_5])), (p1, .inl (K 0, 400, .inl (u_112.2.1 0)))] := hD
    obtain ⟨k_113, k_114, -⟩ := hw
    obtain ⟨ck_114, lk_114⟩ := k_114
    refine lv_aload_n hx hb dX11_feed_34 rfl (lv_at hl 0 rfl) ?_
    refine va_get (ci := 11) (v := .ref p0) (C := RX11) (T := TX11) (N := 17) hx hb hts hw11 hown hK hP 0 rfl rfl 5 (by decide) (hts (.fieldLink RX11 38 "SmokeTune" "tape" "LSmokeTune$Tape;") (List.mem_cons_of_mem _ (List.mem_append_left _ (List.mem_append_left _ (List.mem_of_getElem? (i := 0) rfl))))) (fun _ h9 => h9) rfl dX11_feed_35 ?_
    refine lv_iload_n hx hb dX11_feed_38 rfl (lv_at hl 3 rfl) ?_
    refine kcv (S := Su) (wr := [(o0, .inr (11, [o_0, o_1, o_2, o_3, o_4, .ref p0, o_6, o_7, o_8, o_9, o_10, o_11, o_12, o_13, o_14, o_15, o_16]))]) (va_runVN (As := [.int x2]) (rest := []) ⟨hx, hb, hml, hown, hts⟩ (w_takeX l D K p0 x2 p1 (u_112.2.2.2.1 0) p_2 p_3 p_4 p_5 (u_112.2.1 0) H.size (by first | omega | decide)) ⟨va_cnB 1 hts gX11_feed_X8_take_n166 rfl rfl rfl (nst_at hN 29 rfl) (hts (.initialized RX8) (List.mem_cons_of_mem _ (List.mem_append_left _ (List.mem_append_left _ (List.mem_of_getElem? (i := 2) rfl))))) (by decide +kernel) ⟨Nat.le_of_ble_eq_true rfl, Nat.le_of_ble_eq_true rfl⟩, (hts (.instanceMethod yX8_take) (List.mem_cons_of_mem _ (List.mem_append_left _ (List.mem_append_left _ (List.mem_of_getElem? (i := 1) rfl))))), (hts (.selects RX8 yX8_take yX8_take) (List.mem_cons_of_mem _ (List.mem_append_left _ (List.mem_append_left _ (List.mem_of_getElem? (i := 3) rfl)))))⟩ (mkV hK hN (hP.sub [1, 2] rfl) (hD.sub [1, 2] (by decide) rfl) (ci := 8) (q0 := 0) rfl rfl) rfl rfl hl.1 rfl (lv_room (Nat.le_of_ble_eq_true rfl)) dX11_feed_39 ⟨Nat.le_of_ble_eq_true rfl, Nat.le_of_ble_eq_true rfl⟩) hP hD hS hA [1, 2] [0] rfl rfl (by decide) (by decide) (fun u_116 H locs hw hP hD hS => ?_)
    have hP : va_P D vwCl [(o0, .inr (11, [o_0, o_1, o_2, o_3, o_4, .ref p0, o_6, o_7, o_8, o_9, o_10, o_11, o_12, o_13, o_14, o_15, o_16])), (p0, .inr (8, [.ref p1, .int (u_116.2.2.2.1 0), p_2, p_3, p_4, p_5])), (p1, .inl (K 0, 400, .inl (u_116.2.1 0)))] H := hP
    have hD : va_D A [(o0, .inr (11, [o_0, o_1, o_2, o_3, o_4, .ref p0, o_6, o_7, o_8, o_9, o_10, o_11, o_12, o_13, o_14, o_15, o_16])), (p0, .inr (8, [.ref p1, .int (u_116.2.2.2.1 0), p_2, p_3, p_4, p_5])), (p1, .inl (K 0, 400, .inl (u_116.2.1 0)))] := hD
    obtain ⟨k_117, k_118, -⟩ := hw
    obtain ⟨ck_118, lk_118⟩ := k_118
    refine lv_aload_n hx hb dX11_feed_42 rfl (lv_at hl 0 rfl) ?_
    refine va_get (ci := 11) (v := .ref p0) (C := RX11) (T := TX11) (N := 17) hx hb hts hw11 hown hK hP 0 rfl rfl 5 (by decide) (hts (.fieldLink RX11 38 "SmokeTune" "tape" "LSmokeTune$Tape;") (List.mem_cons_of_mem _ (List.mem_append_left _ (List.mem_append_left _ (List.mem_of_getElem? (i := 0) rfl))))) (fun _ h9 => h9) rfl dX11_feed_43 ?_
    refine lv_iload hx hb dX11_feed_46 (lv_at hl 4 rfl) ?_
    refine kcv (S := Su) (wr := [(o0, .inr (11, [o_0, o_1, o_2, o_3, o_4, .ref p0, o_6, o_7, o_8, o_9, o_10, o_11, o_12, o_13, o_14, o_15, o_16]))]) (va_runVN (As := [.int x3]) (rest := []) ⟨hx, hb, hml, hown, hts⟩ (w_takeX l D K p0 x3 p1 (u_116.2.2.2.1 0) p_2 p_3 p_4 p_5 (u_116.2.1 0) H.size (by first | omega | decide)) ⟨va_cnB 1 hts gX11_feed_X8_take_n166 rfl rfl rfl (nst_at hN 29 rfl) (hts (.initialized RX8) (List.mem_cons_of_mem _ (List.mem_append_left _ (List.mem_append_left _ (List.mem_of_getElem? (i := 2) rfl))))) (by decide +kernel) ⟨Nat.le_of_ble_eq_true rfl, Nat.le_of_ble_eq_true rfl⟩, (hts (.instanceMethod yX8_take) (List.mem_cons_of_mem _ (List.mem_append_left _ (List.mem_append_left _ (List.mem_of_getElem? (i := 1) rfl))))), (hts (.selects RX8 yX8_take yX8_take) (List.mem_cons_of_mem _ (List.mem_append_left _ (List.mem_append_left _ (List.mem_of_getElem? (i := 3) rfl)))))⟩ (mkV hK hN (hP.sub [1, 2] rfl) (hD.sub [1, 2] (by decide) rfl) (ci := 8) (q0 := 0) rfl rfl) rfl rfl hl.1 rfl (lv_room (Nat.le_of_ble_eq_true rfl)) dX11_feed_48 ⟨Nat.le_of_ble_eq_true rfl, Nat.le_of_ble_eq_true rfl⟩) hP hD hS hA [1, 2] [0] rfl rfl (by decide) (by decide) (fun u_120 H locs hw hP hD hS => ?_)
    have hP : va_P D vwCl [(o0, .inr (11, [o_0, o_1, o_2, o_3, o_4, .ref p0, o_6, o_7, o_8, o_9, o_10, o_11, o_12, o_13, o_14, o_15, o_16])), (p0, .inr (8, [.ref p1, .int (u_120.2.2.2.1 0), p_2, p_3, p_4, p_5])), (p1, .inl (K 0, 400, .inl (u_120.2.1 0)))] H := hP
    have hD : va_D A [(o0, .inr (11, [o_0, o_1, o_2, o_3, o_4, .ref p0, o_6, o_7, o_8, o_9, o_10, o_11, o_12, o_13, o_14, o_15, o_16])), (p0, .inr (8, [.ref p1, .int (u_120.2.2.2.1 0), p_2, p_3, p_4, p_5])), (p1, .inl (K 0, 400, .inl (u_120.2.1 0)))] := hD
    obtain ⟨k_121, k_122, -⟩ := hw
    obtain ⟨ck_122, lk_122⟩ := k_122
    refine lv_aload_n hx hb dX11_feed_51 rfl (lv_at hl 0 rfl) ?_
    refine va_get (ci := 11) (v := .ref p0) (C := RX11) (T := TX11) (N := 17) hx hb hts hw11 hown hK hP 0 rfl rfl 5 (by decide) (hts (.fieldLink RX11 38 "SmokeTune" "tape" "LSmokeTune$Tape;") (List.mem_cons_of_mem _ (List.mem_append_left _ (List.mem_append_left _ (List.mem_of_getElem? (i := 0) rfl))))) (fun _ h9 => h9) rfl dX11_feed_52 ?_
    refine lv_iload hx hb dX11_feed_55 (lv_at hl 5 rfl) ?_
    refine kcv (S := Su) (wr := [(o0, .inr (11, [o_0, o_1, o_2, o_3, o_4, .ref p0, o_6, o_7, o_8, o_9, o_10, o_11, o_12, o_13, o_14, o_15, o_16]))]) (va_runVN (As := [.int x4]) (rest := []) ⟨hx, hb, hml, hown, hts⟩ (w_takeX l D K p0 x4 p1 (u_120.2.2.2.1 0) p_2 p_3 p_4 p_5 (u_120.2.1 0) H.size (by first | omega | decide)) ⟨va_cnB 1 hts gX11_feed_X8_take_n166 rfl rfl rfl (nst_at hN 29 rfl) (hts (.initialized RX8) (List.mem_cons_of_mem _ (List.mem_append_left _ (List.mem_append_left _ (List.mem_of_getElem? (i := 2) rfl))))) (by decide +kernel) ⟨Nat.le_of_ble_eq_true rfl, Nat.le_of_ble_eq_true rfl⟩, (hts (.instanceMethod yX8_take) (List.mem_cons_of_mem _ (List.mem_append_left _ (List.mem_append_left _ (List.mem_of_getElem? (i := 1) rfl))))), (hts (.selects RX8 yX8_take yX8_take) (List.mem_cons_of_mem _ (List.mem_append_left _ (List.mem_append_left _ (List.mem_of_getElem? (i := 3) rfl)))))⟩ (mkV hK hN (hP.sub [1, 2] rfl) (hD.sub [1, 2] (by decide) rfl) (ci := 8) (q0 := 0) rfl rfl) rfl rfl hl.1 rfl (lv_room (Nat.le_of_ble_eq_true rfl)) dX11_feed_57 ⟨Nat.le_of_ble_eq_true rfl, Nat.le_of_ble_eq_true rfl⟩) hP hD hS hA [1, 2] [0] rfl rfl (by decide) (by decide) (fun u_124 H locs hw hP hD hS => ?_)
    have hP : va_P D vwCl [(o0, .inr (11, [o_0, o_1, o_2, o_3, o_4, .ref p0, o_6, o_7, o_8, o_9, o_10, o_11, o_12, o_13, o_14, o_15, o_16])), (p0, .inr (8, [.ref p1, .int (u_124.2.2.2.1 0), p_2, p_3, p_4, p_5])), (p1, .inl (K 0, 400, .inl (u_124.2.1 0)))] H := hP
    have hD : va_D A [(o0, .inr (11, [o_0, o_1, o_2, o_3, o_4, .ref p0, o_6, o_7, o_8, o_9, o_10, o_11, o_12, o_13, o_14, o_15, o_16])), (p0, .inr (8, [.ref p1, .int (u_124.2.2.2.1 0), p_2, p_3, p_4, p_5])), (p1, .inl (K 0, 400, .inl (u_124.2.1 0)))] := hD
    obtain ⟨k_125, k_126, -⟩ := hw
    obtain ⟨ck_126, lk_126⟩ := k_126
    refine lv_aload_n hx hb dX11_feed_60 rfl (lv_at hl 0 rfl) ?_
    refine va_get (ci := 11) (v := .ref p0) (C := RX11) (T := TX11) (N := 17) hx hb hts hw11 hown hK hP 0 rfl rfl 5 (by decide) (hts (.fieldLink RX11 38 "SmokeTune" "tape" "LSmokeTune$Tape;") (List.mem_cons_of_mem _ (List.mem_append_left _ (List.mem_append_left _ (List.mem_of_getElem? (i := 0) rfl))))) (fun _ h9 => h9) rfl dX11_feed_61 ?_
    refine va_getN (ci := 8) (v := .int (u_124.2.2.2.1 0)) (C := RX8) (T := TX8) (N := 6) hx hb hts hw8 hown hK hP 1 rfl rfl 1 (by decide) (nst_use hN 120 rfl) (fun _ h9 => h9) rfl dX11_feed_64 ?_
    rw [← hQ]
    have hP9 := hP.sub (ws' := [(o0, .inr (11, [o_0, o_1, o_2, o_3, o_4, .ref p0, o_6, o_7, o_8, o_9, o_10, o_11, o_12, o_13, o_14, o_15, o_16])), (p0, .inr (8, [.ref p1, .int (u_124.2.2.2.1 0), p_2, p_3, p_4, p_5])), (p1, .inl (K 0, 400, .inl (u_124.2.1 0)))]) [0, 1, 2] rfl
    have hD9 := hD.sub (ws' := [(o0, .inr (11, [o_0, o_1, o_2, o_3, o_4, .ref p0, o_6, o_7, o_8, o_9, o_10, o_11, o_12, o_13, o_14, o_15, o_16])), (p0, .inr (8, [.ref p1, .int (u_124.2.2.2.1 0), p_2, p_3, p_4, p_5])), (p1, .inl (K 0, 400, .inl (u_124.2.1 0)))]) [0, 1, 2] (by decide) rfl
    exact W.iret (v := (u_124.2.2.2.1 0)) hx hb hr (fun t ht hW => ⟨⟨(u_124.2.2.2.1 0), ((fun _ => 0, fun i => match i with | _ => (u_124.2.1 0), fun _ => fun _ => 0, fun i => match i with | _ => (u_124.2.2.2.1 0), fun _ => 0, fun _ => fun _ => none) : Su), rfl, ⟨(show (-1) ≤ (u_124.2.2.2.1 0).toInt ∧ (u_124.2.2.2.1 0).toInt ≤ 400 by omega), (show 0 ≤ ((u_124.2.2.2.1 0) : Int32).toInt ∧ ((u_124.2.2.2.1 0) : Int32).toInt ≤ 400 by omega), (show ((400 < ln.toInt + 20 ∧ ((u_124.2.2.2.1 0) : Int32).toInt = ln.toInt ∧ ((u_124.2.2.2.1 0) : Int32).toInt = -1 ∧ (u_124.2.1 0) = fb) ∨ (ln.toInt + 20 ≤ 400 ∧ ((u_124.2.2.2.1 0) : Int32).toInt = ln.toInt + 20 ∧ ((u_124.2.2.2.1 0) : Int32).toInt = ln.toInt + 20 ∧ (u_124.2.1 0) = fe fb ln.toInt.toNat x0 x1 x2 x3 x4)) by refine Or.inr ⟨by omega, by omega, by omega, ?_⟩; rw [ck_126, ck_122, ck_118, ck_114, ck_110, show ((u_120.2.2.2.1 0).toInt).toNat = ln.toInt.toNat + 16 by omega, show ((u_116.2.2.2.1 0).toInt).toNat = ln.toInt.toNat + 12 by omega, show ((u_112.2.2.2.1 0).toInt).toNat = ln.toInt.toNat + 8 by omega, show ((u_108.2.2.2.1 0).toInt).toNat = ln.toInt.toNat + 4 by omega]; rfl), trivial⟩, (⟨by rw [ht]; exact hP9, hD9⟩ : Wd D A _ t)⟩, hS.F ht⟩) hS.2.2 dX11_feed_67
  · have c_106i := i_nle (x := (ln.toInt + 20)) (y := 400) hx_105 rfl c_106
    refine lv_iconst (v := (-1)) hx hb dX11_feed_16 (by decide) ?_
    rw [← hQ]
    have hP9 := hP.sub (ws' := [(o0, .inr (11, [o_0, o_1, o_2, o_3, o_4, .ref p0, o_6, o_7, o_8, o_9, o_10, o_11, o_12, o_13, o_14, o_15, o_16])), (p0, .inr (8, [.ref p1, .int ln, p_2, p_3, p_4, p_5])), (p1, .inl (K 0, 400, .inl fb))]) [0, 1, 2] rfl
    have hD9 := hD.sub (ws' := [(o0, .inr (11, [o_0, o_1, o_2, o_3, o_4, .ref p0, o_6, o_7, o_8, o_9, o_10, o_11, o_12, o_13, o_14, o_15, o_16])), (p0, .inr (8, [.ref p1, .int ln, p_2, p_3, p_4, p_5])), (p1, .inl (K 0, 400, .inl fb))]) [0, 1, 2] (by decide) rfl
    exact W.iret (v := (-1)) hx hb hr (fun t ht hW => ⟨⟨(-1), ((fun _ => 0, fun i => match i with | _ => fb, fun _ => fun _ => 0, fun i => match i with | _ => ln, fun _ => 0, fun _ => fun _ => none) : Su), rfl, ⟨(show (-1) ≤ ((-1) : Int32).toInt ∧ ((-1) : Int32).toInt ≤ 400 by decide), (show 0 ≤ (ln : Int32).toInt ∧ (ln : Int32).toInt ≤ 400 by omega), (show ((400 < ln.toInt + 20 ∧ (ln : Int32).toInt = ln.toInt ∧ ((-1) : Int32).toInt = -1 ∧ fb = fb) ∨ (ln.toInt + 20 ≤ 400 ∧ (ln : Int32).toInt = ln.toInt + 20 ∧ ((-1) : Int32).toInt = ln.toInt + 20 ∧ fb = fe fb ln.toInt.toNat x0 x1 x2 x3 x4)) by exact Or.inl ⟨by omega, rfl, rfl, rfl⟩), trivial⟩, (⟨by rw [ht]; exact hP9, hD9⟩ : Wd D A _ t)⟩, hS.F ht⟩) hS.2.2 dX11_feed_17
set_option maxHeartbeats 4000000 in
set_option maxRecDepth 100000 in
theorem v_feedX (l : Launch) (D : va_G) (K : Nat → ClassId) (m0 : Nat) (x0 : Int32) (x1 : Int32) (x2 : Int32) (x3 : Int32) (x4 : Int32) (thr : Int32) (m_1 : Value) (m_2 : Value) (m_3 : Value) (m_4 : Value) (m_5 : Value) (m_6 : Value) (m_7 : Value) (m_8 : Value) (m_9 : Value) (m_10 : Value) (m_11 : Value) (t0 : Nat) (ta : Int32) (m_14 : Value) (m_15 : Value) (m_16 : Value) (m_17 : Value) (m_18 : Value) (m_19 : Value) (m_20 : Value) (m_21 : Value) (m_22 : Value) (m_23 : Value) (m_24 : Value) (m_25 : Value) (m_26 : Value) (m_27 : Value) (m_28 : Value) (m_29 : Value) (m_30 : Value) (m_31 : Value) (m_32 : Value) (m_33 : Value) (m_34 : Value) (m_35 : Value) (m_36 : Value) (m_37 : Value) (m_38 : Value) (m_39 : Value) (m_40 : Value) (m_41 : Value) (m_42 : Value) (m_43 : Value) (m_44 : Value) (m_45 : Value) (m_46 : Value) (m_47 : Value) (m_48 : Value) (m_49 : Value) (m_50 : Value) (m_51 : Value) (m_52 : Value) (m_53 : Value) (m_54 : Value) (m_55 : Value) (m_56 : Value) (m_57 : Value) (m_58 : Value) (m_59 : Value) (ft : Nat → Int32) (sz : Nat) (zta : 0 ≤ ta.toInt ∧ ta.toInt ≤ 400) : Met l yX12_feed wsX12_feed ({ frames := 1, cells := 0, slots := 0, locals := 22 }) (va_Pc [.ref m0, .int x0, .int x1, .int x2, .int x3, .int x4] (Pre D K [(m0, .inr (12, [.int thr, m_1, m_2, m_3, m_4, m_5, m_6, m_7, m_8, m_9, m_10, m_11, .ref t0, .int ta, m_14, m_15, m_16, m_17, m_18, m_19, m_20, m_21, m_22, m_23, m_24, m_25, m_26, m_27, m_28, m_29, m_30, m_31, m_32, m_33, m_34, m_35, m_36, m_37, m_38, m_39, m_40, m_41, m_42, m_43, m_44, m_45, m_46, m_47, m_48, m_49, m_50, m_51, m_52, m_53, m_54, m_55, m_56, m_57, m_58, m_59])), (t0, .inl (K 0, 400, .inl ft))] sz)) (va_Qi (S := Su) (fun (r : Int32) (u : Su) => ((-1) ≤ r.toInt ∧ r.toInt ≤ 400) ∧ (0 ≤ (u.2.2.2.1 0).toInt ∧ (u.2.2.2.1 0).toInt ≤ 400) ∧ (((400 < ta.toInt + 20 ∧ (u.2.2.2.1 0).toInt = ta.toInt ∧ r.toInt = -1 ∧ (u.2.1 0) = ft) ∨ (ta.toInt + 20 ≤ 400 ∧ (u.2.2.2.1 0).toInt = ta.toInt + 20 ∧ r.toInt = ta.toInt + 20 ∧ (u.2.1 0) = fe ft ta.toInt.toNat x0 x1 x2 x3 x4))) ∧ True) (fun u t => Wd D (va_A [(m0, .inr (12, [.int thr, m_1, m_2, m_3, m_4, m_5, m_6, m_7, m_8, m_9, m_10, m_11, .ref t0, .int ta, m_14, m_15, m_16, m_17, m_18, m_19, m_20, m_21, m_22, m_23, m_24, m_25, m_26, m_27, m_28, m_29, m_30, m_31, m_32, m_33, m_34, m_35, m_36, m_37, m_38, m_39, m_40, m_41, m_42, m_43, m_44, m_45, m_46, m_47, m_48, m_49, m_50, m_51, m_52, m_53, m_54, m_55, m_56, m_57, m_58, m_59])), (t0, .inl (K 0, 400, .inl ft))] sz) ((fun u => [(m0, .inr (12, [.int 0, m_1, m_2, m_3, m_4, m_5, m_6, m_7, m_8, m_9, m_10, m_11, .ref t0, .int (u.2.2.2.1 0), m_14, m_15, m_16, m_17, m_18, m_19, m_20, m_21, m_22, m_23, m_24, m_25, m_26, m_27, m_28, m_29, m_30, m_31, m_32, m_33, m_34, m_35, m_36, m_37, m_38, m_39, m_40, m_41, m_42, m_43, m_44, m_45, m_46, m_47, m_48, m_49, m_50, m_51, m_52, m_53, m_54, m_55, m_56, m_57, m_58, m_59])), (t0, .inl (K 0, 400, .inl (u.2.1 0)))]) u) t) (va_A [(m0, .inr (12, [.int thr, m_1, m_2, m_3, m_4, m_5, m_6, m_7, m_8, m_9, m_10, m_11, .ref t0, .int ta, m_14, m_15, m_16, m_17, m_18, m_19, m_20, m_21, m_22, m_23, m_24, m_25, m_26, m_27, m_28, m_29, m_30, m_31, m_32, m_33, m_34, m_35, m_36, m_37, m_38, m_39, m_40, m_41, m_42, m_43, m_44, m_45, m_46, m_47, m_48, m_49, m_50, m_51, m_52, m_53, m_54, m_55, m_56, m_57, m_58, m_59])), (t0, .inl (K 0, 400, .inl ft))] sz)) 0 0 (va_A [(m0, .inr (12, [.int thr, m_1, m_2, m_3, m_4, m_5, m_6, m_7, m_8, m_9, m_10, m_11, .ref t0, .int ta, m_14, m_15, m_16, m_17, m_18, m_19, m_20, m_21, m_22, m_23, m_24, m_25, m_26, m_27, m_28, m_29, m_30, m_31, m_32, m_33, m_34, m_35, m_36, m_37, m_38, m_39, m_40, m_41, m_42, m_43, m_44, m_45, m_46, m_47, m_48, m_49, m_50, m_51, m_52, m_53, m_54, m_55, m_56, m_57, m_58, m_59])), (t0, .inl (K 0, 400, .inl ft))] sz) := by
  refine Met.ofW (cc := cX12_feed) (maxL := 6) (ret := (some .int)) (by decide) rfl ?_
  intro p e s m args below meth c s₁ B hml hv
  obtain ⟨rfl, hsz, hP, hK, hD0, hN⟩ := hv
  have hx := B.exec
  have hb := B.bytes
  have hr := B.returns
  have hts := atoms_spec (ws := wsX12_feed) B.pre
  have hown : s.vm.findClass RX12 = some m.cls := findClass_of_methodNamed B.named
  have hlocks := B.notSynchronized
  subst hsz
  have hD := hD0.self (sz := s.heap.size)
  generalize hAe : va_A [(m0, .inr (12, [.int thr, m_1, m_2, m_3, m_4, m_5, m_6, m_7, m_8, m_9, m_10, m_11, .ref t0, .int ta, m_14, m_15, m_16, m_17, m_18, m_19, m_20, m_21, m_22, m_23, m_24, m_25, m_26, m_27, m_28, m_29, m_30, m_31, m_32, m_33, m_34, m_35, m_36, m_37, m_38, m_39, m_40, m_41, m_42, m_43, m_44, m_45, m_46, m_47, m_48, m_49, m_50, m_51, m_52, m_53, m_54, m_55, m_56, m_57, m_58, m_59])), (t0, .inl (K 0, 400, .inl ft))] s.heap.size = A at hD ⊢
  have hA : ∀ q : Nat, s.heap.size ≤ q → A q := fun q h => by rw [← hAe]; exact Or.inr h
  have hS : va_S A s.heap s.heap [] := va_S.rf
  have hP : va_P D vwCl [(m0, .inr (12, [.int thr, m_1, m_2, m_3, m_4, m_5, m_6, m_7, m_8, m_9, m_10, m_11, .ref t0, .int ta, m_14, m_15, m_16, m_17, m_18, m_19, m_20, m_21, m_22, m_23, m_24, m_25, m_26, m_27, m_28, m_29, m_30, m_31, m_32, m_33, m_34, m_35, m_36, m_37, m_38, m_39, m_40, m_41, m_42, m_43, m_44, m_45, m_46, m_47, m_48, m_49, m_50, m_51, m_52, m_53, m_54, m_55, m_56, m_57, m_58, m_59])), (t0, .inl (K 0, 400, .inl ft))] s.heap := hP
  have hl := lv_entry [.ref m0, .int x0, .int x1, .int x2, .int x3, .int x4] (n := 6) (Nat.le_of_ble_eq_true rfl)
  rw [lg_entry_eq]
  generalize (lg_sl [.ref m0, .int x0, .int x1, .int x2, .int x3, .int x4] ++ List.replicate (6 - (lg_sl [.ref m0, .int x0, .int x1, .int x2, .int x3, .int x4]).length) Slot.unset).toArray = ls at hl ⊢
  have hl : lv_has ls 6 [(0, .ref m0), (1, .int x0), (2, .int x1), (3, .int x2), (4, .int x3), (5, .int x4)] := hl
  have hw12 : ∀ w ∈ wsX120, w ∈ wsX12_feed := fun w h => (List.mem_cons_of_mem _ (List.mem_append_right _ h))
  generalize hQ : MQ below _ _ s _ _ _ = Q
  refine lv_aload_n hx hb dX12_feed_0 rfl (lv_at hl 0 rfl) ?_
  refine lv_iconst (v := 0) hx hb dX12_feed_1 (by decide) ?_
  refine va_put (ci := 12) (v := .int 0) (ty := .int) (C := RX12) (T := TX12) (N := 60) hx hb hts hw12 tyX12 tyX12_ok nmX12 hown hK hP hD hS 0 rfl rfl 0 (by decide) (hts (.fieldLink RX12 158 "SmokeTuneModel" "thrown" "I") (List.mem_cons_of_mem _ (List.mem_append_left _ (List.mem_of_getElem? (i := 0) rfl)))) (fun _ h9 => h9) rfl (by decide +kernel) (by first | rfl | decide) (by first | rfl | decide) (Nat.le_of_ble_eq_true rfl) dX12_feed_2 (fun H locs hP hD hS => ?_)
  have hP : va_P D vwCl [(m0, .inr (12, [.int 0, m_1, m_2, m_3, m_4, m_5, m_6, m_7, m_8, m_9, m_10, m_11, .ref t0, .int ta, m_14, m_15, m_16, m_17, m_18, m_19, m_20, m_21, m_22, m_23, m_24, m_25, m_26, m_27, m_28, m_29, m_30, m_31, m_32, m_33, m_34, m_35, m_36, m_37, m_38, m_39, m_40, m_41, m_42, m_43, m_44, m_45, m_46, m_47, m_48, m_49, m_50, m_51, m_52, m_53, m_54, m_55, m_56, m_57, m_58, m_59])), (t0, .inl (K 0, 400, .inl ft))] H := hP
  have hD : va_D A [(m0, .inr (12, [.int 0, m_1, m_2, m_3, m_4, m_5, m_6, m_7, m_8, m_9, m_10, m_11, .ref t0, .int ta, m_14, m_15, m_16, m_17, m_18, m_19, m_20, m_21, m_22, m_23, m_24, m_25, m_26, m_27, m_28, m_29, m_30, m_31, m_32, m_33, m_34, m_35, m_36, m_37, m_38, m_39, m_40, m_41, m_42, m_43, m_44, m_45, m_46, m_47, m_48, m_49, m_50, m_51, m_52, m_53, m_54, m_55, m_56, m_57, m_58, m_59])), (t0, .inl (K 0, 400, .inl ft))] := hD
  refine lv_aload_n hx hb dX12_feed_5 rfl (lv_at hl 0 rfl) ?_
  refine va_get (ci := 12) (v := .int ta) (C := RX12) (T := TX12) (N := 60) hx hb hts hw12 hown hK hP 0 rfl rfl 13 (by decide) (hts (.fieldLink RX12 227 "SmokeTuneModel" "taped" "I") (List.mem_cons_of_mem _ (List.mem_append_left _ (List.mem_of_getElem? (i := 1) rfl)))) (fun _ h9 => h9) rfl dX12_feed_6 ?_
  refine lv_bipush (v := 20) hx hb dX12_feed_9 (by decide) ?_
  refine lv_iadd hx hb dX12_feed_11 ?_
  refine lv_topi (fun x_105 ex_105 => ?_)
  have hx_105 : x_105.toInt = (ta.toInt + 20) := by rw [ex_105]; exact i_add rfl (show (20 : Int32).toInt = 20 from rfl) (by omega)
  refine lv_sipush (v := 400) hx hb dX12_feed_12 (by decide) ?_
  refine lv_icmp_le (tgt := 20) hx hb dX12_feed_15 (by decide) (fun c_106 => ?_) (fun c_106 => ?_)
  · have c_106i := i_le (x := (ta.toInt + 20)) (y := 400) hx_105 rfl c_106
    refine lv_aload_n hx hb dX12_feed_20 rfl (lv_at hl 0 rfl) ?_
    refine lv_iload_n hx hb dX12_feed_21 rfl (lv_at hl 1 rfl) ?_
    refine kcv (S := Su) (wr := []) (va_runV (As := [.int x0]) (rest := []) ⟨hx, hb, hml, hown, hts⟩ (v_fourX l D K m0 x0 (.int 0) m_1 m_2 m_3 m_4 m_5 m_6 m_7 m_8 m_9 m_10 m_11 t0 ta m_14 m_15 m_16 m_17 m_18 m_19 m_20 m_21 m_22 m_23 m_24 m_25 m_26 m_27 m_28 m_29 m_30 m_31 m_32 m_33 m_34 m_35 m_36 m_37 m_38 m_39 m_40 m_41 m_42 m_43 m_44 m_45 m_46 m_47 m_48 m_49 m_50 m_51 m_52 m_53 m_54 m_55 m_56 m_57 m_58 m_59 ft H.size (by first | omega | decide)) (cwV 1 hts gX12_feed_X12_four rfl rfl rfl (by decide +kernel) ⟨Nat.le_of_ble_eq_true rfl, Nat.le_of_ble_eq_true rfl⟩) (mkV hK hN (hP.sub [0, 1] rfl) (hD.sub [0, 1] (by decide) rfl) (ci := 12) (q0 := 0) rfl rfl) rfl rfl hl.1 rfl (lv_room (Nat.le_of_ble_eq_true rfl)) dX12_feed_22 ⟨Nat.le_of_ble_eq_true rfl, Nat.le_of_ble_eq_true rfl⟩) hP hD hS hA [0, 1] [] rfl rfl (by decide) (by decide) (fun u_108 H locs hw hP hD hS => ?_)
    have hP : va_P D vwCl [(m0, .inr (12, [.int 0, m_1, m_2, m_3, m_4, m_5, m_6, m_7, m_8, m_9, m_10, m_11, .ref t0, .int (u_108.2.2.2.1 0), m_14, m_15, m_16, m_17, m_18, m_19, m_20, m_21, m_22, m_23, m_24, m_25, m_26, m_27, m_28, m_29, m_30, m_31, m_32, m_33, m_34, m_35, m_36, m_37, m_38, m_39, m_40, m_41, m_42, m_43, m_44, m_45, m_46, m_47, m_48, m_49, m_50, m_51, m_52, m_53, m_54, m_55, m_56, m_57, m_58, m_59])), (t0, .inl (K 0, 400, .inl (u_108.2.1 0)))] H := hP
    have hD : va_D A [(m0, .inr (12, [.int 0, m_1, m_2, m_3, m_4, m_5, m_6, m_7, m_8, m_9, m_10, m_11, .ref t0, .int (u_108.2.2.2.1 0), m_14, m_15, m_16, m_17, m_18, m_19, m_20, m_21, m_22, m_23, m_24, m_25, m_26, m_27, m_28, m_29, m_30, m_31, m_32, m_33, m_34, m_35, m_36, m_37, m_38, m_39, m_40, m_41, m_42, m_43, m_44, m_45, m_46, m_47, m_48, m_49, m_50, m_51, m_52, m_53, m_54, m_55, m_56, m_57, m_58, m_59])), (t0, .inl (K 0, 400, .inl (u_108.2.1 0)))] := hD
    obtain ⟨k_109, k_110, -⟩ := hw
    obtain ⟨ck_110, lk_110⟩ := k_110
    refine lv_aload_n hx hb dX12_feed_25 rfl (lv_at hl 0 rfl) ?_
    refine lv_iload_n hx hb dX12_feed_26 rfl (lv_at hl 2 rfl) ?_
    refine kcv (S := Su) (wr := []) (va_runV (As := [.int x1]) (rest := []) ⟨hx, hb, hml, hown, hts⟩ (v_fourX l D K m0 x1 (.int 0) m_1 m_2 m_3 m_4 m_5 m_6 m_7 m_8 m_9 m_10 m_11 t0 (u_108.2.2.2.1 0) m_14 m_15 m_16 m_17 m_18 m_19 m_20 m_21 m_22 m_23 m_24 m_25 m_26 m_27 m_28 m_29 m_30 m_31 m_32 m_33 m_34 m_35 m_36 m_37 m_38 m_39 m_40 m_41 m_42 m_43 m_44 m_45 m_46 m_47 m_48 m_49 m_50 m_51 m_52 m_53 m_54 m_55 m_56 m_57 m_58 m_59 (u_108.2.1 0) H.size (by first | omega | decide)) (cwV 1 hts gX12_feed_X12_four rfl rfl rfl (by decide +kernel) ⟨Nat.le_of_ble_eq_true rfl, Nat.le_of_ble_eq_true rfl⟩) (mkV hK hN (hP.sub [0, 1] rfl) (hD.sub [0, 1] (by decide) rfl) (ci := 12) (q0 := 0) rfl rfl) rfl rfl hl.1 rfl (lv_room (Nat.le_of_ble_eq_true rfl)) dX12_feed_27 ⟨Nat.le_of_ble_eq_true rfl, Nat.le_of_ble_eq_true rfl⟩) hP hD hS hA [0, 1] [] rfl rfl (by decide) (by decide) (fun u_112 H locs hw hP hD hS => ?_)
    have hP : va_P D vwCl [(m0, .inr (12, [.int 0, m_1, m_2, m_3, m_4, m_5, m_6, m_7, m_8, m_9, m_10, m_11, .ref t0, .int (u_112.2.2.2.1 0), m_14, m_15, m_16, m_17, m_18, m_19, m_20, m_21, m_22, m_23, m_24, m_25, m_26, m_27, m_28, m_29, m_30, m_31, m_32, m_33, m_34, m_35, m_36, m_37, m_38, m_39, m_40, m_41, m_42, m_43, m_44, m_45, m_46, m_47, m_48, m_49, m_50, m_51, m_52, m_53, m_54, m_55, m_56, m_57, m_58, m_59])), (t0, .inl (K 0, 400, .inl (u_112.2.1 0)))] H := hP
    have hD : va_D A [(m0, .inr (12, [.int 0, m_1, m_2, m_3, m_4, m_5, m_6, m_7, m_8, m_9, m_10, m_11, .ref t0, .int (u_112.2.2.2.1 0), m_14, m_15, m_16, m_17, m_18, m_19, m_20, m_21, m_22, m_23, m_24, m_25, m_26, m_27, m_28, m_29, m_30, m_31, m_32, m_33, m_34, m_35, m_36, m_37, m_38, m_39, m_40, m_41, m_42, m_43, m_44, m_45, m_46, m_47, m_48, m_49, m_50, m_51, m_52, m_53, m_54, m_55, m_56, m_57, m_58, m_59])), (t0, .inl (K 0, 400, .inl (u_112.2.1 0)))] := hD
    obtain ⟨k_113, k_114, -⟩ := hw
    obtain ⟨ck_114, lk_114⟩ := k_114
    refine lv_aload_n hx hb dX12_feed_30 rfl (lv_at hl 0 rfl) ?_
    refine lv_iload_n hx hb dX12_feed_31 rfl (lv_at hl 3 rfl) ?_
    refine kcv (S := Su) (wr := []) (va_runV (As := [.int x2]) (rest := []) ⟨hx, hb, hml, hown, hts⟩ (v_fourX l D K m0 x2 (.int 0) m_1 m_2 m_3 m_4 m_5 m_6 m_7 m_8 m_9 m_10 m_11 t0 (u_112.2.2.2.1 0) m_14 m_15 m_16 m_17 m_18 m_19 m_20 m_21 m_22 m_23 m_24 m_25 m_26 m_27 m_28 m_29 m_30 m_31 m_32 m_33 m_34 m_35 m_36 m_37 m_38 m_39 m_40 m_41 m_42 m_43 m_44 m_45 m_46 m_47 m_48 m_49 m_50 m_51 m_52 m_53 m_54 m_55 m_56 m_57 m_58 m_59 (u_112.2.1 0) H.size (by first | omega | decide)) (cwV 1 hts gX12_feed_X12_four rfl rfl rfl (by decide +kernel) ⟨Nat.le_of_ble_eq_true rfl, Nat.le_of_ble_eq_true rfl⟩) (mkV hK hN (hP.sub [0, 1] rfl) (hD.sub [0, 1] (by decide) rfl) (ci := 12) (q0 := 0) rfl rfl) rfl rfl hl.1 rfl (lv_room (Nat.le_of_ble_eq_true rfl)) dX12_feed_32 ⟨Nat.le_of_ble_eq_true rfl, Nat.le_of_ble_eq_true rfl⟩) hP hD hS hA [0, 1] [] rfl rfl (by decide) (by decide) (fun u_116 H locs hw hP hD hS => ?_)
    have hP : va_P D vwCl [(m0, .inr (12, [.int 0, m_1, m_2, m_3, m_4, m_5, m_6, m_7, m_8, m_9, m_10, m_11, .ref t0, .int (u_116.2.2.2.1 0), m_14, m_15, m_16, m_17, m_18, m_19, m_20, m_21, m_22, m_23, m_24, m_25, m_26, m_27, m_28, m_29, m_30, m_31, m_32, m_33, m_34, m_35, m_36, m_37, m_38, m_39, m_40, m_41, m_42, m_43, m_44, m_45, m_46, m_47, m_48, m_49, m_50, m_51, m_52, m_53, m_54, m_55, m_56, m_57, m_58, m_59])), (t0, .inl (K 0, 400, .inl (u_116.2.1 0)))] H := hP
    have hD : va_D A [(m0, .inr (12, [.int 0, m_1, m_2, m_3, m_4, m_5, m_6, m_7, m_8, m_9, m_10, m_11, .ref t0, .int (u_116.2.2.2.1 0), m_14, m_15, m_16, m_17, m_18, m_19, m_20, m_21, m_22, m_23, m_24, m_25, m_26, m_27, m_28, m_29, m_30, m_31, m_32, m_33, m_34, m_35, m_36, m_37, m_38, m_39, m_40, m_41, m_42, m_43, m_44, m_45, m_46, m_47, m_48, m_49, m_50, m_51, m_52, m_53, m_54, m_55, m_56, m_57, m_58, m_59])), (t0, .inl (K 0, 400, .inl (u_116.2.1 0)))] := hD
    obtain ⟨k_117, k_118, -⟩ := hw
    obtain ⟨ck_118, lk_118⟩ := k_118
    refine lv_aload_n hx hb dX12_feed_35 rfl (lv_at hl 0 rfl) ?_
    refine lv_iload hx hb dX12_feed_36 (lv_at hl 4 rfl) ?_
    refine kcv (S := Su) (wr := []) (va_runV (As := [.int x3]) (rest := []) ⟨hx, hb, hml, hown, hts⟩ (v_fourX l D K m0 x3 (.int 0) m_1 m_2 m_3 m_4 m_5 m_6 m_7 m_8 m_9 m_10 m_11 t0 (u_116.2.2.2.1 0) m_14 m_15 m_16 m_17 m_18 m_19 m_20 m_21 m_22 m_23 m_24 m_25 m_26 m_27 m_28 m_29 m_30 m_31 m_32 m_33 m_34 m_35 m_36 m_37 m_38 m_39 m_40 m_41 m_42 m_43 m_44 m_45 m_46 m_47 m_48 m_49 m_50 m_51 m_52 m_53 m_54 m_55 m_56 m_57 m_58 m_59 (u_116.2.1 0) H.size (by first | omega | decide)) (cwV 1 hts gX12_feed_X12_four rfl rfl rfl (by decide +kernel) ⟨Nat.le_of_ble_eq_true rfl, Nat.le_of_ble_eq_true rfl⟩) (mkV hK hN (hP.sub [0, 1] rfl) (hD.sub [0, 1] (by decide) rfl) (ci := 12) (q0 := 0) rfl rfl) rfl rfl hl.1 rfl (lv_room (Nat.le_of_ble_eq_true rfl)) dX12_feed_38 ⟨Nat.le_of_ble_eq_true rfl, Nat.le_of_ble_eq_true rfl⟩) hP hD hS hA [0, 1] [] rfl rfl (by decide) (by decide) (fun u_120 H locs hw hP hD hS => ?_)
    have hP : va_P D vwCl [(m0, .inr (12, [.int 0, m_1, m_2, m_3, m_4, m_5, m_6, m_7, m_8, m_9, m_10, m_11, .ref t0, .int (u_120.2.2.2.1 0), m_14, m_15, m_16, m_17, m_18, m_19, m_20, m_21, m_22, m_23, m_24, m_25, m_26, m_27, m_28, m_29, m_30, m_31, m_32, m_33, m_34, m_35, m_36, m_37, m_38, m_39, m_40, m_41, m_42, m_43, m_44, m_45, m_46, m_47, m_48, m_49, m_50, m_51, m_52, m_53, m_54, m_55, m_56, m_57, m_58, m_59])), (t0, .inl (K 0, 400, .inl (u_120.2.1 0)))] H := hP
    have hD : va_D A [(m0, .inr (12, [.int 0, m_1, m_2, m_3, m_4, m_5, m_6, m_7, m_8, m_9, m_10, m_11, .ref t0, .int (u_120.2.2.2.1 0), m_14, m_15, m_16, m_17, m_18, m_19, m_20, m_21, m_22, m_23, m_24, m_25, m_26, m_27, m_28, m_29, m_30, m_31, m_32, m_33, m_34, m_35, m_36, m_37, m_38, m_39, m_40, m_41, m_42, m_43, m_44, m_45, m_46, m_47, m_48, m_49, m_50, m_51, m_52, m_53, m_54, m_55, m_56, m_57, m_58, m_59])), (t0, .inl (K 0, 400, .inl (u_120.2.1 0)))] := hD
    obtain ⟨k_121, k_122, -⟩ := hw
    obtain ⟨ck_122, lk_122⟩ := k_122
    refine lv_aload_n hx hb dX12_feed_41 rfl (lv_at hl 0 rfl) ?_
    refine lv_iload hx hb dX12_feed_42 (lv_at hl 5 rfl) ?_
    refine kcv (S := Su) (wr := []) (va_runV (As := [.int x4]) (rest := []) ⟨hx, hb, hml, hown, hts⟩ (v_fourX l D K m0 x4 (.int 0) m_1 m_2 m_3 m_4 m_5 m_6 m_7 m_8 m_9 m_10 m_11 t0 (u_120.2.2.2.1 0) m_14 m_15 m_16 m_17 m_18 m_19 m_20 m_21 m_22 m_23 m_24 m_25 m_26 m_27 m_28 m_29 m_30 m_31 m_32 m_33 m_34 m_35 m_36 m_37 m_38 m_39 m_40 m_41 m_42 m_43 m_44 m_45 m_46 m_47 m_48 m_49 m_50 m_51 m_52 m_53 m_54 m_55 m_56 m_57 m_58 m_59 (u_120.2.1 0) H.size (by first | omega | decide)) (cwV 1 hts gX12_feed_X12_four rfl rfl rfl (by decide +kernel) ⟨Nat.le_of_ble_eq_true rfl, Nat.le_of_ble_eq_true rfl⟩) (mkV hK hN (hP.sub [0, 1] rfl) (hD.sub [0, 1] (by decide) rfl) (ci := 12) (q0 := 0) rfl rfl) rfl rfl hl.1 rfl (lv_room (Nat.le_of_ble_eq_true rfl)) dX12_feed_44 ⟨Nat.le_of_ble_eq_true rfl, Nat.le_of_ble_eq_true rfl⟩) hP hD hS hA [0, 1] [] rfl rfl (by decide) (by decide) (fun u_124 H locs hw hP hD hS => ?_)
    have hP : va_P D vwCl [(m0, .inr (12, [.int 0, m_1, m_2, m_3, m_4, m_5, m_6, m_7, m_8, m_9, m_10, m_11, .ref t0, .int (u_124.2.2.2.1 0), m_14, m_15, m_16, m_17, m_18, m_19, m_20, m_21, m_22, m_23, m_24, m_25, m_26, m_27, m_28, m_29, m_30, m_31, m_32, m_33, m_34, m_35, m_36, m_37, m_38, m_39, m_40, m_41, m_42, m_43, m_44, m_45, m_46, m_47, m_48, m_49, m_50, m_51, m_52, m_53, m_54, m_55, m_56, m_57, m_58, m_59])), (t0, .inl (K 0, 400, .inl (u_124.2.1 0)))] H := hP
    have hD : va_D A [(m0, .inr (12, [.int 0, m_1, m_2, m_3, m_4, m_5, m_6, m_7, m_8, m_9, m_10, m_11, .ref t0, .int (u_124.2.2.2.1 0), m_14, m_15, m_16, m_17, m_18, m_19, m_20, m_21, m_22, m_23, m_24, m_25, m_26, m_27, m_28, m_29, m_30, m_31, m_32, m_33, m_34, m_35, m_36, m_37, m_38, m_39, m_40, m_41, m_42, m_43, m_44, m_45, m_46, m_47, m_48, m_49, m_50, m_51, m_52, m_53, m_54, m_55, m_56, m_57, m_58, m_59])), (t0, .inl (K 0, 400, .inl (u_124.2.1 0)))] := hD
    obtain ⟨k_125, k_126, -⟩ := hw
    obtain ⟨ck_126, lk_126⟩ := k_126
    refine lv_aload_n hx hb dX12_feed_47 rfl (lv_at hl 0 rfl) ?_
    refine va_get (ci := 12) (v := .int (u_124.2.2.2.1 0)) (C := RX12) (T := TX12) (N := 60) hx hb hts hw12 hown hK hP 0 rfl rfl 13 (by decide) (hts (.fieldLink RX12 227 "SmokeTuneModel" "taped" "I") (List.mem_cons_of_mem _ (List.mem_append_left _ (List.mem_of_getElem? (i := 1) rfl)))) (fun _ h9 => h9) rfl dX12_feed_48 ?_
    rw [← hQ]
    have hP9 := hP.sub (ws' := [(m0, .inr (12, [.int 0, m_1, m_2, m_3, m_4, m_5, m_6, m_7, m_8, m_9, m_10, m_11, .ref t0, .int (u_124.2.2.2.1 0), m_14, m_15, m_16, m_17, m_18, m_19, m_20, m_21, m_22, m_23, m_24, m_25, m_26, m_27, m_28, m_29, m_30, m_31, m_32, m_33, m_34, m_35, m_36, m_37, m_38, m_39, m_40, m_41, m_42, m_43, m_44, m_45, m_46, m_47, m_48, m_49, m_50, m_51, m_52, m_53, m_54, m_55, m_56, m_57, m_58, m_59])), (t0, .inl (K 0, 400, .inl (u_124.2.1 0)))]) [0, 1] rfl
    have hD9 := hD.sub (ws' := [(m0, .inr (12, [.int 0, m_1, m_2, m_3, m_4, m_5, m_6, m_7, m_8, m_9, m_10, m_11, .ref t0, .int (u_124.2.2.2.1 0), m_14, m_15, m_16, m_17, m_18, m_19, m_20, m_21, m_22, m_23, m_24, m_25, m_26, m_27, m_28, m_29, m_30, m_31, m_32, m_33, m_34, m_35, m_36, m_37, m_38, m_39, m_40, m_41, m_42, m_43, m_44, m_45, m_46, m_47, m_48, m_49, m_50, m_51, m_52, m_53, m_54, m_55, m_56, m_57, m_58, m_59])), (t0, .inl (K 0, 400, .inl (u_124.2.1 0)))]) [0, 1] (by decide) rfl
    exact W.iret (v := (u_124.2.2.2.1 0)) hx hb hr (fun t ht hW => ⟨⟨(u_124.2.2.2.1 0), ((fun _ => 0, fun i => match i with | _ => (u_124.2.1 0), fun _ => fun _ => 0, fun i => match i with | _ => (u_124.2.2.2.1 0), fun _ => 0, fun _ => fun _ => none) : Su), rfl, ⟨(show (-1) ≤ (u_124.2.2.2.1 0).toInt ∧ (u_124.2.2.2.1 0).toInt ≤ 400 by omega), (show 0 ≤ ((u_124.2.2.2.1 0) : Int32).toInt ∧ ((u_124.2.2.2.1 0) : Int32).toInt ≤ 400 by omega), (show ((400 < ta.toInt + 20 ∧ ((u_124.2.2.2.1 0) : Int32).toInt = ta.toInt ∧ ((u_124.2.2.2.1 0) : Int32).toInt = -1 ∧ (u_124.2.1 0) = ft) ∨ (ta.toInt + 20 ≤ 400 ∧ ((u_124.2.2.2.1 0) : Int32).toInt = ta.toInt + 20 ∧ ((u_124.2.2.2.1 0) : Int32).toInt = ta.toInt + 20 ∧ (u_124.2.1 0) = fe ft ta.toInt.toNat x0 x1 x2 x3 x4)) by refine Or.inr ⟨by omega, by omega, by omega, ?_⟩; rw [ck_126, ck_122, ck_118, ck_114, ck_110, show ((u_120.2.2.2.1 0).toInt).toNat = ta.toInt.toNat + 16 by omega, show ((u_116.2.2.2.1 0).toInt).toNat = ta.toInt.toNat + 12 by omega, show ((u_112.2.2.2.1 0).toInt).toNat = ta.toInt.toNat + 8 by omega, show ((u_108.2.2.2.1 0).toInt).toNat = ta.toInt.toNat + 4 by omega]; rfl), trivial⟩, (⟨by rw [ht]; exact hP9, hD9⟩ : Wd D A _ t)⟩, hS.F ht⟩) hS.2.2 dX12_feed_51
  · have c_106i := i_nle (x := (ta.toInt + 20)) (y := 400) hx_105 rfl c_106
    refine lv_iconst (v := (-1)) hx hb dX12_feed_18 (by decide) ?_
    rw [← hQ]
    have hP9 := hP.sub (ws' := [(m0, .inr (12, [.int 0, m_1, m_2, m_3, m_4, m_5, m_6, m_7, m_8, m_9, m_10, m_11, .ref t0, .int ta, m_14, m_15, m_16, m_17, m_18, m_19, m_20, m_21, m_22, m_23, m_24, m_25, m_26, m_27, m_28, m_29, m_30, m_31, m_32, m_33, m_34, m_35, m_36, m_37, m_38, m_39, m_40, m_41, m_42, m_43, m_44, m_45, m_46, m_47, m_48, m_49, m_50, m_51, m_52, m_53, m_54, m_55, m_56, m_57, m_58, m_59])), (t0, .inl (K 0, 400, .inl ft))]) [0, 1] rfl
    have hD9 := hD.sub (ws' := [(m0, .inr (12, [.int 0, m_1, m_2, m_3, m_4, m_5, m_6, m_7, m_8, m_9, m_10, m_11, .ref t0, .int ta, m_14, m_15, m_16, m_17, m_18, m_19, m_20, m_21, m_22, m_23, m_24, m_25, m_26, m_27, m_28, m_29, m_30, m_31, m_32, m_33, m_34, m_35, m_36, m_37, m_38, m_39, m_40, m_41, m_42, m_43, m_44, m_45, m_46, m_47, m_48, m_49, m_50, m_51, m_52, m_53, m_54, m_55, m_56, m_57, m_58, m_59])), (t0, .inl (K 0, 400, .inl ft))]) [0, 1] (by decide) rfl
    exact W.iret (v := (-1)) hx hb hr (fun t ht hW => ⟨⟨(-1), ((fun _ => 0, fun i => match i with | _ => ft, fun _ => fun _ => 0, fun i => match i with | _ => ta, fun _ => 0, fun _ => fun _ => none) : Su), rfl, ⟨(show (-1) ≤ ((-1) : Int32).toInt ∧ ((-1) : Int32).toInt ≤ 400 by decide), (show 0 ≤ (ta : Int32).toInt ∧ (ta : Int32).toInt ≤ 400 by omega), (show ((400 < ta.toInt + 20 ∧ (ta : Int32).toInt = ta.toInt ∧ ((-1) : Int32).toInt = -1 ∧ ft = ft) ∨ (ta.toInt + 20 ≤ 400 ∧ (ta : Int32).toInt = ta.toInt + 20 ∧ ((-1) : Int32).toInt = ta.toInt + 20 ∧ ft = fe ft ta.toInt.toNat x0 x1 x2 x3 x4)) by exact Or.inl ⟨by omega, rfl, rfl, rfl⟩), trivial⟩, (⟨by rw [ht]; exact hP9, hD9⟩ : Wd D A _ t)⟩, hS.F ht⟩) hS.2.2 dX12_feed_19
set_option maxHeartbeats 4000000 in
set_option maxRecDepth 100000 in
theorem w_byteAtX (l : Launch) (D : va_G) (K : Nat → ClassId) (a0 : Nat) (x : Int32) (a1 : Nat) (ln : Int32) (p_2 : Value) (p_3 : Value) (p_4 : Value) (p_5 : Value) (f : Nat → Int32) (sz : Nat) (zx : 0 ≤ x.toInt ∧ x.toInt < ln.toInt ∧ ln.toInt ≤ 400) : Met l yX8_byteAt wsX8_byteAt ({ frames := 0, cells := 0, slots := 0, locals := 0 }) (va_Pc [.ref a0, .int x] (Pre D K [(a0, .inr (8, [.ref a1, .int ln, p_2, p_3, p_4, p_5])), (a1, .inl (K 0, 400, .inl f))] sz)) (vp_Si (fun r : Int32 => r = f x.toInt.toNat ∧ True)) 0 0 (fun _ => False) := by
  refine Met.ofW (cc := cX8_byteAt) (maxL := 2) (ret := (some .int)) (by decide) rfl ?_
  intro p e s m args below meth c s₁ B hml hv
  obtain ⟨rfl, hsz, hP, hK, hD0, hN⟩ := hv
  have hx := B.exec
  have hb := B.bytes
  have hr := B.returns
  have hts := atoms_spec (ws := wsX8_byteAt) B.pre
  have hown : s.vm.findClass RX8 = some m.cls := findClass_of_methodNamed B.named
  have hlocks := B.notSynchronized
  subst hsz
  have hD := hD0
  have hP : va_P D vwCl [(a0, .inr (8, [.ref a1, .int ln, p_2, p_3, p_4, p_5])), (a1, .inl (K 0, 400, .inl f))] s.heap := hP
  have hl := lv_entry [.ref a0, .int x] (n := 2) (Nat.le_of_ble_eq_true rfl)
  rw [lg_entry_eq]
  generalize (lg_sl [.ref a0, .int x] ++ List.replicate (2 - (lg_sl [.ref a0, .int x]).length) Slot.unset).toArray = ls at hl ⊢
  have hl : lv_has ls 2 [(0, .ref a0), (1, .int x)] := hl
  have hw8 : ∀ w ∈ wsX80, w ∈ wsX8_byteAt := fun w h => (List.mem_cons_of_mem _ (List.mem_append_right _ h))
  generalize hQ : MQ below _ _ s _ _ _ = Q
  refine lv_iload_n hx hb dX8_byteAt_0 rfl (lv_at hl 1 rfl) ?_
  refine lv_if_lt (tgt := 28) hx hb dX8_byteAt_1 (by decide) (fun c_65 => ?_) (fun c_65 => ?_)
  · have c_65i := i_lt (x := x.toInt) (y := 0) rfl rfl c_65
    exfalso; omega
  · have c_65i := i_nlt (x := x.toInt) (y := 0) rfl rfl c_65
    refine lv_iload_n hx hb dX8_byteAt_4 rfl (lv_at hl 1 rfl) ?_
    refine lv_aload_n hx hb dX8_byteAt_5 rfl (lv_at hl 0 rfl) ?_
    refine va_get (ci := 8) (v := .int ln) (C := RX8) (T := TX8) (N := 6) hx hb hts hw8 hown hK hP 0 rfl rfl 1 (by decide) (hts (.fieldLink RX8 15 "SmokeTune$Tape" "length" "I") (List.mem_cons_of_mem _ (List.mem_append_left _ (List.mem_of_getElem? (i := 0) rfl)))) (fun _ h9 => h9) rfl dX8_byteAt_6 ?_
    refine lv_icmp_ge (tgt := 28) hx hb dX8_byteAt_9 (by decide) (fun c_66 => ?_) (fun c_66 => ?_)
    · have c_66i := i_le (x := ln.toInt) (y := x.toInt) rfl rfl c_66
      refine lv_iconst (v := (-1)) hx hb dX8_byteAt_28 (by decide) ?_
      rw [← hQ]
      exact W.iret (v := (-1)) hx hb hr (fun t ht hW => ⟨_, rfl, (by exfalso; omega), ht⟩) (fun q hq => by cases hq) dX8_byteAt_29
    · have c_66i := i_nle (x := ln.toInt) (y := x.toInt) rfl rfl c_66
      refine lv_iload_n hx hb dX8_byteAt_12 rfl (lv_at hl 1 rfl) ?_
      refine lv_sipush (v := 400) hx hb dX8_byteAt_13 (by decide) ?_
      refine lv_icmp_ge (tgt := 28) hx hb dX8_byteAt_16 (by decide) (fun c_67 => ?_) (fun c_67 => ?_)
      · have c_67i := i_le (x := 400) (y := x.toInt) rfl rfl c_67
        exfalso; omega
      · have c_67i := i_nle (x := 400) (y := x.toInt) rfl rfl c_67
        refine lv_aload_n hx hb dX8_byteAt_19 rfl (lv_at hl 0 rfl) ?_
        refine va_get (ci := 8) (v := .ref a1) (C := RX8) (T := TX8) (N := 6) hx hb hts hw8 hown hK hP 0 rfl rfl 0 (by decide) (hts (.fieldLink RX8 11 "SmokeTune$Tape" "bytes" "[I") (List.mem_cons_of_mem _ (List.mem_append_left _ (List.mem_of_getElem? (i := 1) rfl)))) (fun _ h9 => h9) rfl dX8_byteAt_20 ?_
        refine lv_iload_n hx hb dX8_byteAt_23 rfl (lv_at hl 1 rfl) ?_
        refine va_iald hx hb hK hP 1 0 rfl rfl (i_in rfl (by omega)) dX8_byteAt_24 ?_
        refine lv_topi (fun x_68 ex_68 => ?_)
        refine lv_goto (tgt := 29) hx hb dX8_byteAt_25 (by decide) ?_
        rw [← hQ]
        exact W.iret (v := x_68) hx hb hr (fun t ht hW => ⟨_, rfl, ⟨by rw [ex_68, i_clamp rfl], trivial⟩, ht⟩) (fun q hq => by cases hq) dX8_byteAt_29
set_option maxHeartbeats 4000000 in
set_option maxRecDepth 100000 in
theorem w_refuseX (l : Launch) (D : va_G) (K : Nat → ClassId) (o0 : Nat) (x : Int32) (o_0 : Value) (o_1 : Value) (o_2 : Value) (o_3 : Value) (o_4 : Value) (o_5 : Value) (o_6 : Value) (o_7 : Value) (o_8 : Value) (o_9 : Value) (o_10 : Value) (o_11 : Value) (rf : Nat) (rb : Int32) (o_14 : Value) (o_15 : Value) (o_16 : Value) (frf : Nat → Int32) (sz : Nat) : Met l yX11_refuse wsX11_refuse ({ frames := 1, cells := 0, slots := 0, locals := 22 }) (va_Pc [.ref o0, .int x] (Pre D K [(o0, .inr (11, [o_0, o_1, o_2, o_3, o_4, o_5, o_6, o_7, o_8, o_9, o_10, o_11, .ref rf, .int rb, o_14, o_15, o_16])), (rf, .inl (K 0, 5, .inl frf))] sz)) (va_Qi (S := Su) (fun (r : Int32) (u : Su) => ((r = x)) ∧ True) (fun u t => Wd D (va_A [(o0, .inr (11, [o_0, o_1, o_2, o_3, o_4, o_5, o_6, o_7, o_8, o_9, o_10, o_11, .ref rf, .int rb, o_14, o_15, o_16])), (rf, .inl (K 0, 5, .inl frf))] sz) ((fun u => [(o0, .inr (11, [o_0, o_1, o_2, o_3, o_4, o_5, o_6, o_7, o_8, o_9, o_10, o_11, .ref rf, .int (u.2.2.2.1 0), o_14, o_15, o_16])), (rf, .inl (K 0, 5, .inl (u.2.1 0)))]) u) t) (va_A [(o0, .inr (11, [o_0, o_1, o_2, o_3, o_4, o_5, o_6, o_7, o_8, o_9, o_10, o_11, .ref rf, .int rb, o_14, o_15, o_16])), (rf, .inl (K 0, 5, .inl frf))] sz)) 0 0 (va_A [(o0, .inr (11, [o_0, o_1, o_2, o_3, o_4, o_5, o_6, o_7, o_8, o_9, o_10, o_11, .ref rf, .int rb, o_14, o_15, o_16])), (rf, .inl (K 0, 5, .inl frf))] sz) := by
  refine Met.ofW (cc := cX11_refuse) (maxL := 3) (ret := (some .int)) (by decide) rfl ?_
  intro p e s m args below meth c s₁ B hml hv
  obtain ⟨rfl, hsz, hP, hK, hD0, hN⟩ := hv
  have hx := B.exec
  have hb := B.bytes
  have hr := B.returns
  have hts := atoms_spec (ws := wsX11_refuse) B.pre
  have hown : s.vm.findClass RX11 = some m.cls := findClass_of_methodNamed B.named
  have hlocks := B.notSynchronized
  subst hsz
  have hD := hD0.self (sz := s.heap.size)
  generalize hAe : va_A [(o0, .inr (11, [o_0, o_1, o_2, o_3, o_4, o_5, o_6, o_7, o_8, o_9, o_10, o_11, .ref rf, .int rb, o_14, o_15, o_16])), (rf, .inl (K 0, 5, .inl frf))] s.heap.size = A at hD ⊢
  have hA : ∀ q : Nat, s.heap.size ≤ q → A q := fun q h => by rw [← hAe]; exact Or.inr h
  have hS : va_S A s.heap s.heap [] := va_S.rf
  have hP : va_P D vwCl [(o0, .inr (11, [o_0, o_1, o_2, o_3, o_4, o_5, o_6, o_7, o_8, o_9, o_10, o_11, .ref rf, .int rb, o_14, o_15, o_16])), (rf, .inl (K 0, 5, .inl frf))] s.heap := hP
  have hl := lv_entry [.ref o0, .int x] (n := 3) (Nat.le_of_ble_eq_true rfl)
  rw [lg_entry_eq]
  generalize (lg_sl [.ref o0, .int x] ++ List.replicate (3 - (lg_sl [.ref o0, .int x]).length) Slot.unset).toArray = ls at hl ⊢
  have hl : lv_has ls 3 [(0, .ref o0), (1, .int x)] := hl
  have hw11 : ∀ w ∈ wsX110, w ∈ wsX11_refuse := fun w h => (List.mem_cons_of_mem _ (List.mem_append_right _ h))
  generalize hQ : MQ below _ _ s _ _ _ = Q
  refine lv_iload_n hx hb dX11_refuse_0 rfl (lv_at hl 1 rfl) ?_
  refine lv_bipush (v := (-4)) hx hb dX11_refuse_1 (by decide) ?_
  have j_191 : ∀ (f_190 : Nat → Int32) (H : Heap) (locs : List Loc) (hP : va_P D vwCl [(o0, .inr (11, [o_0, o_1, o_2, o_3, o_4, o_5, o_6, o_7, o_8, o_9, o_10, o_11, .ref rf, .int rb, o_14, o_15, o_16])), (rf, .inl (K 0, 5, .inl f_190))] H) (hD : va_D A [(o0, .inr (11, [o_0, o_1, o_2, o_3, o_4, o_5, o_6, o_7, o_8, o_9, o_10, o_11, .ref rf, .int rb, o_14, o_15, o_16])), (rf, .inl (K 0, 5, .inl f_190))]) (hS : va_S A s.heap H locs) (ls : Array Slot) (hl : lv_has ls 3 [(0, .ref o0), (1, .int x)]), W p l e ({ frames := 1, cells := 0, slots := 0, locals := 22 }) s m (([.ref o0, .int x] : List Value).toArray) below meth c H locs 0 0 Q (F0 m 43 ls []) := by
    intro f_190 H locs hP hD hS ls hl
    refine lv_aload_n hx hb dX11_refuse_43 rfl (lv_at hl 0 rfl) ?_
    refine lv_iload_n hx hb dX11_refuse_44 rfl (lv_at hl 1 rfl) ?_
    refine va_put (ci := 11) (v := .int x) (ty := .int) (C := RX11) (T := TX11) (N := 17) hx hb hts hw11 tyX11 tyX11_ok nmX11 hown hK hP hD hS 0 rfl rfl 13 (by decide) (hts (.fieldLink RX11 83 "SmokeTune" "refusedBy" "I") (List.mem_cons_of_mem _ (List.mem_append_left _ (List.mem_of_getElem? (i := 1) rfl)))) (fun _ h9 => h9) rfl (by decide +kernel) (by first | rfl | decide) (by first | rfl | decide) (Nat.le_of_ble_eq_true rfl) dX11_refuse_45 (fun H locs hP hD hS => ?_)
    have hP : va_P D vwCl [(o0, .inr (11, [o_0, o_1, o_2, o_3, o_4, o_5, o_6, o_7, o_8, o_9, o_10, o_11, .ref rf, .int x, o_14, o_15, o_16])), (rf, .inl (K 0, 5, .inl f_190))] H := hP
    have hD : va_D A [(o0, .inr (11, [o_0, o_1, o_2, o_3, o_4, o_5, o_6, o_7, o_8, o_9, o_10, o_11, .ref rf, .int x, o_14, o_15, o_16])), (rf, .inl (K 0, 5, .inl f_190))] := hD
    refine lv_iload_n hx hb dX11_refuse_48 rfl (lv_at hl 1 rfl) ?_
    rw [← hQ]
    have hP9 := hP.sub (ws' := [(o0, .inr (11, [o_0, o_1, o_2, o_3, o_4, o_5, o_6, o_7, o_8, o_9, o_10, o_11, .ref rf, .int x, o_14, o_15, o_16])), (rf, .inl (K 0, 5, .inl f_190))]) [0, 1] rfl
    have hD9 := hD.sub (ws' := [(o0, .inr (11, [o_0, o_1, o_2, o_3, o_4, o_5, o_6, o_7, o_8, o_9, o_10, o_11, .ref rf, .int x, o_14, o_15, o_16])), (rf, .inl (K 0, 5, .inl f_190))]) [0, 1] (by decide) rfl
    exact W.iret (v := x) hx hb hr (fun t ht hW => ⟨⟨x, ((fun _ => 0, fun i => match i with | _ => f_190, fun _ => fun _ => 0, fun i => match i with | _ => x, fun _ => 0, fun _ => fun _ => none) : Su), rfl, ⟨(by first | exact rfl | assumption), trivial⟩, (⟨by rw [ht]; exact hP9, hD9⟩ : Wd D A _ t)⟩, hS.F ht⟩) hS.2.2 dX11_refuse_49
  refine lv_icmp_le (tgt := 13) hx hb dX11_refuse_3 (by decide) (fun c_192 => ?_) (fun c_192 => ?_)
  · have c_192i := i_le (x := x.toInt) (y := (-4)) rfl rfl c_192
    refine lv_iload_n hx hb dX11_refuse_13 rfl (lv_at hl 1 rfl) ?_
    refine lv_ineg hx hb dX11_refuse_14 ?_
    refine lv_topi (fun x_193 ex_193 => ?_)
    refine lv_iconst (v := 2) hx hb dX11_refuse_15 (by decide) ?_
    refine lv_isub hx hb dX11_refuse_16 ?_
    refine lv_topi (fun x_194 ex_194 => ?_)
    refine lv_istore_n (lv' := [(2, .int x_194), (0, .ref o0), (1, .int x)]) hx hb dX11_refuse_17 rfl hl (by decide) rfl (fun ls hl => ?_)
    refine lv_iload_n hx hb dX11_refuse_18 rfl (lv_at hl 0 rfl) ?_
    refine lv_iconst (v := 0) hx hb dX11_refuse_19 (by decide) ?_
    refine lv_aload_n hx hb dX11_refuse_20 rfl (lv_at hl 1 rfl) ?_
    refine va_get (ci := 11) (v := .ref rf) (C := RX11) (T := TX11) (N := 17) hx hb hts hw11 hown hK hP 0 rfl rfl 12 (by decide) (hts (.fieldLink RX11 79 "SmokeTune" "refusals" "[I") (List.mem_cons_of_mem _ (List.mem_append_left _ (List.mem_of_getElem? (i := 0) rfl)))) (fun _ h9 => h9) rfl dX11_refuse_21 ?_
    refine va_alen (v := 5) hx hb hK hP 1 0 rfl rfl rfl dX11_refuse_24 ?_
    refine lv_iconst (v := 1) hx hb dX11_refuse_25 (by decide) ?_
    refine lv_isub hx hb dX11_refuse_26 ?_
    refine lv_topi (fun x_195 ex_195 => ?_)
    obtain rfl : x_195 = 4 := ex_195.trans (by first | rfl | decide)
    refine pci (va_runS (As := [.int x_194, .int 0, .int 4]) (rest := []) ⟨hx, hb, hml, hown, hts⟩ (w_within l D K x_194.toInt 0 4 x_194 0 4 s.heap.size rfl (show (0 : Int32).toInt = 0 from rfl) (show (4 : Int32).toInt = 4 from rfl)) (va_cwS 3 hts gX11_refuse_X11_within rfl rfl rfl (by decide +kernel) ⟨Nat.le_of_ble_eq_true rfl, Nat.le_of_ble_eq_true rfl⟩) (mkS hK hN (va_P.nil) (va_D.nil (A := fun _ => True))) rfl rfl hl.1 rfl (lv_room (Nat.le_of_ble_eq_true rfl)) dX11_refuse_27 ⟨Nat.le_of_ble_eq_true rfl, Nat.le_of_ble_eq_true rfl⟩) (fun r_196 hw => ?_)
    obtain ⟨hw, -⟩ := hw
    rcases hw with ⟨rfl, h_197, h_198⟩ | ⟨rfl, h_199⟩
    · refine lv_if_eq (tgt := 43) hx hb dX11_refuse_30 (by decide) (fun c_200 => absurd c_200 (by decide)) (fun c_200 => ?_)
      refine lv_aload_n hx hb dX11_refuse_33 rfl (lv_at hl 1 rfl) ?_
      refine va_get (ci := 11) (v := .ref rf) (C := RX11) (T := TX11) (N := 17) hx hb hts hw11 hown hK hP 0 rfl rfl 12 (by decide) (hts (.fieldLink RX11 79 "SmokeTune" "refusals" "[I") (List.mem_cons_of_mem _ (List.mem_append_left _ (List.mem_of_getElem? (i := 0) rfl)))) (fun _ h9 => h9) rfl dX11_refuse_34 ?_
      refine lv_iload_n hx hb dX11_refuse_37 rfl (lv_at hl 0 rfl) ?_
      refine lv_dup2_11 hx hb dX11_refuse_38 rfl rfl ?_
      refine va_iald hx hb hK hP 1 0 rfl rfl (i_in rfl (by omega)) dX11_refuse_39 ?_
      refine lv_topi (fun x_201 ex_201 => ?_)
      refine lv_iconst (v := 1) hx hb dX11_refuse_40 (by decide) ?_
      refine lv_iadd hx hb dX11_refuse_41 ?_
      refine lv_topi (fun x_202 ex_202 => ?_)
      refine va_iast hx hb hK hP hD hS 1 0 rfl rfl (i_in rfl (by omega)) dX11_refuse_42 (fun H locs hP hD hS => ?_)
      generalize hf_203 : (upd frf (x_194 : Int32).toNatClampNeg x_202) = f_203 at hP hD
      have hP : va_P D vwCl [(o0, .inr (11, [o_0, o_1, o_2, o_3, o_4, o_5, o_6, o_7, o_8, o_9, o_10, o_11, .ref rf, .int rb, o_14, o_15, o_16])), (rf, .inl (K 0, 5, .inl f_203))] H := hP
      have hD : va_D A [(o0, .inr (11, [o_0, o_1, o_2, o_3, o_4, o_5, o_6, o_7, o_8, o_9, o_10, o_11, .ref rf, .int rb, o_14, o_15, o_16])), (rf, .inl (K 0, 5, .inl f_203))] := hD
      exact j_191 f_203  _ _ hP hD hS ls (lv_sub hl [1, 2] rfl)
    · refine lv_if_eq (tgt := 43) hx hb dX11_refuse_30 (by decide) (fun c_204 => ?_) (fun c_204 => absurd (by decide) c_204)
      exact j_191 frf  _ _ hP hD hS ls (lv_sub hl [1, 2] rfl)
  · have c_192i := i_nle (x := x.toInt) (y := (-4)) rfl rfl c_192
    refine lv_iload_n hx hb dX11_refuse_6 rfl (lv_at hl 1 rfl) ?_
    refine lv_ineg hx hb dX11_refuse_7 ?_
    refine lv_topi (fun x_205 ex_205 => ?_)
    have hx_205 : x_205.toInt = (- x.toInt) := by rw [ex_205]; exact i_neg rfl (by omega)
    refine lv_iconst (v := 1) hx hb dX11_refuse_8 (by decide) ?_
    refine lv_isub hx hb dX11_refuse_9 ?_
    refine lv_topi (fun x_206 ex_206 => ?_)
    have hx_206 : x_206.toInt = ((- x.toInt) - 1) := by rw [ex_206]; exact i_sub hx_205 (show (1 : Int32).toInt = 1 from rfl) (by have q3 := i_rng (a := x) rfl; omega)
    refine lv_goto (tgt := 17) hx hb dX11_refuse_10 (by decide) ?_
    refine lv_istore_n (lv' := [(2, .int x_206), (0, .ref o0), (1, .int x)]) hx hb dX11_refuse_17 rfl hl (by decide) rfl (fun ls hl => ?_)
    refine lv_iload_n hx hb dX11_refuse_18 rfl (lv_at hl 0 rfl) ?_
    refine lv_iconst (v := 0) hx hb dX11_refuse_19 (by decide) ?_
    refine lv_aload_n hx hb dX11_refuse_20 rfl (lv_at hl 1 rfl) ?_
    refine va_get (ci := 11) (v := .ref rf) (C := RX11) (T := TX11) (N := 17) hx hb hts hw11 hown hK hP 0 rfl rfl 12 (by decide) (hts (.fieldLink RX11 79 "SmokeTune" "refusals" "[I") (List.mem_cons_of_mem _ (List.mem_append_left _ (List.mem_of_getElem? (i := 0) rfl)))) (fun _ h9 => h9) rfl dX11_refuse_21 ?_
    refine va_alen (v := 5) hx hb hK hP 1 0 rfl rfl rfl dX11_refuse_24 ?_
    refine lv_iconst (v := 1) hx hb dX11_refuse_25 (by decide) ?_
    refine lv_isub hx hb dX11_refuse_26 ?_
    refine lv_topi (fun x_207 ex_207 => ?_)
    obtain rfl : x_207 = 4 := ex_207.trans (by first | rfl | decide)
    refine pci (va_runS (As := [.int x_206, .int 0, .int 4]) (rest := []) ⟨hx, hb, hml, hown, hts⟩ (w_within l D K ((- x.toInt) - 1) 0 4 x_206 0 4 s.heap.size hx_206 (show (0 : Int32).toInt = 0 from rfl) (show (4 : Int32).toInt = 4 from rfl)) (va_cwS 3 hts gX11_refuse_X11_within rfl rfl rfl (by decide +kernel) ⟨Nat.le_of_ble_eq_true rfl, Nat.le_of_ble_eq_true rfl⟩) (mkS hK hN (va_P.nil) (va_D.nil (A := fun _ => True))) rfl rfl hl.1 rfl (lv_room (Nat.le_of_ble_eq_true rfl)) dX11_refuse_27 ⟨Nat.le_of_ble_eq_true rfl, Nat.le_of_ble_eq_true rfl⟩) (fun r_208 hw => ?_)
    obtain ⟨hw, -⟩ := hw
    rcases hw with ⟨rfl, h_209, h_210⟩ | ⟨rfl, h_211⟩
    · refine lv_if_eq (tgt := 43) hx hb dX11_refuse_30 (by decide) (fun c_212 => absurd c_212 (by decide)) (fun c_212 => ?_)
      refine lv_aload_n hx hb dX11_refuse_33 rfl (lv_at hl 1 rfl) ?_
      refine va_get (ci := 11) (v := .ref rf) (C := RX11) (T := TX11) (N := 17) hx hb hts hw11 hown hK hP 0 rfl rfl 12 (by decide) (hts (.fieldLink RX11 79 "SmokeTune" "refusals" "[I") (List.mem_cons_of_mem _ (List.mem_append_left _ (List.mem_of_getElem? (i := 0) rfl)))) (fun _ h9 => h9) rfl dX11_refuse_34 ?_
      refine lv_iload_n hx hb dX11_refuse_37 rfl (lv_at hl 0 rfl) ?_
      refine lv_dup2_11 hx hb dX11_refuse_38 rfl rfl ?_
      refine va_iald hx hb hK hP 1 0 rfl rfl (i_in hx_206 (by omega)) dX11_refuse_39 ?_
      refine lv_topi (fun x_213 ex_213 => ?_)
      refine lv_iconst (v := 1) hx hb dX11_refuse_40 (by decide) ?_
      refine lv_iadd hx hb dX11_refuse_41 ?_
      refine lv_topi (fun x_214 ex_214 => ?_)
      refine va_iast hx hb hK hP hD hS 1 0 rfl rfl (i_in hx_206 (by omega)) dX11_refuse_42 (fun H locs hP hD hS => ?_)
      generalize hf_215 : (upd frf (x_206 : Int32).toNatClampNeg x_214) = f_215 at hP hD
      have hP : va_P D vwCl [(o0, .inr (11, [o_0, o_1, o_2, o_3, o_4, o_5, o_6, o_7, o_8, o_9, o_10, o_11, .ref rf, .int rb, o_14, o_15, o_16])), (rf, .inl (K 0, 5, .inl f_215))] H := hP
      have hD : va_D A [(o0, .inr (11, [o_0, o_1, o_2, o_3, o_4, o_5, o_6, o_7, o_8, o_9, o_10, o_11, .ref rf, .int rb, o_14, o_15, o_16])), (rf, .inl (K 0, 5, .inl f_215))] := hD
      exact j_191 f_215  _ _ hP hD hS ls (lv_sub hl [1, 2] rfl)
    · refine lv_if_eq (tgt := 43) hx hb dX11_refuse_30 (by decide) (fun c_216 => ?_) (fun c_216 => absurd (by decide) c_216)
      exact j_191 frf  _ _ hP hD hS ls (lv_sub hl [1, 2] rfl)
set_option maxHeartbeats 4000000 in
set_option maxRecDepth 100000 in
theorem v_tellX (l : Launch) (D : va_G) (K : Nat → ClassId) (m0 : Nat) (x : Int32) (m_0 : Value) (sta : Int32) (r0 : Nat) (m_3 : Value) (m_4 : Value) (m_5 : Value) (m_6 : Value) (m_7 : Value) (m_8 : Value) (m_9 : Value) (m_10 : Value) (m_11 : Value) (m_12 : Value) (m_13 : Value) (m_14 : Value) (m_15 : Value) (m_16 : Value) (m_17 : Value) (m_18 : Value) (m_19 : Value) (m_20 : Value) (m_21 : Value) (m_22 : Value) (m_23 : Value) (m_24 : Value) (m_25 : Value) (m_26 : Value) (m_27 : Value) (m_28 : Value) (m_29 : Value) (m_30 : Value) (m_31 : Value) (m_32 : Value) (m_33 : Value) (m_34 : Value) (m_35 : Value) (m_36 : Value) (m_37 : Value) (m_38 : Value) (m_39 : Value) (m_40 : Value) (m_41 : Value) (m_42 : Value) (m_43 : Value) (m_44 : Value) (m_45 : Value) (m_46 : Value) (m_47 : Value) (m_48 : Value) (m_49 : Value) (m_50 : Value) (m_51 : Value) (m_52 : Value) (m_53 : Value) (m_54 : Value) (m_55 : Value) (m_56 : Value) (m_57 : Value) (m_58 : Value) (m_59 : Value) (frf : Nat → Int32) (sz : Nat) (zx : (-6) ≤ x.toInt ∧ x.toInt ≤ 2147483647) : Met l yX12_tell wsX12_tell ({ frames := 0, cells := 0, slots := 0, locals := 0 }) (va_Pc [.ref m0, .int x] (Pre D K [(m0, .inr (12, [m_0, .int sta, .ref r0, m_3, m_4, m_5, m_6, m_7, m_8, m_9, m_10, m_11, m_12, m_13, m_14, m_15, m_16, m_17, m_18, m_19, m_20, m_21, m_22, m_23, m_24, m_25, m_26, m_27, m_28, m_29, m_30, m_31, m_32, m_33, m_34, m_35, m_36, m_37, m_38, m_39, m_40, m_41, m_42, m_43, m_44, m_45, m_46, m_47, m_48, m_49, m_50, m_51, m_52, m_53, m_54, m_55, m_56, m_57, m_58, m_59])), (r0, .inl (K 0, 7, .inl frf))] sz)) (va_Qi (S := Su) (fun (r : Int32) (u : Su) => ((r = x)) ∧ ((-6) ≤ (u.2.2.2.1 0).toInt ∧ (u.2.2.2.1 0).toInt ≤ 0) ∧ True) (fun u t => Wd D (va_A [(m0, .inr (12, [m_0, .int sta, .ref r0, m_3, m_4, m_5, m_6, m_7, m_8, m_9, m_10, m_11, m_12, m_13, m_14, m_15, m_16, m_17, m_18, m_19, m_20, m_21, m_22, m_23, m_24, m_25, m_26, m_27, m_28, m_29, m_30, m_31, m_32, m_33, m_34, m_35, m_36, m_37, m_38, m_39, m_40, m_41, m_42, m_43, m_44, m_45, m_46, m_47, m_48, m_49, m_50, m_51, m_52, m_53, m_54, m_55, m_56, m_57, m_58, m_59])), (r0, .inl (K 0, 7, .inl frf))] sz) ((fun u => [(m0, .inr (12, [m_0, .int (u.2.2.2.1 0), .ref r0, m_3, m_4, m_5, m_6, m_7, m_8, m_9, m_10, m_11, m_12, m_13, m_14, m_15, m_16, m_17, m_18, m_19, m_20, m_21, m_22, m_23, m_24, m_25, m_26, m_27, m_28, m_29, m_30, m_31, m_32, m_33, m_34, m_35, m_36, m_37, m_38, m_39, m_40, m_41, m_42, m_43, m_44, m_45, m_46, m_47, m_48, m_49, m_50, m_51, m_52, m_53, m_54, m_55, m_56, m_57, m_58, m_59])), (r0, .inl (K 0, 7, .inl (u.2.1 0)))]) u) t) (va_A [(m0, .inr (12, [m_0, .int sta, .ref r0, m_3, m_4, m_5, m_6, m_7, m_8, m_9, m_10, m_11, m_12, m_13, m_14, m_15, m_16, m_17, m_18, m_19, m_20, m_21, m_22, m_23, m_24, m_25, m_26, m_27, m_28, m_29, m_30, m_31, m_32, m_33, m_34, m_35, m_36, m_37, m_38, m_39, m_40, m_41, m_42, m_43, m_44, m_45, m_46, m_47, m_48, m_49, m_50, m_51, m_52, m_53, m_54, m_55, m_56, m_57, m_58, m_59])), (r0, .inl (K 0, 7, .inl frf))] sz)) 0 0 (va_A [(m0, .inr (12, [m_0, .int sta, .ref r0, m_3, m_4, m_5, m_6, m_7, m_8, m_9, m_10, m_11, m_12, m_13, m_14, m_15, m_16, m_17, m_18, m_19, m_20, m_21, m_22, m_23, m_24, m_25, m_26, m_27, m_28, m_29, m_30, m_31, m_32, m_33, m_34, m_35, m_36, m_37, m_38, m_39, m_40, m_41, m_42, m_43, m_44, m_45, m_46, m_47, m_48, m_49, m_50, m_51, m_52, m_53, m_54, m_55, m_56, m_57, m_58, m_59])), (r0, .inl (K 0, 7, .inl frf))] sz) := by
  refine Met.ofW (cc := cX12_tell) (maxL := 2) (ret := (some .int)) (by decide) rfl ?_
  intro p e s m args below meth c s₁ B hml hv
  obtain ⟨rfl, hsz, hP, hK, hD0, hN⟩ := hv
  have hx := B.exec
  have hb := B.bytes
  have hr := B.returns
  have hts := atoms_spec (ws := wsX12_tell) B.pre
  have hown : s.vm.findClass RX12 = some m.cls := findClass_of_methodNamed B.named
  have hlocks := B.notSynchronized
  subst hsz
  have hD := hD0.self (sz := s.heap.size)
  generalize hAe : va_A [(m0, .inr (12, [m_0, .int sta, .ref r0, m_3, m_4, m_5, m_6, m_7, m_8, m_9, m_10, m_11, m_12, m_13, m_14, m_15, m_16, m_17, m_18, m_19, m_20, m_21, m_22, m_23, m_24, m_25, m_26, m_27, m_28, m_29, m_30, m_31, m_32, m_33, m_34, m_35, m_36, m_37, m_38, m_39, m_40, m_41, m_42, m_43, m_44, m_45, m_46, m_47, m_48, m_49, m_50, m_51, m_52, m_53, m_54, m_55, m_56, m_57, m_58, m_59])), (r0, .inl (K 0, 7, .inl frf))] s.heap.size = A at hD ⊢
  have hA : ∀ q : Nat, s.heap.size ≤ q → A q := fun q h => by rw [← hAe]; exact Or.inr h
  have hS : va_S A s.heap s.heap [] := va_S.rf
  have hP : va_P D vwCl [(m0, .inr (12, [m_0, .int sta, .ref r0, m_3, m_4, m_5, m_6, m_7, m_8, m_9, m_10, m_11, m_12, m_13, m_14, m_15, m_16, m_17, m_18, m_19, m_20, m_21, m_22, m_23, m_24, m_25, m_26, m_27, m_28, m_29, m_30, m_31, m_32, m_33, m_34, m_35, m_36, m_37, m_38, m_39, m_40, m_41, m_42, m_43, m_44, m_45, m_46, m_47, m_48, m_49, m_50, m_51, m_52, m_53, m_54, m_55, m_56, m_57, m_58, m_59])), (r0, .inl (K 0, 7, .inl frf))] s.heap := hP
  have hl := lv_entry [.ref m0, .int x] (n := 2) (Nat.le_of_ble_eq_true rfl)
  rw [lg_entry_eq]
  generalize (lg_sl [.ref m0, .int x] ++ List.replicate (2 - (lg_sl [.ref m0, .int x]).length) Slot.unset).toArray = ls at hl ⊢
  have hl : lv_has ls 2 [(0, .ref m0), (1, .int x)] := hl
  have hw12 : ∀ w ∈ wsX120, w ∈ wsX12_tell := fun w h => (List.mem_cons_of_mem _ (List.mem_append_right _ h))
  generalize hQ : MQ below _ _ s _ _ _ = Q
  refine lv_aload_n hx hb dX12_tell_0 rfl (lv_at hl 0 rfl) ?_
  refine lv_iload_n hx hb dX12_tell_1 rfl (lv_at hl 1 rfl) ?_
  have j_104 : ∀ (v_102 : Int32) (f_103 : Nat → Int32) (hv_102 : (-6) ≤ v_102.toInt ∧ v_102.toInt ≤ 0) (H : Heap) (locs : List Loc) (hP : va_P D vwCl [(m0, .inr (12, [m_0, .int v_102, .ref r0, m_3, m_4, m_5, m_6, m_7, m_8, m_9, m_10, m_11, m_12, m_13, m_14, m_15, m_16, m_17, m_18, m_19, m_20, m_21, m_22, m_23, m_24, m_25, m_26, m_27, m_28, m_29, m_30, m_31, m_32, m_33, m_34, m_35, m_36, m_37, m_38, m_39, m_40, m_41, m_42, m_43, m_44, m_45, m_46, m_47, m_48, m_49, m_50, m_51, m_52, m_53, m_54, m_55, m_56, m_57, m_58, m_59])), (r0, .inl (K 0, 7, .inl f_103))] H) (hD : va_D A [(m0, .inr (12, [m_0, .int v_102, .ref r0, m_3, m_4, m_5, m_6, m_7, m_8, m_9, m_10, m_11, m_12, m_13, m_14, m_15, m_16, m_17, m_18, m_19, m_20, m_21, m_22, m_23, m_24, m_25, m_26, m_27, m_28, m_29, m_30, m_31, m_32, m_33, m_34, m_35, m_36, m_37, m_38, m_39, m_40, m_41, m_42, m_43, m_44, m_45, m_46, m_47, m_48, m_49, m_50, m_51, m_52, m_53, m_54, m_55, m_56, m_57, m_58, m_59])), (r0, .inl (K 0, 7, .inl f_103))]) (hS : va_S A s.heap H locs) (ls : Array Slot) (hl : lv_has ls 2 [(1, .int x)]), W p l e ({ frames := 0, cells := 0, slots := 0, locals := 0 }) s m (([.ref m0, .int x] : List Value).toArray) below meth c H locs 0 0 Q (F0 m 28 ls []) := by
    intro v_102 f_103 hv_102 H locs hP hD hS ls hl
    refine lv_iload_n hx hb dX12_tell_28 rfl (lv_at hl 0 rfl) ?_
    rw [← hQ]
    have hP9 := hP.sub (ws' := [(m0, .inr (12, [m_0, .int v_102, .ref r0, m_3, m_4, m_5, m_6, m_7, m_8, m_9, m_10, m_11, m_12, m_13, m_14, m_15, m_16, m_17, m_18, m_19, m_20, m_21, m_22, m_23, m_24, m_25, m_26, m_27, m_28, m_29, m_30, m_31, m_32, m_33, m_34, m_35, m_36, m_37, m_38, m_39, m_40, m_41, m_42, m_43, m_44, m_45, m_46, m_47, m_48, m_49, m_50, m_51, m_52, m_53, m_54, m_55, m_56, m_57, m_58, m_59])), (r0, .inl (K 0, 7, .inl f_103))]) [0, 1] rfl
    have hD9 := hD.sub (ws' := [(m0, .inr (12, [m_0, .int v_102, .ref r0, m_3, m_4, m_5, m_6, m_7, m_8, m_9, m_10, m_11, m_12, m_13, m_14, m_15, m_16, m_17, m_18, m_19, m_20, m_21, m_22, m_23, m_24, m_25, m_26, m_27, m_28, m_29, m_30, m_31, m_32, m_33, m_34, m_35, m_36, m_37, m_38, m_39, m_40, m_41, m_42, m_43, m_44, m_45, m_46, m_47, m_48, m_49, m_50, m_51, m_52, m_53, m_54, m_55, m_56, m_57, m_58, m_59])), (r0, .inl (K 0, 7, .inl f_103))]) [0, 1] (by decide) rfl
    exact W.iret (v := x) hx hb hr (fun t ht hW => ⟨⟨x, ((fun _ => 0, fun i => match i with | _ => f_103, fun _ => fun _ => 0, fun i => match i with | _ => v_102, fun _ => 0, fun _ => fun _ => none) : Su), rfl, ⟨(by first | exact rfl | assumption), (show (-6) ≤ (v_102 : Int32).toInt ∧ (v_102 : Int32).toInt ≤ 0 by omega), trivial⟩, (⟨by rw [ht]; exact hP9, hD9⟩ : Wd D A _ t)⟩, hS.F ht⟩) hS.2.2 dX12_tell_29
  refine lv_if_ge (tgt := 9) hx hb dX12_tell_2 (by decide) (fun c_105 => ?_) (fun c_105 => ?_)
  · have c_105i := i_le (x := 0) (y := x.toInt) rfl rfl c_105
    refine lv_iconst (v := 0) hx hb dX12_tell_9 (by decide) ?_
    refine va_put (ci := 12) (v := .int 0) (ty := .int) (C := RX12) (T := TX12) (N := 60) hx hb hts hw12 tyX12 tyX12_ok nmX12 hown hK hP hD hS 0 rfl rfl 1 (by decide) (hts (.fieldLink RX12 161 "SmokeTuneModel" "status" "I") (List.mem_cons_of_mem _ (List.mem_append_left _ (List.mem_of_getElem? (i := 0) rfl)))) (fun _ h9 => h9) rfl (by decide +kernel) (by first | rfl | decide) (by first | rfl | decide) (Nat.le_of_ble_eq_true rfl) dX12_tell_10 (fun H locs hP hD hS => ?_)
    have hP : va_P D vwCl [(m0, .inr (12, [m_0, .int 0, .ref r0, m_3, m_4, m_5, m_6, m_7, m_8, m_9, m_10, m_11, m_12, m_13, m_14, m_15, m_16, m_17, m_18, m_19, m_20, m_21, m_22, m_23, m_24, m_25, m_26, m_27, m_28, m_29, m_30, m_31, m_32, m_33, m_34, m_35, m_36, m_37, m_38, m_39, m_40, m_41, m_42, m_43, m_44, m_45, m_46, m_47, m_48, m_49, m_50, m_51, m_52, m_53, m_54, m_55, m_56, m_57, m_58, m_59])), (r0, .inl (K 0, 7, .inl frf))] H := hP
    have hD : va_D A [(m0, .inr (12, [m_0, .int 0, .ref r0, m_3, m_4, m_5, m_6, m_7, m_8, m_9, m_10, m_11, m_12, m_13, m_14, m_15, m_16, m_17, m_18, m_19, m_20, m_21, m_22, m_23, m_24, m_25, m_26, m_27, m_28, m_29, m_30, m_31, m_32, m_33, m_34, m_35, m_36, m_37, m_38, m_39, m_40, m_41, m_42, m_43, m_44, m_45, m_46, m_47, m_48, m_49, m_50, m_51, m_52, m_53, m_54, m_55, m_56, m_57, m_58, m_59])), (r0, .inl (K 0, 7, .inl frf))] := hD
    refine lv_iload_n hx hb dX12_tell_13 rfl (lv_at hl 1 rfl) ?_
    refine lv_if_ge (tgt := 28) hx hb dX12_tell_14 (by decide) (fun c_106 => ?_) (fun c_106 => ?_)
    · have c_106i := i_le (x := 0) (y := x.toInt) rfl rfl c_106
      exact j_104 0 frf (by decide) _ _ hP hD hS ls (lv_sub hl [1] rfl)
    · have c_106i := i_nle (x := 0) (y := x.toInt) rfl rfl c_106
      exfalso; omega
  · have c_105i := i_nle (x := 0) (y := x.toInt) rfl rfl c_105
    refine lv_iload_n hx hb dX12_tell_5 rfl (lv_at hl 1 rfl) ?_
    refine lv_goto (tgt := 10) hx hb dX12_tell_6 (by decide) ?_
    refine va_put (ci := 12) (v := .int x) (ty := .int) (C := RX12) (T := TX12) (N := 60) hx hb hts hw12 tyX12 tyX12_ok nmX12 hown hK hP hD hS 0 rfl rfl 1 (by decide) (hts (.fieldLink RX12 161 "SmokeTuneModel" "status" "I") (List.mem_cons_of_mem _ (List.mem_append_left _ (List.mem_of_getElem? (i := 0) rfl)))) (fun _ h9 => h9) rfl (by decide +kernel) (by first | rfl | decide) (by first | rfl | decide) (Nat.le_of_ble_eq_true rfl) dX12_tell_10 (fun H locs hP hD hS => ?_)
    have hP : va_P D vwCl [(m0, .inr (12, [m_0, .int x, .ref r0, m_3, m_4, m_5, m_6, m_7, m_8, m_9, m_10, m_11, m_12, m_13, m_14, m_15, m_16, m_17, m_18, m_19, m_20, m_21, m_22, m_23, m_24, m_25, m_26, m_27, m_28, m_29, m_30, m_31, m_32, m_33, m_34, m_35, m_36, m_37, m_38, m_39, m_40, m_41, m_42, m_43, m_44, m_45, m_46, m_47, m_48, m_49, m_50, m_51, m_52, m_53, m_54, m_55, m_56, m_57, m_58, m_59])), (r0, .inl (K 0, 7, .inl frf))] H := hP
    have hD : va_D A [(m0, .inr (12, [m_0, .int x, .ref r0, m_3, m_4, m_5, m_6, m_7, m_8, m_9, m_10, m_11, m_12, m_13, m_14, m_15, m_16, m_17, m_18, m_19, m_20, m_21, m_22, m_23, m_24, m_25, m_26, m_27, m_28, m_29, m_30, m_31, m_32, m_33, m_34, m_35, m_36, m_37, m_38, m_39, m_40, m_41, m_42, m_43, m_44, m_45, m_46, m_47, m_48, m_49, m_50, m_51, m_52, m_53, m_54, m_55, m_56, m_57, m_58, m_59])), (r0, .inl (K 0, 7, .inl frf))] := hD
    refine lv_iload_n hx hb dX12_tell_13 rfl (lv_at hl 1 rfl) ?_
    refine lv_if_ge (tgt := 28) hx hb dX12_tell_14 (by decide) (fun c_107 => ?_) (fun c_107 => ?_)
    · have c_107i := i_le (x := 0) (y := x.toInt) rfl rfl c_107
      exfalso; omega
    · have c_107i := i_nle (x := 0) (y := x.toInt) rfl rfl c_107
      refine lv_aload_n hx hb dX12_tell_17 rfl (lv_at hl 0 rfl) ?_
      refine va_get (ci := 12) (v := .ref r0) (C := RX12) (T := TX12) (N := 60) hx hb hts hw12 hown hK hP 0 rfl rfl 2 (by decide) (hts (.fieldLink RX12 7 "SmokeTuneModel" "refusals" "[I") (List.mem_cons_of_mem _ (List.mem_append_left _ (List.mem_of_getElem? (i := 1) rfl)))) (fun _ h9 => h9) rfl dX12_tell_18 ?_
      refine lv_iload_n hx hb dX12_tell_21 rfl (lv_at hl 1 rfl) ?_
      refine lv_ineg hx hb dX12_tell_22 ?_
      refine lv_topi (fun x_108 ex_108 => ?_)
      have hx_108 : x_108.toInt = (- x.toInt) := by rw [ex_108]; exact i_neg rfl (by omega)
      refine lv_dup2_11 hx hb dX12_tell_23 rfl rfl ?_
      refine va_iald hx hb hK hP 1 0 rfl rfl (i_in hx_108 (by omega)) dX12_tell_24 ?_
      refine lv_topi (fun x_109 ex_109 => ?_)
      refine lv_iconst (v := 1) hx hb dX12_tell_25 (by decide) ?_
      refine lv_iadd hx hb dX12_tell_26 ?_
      refine lv_topi (fun x_110 ex_110 => ?_)
      refine va_iast hx hb hK hP hD hS 1 0 rfl rfl (i_in hx_108 (by omega)) dX12_tell_27 (fun H locs hP hD hS => ?_)
      generalize hf_111 : (upd frf (x_108 : Int32).toNatClampNeg x_110) = f_111 at hP hD
      have hP : va_P D vwCl [(m0, .inr (12, [m_0, .int x, .ref r0, m_3, m_4, m_5, m_6, m_7, m_8, m_9, m_10, m_11, m_12, m_13, m_14, m_15, m_16, m_17, m_18, m_19, m_20, m_21, m_22, m_23, m_24, m_25, m_26, m_27, m_28, m_29, m_30, m_31, m_32, m_33, m_34, m_35, m_36, m_37, m_38, m_39, m_40, m_41, m_42, m_43, m_44, m_45, m_46, m_47, m_48, m_49, m_50, m_51, m_52, m_53, m_54, m_55, m_56, m_57, m_58, m_59])), (r0, .inl (K 0, 7, .inl f_111))] H := hP
      have hD : va_D A [(m0, .inr (12, [m_0, .int x, .ref r0, m_3, m_4, m_5, m_6, m_7, m_8, m_9, m_10, m_11, m_12, m_13, m_14, m_15, m_16, m_17, m_18, m_19, m_20, m_21, m_22, m_23, m_24, m_25, m_26, m_27, m_28, m_29, m_30, m_31, m_32, m_33, m_34, m_35, m_36, m_37, m_38, m_39, m_40, m_41, m_42, m_43, m_44, m_45, m_46, m_47, m_48, m_49, m_50, m_51, m_52, m_53, m_54, m_55, m_56, m_57, m_58, m_59])), (r0, .inl (K 0, 7, .inl f_111))] := hD
      exact j_104 x f_111 (by omega) _ _ hP hD hS ls (lv_sub hl [1] rfl)
set_option maxHeartbeats 4000000 in
set_option maxRecDepth 100000 in
theorem w_rowX (l : Launch) (D : va_G) (K : Nat → ClassId) (o0 : Nat) (t0 : Nat) (o_1 : Value) (o_2 : Value) (o_3 : Value) (o_4 : Value) (p0 : Nat) (o_6 : Value) (o_7 : Value) (o_8 : Value) (o_9 : Value) (o_10 : Value) (o_11 : Value) (rf : Nat) (rb : Int32) (ato : Int32) (o_15 : Value) (o_16 : Value) (frf : Nat → Int32) (p1 : Nat) (ln : Int32) (p_2 : Value) (p_3 : Value) (p_4 : Value) (p_5 : Value) (fb : Nat → Int32) (k_0 : Value) (t3 : Nat) (k_2 : Value) (k_3 : Value) (k_4 : Value) (k_5 : Value) (k_6 : Value) (k_7 : Value) (k_8 : Value) (k_9 : Value) (f3 : Nat → Int32) (sz : Nat) (zln : 0 ≤ ln.toInt ∧ ln.toInt ≤ 400) (hnn : ∀ j : Nat, (j : Int) < ln.toInt → 0 ≤ (fb j).toInt) : Met l yX11_row wsX11_row ({ frames := 2, cells := 0, slots := 0, locals := 44 }) (va_Pc [.ref o0] (Pre D K [(o0, .inr (11, [.ref t0, o_1, o_2, o_3, o_4, .ref p0, o_6, o_7, o_8, o_9, o_10, o_11, .ref rf, .int rb, .int ato, o_15, o_16])), (rf, .inl (K 0, 5, .inl frf)), (p0, .inr (8, [.ref p1, .int ln, p_2, p_3, p_4, p_5])), (p1, .inl (K 0, 400, .inl fb)), (t0, .inr (9, [k_0, .ref t3, k_2, k_3, k_4, k_5, k_6, k_7, k_8, k_9])), (t3, .inl (K 0, 24, .inl f3))] sz)) (va_Qi (S := Su) (fun (r : Int32) (u : Su) => ((-6) ≤ r.toInt ∧ r.toInt ≤ 400) ∧ (0 ≤ (u.2.2.2.1 2).toInt ∧ (u.2.2.2.1 2).toInt ≤ 0) ∧ (((ln.toInt = 0 ∧ r.toInt = -6 ∧ (u.2.2.2.1 1).toInt = ato.toInt) ∨ (0 < ln.toInt ∧ r.toInt = cnt fb ln.toInt.toNat ∧ (u.2.2.2.1 1).toInt = ln.toInt - cnt fb ln.toInt.toNat))) ∧ True) (fun u t => Wd D (va_A [(o0, .inr (11, [.ref t0, o_1, o_2, o_3, o_4, .ref p0, o_6, o_7, o_8, o_9, o_10, o_11, .ref rf, .int rb, .int ato, o_15, o_16])), (rf, .inl (K 0, 5, .inl frf)), (p0, .inr (8, [.ref p1, .int ln, p_2, p_3, p_4, p_5])), (p1, .inl (K 0, 400, .inl fb)), (t0, .inr (9, [k_0, .ref t3, k_2, k_3, k_4, k_5, k_6, k_7, k_8, k_9])), (t3, .inl (K 0, 24, .inl f3))] sz) ((fun u => [(o0, .inr (11, [.ref t0, o_1, o_2, o_3, o_4, .ref p0, o_6, o_7, o_8, o_9, o_10, o_11, .ref rf, .int (u.2.2.2.1 0), .int (u.2.2.2.1 1), o_15, o_16])), (rf, .inl (K 0, 5, .inl (u.2.1 0))), (p0, .inr (8, [.ref p1, .int (u.2.2.2.1 2), p_2, p_3, p_4, p_5])), (p1, .inl (K 0, 400, .inl fb)), (t0, .inr (9, [k_0, .ref t3, k_2, k_3, k_4, k_5, k_6, k_7, k_8, k_9])), (t3, .inl (K 0, 24, .inl (u.2.1 1)))]) u) t) (va_A [(o0, .inr (11, [.ref t0, o_1, o_2, o_3, o_4, .ref p0, o_6, o_7, o_8, o_9, o_10, o_11, .ref rf, .int rb, .int ato, o_15, o_16])), (rf, .inl (K 0, 5, .inl frf)), (p0, .inr (8, [.ref p1, .int ln, p_2, p_3, p_4, p_5])), (p1, .inl (K 0, 400, .inl fb)), (t0, .inr (9, [k_0, .ref t3, k_2, k_3, k_4, k_5, k_6, k_7, k_8, k_9])), (t3, .inl (K 0, 24, .inl f3))] sz)) 0 0 (va_A [(o0, .inr (11, [.ref t0, o_1, o_2, o_3, o_4, .ref p0, o_6, o_7, o_8, o_9, o_10, o_11, .ref rf, .int rb, .int ato, o_15, o_16])), (rf, .inl (K 0, 5, .inl frf)), (p0, .inr (8, [.ref p1, .int ln, p_2, p_3, p_4, p_5])), (p1, .inl (K 0, 400, .inl fb)), (t0, .inr (9, [k_0, .ref t3, k_2, k_3, k_4, k_5, k_6, k_7, k_8, k_9])), (t3, .inl (K 0, 24, .inl f3))] sz) := by
  refine Met.ofW (cc := cX11_row) (maxL := 4) (ret := (some .int)) (by decide) rfl ?_
  intro p e s m args below meth c s₁ B hml hv
  obtain ⟨rfl, hsz, hP, hK, hD0, hN⟩ := hv
  have hx := B.exec
  have hb := B.bytes
  have hr := B.returns
  have hts := atoms_spec (ws := wsX11_row) B.pre
  have hown : s.vm.findClass RX11 = some m.cls := findClass_of_methodNamed B.named
  have hlocks := B.notSynchronized
  subst hsz
  have hD := hD0.self (sz := s.heap.size)
  generalize hAe : va_A [(o0, .inr (11, [.ref t0, o_1, o_2, o_3, o_4, .ref p0, o_6, o_7, o_8, o_9, o_10, o_11, .ref rf, .int rb, .int ato, o_15, o_16])), (rf, .inl (K 0, 5, .inl frf)), (p0, .inr (8, [.ref p1, .int ln, p_2, p_3, p_4, p_5])), (p1, .inl (K 0, 400, .inl fb)), (t0, .inr (9, [k_0, .ref t3, k_2, k_3, k_4, k_5, k_6, k_7, k_8, k_9])), (t3, .inl (K 0, 24, .inl f3))] s.heap.size = A at hD ⊢
  have hA : ∀ q : Nat, s.heap.size ≤ q → A q := fun q h => by rw [← hAe]; exact Or.inr h
  have hS : va_S A s.heap s.heap [] := va_S.rf
  have hP : va_P D vwCl [(o0, .inr (11, [.ref t0, o_1, o_2, o_3, o_4, .ref p0, o_6, o_7, o_8, o_9, o_10, o_11, .ref rf, .int rb, .int ato, o_15, o_16])), (rf, .inl (K 0, 5, .inl frf)), (p0, .inr (8, [.ref p1, .int ln, p_2, p_3, p_4, p_5])), (p1, .inl (K 0, 400, .inl fb)), (t0, .inr (9, [k_0, .ref t3, k_2, k_3, k_4, k_5, k_6, k_7, k_8, k_9])), (t3, .inl (K 0, 24, .inl f3))] s.heap := hP
  have hl := lv_entry [.ref o0] (n := 4) (Nat.le_of_ble_eq_true rfl)
  rw [lg_entry_eq]
  generalize (lg_sl [.ref o0] ++ List.replicate (4 - (lg_sl [.ref o0]).length) Slot.unset).toArray = ls at hl ⊢
  have hl : lv_has ls 4 [(0, .ref o0)] := hl
  have hw8 : ∀ w ∈ wsX80, w ∈ wsX11_row := fun w h => (List.mem_cons_of_mem _ (List.mem_append_left _ (List.mem_append_right _ h)))
  have hw9 : ∀ w ∈ wsX90, w ∈ wsX11_row := fun w h => (List.mem_cons_of_mem _ (List.mem_append_right _ h))
  have hw11 : ∀ w ∈ wsX110, w ∈ wsX11_row := fun w h => (List.mem_cons_of_mem _ (List.mem_append_left _ (List.mem_append_left _ (List.mem_append_right _ h))))
  generalize hQ : MQ below _ _ s _ _ _ = Q
  refine lv_aload_n hx hb dX11_row_0 rfl (lv_at hl 0 rfl) ?_
  refine va_get (ci := 11) (v := .ref p0) (C := RX11) (T := TX11) (N := 17) hx hb hts hw11 hown hK hP 0 rfl rfl 5 (by decide) (hts (.fieldLink RX11 38 "SmokeTune" "tape" "LSmokeTune$Tape;") (List.mem_cons_of_mem _ (List.mem_append_left _ (List.mem_append_left _ (List.mem_append_left _ (List.mem_of_getElem? (i := 0) rfl)))))) (fun _ h9 => h9) rfl dX11_row_1 ?_
  refine va_getN (ci := 8) (v := .int ln) (C := RX8) (T := TX8) (N := 6) hx hb hts hw8 hown hK hP 2 rfl rfl 1 (by decide) (nst_use hN 120 rfl) (fun _ h9 => h9) rfl dX11_row_4 ?_
  refine lv_if_ne (tgt := 17) hx hb dX11_row_7 (by decide) (fun c_263 => ?_) (fun c_263 => ?_)
  · have c_263i := i_ne (x := ln.toInt) (y := 0) rfl rfl c_263
    refine lv_iconst (v := 0) hx hb dX11_row_17 (by decide) ?_
    refine lv_istore_n (lv' := [(1, .int 0), (0, .ref o0)]) hx hb dX11_row_18 rfl hl (by decide) rfl (fun ls hl => ?_)
    refine lv_iconst (v := 0) hx hb dX11_row_19 (by decide) ?_
    refine lv_istore_n (lv' := [(2, .int 0), (1, .int 0), (0, .ref o0)]) hx hb dX11_row_20 rfl hl (by decide) rfl (fun ls hl => ?_)
    have lp_341 : ∀ (nn_ : Nat) (v_307 : Int32) (v_308 : Int32) (f_309 : Nat → Int32) (hv_307 : 0 ≤ v_307.toInt ∧ v_307.toInt ≤ 400) (hv_308 : 0 ≤ v_308.toInt ∧ v_308.toInt ≤ 400) (hr0_lp_341 : v_308.toInt = cnt fb (v_307.toInt).toNat) (hr1_lp_341 : v_307.toInt ≤ ln.toInt ∧ 0 ≤ v_308.toInt ∧ v_308.toInt ≤ v_307.toInt) (hn : (401 - v_307.toInt : Int).toNat < nn_) (H : Heap) (locs : List Loc) (hP : va_P D vwCl [(o0, .inr (11, [.ref t0, o_1, o_2, o_3, o_4, .ref p0, o_6, o_7, o_8, o_9, o_10, o_11, .ref rf, .int rb, .int ato, o_15, o_16])), (rf, .inl (K 0, 5, .inl frf)), (p0, .inr (8, [.ref p1, .int ln, p_2, p_3, p_4, p_5])), (p1, .inl (K 0, 400, .inl fb)), (t0, .inr (9, [k_0, .ref t3, k_2, k_3, k_4, k_5, k_6, k_7, k_8, k_9])), (t3, .inl (K 0, 24, .inl f_309))] H) (hD : va_D A [(o0, .inr (11, [.ref t0, o_1, o_2, o_3, o_4, .ref p0, o_6, o_7, o_8, o_9, o_10, o_11, .ref rf, .int rb, .int ato, o_15, o_16])), (rf, .inl (K 0, 5, .inl frf)), (p0, .inr (8, [.ref p1, .int ln, p_2, p_3, p_4, p_5])), (p1, .inl (K 0, 400, .inl fb)), (t0, .inr (9, [k_0, .ref t3, k_2, k_3, k_4, k_5, k_6, k_7, k_8, k_9])), (t3, .inl (K 0, 24, .inl f_309))]) (hS : va_S A s.heap H locs) (ls : Array Slot) (hl : lv_has ls 4 [(2, .int v_307), (1, .int v_308), (0, .ref o0)]), W p l e ({ frames := 2, cells := 0, slots := 0, locals := 44 }) s m (([.ref o0] : List Value).toArray) below meth c H locs 0 0 Q (F0 m 21 ls []) := by
      intro nn_
      induction nn_ with
      | zero =>
        intro v_307 v_308 f_309 hv_307 hv_308 hr0_lp_341 hr1_lp_341 hn H locs hP hD hS ls hl
        exact absurd hn (Nat.not_lt_zero _)
      | succ nn_ ih_342 =>
        intro v_307 v_308 f_309 hv_307 hv_308 hr0_lp_341 hr1_lp_341 hn H locs hP hD hS ls hl
        refine lv_iload_n hx hb dX11_row_21 rfl (lv_at hl 0 rfl) ?_
        refine lv_aload_n hx hb dX11_row_22 rfl (lv_at hl 2 rfl) ?_
        refine va_get (ci := 11) (v := .ref p0) (C := RX11) (T := TX11) (N := 17) hx hb hts hw11 hown hK hP 0 rfl rfl 5 (by decide) (hts (.fieldLink RX11 38 "SmokeTune" "tape" "LSmokeTune$Tape;") (List.mem_cons_of_mem _ (List.mem_append_left _ (List.mem_append_left _ (List.mem_append_left _ (List.mem_of_getElem? (i := 0) rfl)))))) (fun _ h9 => h9) rfl dX11_row_23 ?_
        refine va_getN (ci := 8) (v := .int ln) (C := RX8) (T := TX8) (N := 6) hx hb hts hw8 hown hK hP 2 rfl rfl 1 (by decide) (nst_use hN 120 rfl) (fun _ h9 => h9) rfl dX11_row_26 ?_
        refine lv_icmp_ge (tgt := 76) hx hb dX11_row_29 (by decide) (fun c_343 => ?_) (fun c_343 => ?_)
        · have c_343i := i_le (x := ln.toInt) (y := v_307.toInt) rfl rfl c_343
          refine lv_aload_n hx hb dX11_row_76 rfl (lv_at hl 2 rfl) ?_
          refine lv_aload_n hx hb dX11_row_77 rfl (lv_at hl 2 rfl) ?_
          refine va_get (ci := 11) (v := .ref p0) (C := RX11) (T := TX11) (N := 17) hx hb hts hw11 hown hK hP 0 rfl rfl 5 (by decide) (hts (.fieldLink RX11 38 "SmokeTune" "tape" "LSmokeTune$Tape;") (List.mem_cons_of_mem _ (List.mem_append_left _ (List.mem_append_left _ (List.mem_append_left _ (List.mem_of_getElem? (i := 0) rfl)))))) (fun _ h9 => h9) rfl dX11_row_78 ?_
          refine va_getN (ci := 8) (v := .int ln) (C := RX8) (T := TX8) (N := 6) hx hb hts hw8 hown hK hP 2 rfl rfl 1 (by decide) (nst_use hN 120 rfl) (fun _ h9 => h9) rfl dX11_row_81 ?_
          refine lv_iload_n hx hb dX11_row_84 rfl (lv_at hl 1 rfl) ?_
          refine lv_isub hx hb dX11_row_85 ?_
          refine lv_topi (fun x_344 ex_344 => ?_)
          have hx_344 : x_344.toInt = (ln.toInt - v_308.toInt) := by rw [ex_344]; exact i_sub rfl rfl (by omega)
          refine va_put (ci := 11) (v := .int x_344) (ty := .int) (C := RX11) (T := TX11) (N := 17) hx hb hts hw11 tyX11 tyX11_ok nmX11 hown hK hP hD hS 0 rfl rfl 14 (by decide) (hts (.fieldLink RX11 87 "SmokeTune" "ashTold" "I") (List.mem_cons_of_mem _ (List.mem_append_left _ (List.mem_append_left _ (List.mem_append_left _ (List.mem_of_getElem? (i := 2) rfl)))))) (fun _ h9 => h9) rfl (by decide +kernel) (by first | rfl | decide) (by first | rfl | decide) (Nat.le_of_ble_eq_true rfl) dX11_row_86 (fun H locs hP hD hS => ?_)
          have hP : va_P D vwCl [(o0, .inr (11, [.ref t0, o_1, o_2, o_3, o_4, .ref p0, o_6, o_7, o_8, o_9, o_10, o_11, .ref rf, .int rb, .int x_344, o_15, o_16])), (rf, .inl (K 0, 5, .inl frf)), (p0, .inr (8, [.ref p1, .int ln, p_2, p_3, p_4, p_5])), (p1, .inl (K 0, 400, .inl fb)), (t0, .inr (9, [k_0, .ref t3, k_2, k_3, k_4, k_5, k_6, k_7, k_8, k_9])), (t3, .inl (K 0, 24, .inl f_309))] H := hP
          have hD : va_D A [(o0, .inr (11, [.ref t0, o_1, o_2, o_3, o_4, .ref p0, o_6, o_7, o_8, o_9, o_10, o_11, .ref rf, .int rb, .int x_344, o_15, o_16])), (rf, .inl (K 0, 5, .inl frf)), (p0, .inr (8, [.ref p1, .int ln, p_2, p_3, p_4, p_5])), (p1, .inl (K 0, 400, .inl fb)), (t0, .inr (9, [k_0, .ref t3, k_2, k_3, k_4, k_5, k_6, k_7, k_8, k_9])), (t3, .inl (K 0, 24, .inl f_309))] := hD
          refine lv_aload_n hx hb dX11_row_89 rfl (lv_at hl 2 rfl) ?_
          refine va_get (ci := 11) (v := .ref p0) (C := RX11) (T := TX11) (N := 17) hx hb hts hw11 hown hK hP 0 rfl rfl 5 (by decide) (hts (.fieldLink RX11 38 "SmokeTune" "tape" "LSmokeTune$Tape;") (List.mem_cons_of_mem _ (List.mem_append_left _ (List.mem_append_left _ (List.mem_append_left _ (List.mem_of_getElem? (i := 0) rfl)))))) (fun _ h9 => h9) rfl dX11_row_90 ?_
          refine lv_iconst (v := 0) hx hb dX11_row_93 (by decide) ?_
          refine va_putN (ci := 8) (v := .int 0) (ty := .int) (C := RX8) (T := TX8) (N := 6) hx hb hts hw8 tyX8 tyX8_ok nmX8 hown hK hP hD hS 2 rfl rfl 1 (by decide) (nst_use hN 120 rfl) (fun _ h9 => h9) rfl (by decide +kernel) (by first | rfl | decide) (by first | rfl | decide) (Nat.le_of_ble_eq_true rfl) dX11_row_94 (fun H locs hP hD hS => ?_)
          have hP : va_P D vwCl [(o0, .inr (11, [.ref t0, o_1, o_2, o_3, o_4, .ref p0, o_6, o_7, o_8, o_9, o_10, o_11, .ref rf, .int rb, .int x_344, o_15, o_16])), (rf, .inl (K 0, 5, .inl frf)), (p0, .inr (8, [.ref p1, .int 0, p_2, p_3, p_4, p_5])), (p1, .inl (K 0, 400, .inl fb)), (t0, .inr (9, [k_0, .ref t3, k_2, k_3, k_4, k_5, k_6, k_7, k_8, k_9])), (t3, .inl (K 0, 24, .inl f_309))] H := hP
          have hD : va_D A [(o0, .inr (11, [.ref t0, o_1, o_2, o_3, o_4, .ref p0, o_6, o_7, o_8, o_9, o_10, o_11, .ref rf, .int rb, .int x_344, o_15, o_16])), (rf, .inl (K 0, 5, .inl frf)), (p0, .inr (8, [.ref p1, .int 0, p_2, p_3, p_4, p_5])), (p1, .inl (K 0, 400, .inl fb)), (t0, .inr (9, [k_0, .ref t3, k_2, k_3, k_4, k_5, k_6, k_7, k_8, k_9])), (t3, .inl (K 0, 24, .inl f_309))] := hD
          refine lv_aload_n hx hb dX11_row_97 rfl (lv_at hl 2 rfl) ?_
          refine lv_iload_n hx hb dX11_row_98 rfl (lv_at hl 1 rfl) ?_
          refine kci (S := Su) (wr := [(rf, .inl (K 0, 5, .inl frf)), (p0, .inr (8, [.ref p1, .int 0, p_2, p_3, p_4, p_5])), (p1, .inl (K 0, 400, .inl fb)), (t0, .inr (9, [k_0, .ref t3, k_2, k_3, k_4, k_5, k_6, k_7, k_8, k_9])), (t3, .inl (K 0, 24, .inl f_309))]) (va_runV (As := [.int v_308]) (rest := []) ⟨hx, hb, hml, hown, hts⟩ (w_accept l D K o0 v_308 (.ref t0) o_1 o_2 o_3 o_4 (.ref p0) o_6 o_7 o_8 o_9 o_10 o_11 (.ref rf) rb (.int x_344) o_15 o_16 H.size) (cwV 1 hts gX11_row_X11_accept rfl rfl rfl (by decide +kernel) ⟨Nat.le_of_ble_eq_true rfl, Nat.le_of_ble_eq_true rfl⟩) (mkV hK hN (hP.sub [0] rfl) (hD.sub [0] (by decide) rfl) (ci := 11) (q0 := 0) rfl rfl) rfl rfl hl.1 rfl (lv_room (Nat.le_of_ble_eq_true rfl)) dX11_row_99 ⟨Nat.le_of_ble_eq_true rfl, Nat.le_of_ble_eq_true rfl⟩) hP hD hS hA [0] [1, 2, 3, 4, 5] rfl rfl (by decide) (by decide) (fun r_345 u_346 H locs hw hP hD hS => ?_)
          have hP : va_P D vwCl [(rf, .inl (K 0, 5, .inl frf)), (p0, .inr (8, [.ref p1, .int 0, p_2, p_3, p_4, p_5])), (p1, .inl (K 0, 400, .inl fb)), (t0, .inr (9, [k_0, .ref t3, k_2, k_3, k_4, k_5, k_6, k_7, k_8, k_9])), (t3, .inl (K 0, 24, .inl f_309)), (o0, .inr (11, [.ref t0, o_1, o_2, o_3, o_4, .ref p0, o_6, o_7, o_8, o_9, o_10, o_11, .ref rf, .int 0, .int x_344, o_15, o_16]))] H := hP
          have hD : va_D A [(rf, .inl (K 0, 5, .inl frf)), (p0, .inr (8, [.ref p1, .int 0, p_2, p_3, p_4, p_5])), (p1, .inl (K 0, 400, .inl fb)), (t0, .inr (9, [k_0, .ref t3, k_2, k_3, k_4, k_5, k_6, k_7, k_8, k_9])), (t3, .inl (K 0, 24, .inl f_309)), (o0, .inr (11, [.ref t0, o_1, o_2, o_3, o_4, .ref p0, o_6, o_7, o_8, o_9, o_10, o_11, .ref rf, .int 0, .int x_344, o_15, o_16]))] := hD
          obtain ⟨hw, -⟩ := hw
          have er_r_345 := hw
          have hr_r_345 : r_345.toInt = v_308.toInt := (congrArg Int32.toInt er_r_345).trans rfl
          rw [← hQ]
          have hP9 := hP.sub (ws' := [(o0, .inr (11, [.ref t0, o_1, o_2, o_3, o_4, .ref p0, o_6, o_7, o_8, o_9, o_10, o_11, .ref rf, .int 0, .int x_344, o_15, o_16])), (rf, .inl (K 0, 5, .inl frf)), (p0, .inr (8, [.ref p1, .int 0, p_2, p_3, p_4, p_5])), (p1, .inl (K 0, 400, .inl fb)), (t0, .inr (9, [k_0, .ref t3, k_2, k_3, k_4, k_5, k_6, k_7, k_8, k_9])), (t3, .inl (K 0, 24, .inl f_309))]) [5, 0, 1, 2, 3, 4] rfl
          have hD9 := hD.sub (ws' := [(o0, .inr (11, [.ref t0, o_1, o_2, o_3, o_4, .ref p0, o_6, o_7, o_8, o_9, o_10, o_11, .ref rf, .int 0, .int x_344, o_15, o_16])), (rf, .inl (K 0, 5, .inl frf)), (p0, .inr (8, [.ref p1, .int 0, p_2, p_3, p_4, p_5])), (p1, .inl (K 0, 400, .inl fb)), (t0, .inr (9, [k_0, .ref t3, k_2, k_3, k_4, k_5, k_6, k_7, k_8, k_9])), (t3, .inl (K 0, 24, .inl f_309))]) [5, 0, 1, 2, 3, 4] (by decide) rfl
          exact W.iret (v := r_345) hx hb hr (fun t ht hW => ⟨⟨r_345, ((fun _ => 0, fun i => match i with | 0 => frf | _ => f_309, fun _ => fun _ => 0, fun i => match i with | 0 => 0 | 1 => x_344 | _ => 0, fun _ => 0, fun _ => fun _ => none) : Su), rfl, ⟨(show (-6) ≤ r_345.toInt ∧ r_345.toInt ≤ 400 by rw [hr_r_345]; omega), (show 0 ≤ (0 : Int32).toInt ∧ (0 : Int32).toInt ≤ 0 by decide), (show ((ln.toInt = 0 ∧ (r_345 : Int32).toInt = -6 ∧ (x_344 : Int32).toInt = ato.toInt) ∨ (0 < ln.toInt ∧ (r_345 : Int32).toInt = cnt fb ln.toInt.toNat ∧ (x_344 : Int32).toInt = ln.toInt - cnt fb ln.toInt.toNat)) by have q9 := hr0_lp_341; rw [show v_307.toInt = ln.toInt by omega] at q9; exact Or.inr ⟨by omega, by first | omega | (rw [← q9]; omega), by first | omega | (rw [← q9]; omega)⟩), trivial⟩, (⟨by rw [ht]; exact hP9, hD9⟩ : Wd D A _ t)⟩, hS.F ht⟩) hS.2.2 dX11_row_102
        · have c_343i := i_nle (x := ln.toInt) (y := v_307.toInt) rfl rfl c_343
          refine lv_aload_n hx hb dX11_row_32 rfl (lv_at hl 2 rfl) ?_
          refine va_get (ci := 11) (v := .ref p0) (C := RX11) (T := TX11) (N := 17) hx hb hts hw11 hown hK hP 0 rfl rfl 5 (by decide) (hts (.fieldLink RX11 38 "SmokeTune" "tape" "LSmokeTune$Tape;") (List.mem_cons_of_mem _ (List.mem_append_left _ (List.mem_append_left _ (List.mem_append_left _ (List.mem_of_getElem? (i := 0) rfl)))))) (fun _ h9 => h9) rfl dX11_row_33 ?_
          refine lv_iload_n hx hb dX11_row_36 rfl (lv_at hl 0 rfl) ?_
          refine pci (va_runVN (As := [.int v_307]) (rest := []) ⟨hx, hb, hml, hown, hts⟩ (w_byteAtX l D K p0 v_307 p1 ln p_2 p_3 p_4 p_5 fb H.size (by first | omega | decide)) ⟨va_cnB 1 hts gX11_row_X8_byteAt_n170 rfl rfl rfl (nst_at hN 30 rfl) (hts (.initialized RX8) (List.mem_cons_of_mem _ (List.mem_append_left _ (List.mem_append_left _ (List.mem_append_left _ (List.mem_of_getElem? (i := 14) rfl)))))) (by decide +kernel) ⟨Nat.le_of_ble_eq_true rfl, Nat.le_of_ble_eq_true rfl⟩, (hts (.instanceMethod yX8_byteAt) (List.mem_cons_of_mem _ (List.mem_append_left _ (List.mem_append_left _ (List.mem_append_left _ (List.mem_of_getElem? (i := 13) rfl)))))), (hts (.selects RX8 yX8_byteAt yX8_byteAt) (List.mem_cons_of_mem _ (List.mem_append_left _ (List.mem_append_left _ (List.mem_append_left _ (List.mem_of_getElem? (i := 15) rfl))))))⟩ (mkV hK hN (hP.sub [2, 3] rfl) (hD.sub [2, 3] (by decide) rfl) (ci := 8) (q0 := 0) rfl rfl) rfl rfl hl.1 rfl (lv_room (Nat.le_of_ble_eq_true rfl)) dX11_row_37 ⟨Nat.le_of_ble_eq_true rfl, Nat.le_of_ble_eq_true rfl⟩) (fun r_347 hw => ?_)
          obtain ⟨hby_r_347, -⟩ := hw
          refine lv_istore_n (lv' := [(3, .int r_347), (2, .int v_307), (1, .int v_308), (0, .ref o0)]) hx hb dX11_row_40 rfl hl (by decide) rfl (fun ls hl => ?_)
          refine lv_iload_n hx hb dX11_row_41 rfl (lv_at hl 1 rfl) ?_
          refine lv_bipush (v := 24) hx hb dX11_row_42 (by decide) ?_
          refine lv_icmp_ge (tgt := 70) hx hb dX11_row_44 (by decide) (fun c_348 => ?_) (fun c_348 => ?_)
          · have c_348i := i_le (x := 24) (y := v_307.toInt) rfl rfl c_348
            obtain ⟨x_349, ex_349⟩ : ∃ y : Int32, y = v_307 + Int32.ofInt 1 := ⟨_, rfl⟩
            have hx_349 : x_349.toInt = (v_307.toInt + 1) := by rw [ex_349]; exact i_add rfl (show (Int32.ofInt 1).toInt = 1 from rfl) (by omega)
            refine lv_iinc (v := x_349) (lv' := [(2, .int x_349), (3, .int r_347), (1, .int v_308), (0, .ref o0)]) hx hb dX11_row_70 hl (k := 1) rfl (by rw [ex_349]) (by decide) rfl (fun ls hl => ?_)
            refine lv_goto (tgt := 21) hx hb dX11_row_73 (by decide) ?_
            exact ih_342 x_349 v_308 f_309 (by rw [hx_349]; omega) (by omega) (show (v_308 : Int32).toInt = cnt fb ((x_349 : Int32).toInt).toNat by rw [hx_349]; exact cnt_far (by omega) hr0_lp_341) (show (x_349 : Int32).toInt ≤ ln.toInt ∧ 0 ≤ (v_308 : Int32).toInt ∧ (v_308 : Int32).toInt ≤ (x_349 : Int32).toInt by omega) (by omega) _ _ hP hD hS ls (lv_sub hl [0, 2, 3] rfl)
          · have c_348i := i_nle (x := 24) (y := v_307.toInt) rfl rfl c_348
            refine lv_iload_n hx hb dX11_row_47 rfl (lv_at hl 0 rfl) ?_
            refine lv_iconst (v := 0) hx hb dX11_row_48 (by decide) ?_
            refine lv_bipush (v := 127) hx hb dX11_row_49 (by decide) ?_
            refine pci (va_runS (As := [.int r_347, .int 0, .int 127]) (rest := []) ⟨hx, hb, hml, hown, hts⟩ (w_within l D K r_347.toInt 0 127 r_347 0 127 H.size rfl (show (0 : Int32).toInt = 0 from rfl) (show (127 : Int32).toInt = 127 from rfl)) (va_cwS 3 hts gX11_row_X11_within rfl rfl rfl (by decide +kernel) ⟨Nat.le_of_ble_eq_true rfl, Nat.le_of_ble_eq_true rfl⟩) (mkS hK hN (va_P.nil) (va_D.nil (A := fun _ => True))) rfl rfl hl.1 rfl (lv_room (Nat.le_of_ble_eq_true rfl)) dX11_row_51 ⟨Nat.le_of_ble_eq_true rfl, Nat.le_of_ble_eq_true rfl⟩) (fun r_350 hw => ?_)
            obtain ⟨hw, -⟩ := hw
            rcases hw with ⟨rfl, h_351, h_352⟩ | ⟨rfl, h_353⟩
            · refine lv_if_eq (tgt := 70) hx hb dX11_row_54 (by decide) (fun c_354 => absurd c_354 (by decide)) (fun c_354 => ?_)
              refine lv_aload_n hx hb dX11_row_57 rfl (lv_at hl 3 rfl) ?_
              refine va_get (ci := 11) (v := .ref t0) (C := RX11) (T := TX11) (N := 17) hx hb hts hw11 hown hK hP 0 rfl rfl 0 (by decide) (hts (.fieldLink RX11 10 "SmokeTune" "town" "LSmokeTune$Town;") (List.mem_cons_of_mem _ (List.mem_append_left _ (List.mem_append_left _ (List.mem_append_left _ (List.mem_of_getElem? (i := 1) rfl)))))) (fun _ h9 => h9) rfl dX11_row_58 ?_
              refine va_getN (ci := 9) (v := .ref t3) (C := RX9) (T := TX9) (N := 10) hx hb hts hw9 hown hK hP 4 rfl rfl 1 (by decide) (nst_use hN 98 rfl) (fun _ h9 => h9) rfl dX11_row_61 ?_
              refine lv_iload_n hx hb dX11_row_64 rfl (lv_at hl 1 rfl) ?_
              refine lv_iload_n hx hb dX11_row_65 rfl (lv_at hl 0 rfl) ?_
              refine va_iast hx hb hK hP hD hS 5 0 rfl rfl (i_in rfl (by omega)) dX11_row_66 (fun H locs hP hD hS => ?_)
              generalize hf_355 : (upd f_309 (v_307 : Int32).toNatClampNeg r_347) = f_355 at hP hD
              have hP : va_P D vwCl [(o0, .inr (11, [.ref t0, o_1, o_2, o_3, o_4, .ref p0, o_6, o_7, o_8, o_9, o_10, o_11, .ref rf, .int rb, .int ato, o_15, o_16])), (rf, .inl (K 0, 5, .inl frf)), (p0, .inr (8, [.ref p1, .int ln, p_2, p_3, p_4, p_5])), (p1, .inl (K 0, 400, .inl fb)), (t0, .inr (9, [k_0, .ref t3, k_2, k_3, k_4, k_5, k_6, k_7, k_8, k_9])), (t3, .inl (K 0, 24, .inl f_355))] H := hP
              have hD : va_D A [(o0, .inr (11, [.ref t0, o_1, o_2, o_3, o_4, .ref p0, o_6, o_7, o_8, o_9, o_10, o_11, .ref rf, .int rb, .int ato, o_15, o_16])), (rf, .inl (K 0, 5, .inl frf)), (p0, .inr (8, [.ref p1, .int ln, p_2, p_3, p_4, p_5])), (p1, .inl (K 0, 400, .inl fb)), (t0, .inr (9, [k_0, .ref t3, k_2, k_3, k_4, k_5, k_6, k_7, k_8, k_9])), (t3, .inl (K 0, 24, .inl f_355))] := hD
              obtain ⟨x_356, ex_356⟩ : ∃ y : Int32, y = v_308 + Int32.ofInt 1 := ⟨_, rfl⟩
              have hx_356 : x_356.toInt = (v_308.toInt + 1) := by rw [ex_356]; exact i_add rfl (show (Int32.ofInt 1).toInt = 1 from rfl) (by omega)
              refine lv_iinc (v := x_356) (lv' := [(1, .int x_356), (3, .int r_347), (2, .int v_307), (0, .ref o0)]) hx hb dX11_row_67 hl (k := 2) rfl (by rw [ex_356]) (by decide) rfl (fun ls hl => ?_)
              obtain ⟨x_357, ex_357⟩ : ∃ y : Int32, y = v_307 + Int32.ofInt 1 := ⟨_, rfl⟩
              have hx_357 : x_357.toInt = (v_307.toInt + 1) := by rw [ex_357]; exact i_add rfl (show (Int32.ofInt 1).toInt = 1 from rfl) (by omega)
              refine lv_iinc (v := x_357) (lv' := [(2, .int x_357), (1, .int x_356), (3, .int r_347), (0, .ref o0)]) hx hb dX11_row_70 hl (k := 2) rfl (by rw [ex_357]) (by decide) rfl (fun ls hl => ?_)
              refine lv_goto (tgt := 21) hx hb dX11_row_73 (by decide) ?_
              exact ih_342 x_357 x_356 f_355 (by rw [hx_357]; omega) (by rw [hx_356]; omega) (show (x_356 : Int32).toInt = cnt fb ((x_357 : Int32).toInt).toNat by rw [hx_356, hx_357]; exact cnt_yes (by omega) hby_r_347 (by omega) hr0_lp_341) (show (x_357 : Int32).toInt ≤ ln.toInt ∧ 0 ≤ (x_356 : Int32).toInt ∧ (x_356 : Int32).toInt ≤ (x_357 : Int32).toInt by omega) (by omega) _ _ hP hD hS ls (lv_sub hl [0, 1, 3] rfl)
            · refine lv_if_eq (tgt := 70) hx hb dX11_row_54 (by decide) (fun c_358 => ?_) (fun c_358 => absurd (by decide) c_358)
              obtain ⟨x_359, ex_359⟩ : ∃ y : Int32, y = v_307 + Int32.ofInt 1 := ⟨_, rfl⟩
              have hx_359 : x_359.toInt = (v_307.toInt + 1) := by rw [ex_359]; exact i_add rfl (show (Int32.ofInt 1).toInt = 1 from rfl) (by omega)
              refine lv_iinc (v := x_359) (lv' := [(2, .int x_359), (3, .int r_347), (1, .int v_308), (0, .ref o0)]) hx hb dX11_row_70 hl (k := 1) rfl (by rw [ex_359]) (by decide) rfl (fun ls hl => ?_)
              refine lv_goto (tgt := 21) hx hb dX11_row_73 (by decide) ?_
              exact ih_342 x_359 v_308 f_309 (by rw [hx_359]; omega) (by omega) (show (v_308 : Int32).toInt = cnt fb ((x_359 : Int32).toInt).toNat by rw [hx_359]; exact cnt_no (by omega) hby_r_347 (by have q9 := hnn (v_307.toInt).toNat (by omega); rw [← hby_r_347] at q9; omega) hr0_lp_341) (show (x_359 : Int32).toInt ≤ ln.toInt ∧ 0 ≤ (v_308 : Int32).toInt ∧ (v_308 : Int32).toInt ≤ (x_359 : Int32).toInt by omega) (by omega) _ _ hP hD hS ls (lv_sub hl [0, 2, 3] rfl)
    have hz_360 : (0 : Int32).toInt = 0 := rfl
    have hz_361 : (0 : Int32).toInt = 0 := rfl
    exact lp_341 ((401 - (0 : Int32).toInt : Int).toNat + 1) 0 0 f3 (by decide) (by decide) (show (0 : Int32).toInt = cnt fb ((0 : Int32).toInt).toNat by rfl) (show (0 : Int32).toInt ≤ ln.toInt ∧ 0 ≤ (0 : Int32).toInt ∧ (0 : Int32).toInt ≤ (0 : Int32).toInt by omega) (Nat.lt_succ_self _) _ _ hP hD hS ls (lv_sub hl [0, 1, 2] rfl)
  · have c_263i := i_eq (x := ln.toInt) (y := 0) rfl rfl c_263
    refine lv_aload_n hx hb dX11_row_10 rfl (lv_at hl 0 rfl) ?_
    refine lv_bipush (v := (-6)) hx hb dX11_row_11 (by decide) ?_
    refine kci (S := Su) (wr := [(p0, .inr (8, [.ref p1, .int ln, p_2, p_3, p_4, p_5])), (p1, .inl (K 0, 400, .inl fb)), (t0, .inr (9, [k_0, .ref t3, k_2, k_3, k_4, k_5, k_6, k_7, k_8, k_9])), (t3, .inl (K 0, 24, .inl f3))]) (va_runV (As := [.int (-6)]) (rest := []) ⟨hx, hb, hml, hown, hts⟩ (w_refuseX l D K o0 (-6) (.ref t0) o_1 o_2 o_3 o_4 (.ref p0) o_6 o_7 o_8 o_9 o_10 o_11 rf rb (.int ato) o_15 o_16 frf s.heap.size) (cwV 1 hts gX11_row_X11_refuse rfl rfl rfl (by decide +kernel) ⟨Nat.le_of_ble_eq_true rfl, Nat.le_of_ble_eq_true rfl⟩) (mkV hK hN (hP.sub [0, 1] rfl) (hD.sub [0, 1] (by decide) rfl) (ci := 11) (q0 := 0) rfl rfl) rfl rfl hl.1 rfl (lv_room (Nat.le_of_ble_eq_true rfl)) dX11_row_13 ⟨Nat.le_of_ble_eq_true rfl, Nat.le_of_ble_eq_true rfl⟩) hP hD hS hA [0, 1] [2, 3, 4, 5] rfl rfl (by decide) (by decide) (fun r_362 u_363 H locs hw hP hD hS => ?_)
    have hP : va_P D vwCl [(p0, .inr (8, [.ref p1, .int ln, p_2, p_3, p_4, p_5])), (p1, .inl (K 0, 400, .inl fb)), (t0, .inr (9, [k_0, .ref t3, k_2, k_3, k_4, k_5, k_6, k_7, k_8, k_9])), (t3, .inl (K 0, 24, .inl f3)), (o0, .inr (11, [.ref t0, o_1, o_2, o_3, o_4, .ref p0, o_6, o_7, o_8, o_9, o_10, o_11, .ref rf, .int (u_363.2.2.2.1 0), .int ato, o_15, o_16])), (rf, .inl (K 0, 5, .inl (u_363.2.1 0)))] H := hP
    have hD : va_D A [(p0, .inr (8, [.ref p1, .int ln, p_2, p_3, p_4, p_5])), (p1, .inl (K 0, 400, .inl fb)), (t0, .inr (9, [k_0, .ref t3, k_2, k_3, k_4, k_5, k_6, k_7, k_8, k_9])), (t3, .inl (K 0, 24, .inl f3)), (o0, .inr (11, [.ref t0, o_1, o_2, o_3, o_4, .ref p0, o_6, o_7, o_8, o_9, o_10, o_11, .ref rf, .int (u_363.2.2.2.1 0), .int ato, o_15, o_16])), (rf, .inl (K 0, 5, .inl (u_363.2.1 0)))] := hD
    obtain ⟨hw, -⟩ := hw
    obtain rfl := hw
    rw [← hQ]
    have hP9 := hP.sub (ws' := [(o0, .inr (11, [.ref t0, o_1, o_2, o_3, o_4, .ref p0, o_6, o_7, o_8, o_9, o_10, o_11, .ref rf, .int (u_363.2.2.2.1 0), .int ato, o_15, o_16])), (rf, .inl (K 0, 5, .inl (u_363.2.1 0))), (p0, .inr (8, [.ref p1, .int ln, p_2, p_3, p_4, p_5])), (p1, .inl (K 0, 400, .inl fb)), (t0, .inr (9, [k_0, .ref t3, k_2, k_3, k_4, k_5, k_6, k_7, k_8, k_9])), (t3, .inl (K 0, 24, .inl f3))]) [4, 5, 0, 1, 2, 3] rfl
    have hD9 := hD.sub (ws' := [(o0, .inr (11, [.ref t0, o_1, o_2, o_3, o_4, .ref p0, o_6, o_7, o_8, o_9, o_10, o_11, .ref rf, .int (u_363.2.2.2.1 0), .int ato, o_15, o_16])), (rf, .inl (K 0, 5, .inl (u_363.2.1 0))), (p0, .inr (8, [.ref p1, .int ln, p_2, p_3, p_4, p_5])), (p1, .inl (K 0, 400, .inl fb)), (t0, .inr (9, [k_0, .ref t3, k_2, k_3, k_4, k_5, k_6, k_7, k_8, k_9])), (t3, .inl (K 0, 24, .inl f3))]) [4, 5, 0, 1, 2, 3] (by decide) rfl
    exact W.iret (v := (-6)) hx hb hr (fun t ht hW => ⟨⟨(-6), ((fun _ => 0, fun i => match i with | 0 => (u_363.2.1 0) | _ => f3, fun _ => fun _ => 0, fun i => match i with | 0 => (u_363.2.2.2.1 0) | 1 => ato | _ => ln, fun _ => 0, fun _ => fun _ => none) : Su), rfl, ⟨(show (-6) ≤ ((-6) : Int32).toInt ∧ ((-6) : Int32).toInt ≤ 400 by decide), (show 0 ≤ (ln : Int32).toInt ∧ (ln : Int32).toInt ≤ 0 by omega), (show ((ln.toInt = 0 ∧ ((-6) : Int32).toInt = -6 ∧ (ato : Int32).toInt = ato.toInt) ∨ (0 < ln.toInt ∧ ((-6) : Int32).toInt = cnt fb ln.toInt.toNat ∧ (ato : Int32).toInt = ln.toInt - cnt fb ln.toInt.toNat)) by exact Or.inl ⟨by omega, by first | rfl | omega, rfl⟩), trivial⟩, (⟨by rw [ht]; exact hP9, hD9⟩ : Wd D A _ t)⟩, hS.F ht⟩) hS.2.2 dX11_row_16
set_option maxHeartbeats 4000000 in
set_option maxRecDepth 100000 in
theorem v_rowX (l : Launch) (D : va_G) (K : Nat → ClassId) (m0 : Nat) (thr : Int32) (sta : Int32) (r0 : Nat) (w0 : Nat) (m_4 : Value) (m_5 : Value) (m_6 : Value) (m_7 : Value) (m_8 : Value) (m_9 : Value) (m_10 : Value) (as_ : Int32) (t0 : Nat) (ta : Int32) (m_14 : Value) (m_15 : Value) (m_16 : Value) (m_17 : Value) (m_18 : Value) (m_19 : Value) (m_20 : Value) (m_21 : Value) (m_22 : Value) (m_23 : Value) (m_24 : Value) (m_25 : Value) (m_26 : Value) (m_27 : Value) (m_28 : Value) (m_29 : Value) (m_30 : Value) (m_31 : Value) (m_32 : Value) (m_33 : Value) (m_34 : Value) (m_35 : Value) (m_36 : Value) (m_37 : Value) (m_38 : Value) (m_39 : Value) (m_40 : Value) (m_41 : Value) (m_42 : Value) (m_43 : Value) (m_44 : Value) (m_45 : Value) (m_46 : Value) (m_47 : Value) (m_48 : Value) (m_49 : Value) (m_50 : Value) (m_51 : Value) (m_52 : Value) (m_53 : Value) (m_54 : Value) (m_55 : Value) (m_56 : Value) (m_57 : Value) (m_58 : Value) (m_59 : Value) (fw : Nat → Int32) (ft : Nat → Int32) (frf : Nat → Int32) (sz : Nat) (zta : 0 ≤ ta.toInt ∧ ta.toInt ≤ 400) (zfw : RwOK fw) : Met l yX12_row wsX12_row ({ frames := 1, cells := 0, slots := 0, locals := 21 }) (va_Pc [.ref m0] (Pre D K [(m0, .inr (12, [.int thr, .int sta, .ref r0, .ref w0, m_4, m_5, m_6, m_7, m_8, m_9, m_10, .int as_, .ref t0, .int ta, m_14, m_15, m_16, m_17, m_18, m_19, m_20, m_21, m_22, m_23, m_24, m_25, m_26, m_27, m_28, m_29, m_30, m_31, m_32, m_33, m_34, m_35, m_36, m_37, m_38, m_39, m_40, m_41, m_42, m_43, m_44, m_45, m_46, m_47, m_48, m_49, m_50, m_51, m_52, m_53, m_54, m_55, m_56, m_57, m_58, m_59])), (w0, .inl (K 0, 5500, .inl fw)), (t0, .inl (K 0, 400, .inl ft)), (r0, .inl (K 0, 7, .inl frf))] sz)) (va_Qi (S := Su) (fun (r : Int32) (u : Su) => ((-6) ≤ r.toInt ∧ r.toInt ≤ 400) ∧ ((-6) ≤ (u.2.2.2.1 0).toInt ∧ (u.2.2.2.1 0).toInt ≤ 0) ∧ (RwOK (u.2.1 0)) ∧ (((ta.toInt = 0 ∧ r.toInt = -6 ∧ (u.2.2.2.1 1).toInt = as_.toInt) ∨ (0 < ta.toInt ∧ r.toInt = cnt ft ta.toInt.toNat ∧ (u.2.2.2.1 1).toInt = ta.toInt - cnt ft ta.toInt.toNat))) ∧ True) (fun u t => Wd D (va_A [(m0, .inr (12, [.int thr, .int sta, .ref r0, .ref w0, m_4, m_5, m_6, m_7, m_8, m_9, m_10, .int as_, .ref t0, .int ta, m_14, m_15, m_16, m_17, m_18, m_19, m_20, m_21, m_22, m_23, m_24, m_25, m_26, m_27, m_28, m_29, m_30, m_31, m_32, m_33, m_34, m_35, m_36, m_37, m_38, m_39, m_40, m_41, m_42, m_43, m_44, m_45, m_46, m_47, m_48, m_49, m_50, m_51, m_52, m_53, m_54, m_55, m_56, m_57, m_58, m_59])), (w0, .inl (K 0, 5500, .inl fw)), (t0, .inl (K 0, 400, .inl ft)), (r0, .inl (K 0, 7, .inl frf))] sz) ((fun u => [(m0, .inr (12, [.int 0, .int (u.2.2.2.1 0), .ref r0, .ref w0, m_4, m_5, m_6, m_7, m_8, m_9, m_10, .int (u.2.2.2.1 1), .ref t0, .int 0, m_14, m_15, m_16, m_17, m_18, m_19, m_20, m_21, m_22, m_23, m_24, m_25, m_26, m_27, m_28, m_29, m_30, m_31, m_32, m_33, m_34, m_35, m_36, m_37, m_38, m_39, m_40, m_41, m_42, m_43, m_44, m_45, m_46, m_47, m_48, m_49, m_50, m_51, m_52, m_53, m_54, m_55, m_56, m_57, m_58, m_59])), (w0, .inl (K 0, 5500, .inl (u.2.1 0))), (t0, .inl (K 0, 400, .inl ft)), (r0, .inl (K 0, 7, .inl (u.2.1 1)))]) u) t) (va_A [(m0, .inr (12, [.int thr, .int sta, .ref r0, .ref w0, m_4, m_5, m_6, m_7, m_8, m_9, m_10, .int as_, .ref t0, .int ta, m_14, m_15, m_16, m_17, m_18, m_19, m_20, m_21, m_22, m_23, m_24, m_25, m_26, m_27, m_28, m_29, m_30, m_31, m_32, m_33, m_34, m_35, m_36, m_37, m_38, m_39, m_40, m_41, m_42, m_43, m_44, m_45, m_46, m_47, m_48, m_49, m_50, m_51, m_52, m_53, m_54, m_55, m_56, m_57, m_58, m_59])), (w0, .inl (K 0, 5500, .inl fw)), (t0, .inl (K 0, 400, .inl ft)), (r0, .inl (K 0, 7, .inl frf))] sz)) 0 0 (va_A [(m0, .inr (12, [.int thr, .int sta, .ref r0, .ref w0, m_4, m_5, m_6, m_7, m_8, m_9, m_10, .int as_, .ref t0, .int ta, m_14, m_15, m_16, m_17, m_18, m_19, m_20, m_21, m_22, m_23, m_24, m_25, m_26, m_27, m_28, m_29, m_30, m_31, m_32, m_33, m_34, m_35, m_36, m_37, m_38, m_39, m_40, m_41, m_42, m_43, m_44, m_45, m_46, m_47, m_48, m_49, m_50, m_51, m_52, m_53, m_54, m_55, m_56, m_57, m_58, m_59])), (w0, .inl (K 0, 5500, .inl fw)), (t0, .inl (K 0, 400, .inl ft)), (r0, .inl (K 0, 7, .inl frf))] sz) := by
  refine Met.ofW (cc := cX12_row) (maxL := 4) (ret := (some .int)) (by decide) rfl ?_
  intro p e s m args below meth c s₁ B hml hv
  obtain ⟨rfl, hsz, hP, hK, hD0, hN⟩ := hv
  have hx := B.exec
  have hb := B.bytes
  have hr := B.returns
  have hts := atoms_spec (ws := wsX12_row) B.pre
  have hown : s.vm.findClass RX12 = some m.cls := findClass_of_methodNamed B.named
  have hlocks := B.notSynchronized
  subst hsz
  have hD := hD0.self (sz := s.heap.size)
  generalize hAe : va_A [(m0, .inr (12, [.int thr, .int sta, .ref r0, .ref w0, m_4, m_5, m_6, m_7, m_8, m_9, m_10, .int as_, .ref t0, .int ta, m_14, m_15, m_16, m_17, m_18, m_19, m_20, m_21, m_22, m_23, m_24, m_25, m_26, m_27, m_28, m_29, m_30, m_31, m_32, m_33, m_34, m_35, m_36, m_37, m_38, m_39, m_40, m_41, m_42, m_43, m_44, m_45, m_46, m_47, m_48, m_49, m_50, m_51, m_52, m_53, m_54, m_55, m_56, m_57, m_58, m_59])), (w0, .inl (K 0, 5500, .inl fw)), (t0, .inl (K 0, 400, .inl ft)), (r0, .inl (K 0, 7, .inl frf))] s.heap.size = A at hD ⊢
  have hA : ∀ q : Nat, s.heap.size ≤ q → A q := fun q h => by rw [← hAe]; exact Or.inr h
  have hS : va_S A s.heap s.heap [] := va_S.rf
  have hP : va_P D vwCl [(m0, .inr (12, [.int thr, .int sta, .ref r0, .ref w0, m_4, m_5, m_6, m_7, m_8, m_9, m_10, .int as_, .ref t0, .int ta, m_14, m_15, m_16, m_17, m_18, m_19, m_20, m_21, m_22, m_23, m_24, m_25, m_26, m_27, m_28, m_29, m_30, m_31, m_32, m_33, m_34, m_35, m_36, m_37, m_38, m_39, m_40, m_41, m_42, m_43, m_44, m_45, m_46, m_47, m_48, m_49, m_50, m_51, m_52, m_53, m_54, m_55, m_56, m_57, m_58, m_59])), (w0, .inl (K 0, 5500, .inl fw)), (t0, .inl (K 0, 400, .inl ft)), (r0, .inl (K 0, 7, .inl frf))] s.heap := hP
  have hl := lv_entry [.ref m0] (n := 4) (Nat.le_of_ble_eq_true rfl)
  rw [lg_entry_eq]
  generalize (lg_sl [.ref m0] ++ List.replicate (4 - (lg_sl [.ref m0]).length) Slot.unset).toArray = ls at hl ⊢
  have hl : lv_has ls 4 [(0, .ref m0)] := hl
  have hw12 : ∀ w ∈ wsX120, w ∈ wsX12_row := fun w h => (List.mem_cons_of_mem _ (List.mem_append_right _ h))
  generalize hQ : MQ below _ _ s _ _ _ = Q
  refine lv_aload_n hx hb dX12_row_0 rfl (lv_at hl 0 rfl) ?_
  refine lv_iconst (v := 0) hx hb dX12_row_1 (by decide) ?_
  refine va_put (ci := 12) (v := .int 0) (ty := .int) (C := RX12) (T := TX12) (N := 60) hx hb hts hw12 tyX12 tyX12_ok nmX12 hown hK hP hD hS 0 rfl rfl 0 (by decide) (hts (.fieldLink RX12 158 "SmokeTuneModel" "thrown" "I") (List.mem_cons_of_mem _ (List.mem_append_left _ (List.mem_of_getElem? (i := 0) rfl)))) (fun _ h9 => h9) rfl (by decide +kernel) (by first | rfl | decide) (by first | rfl | decide) (Nat.le_of_ble_eq_true rfl) dX12_row_2 (fun H locs hP hD hS => ?_)
  have hP : va_P D vwCl [(m0, .inr (12, [.int 0, .int sta, .ref r0, .ref w0, m_4, m_5, m_6, m_7, m_8, m_9, m_10, .int as_, .ref t0, .int ta, m_14, m_15, m_16, m_17, m_18, m_19, m_20, m_21, m_22, m_23, m_24, m_25, m_26, m_27, m_28, m_29, m_30, m_31, m_32, m_33, m_34, m_35, m_36, m_37, m_38, m_39, m_40, m_41, m_42, m_43, m_44, m_45, m_46, m_47, m_48, m_49, m_50, m_51, m_52, m_53, m_54, m_55, m_56, m_57, m_58, m_59])), (w0, .inl (K 0, 5500, .inl fw)), (t0, .inl (K 0, 400, .inl ft)), (r0, .inl (K 0, 7, .inl frf))] H := hP
  have hD : va_D A [(m0, .inr (12, [.int 0, .int sta, .ref r0, .ref w0, m_4, m_5, m_6, m_7, m_8, m_9, m_10, .int as_, .ref t0, .int ta, m_14, m_15, m_16, m_17, m_18, m_19, m_20, m_21, m_22, m_23, m_24, m_25, m_26, m_27, m_28, m_29, m_30, m_31, m_32, m_33, m_34, m_35, m_36, m_37, m_38, m_39, m_40, m_41, m_42, m_43, m_44, m_45, m_46, m_47, m_48, m_49, m_50, m_51, m_52, m_53, m_54, m_55, m_56, m_57, m_58, m_59])), (w0, .inl (K 0, 5500, .inl fw)), (t0, .inl (K 0, 400, .inl ft)), (r0, .inl (K 0, 7, .inl frf))] := hD
  refine lv_aload_n hx hb dX12_row_5 rfl (lv_at hl 0 rfl) ?_
  refine va_get (ci := 12) (v := .int ta) (C := RX12) (T := TX12) (N := 60) hx hb hts hw12 hown hK hP 0 rfl rfl 13 (by decide) (hts (.fieldLink RX12 227 "SmokeTuneModel" "taped" "I") (List.mem_cons_of_mem _ (List.mem_append_left _ (List.mem_of_getElem? (i := 1) rfl)))) (fun _ h9 => h9) rfl dX12_row_6 ?_
  refine lv_istore_n (lv' := [(1, .int ta), (0, .ref m0)]) hx hb dX12_row_9 rfl hl (by decide) rfl (fun ls hl => ?_)
  refine lv_aload_n hx hb dX12_row_10 rfl (lv_at hl 1 rfl) ?_
  refine lv_iconst (v := 0) hx hb dX12_row_11 (by decide) ?_
  refine va_put (ci := 12) (v := .int 0) (ty := .int) (C := RX12) (T := TX12) (N := 60) hx hb hts hw12 tyX12 tyX12_ok nmX12 hown hK hP hD hS 0 rfl rfl 13 (by decide) (hts (.fieldLink RX12 227 "SmokeTuneModel" "taped" "I") (List.mem_cons_of_mem _ (List.mem_append_left _ (List.mem_of_getElem? (i := 1) rfl)))) (fun _ h9 => h9) rfl (by decide +kernel) (by first | rfl | decide) (by first | rfl | decide) (Nat.le_of_ble_eq_true rfl) dX12_row_12 (fun H locs hP hD hS => ?_)
  have hP : va_P D vwCl [(m0, .inr (12, [.int 0, .int sta, .ref r0, .ref w0, m_4, m_5, m_6, m_7, m_8, m_9, m_10, .int as_, .ref t0, .int 0, m_14, m_15, m_16, m_17, m_18, m_19, m_20, m_21, m_22, m_23, m_24, m_25, m_26, m_27, m_28, m_29, m_30, m_31, m_32, m_33, m_34, m_35, m_36, m_37, m_38, m_39, m_40, m_41, m_42, m_43, m_44, m_45, m_46, m_47, m_48, m_49, m_50, m_51, m_52, m_53, m_54, m_55, m_56, m_57, m_58, m_59])), (w0, .inl (K 0, 5500, .inl fw)), (t0, .inl (K 0, 400, .inl ft)), (r0, .inl (K 0, 7, .inl frf))] H := hP
  have hD : va_D A [(m0, .inr (12, [.int 0, .int sta, .ref r0, .ref w0, m_4, m_5, m_6, m_7, m_8, m_9, m_10, .int as_, .ref t0, .int 0, m_14, m_15, m_16, m_17, m_18, m_19, m_20, m_21, m_22, m_23, m_24, m_25, m_26, m_27, m_28, m_29, m_30, m_31, m_32, m_33, m_34, m_35, m_36, m_37, m_38, m_39, m_40, m_41, m_42, m_43, m_44, m_45, m_46, m_47, m_48, m_49, m_50, m_51, m_52, m_53, m_54, m_55, m_56, m_57, m_58, m_59])), (w0, .inl (K 0, 5500, .inl fw)), (t0, .inl (K 0, 400, .inl ft)), (r0, .inl (K 0, 7, .inl frf))] := hD
  refine lv_iload_n hx hb dX12_row_15 rfl (lv_at hl 0 rfl) ?_
  refine lv_if_ne (tgt := 26) hx hb dX12_row_16 (by decide) (fun c_259 => ?_) (fun c_259 => ?_)
  · have c_259i := i_ne (x := ta.toInt) (y := 0) rfl rfl c_259
    refine lv_aload_n hx hb dX12_row_26 rfl (lv_at hl 1 rfl) ?_
    refine lv_iconst (v := 0) hx hb dX12_row_27 (by decide) ?_
    refine va_put (ci := 12) (v := .int 0) (ty := .int) (C := RX12) (T := TX12) (N := 60) hx hb hts hw12 tyX12 tyX12_ok nmX12 hown hK hP hD hS 0 rfl rfl 11 (by decide) (hts (.fieldLink RX12 230 "SmokeTuneModel" "ash" "I") (List.mem_cons_of_mem _ (List.mem_append_left _ (List.mem_of_getElem? (i := 2) rfl)))) (fun _ h9 => h9) rfl (by decide +kernel) (by first | rfl | decide) (by first | rfl | decide) (Nat.le_of_ble_eq_true rfl) dX12_row_28 (fun H locs hP hD hS => ?_)
    have hP : va_P D vwCl [(m0, .inr (12, [.int 0, .int sta, .ref r0, .ref w0, m_4, m_5, m_6, m_7, m_8, m_9, m_10, .int 0, .ref t0, .int 0, m_14, m_15, m_16, m_17, m_18, m_19, m_20, m_21, m_22, m_23, m_24, m_25, m_26, m_27, m_28, m_29, m_30, m_31, m_32, m_33, m_34, m_35, m_36, m_37, m_38, m_39, m_40, m_41, m_42, m_43, m_44, m_45, m_46, m_47, m_48, m_49, m_50, m_51, m_52, m_53, m_54, m_55, m_56, m_57, m_58, m_59])), (w0, .inl (K 0, 5500, .inl fw)), (t0, .inl (K 0, 400, .inl ft)), (r0, .inl (K 0, 7, .inl frf))] H := hP
    have hD : va_D A [(m0, .inr (12, [.int 0, .int sta, .ref r0, .ref w0, m_4, m_5, m_6, m_7, m_8, m_9, m_10, .int 0, .ref t0, .int 0, m_14, m_15, m_16, m_17, m_18, m_19, m_20, m_21, m_22, m_23, m_24, m_25, m_26, m_27, m_28, m_29, m_30, m_31, m_32, m_33, m_34, m_35, m_36, m_37, m_38, m_39, m_40, m_41, m_42, m_43, m_44, m_45, m_46, m_47, m_48, m_49, m_50, m_51, m_52, m_53, m_54, m_55, m_56, m_57, m_58, m_59])), (w0, .inl (K 0, 5500, .inl fw)), (t0, .inl (K 0, 400, .inl ft)), (r0, .inl (K 0, 7, .inl frf))] := hD
    refine lv_iconst (v := 0) hx hb dX12_row_31 (by decide) ?_
    refine lv_istore_n (lv' := [(2, .int 0), (1, .int ta), (0, .ref m0)]) hx hb dX12_row_32 rfl hl (by decide) rfl (fun ls hl => ?_)
    refine lv_iconst (v := 0) hx hb dX12_row_33 (by decide) ?_
    refine lv_istore_n (lv' := [(3, .int 0), (2, .int 0), (1, .int ta), (0, .ref m0)]) hx hb dX12_row_34 rfl hl (by decide) rfl (fun ls hl => ?_)
    have lp_334 : ∀ (nn_ : Nat) (v_300 : Int32) (v_301 : Int32) (v_302 : Int32) (f_303 : Nat → Int32) (hv_300 : 0 ≤ v_300.toInt ∧ v_300.toInt ≤ 400) (hv_301 : 0 ≤ v_301.toInt ∧ v_301.toInt ≤ 400) (hv_302 : 0 ≤ v_302.toInt ∧ v_302.toInt ≤ 400) (hf_303_0 : RwOK f_303) (hr0_lp_334 : v_301.toInt = cnt ft (v_300.toInt).toNat) (hr1_lp_334 : 0 ≤ v_301.toInt ∧ v_301.toInt ≤ v_300.toInt ∧ v_300.toInt ≤ ta.toInt ∧ v_302.toInt = v_300.toInt - v_301.toInt) (hn : (401 - v_300.toInt : Int).toNat < nn_) (H : Heap) (locs : List Loc) (hP : va_P D vwCl [(m0, .inr (12, [.int 0, .int sta, .ref r0, .ref w0, m_4, m_5, m_6, m_7, m_8, m_9, m_10, .int v_302, .ref t0, .int 0, m_14, m_15, m_16, m_17, m_18, m_19, m_20, m_21, m_22, m_23, m_24, m_25, m_26, m_27, m_28, m_29, m_30, m_31, m_32, m_33, m_34, m_35, m_36, m_37, m_38, m_39, m_40, m_41, m_42, m_43, m_44, m_45, m_46, m_47, m_48, m_49, m_50, m_51, m_52, m_53, m_54, m_55, m_56, m_57, m_58, m_59])), (w0, .inl (K 0, 5500, .inl f_303)), (t0, .inl (K 0, 400, .inl ft)), (r0, .inl (K 0, 7, .inl frf))] H) (hD : va_D A [(m0, .inr (12, [.int 0, .int sta, .ref r0, .ref w0, m_4, m_5, m_6, m_7, m_8, m_9, m_10, .int v_302, .ref t0, .int 0, m_14, m_15, m_16, m_17, m_18, m_19, m_20, m_21, m_22, m_23, m_24, m_25, m_26, m_27, m_28, m_29, m_30, m_31, m_32, m_33, m_34, m_35, m_36, m_37, m_38, m_39, m_40, m_41, m_42, m_43, m_44, m_45, m_46, m_47, m_48, m_49, m_50, m_51, m_52, m_53, m_54, m_55, m_56, m_57, m_58, m_59])), (w0, .inl (K 0, 5500, .inl f_303)), (t0, .inl (K 0, 400, .inl ft)), (r0, .inl (K 0, 7, .inl frf))]) (hS : va_S A s.heap H locs) (ls : Array Slot) (hl : lv_has ls 4 [(3, .int v_300), (2, .int v_301), (1, .int ta), (0, .ref m0)]), W p l e ({ frames := 1, cells := 0, slots := 0, locals := 21 }) s m (([.ref m0] : List Value).toArray) below meth c H locs 0 0 Q (F0 m 35 ls []) := by
      intro nn_
      induction nn_ with
      | zero =>
        intro v_300 v_301 v_302 f_303 hv_300 hv_301 hv_302 hf_303_0 hr0_lp_334 hr1_lp_334 hn H locs hP hD hS ls hl
        exact absurd hn (Nat.not_lt_zero _)
      | succ nn_ ih_335 =>
        intro v_300 v_301 v_302 f_303 hv_300 hv_301 hv_302 hf_303_0 hr0_lp_334 hr1_lp_334 hn H locs hP hD hS ls hl
        refine lv_iload_n hx hb dX12_row_35 rfl (lv_at hl 0 rfl) ?_
        refine lv_iload_n hx hb dX12_row_36 rfl (lv_at hl 2 rfl) ?_
        refine lv_icmp_ge (tgt := 95) hx hb dX12_row_37 (by decide) (fun c_336 => ?_) (fun c_336 => ?_)
        · have c_336i := i_le (x := ta.toInt) (y := v_300.toInt) rfl rfl c_336
          refine lv_aload_n hx hb dX12_row_95 rfl (lv_at hl 3 rfl) ?_
          refine lv_iload_n hx hb dX12_row_96 rfl (lv_at hl 1 rfl) ?_
          refine kci (S := Su) (wr := [(w0, .inl (K 0, 5500, .inl f_303)), (t0, .inl (K 0, 400, .inl ft))]) (va_runV (As := [.int v_301]) (rest := []) ⟨hx, hb, hml, hown, hts⟩ (v_tellX l D K m0 v_301 (.int 0) sta r0 (.ref w0) m_4 m_5 m_6 m_7 m_8 m_9 m_10 (.int v_302) (.ref t0) (.int 0) m_14 m_15 m_16 m_17 m_18 m_19 m_20 m_21 m_22 m_23 m_24 m_25 m_26 m_27 m_28 m_29 m_30 m_31 m_32 m_33 m_34 m_35 m_36 m_37 m_38 m_39 m_40 m_41 m_42 m_43 m_44 m_45 m_46 m_47 m_48 m_49 m_50 m_51 m_52 m_53 m_54 m_55 m_56 m_57 m_58 m_59 frf H.size (by first | omega | decide)) (cwV 1 hts gX12_row_X12_tell rfl rfl rfl (by decide +kernel) ⟨Nat.le_of_ble_eq_true rfl, Nat.le_of_ble_eq_true rfl⟩) (mkV hK hN (hP.sub [0, 3] rfl) (hD.sub [0, 3] (by decide) rfl) (ci := 12) (q0 := 0) rfl rfl) rfl rfl hl.1 rfl (lv_room (Nat.le_of_ble_eq_true rfl)) dX12_row_97 ⟨Nat.le_of_ble_eq_true rfl, Nat.le_of_ble_eq_true rfl⟩) hP hD hS hA [0, 3] [1, 2] rfl rfl (by decide) (by decide) (fun r_337 u_338 H locs hw hP hD hS => ?_)
          have hP : va_P D vwCl [(w0, .inl (K 0, 5500, .inl f_303)), (t0, .inl (K 0, 400, .inl ft)), (m0, .inr (12, [.int 0, .int (u_338.2.2.2.1 0), .ref r0, .ref w0, m_4, m_5, m_6, m_7, m_8, m_9, m_10, .int v_302, .ref t0, .int 0, m_14, m_15, m_16, m_17, m_18, m_19, m_20, m_21, m_22, m_23, m_24, m_25, m_26, m_27, m_28, m_29, m_30, m_31, m_32, m_33, m_34, m_35, m_36, m_37, m_38, m_39, m_40, m_41, m_42, m_43, m_44, m_45, m_46, m_47, m_48, m_49, m_50, m_51, m_52, m_53, m_54, m_55, m_56, m_57, m_58, m_59])), (r0, .inl (K 0, 7, .inl (u_338.2.1 0)))] H := hP
          have hD : va_D A [(w0, .inl (K 0, 5500, .inl f_303)), (t0, .inl (K 0, 400, .inl ft)), (m0, .inr (12, [.int 0, .int (u_338.2.2.2.1 0), .ref r0, .ref w0, m_4, m_5, m_6, m_7, m_8, m_9, m_10, .int v_302, .ref t0, .int 0, m_14, m_15, m_16, m_17, m_18, m_19, m_20, m_21, m_22, m_23, m_24, m_25, m_26, m_27, m_28, m_29, m_30, m_31, m_32, m_33, m_34, m_35, m_36, m_37, m_38, m_39, m_40, m_41, m_42, m_43, m_44, m_45, m_46, m_47, m_48, m_49, m_50, m_51, m_52, m_53, m_54, m_55, m_56, m_57, m_58, m_59])), (r0, .inl (K 0, 7, .inl (u_338.2.1 0)))] := hD
          obtain ⟨hw, k_339, -⟩ := hw
          have er_r_337 := hw
          have hr_r_337 : r_337.toInt = v_301.toInt := (congrArg Int32.toInt er_r_337).trans rfl
          rw [← hQ]
          have hP9 := hP.sub (ws' := [(m0, .inr (12, [.int 0, .int (u_338.2.2.2.1 0), .ref r0, .ref w0, m_4, m_5, m_6, m_7, m_8, m_9, m_10, .int v_302, .ref t0, .int 0, m_14, m_15, m_16, m_17, m_18, m_19, m_20, m_21, m_22, m_23, m_24, m_25, m_26, m_27, m_28, m_29, m_30, m_31, m_32, m_33, m_34, m_35, m_36, m_37, m_38, m_39, m_40, m_41, m_42, m_43, m_44, m_45, m_46, m_47, m_48, m_49, m_50, m_51, m_52, m_53, m_54, m_55, m_56, m_57, m_58, m_59])), (w0, .inl (K 0, 5500, .inl f_303)), (t0, .inl (K 0, 400, .inl ft)), (r0, .inl (K 0, 7, .inl (u_338.2.1 0)))]) [2, 0, 1, 3] rfl
          have hD9 := hD.sub (ws' := [(m0, .inr (12, [.int 0, .int (u_338.2.2.2.1 0), .ref r0, .ref w0, m_4, m_5, m_6, m_7, m_8, m_9, m_10, .int v_302, .ref t0, .int 0, m_14, m_15, m_16, m_17, m_18, m_19, m_20, m_21, m_22, m_23, m_24, m_25, m_26, m_27, m_28, m_29, m_30, m_31, m_32, m_33, m_34, m_35, m_36, m_37, m_38, m_39, m_40, m_41, m_42, m_43, m_44, m_45, m_46, m_47, m_48, m_49, m_50, m_51, m_52, m_53, m_54, m_55, m_56, m_57, m_58, m_59])), (w0, .inl (K 0, 5500, .inl f_303)), (t0, .inl (K 0, 400, .inl ft)), (r0, .inl (K 0, 7, .inl (u_338.2.1 0)))]) [2, 0, 1, 3] (by decide) rfl
          exact W.iret (v := r_337) hx hb hr (fun t ht hW => ⟨⟨r_337, ((fun _ => 0, fun i => match i with | 0 => f_303 | _ => (u_338.2.1 0), fun _ => fun _ => 0, fun i => match i with | 0 => (u_338.2.2.2.1 0) | _ => v_302, fun _ => 0, fun _ => fun _ => none) : Su), rfl, ⟨(show (-6) ≤ r_337.toInt ∧ r_337.toInt ≤ 400 by rw [hr_r_337]; omega), (show (-6) ≤ ((u_338.2.2.2.1 0) : Int32).toInt ∧ ((u_338.2.2.2.1 0) : Int32).toInt ≤ 0 by omega), hf_303_0, (show ((ta.toInt = 0 ∧ (r_337 : Int32).toInt = -6 ∧ (v_302 : Int32).toInt = as_.toInt) ∨ (0 < ta.toInt ∧ (r_337 : Int32).toInt = cnt ft ta.toInt.toNat ∧ (v_302 : Int32).toInt = ta.toInt - cnt ft ta.toInt.toNat)) by have q9 := hr0_lp_334; rw [show v_300.toInt = ta.toInt by omega] at q9; exact Or.inr ⟨by omega, by first | omega | (rw [← q9]; omega), by first | omega | (rw [← q9]; omega)⟩), trivial⟩, (⟨by rw [ht]; exact hP9, hD9⟩ : Wd D A _ t)⟩, hS.F ht⟩) hS.2.2 dX12_row_100
        · have c_336i := i_nle (x := ta.toInt) (y := v_300.toInt) rfl rfl c_336
          refine lv_iload_n hx hb dX12_row_40 rfl (lv_at hl 0 rfl) ?_
          refine lv_bipush (v := 24) hx hb dX12_row_41 (by decide) ?_
          refine lv_icmp_ge (tgt := 79) hx hb dX12_row_43 (by decide) (fun c_340 => ?_) (fun c_340 => ?_)
          · have c_340i := i_le (x := 24) (y := v_300.toInt) rfl rfl c_340
            refine lv_aload_n hx hb dX12_row_79 rfl (lv_at hl 3 rfl) ?_
            refine lv_dup hx hb dX12_row_80 rfl ?_
            refine va_get (ci := 12) (v := .int v_302) (C := RX12) (T := TX12) (N := 60) hx hb hts hw12 hown hK hP 0 rfl rfl 11 (by decide) (hts (.fieldLink RX12 230 "SmokeTuneModel" "ash" "I") (List.mem_cons_of_mem _ (List.mem_append_left _ (List.mem_of_getElem? (i := 2) rfl)))) (fun _ h9 => h9) rfl dX12_row_81 ?_
            refine lv_iconst (v := 1) hx hb dX12_row_84 (by decide) ?_
            refine lv_iadd hx hb dX12_row_85 ?_
            refine lv_topi (fun x_341 ex_341 => ?_)
            have hx_341 : x_341.toInt = (v_302.toInt + 1) := by rw [ex_341]; exact i_add rfl (show (1 : Int32).toInt = 1 from rfl) (by omega)
            refine va_put (ci := 12) (v := .int x_341) (ty := .int) (C := RX12) (T := TX12) (N := 60) hx hb hts hw12 tyX12 tyX12_ok nmX12 hown hK hP hD hS 0 rfl rfl 11 (by decide) (hts (.fieldLink RX12 230 "SmokeTuneModel" "ash" "I") (List.mem_cons_of_mem _ (List.mem_append_left _ (List.mem_of_getElem? (i := 2) rfl)))) (fun _ h9 => h9) rfl (by decide +kernel) (by first | rfl | decide) (by first | rfl | decide) (Nat.le_of_ble_eq_true rfl) dX12_row_86 (fun H locs hP hD hS => ?_)
            have hP : va_P D vwCl [(m0, .inr (12, [.int 0, .int sta, .ref r0, .ref w0, m_4, m_5, m_6, m_7, m_8, m_9, m_10, .int x_341, .ref t0, .int 0, m_14, m_15, m_16, m_17, m_18, m_19, m_20, m_21, m_22, m_23, m_24, m_25, m_26, m_27, m_28, m_29, m_30, m_31, m_32, m_33, m_34, m_35, m_36, m_37, m_38, m_39, m_40, m_41, m_42, m_43, m_44, m_45, m_46, m_47, m_48, m_49, m_50, m_51, m_52, m_53, m_54, m_55, m_56, m_57, m_58, m_59])), (w0, .inl (K 0, 5500, .inl f_303)), (t0, .inl (K 0, 400, .inl ft)), (r0, .inl (K 0, 7, .inl frf))] H := hP
            have hD : va_D A [(m0, .inr (12, [.int 0, .int sta, .ref r0, .ref w0, m_4, m_5, m_6, m_7, m_8, m_9, m_10, .int x_341, .ref t0, .int 0, m_14, m_15, m_16, m_17, m_18, m_19, m_20, m_21, m_22, m_23, m_24, m_25, m_26, m_27, m_28, m_29, m_30, m_31, m_32, m_33, m_34, m_35, m_36, m_37, m_38, m_39, m_40, m_41, m_42, m_43, m_44, m_45, m_46, m_47, m_48, m_49, m_50, m_51, m_52, m_53, m_54, m_55, m_56, m_57, m_58, m_59])), (w0, .inl (K 0, 5500, .inl f_303)), (t0, .inl (K 0, 400, .inl ft)), (r0, .inl (K 0, 7, .inl frf))] := hD
            obtain ⟨x_342, ex_342⟩ : ∃ y : Int32, y = v_300 + Int32.ofInt 1 := ⟨_, rfl⟩
            have hx_342 : x_342.toInt = (v_300.toInt + 1) := by rw [ex_342]; exact i_add rfl (show (Int32.ofInt 1).toInt = 1 from rfl) (by omega)
            refine lv_iinc (v := x_342) (lv' := [(3, .int x_342), (2, .int v_301), (1, .int ta), (0, .ref m0)]) hx hb dX12_row_89 hl (k := 0) rfl (by rw [ex_342]) (by decide) rfl (fun ls hl => ?_)
            refine lv_goto (tgt := 35) hx hb dX12_row_92 (by decide) ?_
            exact ih_335 x_342 v_301 x_341 f_303 (by rw [hx_342]; omega) (by omega) (by rw [hx_341]; omega) hf_303_0 (show (v_301 : Int32).toInt = cnt ft ((x_342 : Int32).toInt).toNat by rw [hx_342]; exact cnt_far (by omega) hr0_lp_334) (show 0 ≤ (v_301 : Int32).toInt ∧ (v_301 : Int32).toInt ≤ (x_342 : Int32).toInt ∧ (x_342 : Int32).toInt ≤ ta.toInt ∧ (x_341 : Int32).toInt = (x_342 : Int32).toInt - (v_301 : Int32).toInt by omega) (by omega) _ _ hP hD hS ls (lv_sub hl [0, 1, 2, 3] rfl)
          · have c_340i := i_nle (x := 24) (y := v_300.toInt) rfl rfl c_340
            refine lv_aload_n hx hb dX12_row_46 rfl (lv_at hl 3 rfl) ?_
            refine va_get (ci := 12) (v := .ref t0) (C := RX12) (T := TX12) (N := 60) hx hb hts hw12 hown hK hP 0 rfl rfl 12 (by decide) (hts (.fieldLink RX12 35 "SmokeTuneModel" "tape" "[I") (List.mem_cons_of_mem _ (List.mem_append_left _ (List.mem_of_getElem? (i := 3) rfl)))) (fun _ h9 => h9) rfl dX12_row_47 ?_
            refine lv_iload_n hx hb dX12_row_50 rfl (lv_at hl 0 rfl) ?_
            refine va_iald hx hb hK hP 2 0 rfl rfl (i_in rfl (by omega)) dX12_row_51 ?_
            refine lv_topi (fun x_343 ex_343 => ?_)
            refine lv_sipush (v := 128) hx hb dX12_row_52 (by decide) ?_
            refine lv_icmp_ge (tgt := 79) hx hb dX12_row_55 (by decide) (fun c_344 => ?_) (fun c_344 => ?_)
            · have c_344i := i_le (x := 128) (y := x_343.toInt) rfl rfl c_344
              refine lv_aload_n hx hb dX12_row_79 rfl (lv_at hl 3 rfl) ?_
              refine lv_dup hx hb dX12_row_80 rfl ?_
              refine va_get (ci := 12) (v := .int v_302) (C := RX12) (T := TX12) (N := 60) hx hb hts hw12 hown hK hP 0 rfl rfl 11 (by decide) (hts (.fieldLink RX12 230 "SmokeTuneModel" "ash" "I") (List.mem_cons_of_mem _ (List.mem_append_left _ (List.mem_of_getElem? (i := 2) rfl)))) (fun _ h9 => h9) rfl dX12_row_81 ?_
              refine lv_iconst (v := 1) hx hb dX12_row_84 (by decide) ?_
              refine lv_iadd hx hb dX12_row_85 ?_
              refine lv_topi (fun x_345 ex_345 => ?_)
              have hx_345 : x_345.toInt = (v_302.toInt + 1) := by rw [ex_345]; exact i_add rfl (show (1 : Int32).toInt = 1 from rfl) (by omega)
              refine va_put (ci := 12) (v := .int x_345) (ty := .int) (C := RX12) (T := TX12) (N := 60) hx hb hts hw12 tyX12 tyX12_ok nmX12 hown hK hP hD hS 0 rfl rfl 11 (by decide) (hts (.fieldLink RX12 230 "SmokeTuneModel" "ash" "I") (List.mem_cons_of_mem _ (List.mem_append_left _ (List.mem_of_getElem? (i := 2) rfl)))) (fun _ h9 => h9) rfl (by decide +kernel) (by first | rfl | decide) (by first | rfl | decide) (Nat.le_of_ble_eq_true rfl) dX12_row_86 (fun H locs hP hD hS => ?_)
              have hP : va_P D vwCl [(m0, .inr (12, [.int 0, .int sta, .ref r0, .ref w0, m_4, m_5, m_6, m_7, m_8, m_9, m_10, .int x_345, .ref t0, .int 0, m_14, m_15, m_16, m_17, m_18, m_19, m_20, m_21, m_22, m_23, m_24, m_25, m_26, m_27, m_28, m_29, m_30, m_31, m_32, m_33, m_34, m_35, m_36, m_37, m_38, m_39, m_40, m_41, m_42, m_43, m_44, m_45, m_46, m_47, m_48, m_49, m_50, m_51, m_52, m_53, m_54, m_55, m_56, m_57, m_58, m_59])), (w0, .inl (K 0, 5500, .inl f_303)), (t0, .inl (K 0, 400, .inl ft)), (r0, .inl (K 0, 7, .inl frf))] H := hP
              have hD : va_D A [(m0, .inr (12, [.int 0, .int sta, .ref r0, .ref w0, m_4, m_5, m_6, m_7, m_8, m_9, m_10, .int x_345, .ref t0, .int 0, m_14, m_15, m_16, m_17, m_18, m_19, m_20, m_21, m_22, m_23, m_24, m_25, m_26, m_27, m_28, m_29, m_30, m_31, m_32, m_33, m_34, m_35, m_36, m_37, m_38, m_39, m_40, m_41, m_42, m_43, m_44, m_45, m_46, m_47, m_48, m_49, m_50, m_51, m_52, m_53, m_54, m_55, m_56, m_57, m_58, m_59])), (w0, .inl (K 0, 5500, .inl f_303)), (t0, .inl (K 0, 400, .inl ft)), (r0, .inl (K 0, 7, .inl frf))] := hD
              obtain ⟨x_346, ex_346⟩ : ∃ y : Int32, y = v_300 + Int32.ofInt 1 := ⟨_, rfl⟩
              have hx_346 : x_346.toInt = (v_300.toInt + 1) := by rw [ex_346]; exact i_add rfl (show (Int32.ofInt 1).toInt = 1 from rfl) (by omega)
              refine lv_iinc (v := x_346) (lv' := [(3, .int x_346), (2, .int v_301), (1, .int ta), (0, .ref m0)]) hx hb dX12_row_89 hl (k := 0) rfl (by rw [ex_346]) (by decide) rfl (fun ls hl => ?_)
              refine lv_goto (tgt := 35) hx hb dX12_row_92 (by decide) ?_
              exact ih_335 x_346 v_301 x_345 f_303 (by rw [hx_346]; omega) (by omega) (by rw [hx_345]; omega) hf_303_0 (show (v_301 : Int32).toInt = cnt ft ((x_346 : Int32).toInt).toNat by rw [hx_346]; exact cnt_no (by omega) (show x_343 = ft (v_300.toInt).toNat by rw [ex_343, i_clamp rfl]) (by omega) hr0_lp_334) (show 0 ≤ (v_301 : Int32).toInt ∧ (v_301 : Int32).toInt ≤ (x_346 : Int32).toInt ∧ (x_346 : Int32).toInt ≤ ta.toInt ∧ (x_345 : Int32).toInt = (x_346 : Int32).toInt - (v_301 : Int32).toInt by omega) (by omega) _ _ hP hD hS ls (lv_sub hl [0, 1, 2, 3] rfl)
            · have c_344i := i_nle (x := 128) (y := x_343.toInt) rfl rfl c_344
              refine lv_aload_n hx hb dX12_row_58 rfl (lv_at hl 3 rfl) ?_
              refine va_get (ci := 12) (v := .ref w0) (C := RX12) (T := TX12) (N := 60) hx hb hts hw12 hown hK hP 0 rfl rfl 3 (by decide) (hts (.fieldLink RX12 13 "SmokeTuneModel" "row" "[I") (List.mem_cons_of_mem _ (List.mem_append_left _ (List.mem_of_getElem? (i := 4) rfl)))) (fun _ h9 => h9) rfl dX12_row_59 ?_
              refine lv_bipush (v := 67) hx hb dX12_row_62 (by decide) ?_
              refine lv_iload_n hx hb dX12_row_64 rfl (lv_at hl 0 rfl) ?_
              refine lv_iadd hx hb dX12_row_65 ?_
              refine lv_topi (fun x_347 ex_347 => ?_)
              have hx_347 : x_347.toInt = (67 + v_300.toInt) := by rw [ex_347]; exact i_add (show (67 : Int32).toInt = 67 from rfl) rfl (by omega)
              refine lv_aload_n hx hb dX12_row_66 rfl (lv_at hl 3 rfl) ?_
              refine va_get (ci := 12) (v := .ref t0) (C := RX12) (T := TX12) (N := 60) hx hb hts hw12 hown hK hP 0 rfl rfl 12 (by decide) (hts (.fieldLink RX12 35 "SmokeTuneModel" "tape" "[I") (List.mem_cons_of_mem _ (List.mem_append_left _ (List.mem_of_getElem? (i := 3) rfl)))) (fun _ h9 => h9) rfl dX12_row_67 ?_
              refine lv_iload_n hx hb dX12_row_70 rfl (lv_at hl 0 rfl) ?_
              refine va_iald hx hb hK hP 2 0 rfl rfl (i_in rfl (by omega)) dX12_row_71 ?_
              refine lv_topi (fun x_348 ex_348 => ?_)
              refine va_iast hx hb hK hP hD hS 1 0 rfl rfl (i_in hx_347 (by omega)) dX12_row_72 (fun H locs hP hD hS => ?_)
              generalize hf_349 : (upd f_303 (x_347 : Int32).toNatClampNeg x_348) = f_349 at hP hD
              have hf_349_0 : RwOK f_349 := by rw [← hf_349]; exact RwOK.upd hf_303_0 hx_347 (by omega) rfl (PR.free (by omega))
              have hP : va_P D vwCl [(m0, .inr (12, [.int 0, .int sta, .ref r0, .ref w0, m_4, m_5, m_6, m_7, m_8, m_9, m_10, .int v_302, .ref t0, .int 0, m_14, m_15, m_16, m_17, m_18, m_19, m_20, m_21, m_22, m_23, m_24, m_25, m_26, m_27, m_28, m_29, m_30, m_31, m_32, m_33, m_34, m_35, m_36, m_37, m_38, m_39, m_40, m_41, m_42, m_43, m_44, m_45, m_46, m_47, m_48, m_49, m_50, m_51, m_52, m_53, m_54, m_55, m_56, m_57, m_58, m_59])), (w0, .inl (K 0, 5500, .inl f_349)), (t0, .inl (K 0, 400, .inl ft)), (r0, .inl (K 0, 7, .inl frf))] H := hP
              have hD : va_D A [(m0, .inr (12, [.int 0, .int sta, .ref r0, .ref w0, m_4, m_5, m_6, m_7, m_8, m_9, m_10, .int v_302, .ref t0, .int 0, m_14, m_15, m_16, m_17, m_18, m_19, m_20, m_21, m_22, m_23, m_24, m_25, m_26, m_27, m_28, m_29, m_30, m_31, m_32, m_33, m_34, m_35, m_36, m_37, m_38, m_39, m_40, m_41, m_42, m_43, m_44, m_45, m_46, m_47, m_48, m_49, m_50, m_51, m_52, m_53, m_54, m_55, m_56, m_57, m_58, m_59])), (w0, .inl (K 0, 5500, .inl f_349)), (t0, .inl (K 0, 400, .inl ft)), (r0, .inl (K 0, 7, .inl frf))] := hD
              obtain ⟨x_350, ex_350⟩ : ∃ y : Int32, y = v_301 + Int32.ofInt 1 := ⟨_, rfl⟩
              have hx_350 : x_350.toInt = (v_301.toInt + 1) := by rw [ex_350]; exact i_add rfl (show (Int32.ofInt 1).toInt = 1 from rfl) (by omega)
              refine lv_iinc (v := x_350) (lv' := [(2, .int x_350), (3, .int v_300), (1, .int ta), (0, .ref m0)]) hx hb dX12_row_73 hl (k := 1) rfl (by rw [ex_350]) (by decide) rfl (fun ls hl => ?_)
              refine lv_goto (tgt := 89) hx hb dX12_row_76 (by decide) ?_
              obtain ⟨x_351, ex_351⟩ : ∃ y : Int32, y = v_300 + Int32.ofInt 1 := ⟨_, rfl⟩
              have hx_351 : x_351.toInt = (v_300.toInt + 1) := by rw [ex_351]; exact i_add rfl (show (Int32.ofInt 1).toInt = 1 from rfl) (by omega)
              refine lv_iinc (v := x_351) (lv' := [(3, .int x_351), (2, .int x_350), (1, .int ta), (0, .ref m0)]) hx hb dX12_row_89 hl (k := 1) rfl (by rw [ex_351]) (by decide) rfl (fun ls hl => ?_)
              refine lv_goto (tgt := 35) hx hb dX12_row_92 (by decide) ?_
              exact ih_335 x_351 x_350 v_302 f_349 (by rw [hx_351]; omega) (by rw [hx_350]; omega) (by omega) hf_349_0 (show (x_350 : Int32).toInt = cnt ft ((x_351 : Int32).toInt).toNat by rw [hx_350, hx_351]; exact cnt_yes (by omega) (show x_343 = ft (v_300.toInt).toNat by rw [ex_343, i_clamp rfl]) (by omega) hr0_lp_334) (show 0 ≤ (x_350 : Int32).toInt ∧ (x_350 : Int32).toInt ≤ (x_351 : Int32).toInt ∧ (x_351 : Int32).toInt ≤ ta.toInt ∧ (v_302 : Int32).toInt = (x_351 : Int32).toInt - (x_350 : Int32).toInt by omega) (by omega) _ _ hP hD hS ls (lv_sub hl [0, 1, 2, 3] rfl)
    have hz_352 : (0 : Int32).toInt = 0 := rfl
    have hz_353 : (0 : Int32).toInt = 0 := rfl
    have hz_354 : (0 : Int32).toInt = 0 := rfl
    exact lp_334 ((401 - (0 : Int32).toInt : Int).toNat + 1) 0 0 0 fw (by decide) (by decide) (by decide) zfw (show (0 : Int32).toInt = cnt ft ((0 : Int32).toInt).toNat by rfl) (show 0 ≤ (0 : Int32).toInt ∧ (0 : Int32).toInt ≤ (0 : Int32).toInt ∧ (0 : Int32).toInt ≤ ta.toInt ∧ (0 : Int32).toInt = (0 : Int32).toInt - (0 : Int32).toInt by omega) (Nat.lt_succ_self _) _ _ hP hD hS ls (lv_sub hl [0, 1, 2, 3] rfl)
  · have c_259i := i_eq (x := ta.toInt) (y := 0) rfl rfl c_259
    refine lv_aload_n hx hb dX12_row_19 rfl (lv_at hl 1 rfl) ?_
    refine lv_bipush (v := (-6)) hx hb dX12_row_20 (by decide) ?_
    refine kci (S := Su) (wr := [(w0, .inl (K 0, 5500, .inl fw)), (t0, .inl (K 0, 400, .inl ft))]) (va_runV (As := [.int (-6)]) (rest := []) ⟨hx, hb, hml, hown, hts⟩ (v_tellX l D K m0 (-6) (.int 0) sta r0 (.ref w0) m_4 m_5 m_6 m_7 m_8 m_9 m_10 (.int as_) (.ref t0) (.int 0) m_14 m_15 m_16 m_17 m_18 m_19 m_20 m_21 m_22 m_23 m_24 m_25 m_26 m_27 m_28 m_29 m_30 m_31 m_32 m_33 m_34 m_35 m_36 m_37 m_38 m_39 m_40 m_41 m_42 m_43 m_44 m_45 m_46 m_47 m_48 m_49 m_50 m_51 m_52 m_53 m_54 m_55 m_56 m_57 m_58 m_59 frf H.size (by first | omega | decide)) (cwV 1 hts gX12_row_X12_tell rfl rfl rfl (by decide +kernel) ⟨Nat.le_of_ble_eq_true rfl, Nat.le_of_ble_eq_true rfl⟩) (mkV hK hN (hP.sub [0, 3] rfl) (hD.sub [0, 3] (by decide) rfl) (ci := 12) (q0 := 0) rfl rfl) rfl rfl hl.1 rfl (lv_room (Nat.le_of_ble_eq_true rfl)) dX12_row_22 ⟨Nat.le_of_ble_eq_true rfl, Nat.le_of_ble_eq_true rfl⟩) hP hD hS hA [0, 3] [1, 2] rfl rfl (by decide) (by decide) (fun r_355 u_356 H locs hw hP hD hS => ?_)
    have hP : va_P D vwCl [(w0, .inl (K 0, 5500, .inl fw)), (t0, .inl (K 0, 400, .inl ft)), (m0, .inr (12, [.int 0, .int (u_356.2.2.2.1 0), .ref r0, .ref w0, m_4, m_5, m_6, m_7, m_8, m_9, m_10, .int as_, .ref t0, .int 0, m_14, m_15, m_16, m_17, m_18, m_19, m_20, m_21, m_22, m_23, m_24, m_25, m_26, m_27, m_28, m_29, m_30, m_31, m_32, m_33, m_34, m_35, m_36, m_37, m_38, m_39, m_40, m_41, m_42, m_43, m_44, m_45, m_46, m_47, m_48, m_49, m_50, m_51, m_52, m_53, m_54, m_55, m_56, m_57, m_58, m_59])), (r0, .inl (K 0, 7, .inl (u_356.2.1 0)))] H := hP
    have hD : va_D A [(w0, .inl (K 0, 5500, .inl fw)), (t0, .inl (K 0, 400, .inl ft)), (m0, .inr (12, [.int 0, .int (u_356.2.2.2.1 0), .ref r0, .ref w0, m_4, m_5, m_6, m_7, m_8, m_9, m_10, .int as_, .ref t0, .int 0, m_14, m_15, m_16, m_17, m_18, m_19, m_20, m_21, m_22, m_23, m_24, m_25, m_26, m_27, m_28, m_29, m_30, m_31, m_32, m_33, m_34, m_35, m_36, m_37, m_38, m_39, m_40, m_41, m_42, m_43, m_44, m_45, m_46, m_47, m_48, m_49, m_50, m_51, m_52, m_53, m_54, m_55, m_56, m_57, m_58, m_59])), (r0, .inl (K 0, 7, .inl (u_356.2.1 0)))] := hD
    obtain ⟨hw, k_357, -⟩ := hw
    obtain rfl := hw
    rw [← hQ]
    have hP9 := hP.sub (ws' := [(m0, .inr (12, [.int 0, .int (u_356.2.2.2.1 0), .ref r0, .ref w0, m_4, m_5, m_6, m_7, m_8, m_9, m_10, .int as_, .ref t0, .int 0, m_14, m_15, m_16, m_17, m_18, m_19, m_20, m_21, m_22, m_23, m_24, m_25, m_26, m_27, m_28, m_29, m_30, m_31, m_32, m_33, m_34, m_35, m_36, m_37, m_38, m_39, m_40, m_41, m_42, m_43, m_44, m_45, m_46, m_47, m_48, m_49, m_50, m_51, m_52, m_53, m_54, m_55, m_56, m_57, m_58, m_59])), (w0, .inl (K 0, 5500, .inl fw)), (t0, .inl (K 0, 400, .inl ft)), (r0, .inl (K 0, 7, .inl (u_356.2.1 0)))]) [2, 0, 1, 3] rfl
    have hD9 := hD.sub (ws' := [(m0, .inr (12, [.int 0, .int (u_356.2.2.2.1 0), .ref r0, .ref w0, m_4, m_5, m_6, m_7, m_8, m_9, m_10, .int as_, .ref t0, .int 0, m_14, m_15, m_16, m_17, m_18, m_19, m_20, m_21, m_22, m_23, m_24, m_25, m_26, m_27, m_28, m_29, m_30, m_31, m_32, m_33, m_34, m_35, m_36, m_37, m_38, m_39, m_40, m_41, m_42, m_43, m_44, m_45, m_46, m_47, m_48, m_49, m_50, m_51, m_52, m_53, m_54, m_55, m_56, m_57, m_58, m_59])), (w0, .inl (K 0, 5500, .inl fw)), (t0, .inl (K 0, 400, .inl ft)), (r0, .inl (K 0, 7, .inl (u_356.2.1 0)))]) [2, 0, 1, 3] (by decide) rfl
    exact W.iret (v := (-6)) hx hb hr (fun t ht hW => ⟨⟨(-6), ((fun _ => 0, fun i => match i with | 0 => fw | _ => (u_356.2.1 0), fun _ => fun _ => 0, fun i => match i with | 0 => (u_356.2.2.2.1 0) | _ => as_, fun _ => 0, fun _ => fun _ => none) : Su), rfl, ⟨(show (-6) ≤ ((-6) : Int32).toInt ∧ ((-6) : Int32).toInt ≤ 400 by decide), (show (-6) ≤ ((u_356.2.2.2.1 0) : Int32).toInt ∧ ((u_356.2.2.2.1 0) : Int32).toInt ≤ 0 by omega), zfw, (show ((ta.toInt = 0 ∧ ((-6) : Int32).toInt = -6 ∧ (as_ : Int32).toInt = as_.toInt) ∨ (0 < ta.toInt ∧ ((-6) : Int32).toInt = cnt ft ta.toInt.toNat ∧ (as_ : Int32).toInt = ta.toInt - cnt ft ta.toInt.toNat)) by exact Or.inl ⟨by omega, by first | rfl | omega, rfl⟩), trivial⟩, (⟨by rw [ht]; exact hP9, hD9⟩ : Wd D A _ t)⟩, hS.F ht⟩) hS.2.2 dX12_row_25
set_option maxHeartbeats 4000000 in
set_option maxRecDepth 100000 in
theorem w_ashX (l : Launch) (D : va_G) (K : Nat → ClassId) (o0 : Nat) (o_0 : Value) (o_1 : Value) (o_2 : Value) (o_3 : Value) (o_4 : Value) (o_5 : Value) (o_6 : Value) (o_7 : Value) (o_8 : Value) (o_9 : Value) (o_10 : Value) (o_11 : Value) (o_12 : Value) (o_13 : Value) (ato : Int32) (o_15 : Value) (o_16 : Value) (sz : Nat) : Met l yX11_ash wsX11_ash ({ frames := 0, cells := 0, slots := 0, locals := 0 }) (va_Pc [.ref o0] (Pre D K [(o0, .inr (11, [o_0, o_1, o_2, o_3, o_4, o_5, o_6, o_7, o_8, o_9, o_10, o_11, o_12, o_13, .int ato, o_15, o_16]))] sz)) (vp_Si (fun r : Int32 => ((r = ato)) ∧ True)) 0 0 (fun _ => False) := by
  refine Met.ofW (cc := cX11_ash) (maxL := 1) (ret := (some .int)) (by decide) rfl ?_
  intro p e s m args below meth c s₁ B hml hv
  obtain ⟨rfl, hsz, hP, hK, hD0, hN⟩ := hv
  have hx := B.exec
  have hb := B.bytes
  have hr := B.returns
  have hts := atoms_spec (ws := wsX11_ash) B.pre
  have hown : s.vm.findClass RX11 = some m.cls := findClass_of_methodNamed B.named
  have hlocks := B.notSynchronized
  subst hsz
  have hD := hD0
  have hP : va_P D vwCl [(o0, .inr (11, [o_0, o_1, o_2, o_3, o_4, o_5, o_6, o_7, o_8, o_9, o_10, o_11, o_12, o_13, .int ato, o_15, o_16]))] s.heap := hP
  have hl := lv_entry [.ref o0] (n := 1) (Nat.le_of_ble_eq_true rfl)
  rw [lg_entry_eq]
  generalize (lg_sl [.ref o0] ++ List.replicate (1 - (lg_sl [.ref o0]).length) Slot.unset).toArray = ls at hl ⊢
  have hl : lv_has ls 1 [(0, .ref o0)] := hl
  have hw11 : ∀ w ∈ wsX110, w ∈ wsX11_ash := fun w h => (List.mem_cons_of_mem _ (List.mem_append_right _ h))
  generalize hQ : MQ below _ _ s _ _ _ = Q
  refine lv_aload_n hx hb dX11_ash_0 rfl (lv_at hl 0 rfl) ?_
  refine va_get (ci := 11) (v := .int ato) (C := RX11) (T := TX11) (N := 17) hx hb hts hw11 hown hK hP 0 rfl rfl 14 (by decide) (hts (.fieldLink RX11 87 "SmokeTune" "ashTold" "I") (List.mem_cons_of_mem _ (List.mem_append_left _ (List.mem_of_getElem? (i := 0) rfl)))) (fun _ h9 => h9) rfl dX11_ash_1 ?_
  rw [← hQ]
  exact W.iret (v := ato) hx hb hr (fun t ht hW => ⟨_, rfl, ⟨(by first | exact rfl | assumption), trivial⟩, ht⟩) (fun q hq => by cases hq) dX11_ash_4
set_option maxHeartbeats 4000000 in
set_option maxRecDepth 100000 in
theorem v_ashX (l : Launch) (D : va_G) (K : Nat → ClassId) (m0 : Nat) (thr : Int32) (m_1 : Value) (m_2 : Value) (m_3 : Value) (m_4 : Value) (m_5 : Value) (m_6 : Value) (m_7 : Value) (m_8 : Value) (m_9 : Value) (m_10 : Value) (as_ : Int32) (m_12 : Value) (m_13 : Value) (m_14 : Value) (m_15 : Value) (m_16 : Value) (m_17 : Value) (m_18 : Value) (m_19 : Value) (m_20 : Value) (m_21 : Value) (m_22 : Value) (m_23 : Value) (m_24 : Value) (m_25 : Value) (m_26 : Value) (m_27 : Value) (m_28 : Value) (m_29 : Value) (m_30 : Value) (m_31 : Value) (m_32 : Value) (m_33 : Value) (m_34 : Value) (m_35 : Value) (m_36 : Value) (m_37 : Value) (m_38 : Value) (m_39 : Value) (m_40 : Value) (m_41 : Value) (m_42 : Value) (m_43 : Value) (m_44 : Value) (m_45 : Value) (m_46 : Value) (m_47 : Value) (m_48 : Value) (m_49 : Value) (m_50 : Value) (m_51 : Value) (m_52 : Value) (m_53 : Value) (m_54 : Value) (m_55 : Value) (m_56 : Value) (m_57 : Value) (m_58 : Value) (m_59 : Value) (sz : Nat) : Met l yX12_ash wsX12_ash ({ frames := 0, cells := 0, slots := 0, locals := 0 }) (va_Pc [.ref m0] (Pre D K [(m0, .inr (12, [.int thr, m_1, m_2, m_3, m_4, m_5, m_6, m_7, m_8, m_9, m_10, .int as_, m_12, m_13, m_14, m_15, m_16, m_17, m_18, m_19, m_20, m_21, m_22, m_23, m_24, m_25, m_26, m_27, m_28, m_29, m_30, m_31, m_32, m_33, m_34, m_35, m_36, m_37, m_38, m_39, m_40, m_41, m_42, m_43, m_44, m_45, m_46, m_47, m_48, m_49, m_50, m_51, m_52, m_53, m_54, m_55, m_56, m_57, m_58, m_59]))] sz)) (va_Qi (S := Su) (fun (r : Int32) (u : Su) => ((r = as_)) ∧ True) (fun u t => Wd D (va_A [(m0, .inr (12, [.int thr, m_1, m_2, m_3, m_4, m_5, m_6, m_7, m_8, m_9, m_10, .int as_, m_12, m_13, m_14, m_15, m_16, m_17, m_18, m_19, m_20, m_21, m_22, m_23, m_24, m_25, m_26, m_27, m_28, m_29, m_30, m_31, m_32, m_33, m_34, m_35, m_36, m_37, m_38, m_39, m_40, m_41, m_42, m_43, m_44, m_45, m_46, m_47, m_48, m_49, m_50, m_51, m_52, m_53, m_54, m_55, m_56, m_57, m_58, m_59]))] sz) ((fun u => [(m0, .inr (12, [.int 0, m_1, m_2, m_3, m_4, m_5, m_6, m_7, m_8, m_9, m_10, .int as_, m_12, m_13, m_14, m_15, m_16, m_17, m_18, m_19, m_20, m_21, m_22, m_23, m_24, m_25, m_26, m_27, m_28, m_29, m_30, m_31, m_32, m_33, m_34, m_35, m_36, m_37, m_38, m_39, m_40, m_41, m_42, m_43, m_44, m_45, m_46, m_47, m_48, m_49, m_50, m_51, m_52, m_53, m_54, m_55, m_56, m_57, m_58, m_59]))]) u) t) (va_A [(m0, .inr (12, [.int thr, m_1, m_2, m_3, m_4, m_5, m_6, m_7, m_8, m_9, m_10, .int as_, m_12, m_13, m_14, m_15, m_16, m_17, m_18, m_19, m_20, m_21, m_22, m_23, m_24, m_25, m_26, m_27, m_28, m_29, m_30, m_31, m_32, m_33, m_34, m_35, m_36, m_37, m_38, m_39, m_40, m_41, m_42, m_43, m_44, m_45, m_46, m_47, m_48, m_49, m_50, m_51, m_52, m_53, m_54, m_55, m_56, m_57, m_58, m_59]))] sz)) 0 0 (va_A [(m0, .inr (12, [.int thr, m_1, m_2, m_3, m_4, m_5, m_6, m_7, m_8, m_9, m_10, .int as_, m_12, m_13, m_14, m_15, m_16, m_17, m_18, m_19, m_20, m_21, m_22, m_23, m_24, m_25, m_26, m_27, m_28, m_29, m_30, m_31, m_32, m_33, m_34, m_35, m_36, m_37, m_38, m_39, m_40, m_41, m_42, m_43, m_44, m_45, m_46, m_47, m_48, m_49, m_50, m_51, m_52, m_53, m_54, m_55, m_56, m_57, m_58, m_59]))] sz) := by
  refine Met.ofW (cc := cX12_ash) (maxL := 1) (ret := (some .int)) (by decide) rfl ?_
  intro p e s m args below meth c s₁ B hml hv
  obtain ⟨rfl, hsz, hP, hK, hD0, hN⟩ := hv
  have hx := B.exec
  have hb := B.bytes
  have hr := B.returns
  have hts := atoms_spec (ws := wsX12_ash) B.pre
  have hown : s.vm.findClass RX12 = some m.cls := findClass_of_methodNamed B.named
  have hlocks := B.notSynchronized
  subst hsz
  have hD := hD0.self (sz := s.heap.size)
  generalize hAe : va_A [(m0, .inr (12, [.int thr, m_1, m_2, m_3, m_4, m_5, m_6, m_7, m_8, m_9, m_10, .int as_, m_12, m_13, m_14, m_15, m_16, m_17, m_18, m_19, m_20, m_21, m_22, m_23, m_24, m_25, m_26, m_27, m_28, m_29, m_30, m_31, m_32, m_33, m_34, m_35, m_36, m_37, m_38, m_39, m_40, m_41, m_42, m_43, m_44, m_45, m_46, m_47, m_48, m_49, m_50, m_51, m_52, m_53, m_54, m_55, m_56, m_57, m_58, m_59]))] s.heap.size = A at hD ⊢
  have hA : ∀ q : Nat, s.heap.size ≤ q → A q := fun q h => by rw [← hAe]; exact Or.inr h
  have hS : va_S A s.heap s.heap [] := va_S.rf
  have hP : va_P D vwCl [(m0, .inr (12, [.int thr, m_1, m_2, m_3, m_4, m_5, m_6, m_7, m_8, m_9, m_10, .int as_, m_12, m_13, m_14, m_15, m_16, m_17, m_18, m_19, m_20, m_21, m_22, m_23, m_24, m_25, m_26, m_27, m_28, m_29, m_30, m_31, m_32, m_33, m_34, m_35, m_36, m_37, m_38, m_39, m_40, m_41, m_42, m_43, m_44, m_45, m_46, m_47, m_48, m_49, m_50, m_51, m_52, m_53, m_54, m_55, m_56, m_57, m_58, m_59]))] s.heap := hP
  have hl := lv_entry [.ref m0] (n := 1) (Nat.le_of_ble_eq_true rfl)
  rw [lg_entry_eq]
  generalize (lg_sl [.ref m0] ++ List.replicate (1 - (lg_sl [.ref m0]).length) Slot.unset).toArray = ls at hl ⊢
  have hl : lv_has ls 1 [(0, .ref m0)] := hl
  have hw12 : ∀ w ∈ wsX120, w ∈ wsX12_ash := fun w h => (List.mem_cons_of_mem _ (List.mem_append_right _ h))
  generalize hQ : MQ below _ _ s _ _ _ = Q
  refine lv_aload_n hx hb dX12_ash_0 rfl (lv_at hl 0 rfl) ?_
  refine lv_iconst (v := 0) hx hb dX12_ash_1 (by decide) ?_
  refine va_put (ci := 12) (v := .int 0) (ty := .int) (C := RX12) (T := TX12) (N := 60) hx hb hts hw12 tyX12 tyX12_ok nmX12 hown hK hP hD hS 0 rfl rfl 0 (by decide) (hts (.fieldLink RX12 158 "SmokeTuneModel" "thrown" "I") (List.mem_cons_of_mem _ (List.mem_append_left _ (List.mem_of_getElem? (i := 0) rfl)))) (fun _ h9 => h9) rfl (by decide +kernel) (by first | rfl | decide) (by first | rfl | decide) (Nat.le_of_ble_eq_true rfl) dX12_ash_2 (fun H locs hP hD hS => ?_)
  have hP : va_P D vwCl [(m0, .inr (12, [.int 0, m_1, m_2, m_3, m_4, m_5, m_6, m_7, m_8, m_9, m_10, .int as_, m_12, m_13, m_14, m_15, m_16, m_17, m_18, m_19, m_20, m_21, m_22, m_23, m_24, m_25, m_26, m_27, m_28, m_29, m_30, m_31, m_32, m_33, m_34, m_35, m_36, m_37, m_38, m_39, m_40, m_41, m_42, m_43, m_44, m_45, m_46, m_47, m_48, m_49, m_50, m_51, m_52, m_53, m_54, m_55, m_56, m_57, m_58, m_59]))] H := hP
  have hD : va_D A [(m0, .inr (12, [.int 0, m_1, m_2, m_3, m_4, m_5, m_6, m_7, m_8, m_9, m_10, .int as_, m_12, m_13, m_14, m_15, m_16, m_17, m_18, m_19, m_20, m_21, m_22, m_23, m_24, m_25, m_26, m_27, m_28, m_29, m_30, m_31, m_32, m_33, m_34, m_35, m_36, m_37, m_38, m_39, m_40, m_41, m_42, m_43, m_44, m_45, m_46, m_47, m_48, m_49, m_50, m_51, m_52, m_53, m_54, m_55, m_56, m_57, m_58, m_59]))] := hD
  refine lv_aload_n hx hb dX12_ash_5 rfl (lv_at hl 0 rfl) ?_
  refine va_get (ci := 12) (v := .int as_) (C := RX12) (T := TX12) (N := 60) hx hb hts hw12 hown hK hP 0 rfl rfl 11 (by decide) (hts (.fieldLink RX12 230 "SmokeTuneModel" "ash" "I") (List.mem_cons_of_mem _ (List.mem_append_left _ (List.mem_of_getElem? (i := 1) rfl)))) (fun _ h9 => h9) rfl dX12_ash_6 ?_
  rw [← hQ]
  have hP9 := hP.sub (ws' := [(m0, .inr (12, [.int 0, m_1, m_2, m_3, m_4, m_5, m_6, m_7, m_8, m_9, m_10, .int as_, m_12, m_13, m_14, m_15, m_16, m_17, m_18, m_19, m_20, m_21, m_22, m_23, m_24, m_25, m_26, m_27, m_28, m_29, m_30, m_31, m_32, m_33, m_34, m_35, m_36, m_37, m_38, m_39, m_40, m_41, m_42, m_43, m_44, m_45, m_46, m_47, m_48, m_49, m_50, m_51, m_52, m_53, m_54, m_55, m_56, m_57, m_58, m_59]))]) [0] rfl
  have hD9 := hD.sub (ws' := [(m0, .inr (12, [.int 0, m_1, m_2, m_3, m_4, m_5, m_6, m_7, m_8, m_9, m_10, .int as_, m_12, m_13, m_14, m_15, m_16, m_17, m_18, m_19, m_20, m_21, m_22, m_23, m_24, m_25, m_26, m_27, m_28, m_29, m_30, m_31, m_32, m_33, m_34, m_35, m_36, m_37, m_38, m_39, m_40, m_41, m_42, m_43, m_44, m_45, m_46, m_47, m_48, m_49, m_50, m_51, m_52, m_53, m_54, m_55, m_56, m_57, m_58, m_59]))]) [0] (by decide) rfl
  exact W.iret (v := as_) hx hb hr (fun t ht hW => ⟨⟨as_, ((fun _ => 0, fun _ => fun _ => 0, fun _ => fun _ => 0, fun _ => 0, fun _ => 0, fun _ => fun _ => none) : Su), rfl, ⟨(by first | exact rfl | assumption), trivial⟩, (⟨by rw [ht]; exact hP9, hD9⟩ : Wd D A _ t)⟩, hS.F ht⟩) hS.2.2 dX12_ash_9
