
/-! the tape: what is written, and what of it counts -/
noncomputable def pu (f : Nat → Int32) (n : Nat) (x : Int32) : Nat → Nat → Int32
  | 0 => f
  | k + 1 => upd (pu f n x k) (n + k) ((x >>> (Int32.ofInt (24 - 8 * (k : Int)) &&& 31)) &&& 255)
theorem pu_put {f g : Nat → Int32} {n len : Int} {x i sh w z : Int32} (h : g = pu f n.toNat x (len - n).toNat) (h0 : 0 ≤ n ∧ n ≤ len) (hi : i.toInt = len) (hs : 8 * (len - n) = 24 - sh.toInt) (hz : z = x >>> (sh &&& 31)) (hw : w = z &&& 255) : upd g i.toNatClampNeg w = pu f n.toNat x (len + 1 - n).toNat := by
  have e : (len + 1 - n).toNat = (len - n).toNat + 1 := by omega
  have e2 : i.toNatClampNeg = n.toNat + (len - n).toNat := by rw [i_clamp hi]; omega
  have e3 : sh = Int32.ofInt (24 - 8 * (((len - n).toNat : Nat) : Int)) := by
    rw [show (24 - 8 * (((len - n).toNat : Nat) : Int)) = sh.toInt by omega, Int32.ofInt_toInt]
  rw [e, e2, h, hw, hz, e3]
  rfl
theorem pu_rel {f g : Nat → Int32} {n : Nat} {x : Int32} (h : ∀ j, j < n → f j = g j) : ∀ k j, j < n + k → pu f n x k j = pu g n x k j := by
  intro k
  induction k with
  | zero => intro j hj; exact h j hj
  | succ k ih =>
    intro j hj
    show upd (pu f n x k) (n + k) _ j = upd (pu g n x k) (n + k) _ j
    by_cases e : j = n + k
    · subst e; rw [pk_us, pk_us]
    · rw [pk_un e, pk_un e]; exact ih j (by omega)
theorem pu_nn {f : Nat → Int32} {n : Nat} {x : Int32} (h : ∀ j, j < n → 0 ≤ (f j).toInt) : ∀ k j, j < n + k → 0 ≤ (pu f n x k j).toInt := by
  intro k
  induction k with
  | zero => intro j hj; exact h j hj
  | succ k ih =>
    intro j hj
    show 0 ≤ (upd (pu f n x k) (n + k) _ j).toInt
    by_cases e : j = n + k
    · subst e; rw [pk_us]; exact (i_mask _ 8 rfl (by decide)).1
    · rw [pk_un e]; exact ih j (by omega)
noncomputable def fe (f : Nat → Int32) (n : Nat) (x0 x1 x2 x3 x4 : Int32) : Nat → Int32 := pu (pu (pu (pu (pu f n x0 4) (n + 4) x1 4) (n + 8) x2 4) (n + 12) x3 4) (n + 16) x4 4
theorem fe_rel {f g : Nat → Int32} {n : Nat} {x0 x1 x2 x3 x4 : Int32} (h : ∀ j, j < n → f j = g j) : ∀ j, j < n + 20 → fe f n x0 x1 x2 x3 x4 j = fe g n x0 x1 x2 x3 x4 j := by
  have h1 := pu_rel (x := x0) h 4
  have h2 := pu_rel (x := x1) h1 4
  have h3 := pu_rel (x := x2) h2 4
  have h4 := pu_rel (x := x3) h3 4
  exact pu_rel (x := x4) h4 4
theorem fe_nn {f : Nat → Int32} {n : Nat} {x0 x1 x2 x3 x4 : Int32} (h : ∀ j, j < n → 0 ≤ (f j).toInt) : ∀ j, j < n + 20 → 0 ≤ (fe f n x0 x1 x2 x3 x4 j).toInt := by
  have h1 := pu_nn (x := x0) h 4
  have h2 := pu_nn (x := x1) h1 4
  have h3 := pu_nn (x := x2) h2 4
  have h4 := pu_nn (x := x3) h3 4
  exact pu_nn (x := x4) h4 4
/-- both tapes hold the same up to n -/
noncomputable def RT (f g : Nat → Int32) (n : Int) : Prop := ∀ j : Nat, (j : Int) < n → f j = g j ∧ 0 ≤ (f j).toInt
theorem RT.zero {f g : Nat → Int32} : RT f g 0 := fun j hj => absurd hj (by omega)
theorem RT.le {f g : Nat → Int32} {n m : Int} (h : RT f g n) (hn : m ≤ n) : RT f g m := fun j hj => h j (by omega)
theorem RT.feed {f g f' g' : Nat → Int32} {n m n' : Int} {x0 x1 x2 x3 x4 y0 y1 y2 y3 y4 : Int32} (h : RT f g n) (h0 : 0 ≤ n) (hm : n = m) (e0 : x0 = y0) (e1 : x1 = y1) (e2 : x2 = y2) (e3 : x3 = y3) (e4 : x4 = y4) (hf : f' = fe f n.toNat x0 x1 x2 x3 x4) (hg : g' = fe g m.toNat y0 y1 y2 y3 y4) (hn : n' = n + 20) : RT f' g' n' := by
  subst hm e0 e1 e2 e3 e4
  intro j hj
  rw [hf, hg]
  exact ⟨fe_rel (fun i hi => (h i (by omega)).1) j (by omega), fe_nn (fun i hi => (h i (by omega)).2) j (by omega)⟩
noncomputable def cnt (f : Nat → Int32) : Nat → Int
  | 0 => 0
  | k + 1 => cnt f k + (if k < 24 ∧ (f k).toInt < 128 then 1 else 0)
theorem cnt_yes {f : Nat → Int32} {k t : Int} {r : Int32} (h0 : 0 ≤ k ∧ k < 24) (hr : r = f k.toNat) (hv : r.toInt < 128) (ht : t = cnt f k.toNat) : t + 1 = cnt f (k + 1).toNat := by
  rw [show (k + 1).toNat = k.toNat + 1 by omega]
  show t + 1 = cnt f k.toNat + (if k.toNat < 24 ∧ (f k.toNat).toInt < 128 then 1 else 0)
  rw [if_pos ⟨by omega, by rw [← hr]; exact hv⟩, ← ht]
theorem cnt_no {f : Nat → Int32} {k t : Int} {r : Int32} (h0 : 0 ≤ k) (hr : r = f k.toNat) (hv : 128 ≤ r.toInt) (ht : t = cnt f k.toNat) : t = cnt f (k + 1).toNat := by
  rw [show (k + 1).toNat = k.toNat + 1 by omega]
  show t = cnt f k.toNat + (if k.toNat < 24 ∧ (f k.toNat).toInt < 128 then 1 else 0)
  rw [if_neg (fun q => absurd q.2 (by rw [← hr]; omega)), ← ht]
  omega
theorem cnt_far {f : Nat → Int32} {k t : Int} (h0 : 24 ≤ k) (ht : t = cnt f k.toNat) : t = cnt f (k + 1).toNat := by
  rw [show (k + 1).toNat = k.toNat + 1 by omega]
  show t = cnt f k.toNat + (if k.toNat < 24 ∧ (f k.toNat).toInt < 128 then 1 else 0)
  rw [if_neg (fun q => absurd q.1 (by omega)), ← ht]
  omega
theorem cnt_rel {f g : Nat → Int32} {n : Nat} (h : ∀ j, j < n → f j = g j) : cnt f n = cnt g n := by
  induction n with
  | zero => rfl
  | succ k ih =>
    show cnt f k + (if k < 24 ∧ (f k).toInt < 128 then 1 else 0) = cnt g k + (if k < 24 ∧ (g k).toInt < 128 then 1 else 0)
    rw [ih (fun j hj => h j (by omega)), h k (by omega)]
theorem RT.cnt {f g : Nat → Int32} {n m : Int} (h : RT f g n) (hm : n = m) : cnt f n.toNat = cnt g m.toNat := by
  subst hm
  exact cnt_rel (fun j hj => (h j (by omega)).1)
/-- which images are kept -/
noncomputable def KF (f g : Nat → Int32) : Prop := (f 0).toInt = (g 0).toInt ∧ (f 1).toInt = (g 1).toInt
theorem KF.upd {f g : Nat → Int32} {k m : Int} (h : KF f g) (hk : 0 ≤ k ∧ k ≤ 1) (e : k = m) : KF (upd f k.toNat 1) (upd g m.toNat 1) := by
  subst e
  rcases (show k = 0 ∨ k = 1 by omega) with rfl | rfl
  · exact ⟨by rw [show (0 : Int).toNat = 0 from rfl, pk_us, pk_us], by rw [show (0 : Int).toNat = 0 from rfl, pk_un (by decide), pk_un (by decide)]; exact h.2⟩
  · exact ⟨by rw [show (1 : Int).toNat = 1 from rfl, pk_un (by decide), pk_un (by decide)]; exact h.1, by rw [show (1 : Int).toNat = 1 from rfl, pk_us, pk_us]⟩
theorem KF.at {f g : Nat → Int32} {k m : Int} (h : KF f g) (hk : 0 ≤ k ∧ k ≤ 1) (e : k = m) : (f k.toNat).toInt = (g m.toNat).toInt := by
  subst e
  rcases (show k = 0 ∨ k = 1 by omega) with rfl | rfl
  · exact h.1
  · exact h.2
set_option maxRecDepth 100000 in
noncomputable def E_w_takeX_l3 (x : Int32) (rec_249 : Int32 → Int32 → (Nat → Int32) → (Int32 × (Nat → Int32))) (v_229 : Int32) (v_230 : Int32) (f_231 : Nat → Int32) : Int32 × (Nat → Int32) :=
  if v_229 < 0 then (((v_230, f_231) : Int32 × (Nat → Int32))) else (if 400 ≤ v_230 then (((v_230, f_231) : Int32 × (Nat → Int32))) else (Lt (x >>> (v_229 &&& 31) : Int32) (fun x_253 => Lt (x_253 &&& 255 : Int32) (fun x_254 => Lt (upd f_231 (v_230 : Int32).toNatClampNeg x_254 : Nat → Int32) (fun f_255 => Lt (v_230 + 1 : Int32) (fun x_256 => Lt (v_229 + Int32.ofInt (-8) : Int32) (fun x_257 => rec_249 x_257 x_256 f_255)))))))
set_option maxRecDepth 100000 in
noncomputable def E_w_takeX (x : Int32) (ln : Int32) (f : Nat → Int32) : Int32 × (Nat → Int32) :=
  Lp (α := Int32 → Int32 → (Nat → Int32) → (Int32 × (Nat → Int32))) (E_w_takeX_l3 x) (fun _ _ _ => ((0, fun _ => 0) : Int32 × (Nat → Int32))) (((24 : Int32).toInt - (-9) : Int).toNat + 1) 24 ln f
set_option maxHeartbeats 4000000 in
set_option maxRecDepth 100000 in
theorem w_takeX (l : Launch) (D : va_G) (K : Nat → ClassId) (a0 : Nat) (x : Int32) (a1 : Nat) (ln : Int32) (p_2 : Value) (p_3 : Value) (p_4 : Value) (p_5 : Value) (f : Nat → Int32) (sz : Nat) (zln : 0 ≤ ln.toInt ∧ ln.toInt ≤ 396) : Met l yX8_take wsX8_take ({ frames := 0, cells := 0, slots := 0, locals := 0 }) (va_Pc [.ref a0, .int x] (Pre D K [(cc_O a0 8 [.ref a1, .int ln, p_2, p_3, p_4, p_5]), (cc_l a1 (K 0) 400 f)] sz)) (va_Qv (S := Su) (fun (u : Su) => (0 ≤ (u.2.2.2.1 0).toInt ∧ (u.2.2.2.1 0).toInt ≤ 400) ∧ (((u.2.2.2.1 0), (u.2.1 0)) = E_w_takeX x ln f) ∧ (((u.2.1 0) = pu f ln.toInt.toNat x 4 ∧ (u.2.2.2.1 0).toInt = ln.toInt + 4)) ∧ True) (fun u t => Wd D (va_A [(cc_O a0 8 [.ref a1, .int ln, p_2, p_3, p_4, p_5]), (cc_l a1 (K 0) 400 f)] sz) ((fun u => [(cc_O a0 8 [.ref a1, .int (u.2.2.2.1 0), p_2, p_3, p_4, p_5]), (cc_l a1 (K 0) 400 (u.2.1 0))]) u) t) (va_A [(cc_O a0 8 [.ref a1, .int ln, p_2, p_3, p_4, p_5]), (cc_l a1 (K 0) 400 f)] sz)) 0 0 (va_A [(cc_O a0 8 [.ref a1, .int ln, p_2, p_3, p_4, p_5]), (cc_l a1 (K 0) 400 f)] sz) := by
  refine Met.ofW (cc := cX8_take) (maxL := 3) (ret := none) (by decide +kernel) rfl ?_
  intro p e s m args below meth c s₁ B hml hv
  obtain ⟨rfl, hsz, hP, hK, hD0, hN⟩ := hv
  have hx := B.exec
  have hb := B.bytes
  have hr := B.returns
  have hts := atoms_spec (ws := wsX8_take) B.pre
  have hown : s.vm.findClass RX8 = some m.cls := findClass_of_methodNamed B.named
  have hlocks := B.notSynchronized
  subst hsz
  have hD := hD0.self (sz := s.heap.size)
  generalize hAe : va_A [(cc_O a0 8 [.ref a1, .int ln, p_2, p_3, p_4, p_5]), (cc_l a1 (K 0) 400 f)] s.heap.size = A at hD ⊢
  have hA : ∀ q : Nat, s.heap.size ≤ q → A q := fun q h => by rw [← hAe]; exact Or.inr h
  clear hAe
  have hS : va_S A s.heap s.heap [] := va_S.rf
  replace hP : va_P D vwCl [(cc_O a0 8 [.ref a1, .int ln, p_2, p_3, p_4, p_5]), (cc_l a1 (K 0) 400 f)] s.heap := hP
  have hl := lv_entry [.ref a0, .int x] (n := 3) (Nat.le_of_ble_eq_true rfl)
  rw [lg_entry_eq]
  generalize (lg_sl [.ref a0, .int x] ++ List.replicate (3 - (lg_sl [.ref a0, .int x]).length) Slot.unset).toArray = ls at hl ⊢
  have hl : lv_has ls 3 [(0, .ref a0), (1, .int x)] := hl
  have hw8 : ∀ w ∈ wsX80, w ∈ wsX8_take := fun w h => (List.mem_cons_of_mem _ (List.mem_append_right _ h))
  generalize hQ : MQ below _ _ s _ _ _ = Q
  have hE := E_w_takeX.eq_def x ln f
  refine lv_bipush (v := 24) hx hb dX8_take_0 (by decide +kernel) (lv_istore_n (lv' := [(2, .int 24), (0, .ref a0), (1, .int x)]) hx hb dX8_take_2 rfl hl (by decide +kernel) rfl (fun ls hl => ?_))
  have lp_249 : ∀ (nn_ : Nat) (v_229 : Int32) (v_230 : Int32) (f_231 : Nat → Int32) (hv_229 : (-8) ≤ v_229.toInt ∧ v_229.toInt ≤ 24) (hv_230 : 0 ≤ v_230.toInt ∧ v_230.toInt ≤ 400) (hr0_lp_249 : 8 * (v_230.toInt - ln.toInt) = 24 - v_229.toInt ∧ -8 ≤ v_229.toInt) (hr1_lp_249 : f_231 = pu f ln.toInt.toNat x (v_230.toInt - ln.toInt).toNat) (hn : (v_229.toInt - (-9) : Int).toNat < nn_) (hE : E_w_takeX x ln f = Lp (α := Int32 → Int32 → (Nat → Int32) → (Int32 × (Nat → Int32))) (E_w_takeX_l3 x) (fun _ _ _ => ((0, fun _ => 0) : Int32 × (Nat → Int32))) nn_ v_229 v_230 f_231) (H : Heap) (locs : List Loc) (hP : va_P D vwCl [(cc_O a0 8 [.ref a1, .int v_230, p_2, p_3, p_4, p_5]), (cc_l a1 (K 0) 400 f_231)] H) (hD : va_D A [(cc_O a0 8 [.ref a1, .int v_230, p_2, p_3, p_4, p_5]), (cc_l a1 (K 0) 400 f_231)]) (hS : va_S A s.heap H locs) (ls : Array Slot) (hl : lv_has ls 3 [(2, .int v_229), (0, .ref a0), (1, .int x)]), W p l e ({ frames := 0, cells := 0, slots := 0, locals := 0 }) s m (([.ref a0, .int x] : List Value).toArray) below meth c H locs 0 0 Q (F0 m 3 ls []) := by
    clear hE hP hD hS hl
    intro nn_
    induction nn_ with
    | zero =>
      intro v_229 v_230 f_231 hv_229 hv_230 hr0_lp_249 hr1_lp_249 hn hE H locs hP hD hS ls hl
      exact absurd hn (Nat.not_lt_zero _)
    | succ nn_ ih_250 =>
      intro v_229 v_230 f_231 hv_229 hv_230 hr0_lp_249 hr1_lp_249 hn hE H locs hP hD hS ls hl
      replace hE : E_w_takeX x ln f = E_w_takeX_l3 x (Lp (α := Int32 → Int32 → (Nat → Int32) → (Int32 × (Nat → Int32))) (E_w_takeX_l3 x) (fun _ _ _ => ((0, fun _ => 0) : Int32 × (Nat → Int32))) nn_) v_229 v_230 f_231 := hE
      obtain ⟨rec_249, hrec_249⟩ : ∃ z9, z9 = Lp (α := Int32 → Int32 → (Nat → Int32) → (Int32 × (Nat → Int32))) (E_w_takeX_l3 x) (fun _ _ _ => ((0, fun _ => 0) : Int32 × (Nat → Int32))) nn_ := ⟨_, rfl⟩
      rw [← hrec_249] at hE
      replace hE := hE.trans (E_w_takeX_l3.eq_def _ _ _ _ _)
      refine lv_iload_n hx hb dX8_take_3 rfl (lv_at hl 0 rfl) (lv_if_lt (tgt := 49) hx hb dX8_take_4 (by decide +kernel) (fun c_251 => ?_) (fun c_251 => ?_))
      · have c_251i := i_lt (x := v_229.toInt) (y := 0) rfl rfl c_251
        replace hE := hE.trans (if_pos c_251)
        rw [← hQ]
        have hP9 := hP.sub (ws' := [(cc_O a0 8 [.ref a1, .int v_230, p_2, p_3, p_4, p_5]), (cc_l a1 (K 0) 400 f_231)]) [0, 1] rfl
        have hD9 := sub_D hP9 hD [0, 1] (by decide +kernel) rfl
        exact W.vret hx hb hr (fun t ht hW => ⟨⟨((fun _ => 0, fun i => match i with | _ => f_231, fun _ => fun _ => 0, fun i => match i with | _ => v_230, fun _ => 0, fun _ => fun _ => none) : Su), rfl, ⟨(show 0 ≤ (v_230 : Int32).toInt ∧ (v_230 : Int32).toInt ≤ 400 by omega), hE.symm, (show (f_231 = pu f ln.toInt.toNat x 4 ∧ (v_230 : Int32).toInt = ln.toInt + 4) by have q9 := hr1_lp_249; rw [show (v_230.toInt - ln.toInt).toNat = 4 by omega] at q9; exact ⟨q9, by omega⟩), trivial⟩, (⟨by rw [ht]; exact hP9, hD9⟩ : Wd D A _ t)⟩, hS.F ht⟩) hS.2.2 dX8_take_49
      · have c_251i := i_nlt (x := v_229.toInt) (y := 0) rfl rfl c_251
        replace hE := hE.trans (if_neg c_251)
        refine lv_aload_n hx hb dX8_take_7 rfl (lv_at hl 1 rfl) (va_get (ci := 8) (v := .int v_230) (C := RX8) (T := TX8) (N := 6) hx hb hts hw8 hown hK hP 0 rfl rfl 1 (by decide +kernel) (hts _ mm_X8_take_206) (fun _ h9 => h9) rfl dX8_take_8 (lv_sipush (v := 400) hx hb dX8_take_11 (by decide +kernel) (lv_icmp_ge (tgt := 49) hx hb dX8_take_14 (by decide +kernel) (fun c_252 => ?_) (fun c_252 => ?_))))
        · have c_252i := i_le (x := 400) (y := v_230.toInt) rfl rfl c_252
          replace hE := hE.trans (if_pos c_252)
          rw [← hQ]
          have hP9 := hP.sub (ws' := [(cc_O a0 8 [.ref a1, .int v_230, p_2, p_3, p_4, p_5]), (cc_l a1 (K 0) 400 f_231)]) [0, 1] rfl
          have hD9 := sub_D hP9 hD [0, 1] (by decide +kernel) rfl
          exact W.vret hx hb hr (fun t ht hW => ⟨⟨((fun _ => 0, fun i => match i with | _ => f_231, fun _ => fun _ => 0, fun i => match i with | _ => v_230, fun _ => 0, fun _ => fun _ => none) : Su), rfl, ⟨(show 0 ≤ (v_230 : Int32).toInt ∧ (v_230 : Int32).toInt ≤ 400 by omega), hE.symm, (show (f_231 = pu f ln.toInt.toNat x 4 ∧ (v_230 : Int32).toInt = ln.toInt + 4) by have q9 := hr1_lp_249; rw [show (v_230.toInt - ln.toInt).toNat = 4 by omega] at q9; exact ⟨q9, by omega⟩), trivial⟩, (⟨by rw [ht]; exact hP9, hD9⟩ : Wd D A _ t)⟩, hS.F ht⟩) hS.2.2 dX8_take_49
        · have c_252i := i_nle (x := 400) (y := v_230.toInt) rfl rfl c_252
          replace hE := hE.trans (if_neg c_252)
          refine lv_aload_n hx hb dX8_take_17 rfl (lv_at hl 1 rfl) (va_get (ci := 8) (v := .ref a1) (C := RX8) (T := TX8) (N := 6) hx hb hts hw8 hown hK hP 0 rfl rfl 0 (by decide +kernel) (hts _ mm_X8_take_205) (fun _ h9 => h9) rfl dX8_take_18 (lv_aload_n hx hb dX8_take_21 rfl (lv_at hl 1 rfl) (va_get (ci := 8) (v := .int v_230) (C := RX8) (T := TX8) (N := 6) hx hb hts hw8 hown hK hP 0 rfl rfl 1 (by decide +kernel) (hts _ mm_X8_take_206) (fun _ h9 => h9) rfl dX8_take_22 (lv_iload_n hx hb dX8_take_25 rfl (lv_at hl 2 rfl) (lv_iload_n hx hb dX8_take_26 rfl (lv_at hl 0 rfl) (lv_ishr hx hb dX8_take_27 (lv_topi (fun x_253 ex_253 => ?_))))))))
          replace hE := hE.trans (Lt_in ex_253)
          refine lv_sipush (v := 255) hx hb dX8_take_28 (by decide +kernel) (lv_iand hx hb dX8_take_31 (lv_topi (fun x_254 ex_254 => ?_)))
          replace hE := hE.trans (Lt_in ex_254)
          have hx_254 : 0 ≤ x_254.toInt ∧ x_254.toInt ≤ 255 := by rw [ex_254]; exact i_mask x_253 8 rfl (by decide +kernel)
          refine va_iast hx hb hK hP hD hS 1 0 rfl rfl (i_in rfl (by omega)) dX8_take_32 (fun H locs hP0 hD0 hS0 => ?_)
          replace hP := hP0
          replace hD := hD0
          replace hS := hS0
          clear hP0 hD0 hS0
          generalize hf_255 : (upd f_231 (v_230 : Int32).toNatClampNeg x_254) = f_255 at hP hD
          replace hE := hE.trans (Lt_in hf_255.symm)
          replace hP : va_P D vwCl [(cc_O a0 8 [.ref a1, .int v_230, p_2, p_3, p_4, p_5]), (cc_l a1 (K 0) 400 f_255)] H := hP
          replace hD := as_D hP hD rfl
          refine lv_aload_n hx hb dX8_take_33 rfl (lv_at hl 1 rfl) (lv_dup hx hb dX8_take_34 rfl (va_get (ci := 8) (v := .int v_230) (C := RX8) (T := TX8) (N := 6) hx hb hts hw8 hown hK hP 0 rfl rfl 1 (by decide +kernel) (hts _ mm_X8_take_206) (fun _ h9 => h9) rfl dX8_take_35 (lv_iconst (v := 1) hx hb dX8_take_38 (by decide +kernel) (lv_iadd hx hb dX8_take_39 (lv_topi (fun x_256 ex_256 => ?_))))))
          replace hE := hE.trans (Lt_in ex_256)
          have hx_256 : x_256.toInt = (v_230.toInt + 1) := by rw [ex_256]; exact i_add rfl (show (1 : Int32).toInt = 1 from rfl) (by omega)
          refine va_put (ci := 8) (v := .int x_256) (ty := .int) (C := RX8) (T := TX8) (N := 6) hx hb hts hw8 tyX8 tyX8_ok nmX8 hown hK hP hD hS 0 rfl rfl 1 (by decide +kernel) (hts _ mm_X8_take_206) (fun _ h9 => h9) rfl (by decide +kernel) (by first | rfl | decide) (by first | rfl | decide) (Nat.le_of_ble_eq_true rfl) dX8_take_40 (fun H locs hP0 hD0 hS0 => ?_)
          replace hP : va_P D vwCl [(cc_O a0 8 [.ref a1, .int x_256, p_2, p_3, p_4, p_5]), (cc_l a1 (K 0) 400 f_255)] H := hP0
          replace hD := as_D hP hD0 rfl
          replace hS := hS0
          clear hP0 hD0 hS0
          obtain ⟨x_257, ex_257⟩ : ∃ y : Int32, y = v_229 + Int32.ofInt (-8) := ⟨_, rfl⟩
          replace hE := hE.trans (Lt_in ex_257)
          have hx_257 : x_257.toInt = (v_229.toInt + (-8)) := by rw [ex_257]; exact i_add rfl (show (Int32.ofInt (-8)).toInt = (-8) from rfl) (by omega)
          refine lv_iinc (v := x_257) (lv' := [(2, .int x_257), (0, .ref a0), (1, .int x)]) hx hb dX8_take_43 hl (k := 0) rfl (by rw [ex_257]) (by decide +kernel) rfl (fun ls hl => ?_)
          refine lv_goto (tgt := 3) hx hb dX8_take_46 (by decide +kernel) ?_
          exact ih_250 x_257 x_256 f_255 (by rw [hx_257]; omega) (by rw [hx_256]; omega) (show 8 * ((x_256 : Int32).toInt - ln.toInt) = 24 - (x_257 : Int32).toInt ∧ -8 ≤ (x_257 : Int32).toInt by omega) (show f_255 = pu f ln.toInt.toNat x ((x_256 : Int32).toInt - ln.toInt).toNat by rw [hx_256, ← hf_255]; exact pu_put hr1_lp_249 (by omega) rfl (by omega) ex_253 ex_254) (by omega) (hE.trans (by rw [hrec_249])) _ _ hP hD hS ls (lv_sub hl [0, 1, 2] rfl)
  have hz_258 : (24 : Int32).toInt = 24 := rfl
  exact lp_249 (((24 : Int32).toInt - (-9) : Int).toNat + 1) 24 ln f (by decide +kernel) (by omega) (show 8 * ((ln : Int32).toInt - ln.toInt) = 24 - (24 : Int32).toInt ∧ -8 ≤ (24 : Int32).toInt by omega) (show f = pu f ln.toInt.toNat x ((ln : Int32).toInt - ln.toInt).toNat by rw [Int.sub_self]; rfl) (Nat.lt_succ_self _) hE _ _ hP hD hS ls (lv_sub hl [0, 1, 2] rfl)
set_option maxRecDepth 100000 in
noncomputable def E_v_fourX_l3 (x : Int32) (rec_202 : Int32 → Int32 → (Nat → Int32) → (Int32 × (Nat → Int32))) (v_184 : Int32) (v_185 : Int32) (f_186 : Nat → Int32) : Int32 × (Nat → Int32) :=
  if v_184 < 0 then (((v_185, f_186) : Int32 × (Nat → Int32))) else (Lt (x >>> (v_184 &&& 31) : Int32) (fun x_205 => Lt (x_205 &&& 255 : Int32) (fun x_206 => Lt (upd f_186 (v_185 : Int32).toNatClampNeg x_206 : Nat → Int32) (fun f_207 => Lt (v_185 + 1 : Int32) (fun x_208 => Lt (v_184 + Int32.ofInt (-8) : Int32) (fun x_209 => rec_202 x_209 x_208 f_207))))))
set_option maxRecDepth 100000 in
noncomputable def E_v_fourX (x : Int32) (ta : Int32) (ft : Nat → Int32) : Int32 × (Nat → Int32) :=
  Lp (α := Int32 → Int32 → (Nat → Int32) → (Int32 × (Nat → Int32))) (E_v_fourX_l3 x) (fun _ _ _ => ((0, fun _ => 0) : Int32 × (Nat → Int32))) (((24 : Int32).toInt - (-9) : Int).toNat + 1) 24 ta ft
set_option maxHeartbeats 4000000 in
set_option maxRecDepth 100000 in
theorem v_fourX (l : Launch) (D : va_G) (K : Nat → ClassId) (m0 : Nat) (x : Int32) (m_0 : Value) (m_1 : Value) (m_2 : Value) (m_3 : Value) (m_4 : Value) (m_5 : Value) (m_6 : Value) (m_7 : Value) (m_8 : Value) (m_9 : Value) (m_10 : Value) (m_11 : Value) (t0 : Nat) (ta : Int32) (m_14 : Value) (m_15 : Value) (m_16 : Value) (m_17 : Value) (m_18 : Value) (m_19 : Value) (m_20 : Value) (m_21 : Value) (m_22 : Value) (m_23 : Value) (m_24 : Value) (m_25 : Value) (m_26 : Value) (m_27 : Value) (m_28 : Value) (m_29 : Value) (m_30 : Value) (m_31 : Value) (m_32 : Value) (m_33 : Value) (m_34 : Value) (m_35 : Value) (m_36 : Value) (m_37 : Value) (m_38 : Value) (m_39 : Value) (m_40 : Value) (m_41 : Value) (m_42 : Value) (m_43 : Value) (m_44 : Value) (m_45 : Value) (m_46 : Value) (m_47 : Value) (m_48 : Value) (m_49 : Value) (m_50 : Value) (m_51 : Value) (m_52 : Value) (m_53 : Value) (m_54 : Value) (m_55 : Value) (m_56 : Value) (m_57 : Value) (m_58 : Value) (m_59 : Value) (ft : Nat → Int32) (sz : Nat) (zta : 0 ≤ ta.toInt ∧ ta.toInt ≤ 396) : Met l yX12_four wsX12_four ({ frames := 0, cells := 0, slots := 0, locals := 0 }) (va_Pc [.ref m0, .int x] (Pre D K [(cc_O m0 12 [m_0, m_1, m_2, m_3, m_4, m_5, m_6, m_7, m_8, m_9, m_10, m_11, .ref t0, .int ta, m_14, m_15, m_16, m_17, m_18, m_19, m_20, m_21, m_22, m_23, m_24, m_25, m_26, m_27, m_28, m_29, m_30, m_31, m_32, m_33, m_34, m_35, m_36, m_37, m_38, m_39, m_40, m_41, m_42, m_43, m_44, m_45, m_46, m_47, m_48, m_49, m_50, m_51, m_52, m_53, m_54, m_55, m_56, m_57, m_58, m_59]), (cc_l t0 (K 0) 400 ft)] sz)) (va_Qv (S := Su) (fun (u : Su) => (0 ≤ (u.2.2.2.1 0).toInt ∧ (u.2.2.2.1 0).toInt ≤ 400) ∧ (((u.2.2.2.1 0), (u.2.1 0)) = E_v_fourX x ta ft) ∧ (((u.2.1 0) = pu ft ta.toInt.toNat x 4 ∧ (u.2.2.2.1 0).toInt = ta.toInt + 4)) ∧ True) (fun u t => Wd D (va_A [(cc_O m0 12 [m_0, m_1, m_2, m_3, m_4, m_5, m_6, m_7, m_8, m_9, m_10, m_11, .ref t0, .int ta, m_14, m_15, m_16, m_17, m_18, m_19, m_20, m_21, m_22, m_23, m_24, m_25, m_26, m_27, m_28, m_29, m_30, m_31, m_32, m_33, m_34, m_35, m_36, m_37, m_38, m_39, m_40, m_41, m_42, m_43, m_44, m_45, m_46, m_47, m_48, m_49, m_50, m_51, m_52, m_53, m_54, m_55, m_56, m_57, m_58, m_59]), (cc_l t0 (K 0) 400 ft)] sz) ((fun u => [(cc_O m0 12 [m_0, m_1, m_2, m_3, m_4, m_5, m_6, m_7, m_8, m_9, m_10, m_11, .ref t0, .int (u.2.2.2.1 0), m_14, m_15, m_16, m_17, m_18, m_19, m_20, m_21, m_22, m_23, m_24, m_25, m_26, m_27, m_28, m_29, m_30, m_31, m_32, m_33, m_34, m_35, m_36, m_37, m_38, m_39, m_40, m_41, m_42, m_43, m_44, m_45, m_46, m_47, m_48, m_49, m_50, m_51, m_52, m_53, m_54, m_55, m_56, m_57, m_58, m_59]), (cc_l t0 (K 0) 400 (u.2.1 0))]) u) t) (va_A [(cc_O m0 12 [m_0, m_1, m_2, m_3, m_4, m_5, m_6, m_7, m_8, m_9, m_10, m_11, .ref t0, .int ta, m_14, m_15, m_16, m_17, m_18, m_19, m_20, m_21, m_22, m_23, m_24, m_25, m_26, m_27, m_28, m_29, m_30, m_31, m_32, m_33, m_34, m_35, m_36, m_37, m_38, m_39, m_40, m_41, m_42, m_43, m_44, m_45, m_46, m_47, m_48, m_49, m_50, m_51, m_52, m_53, m_54, m_55, m_56, m_57, m_58, m_59]), (cc_l t0 (K 0) 400 ft)] sz)) 0 0 (va_A [(cc_O m0 12 [m_0, m_1, m_2, m_3, m_4, m_5, m_6, m_7, m_8, m_9, m_10, m_11, .ref t0, .int ta, m_14, m_15, m_16, m_17, m_18, m_19, m_20, m_21, m_22, m_23, m_24, m_25, m_26, m_27, m_28, m_29, m_30, m_31, m_32, m_33, m_34, m_35, m_36, m_37, m_38, m_39, m_40, m_41, m_42, m_43, m_44, m_45, m_46, m_47, m_48, m_49, m_50, m_51, m_52, m_53, m_54, m_55, m_56, m_57, m_58, m_59]), (cc_l t0 (K 0) 400 ft)] sz) := by
  refine Met.ofW (cc := cX12_four) (maxL := 3) (ret := none) (by decide +kernel) rfl ?_
  intro p e s m args below meth c s₁ B hml hv
  obtain ⟨rfl, hsz, hP, hK, hD0, hN⟩ := hv
  have hx := B.exec
  have hb := B.bytes
  have hr := B.returns
  have hts := atoms_spec (ws := wsX12_four) B.pre
  have hown : s.vm.findClass RX12 = some m.cls := findClass_of_methodNamed B.named
  have hlocks := B.notSynchronized
  subst hsz
  have hD := hD0.self (sz := s.heap.size)
  generalize hAe : va_A [(cc_O m0 12 [m_0, m_1, m_2, m_3, m_4, m_5, m_6, m_7, m_8, m_9, m_10, m_11, .ref t0, .int ta, m_14, m_15, m_16, m_17, m_18, m_19, m_20, m_21, m_22, m_23, m_24, m_25, m_26, m_27, m_28, m_29, m_30, m_31, m_32, m_33, m_34, m_35, m_36, m_37, m_38, m_39, m_40, m_41, m_42, m_43, m_44, m_45, m_46, m_47, m_48, m_49, m_50, m_51, m_52, m_53, m_54, m_55, m_56, m_57, m_58, m_59]), (cc_l t0 (K 0) 400 ft)] s.heap.size = A at hD ⊢
  have hA : ∀ q : Nat, s.heap.size ≤ q → A q := fun q h => by rw [← hAe]; exact Or.inr h
  clear hAe
  have hS : va_S A s.heap s.heap [] := va_S.rf
  replace hP : va_P D vwCl [(cc_O m0 12 [m_0, m_1, m_2, m_3, m_4, m_5, m_6, m_7, m_8, m_9, m_10, m_11, .ref t0, .int ta, m_14, m_15, m_16, m_17, m_18, m_19, m_20, m_21, m_22, m_23, m_24, m_25, m_26, m_27, m_28, m_29, m_30, m_31, m_32, m_33, m_34, m_35, m_36, m_37, m_38, m_39, m_40, m_41, m_42, m_43, m_44, m_45, m_46, m_47, m_48, m_49, m_50, m_51, m_52, m_53, m_54, m_55, m_56, m_57, m_58, m_59]), (cc_l t0 (K 0) 400 ft)] s.heap := hP
  have hl := lv_entry [.ref m0, .int x] (n := 3) (Nat.le_of_ble_eq_true rfl)
  rw [lg_entry_eq]
  generalize (lg_sl [.ref m0, .int x] ++ List.replicate (3 - (lg_sl [.ref m0, .int x]).length) Slot.unset).toArray = ls at hl ⊢
  have hl : lv_has ls 3 [(0, .ref m0), (1, .int x)] := hl
  have hw12 : ∀ w ∈ wsX120, w ∈ wsX12_four := fun w h => (List.mem_cons_of_mem _ (List.mem_append_right _ h))
  generalize hQ : MQ below _ _ s _ _ _ = Q
  have hE := E_v_fourX.eq_def x ta ft
  refine lv_bipush (v := 24) hx hb dX12_four_0 (by decide +kernel) (lv_istore_n (lv' := [(2, .int 24), (0, .ref m0), (1, .int x)]) hx hb dX12_four_2 rfl hl (by decide +kernel) rfl (fun ls hl => ?_))
  have lp_202 : ∀ (nn_ : Nat) (v_184 : Int32) (v_185 : Int32) (f_186 : Nat → Int32) (hv_184 : (-8) ≤ v_184.toInt ∧ v_184.toInt ≤ 24) (hv_185 : 0 ≤ v_185.toInt ∧ v_185.toInt ≤ 400) (hr0_lp_202 : 8 * (v_185.toInt - ta.toInt) = 24 - v_184.toInt ∧ -8 ≤ v_184.toInt) (hr1_lp_202 : f_186 = pu ft ta.toInt.toNat x (v_185.toInt - ta.toInt).toNat) (hn : (v_184.toInt - (-9) : Int).toNat < nn_) (hE : E_v_fourX x ta ft = Lp (α := Int32 → Int32 → (Nat → Int32) → (Int32 × (Nat → Int32))) (E_v_fourX_l3 x) (fun _ _ _ => ((0, fun _ => 0) : Int32 × (Nat → Int32))) nn_ v_184 v_185 f_186) (H : Heap) (locs : List Loc) (hP : va_P D vwCl [(cc_O m0 12 [m_0, m_1, m_2, m_3, m_4, m_5, m_6, m_7, m_8, m_9, m_10, m_11, .ref t0, .int v_185, m_14, m_15, m_16, m_17, m_18, m_19, m_20, m_21, m_22, m_23, m_24, m_25, m_26, m_27, m_28, m_29, m_30, m_31, m_32, m_33, m_34, m_35, m_36, m_37, m_38, m_39, m_40, m_41, m_42, m_43, m_44, m_45, m_46, m_47, m_48, m_49, m_50, m_51, m_52, m_53, m_54, m_55, m_56, m_57, m_58, m_59]), (cc_l t0 (K 0) 400 f_186)] H) (hD : va_D A [(cc_O m0 12 [m_0, m_1, m_2, m_3, m_4, m_5, m_6, m_7, m_8, m_9, m_10, m_11, .ref t0, .int v_185, m_14, m_15, m_16, m_17, m_18, m_19, m_20, m_21, m_22, m_23, m_24, m_25, m_26, m_27, m_28, m_29, m_30, m_31, m_32, m_33, m_34, m_35, m_36, m_37, m_38, m_39, m_40, m_41, m_42, m_43, m_44, m_45, m_46, m_47, m_48, m_49, m_50, m_51, m_52, m_53, m_54, m_55, m_56, m_57, m_58, m_59]), (cc_l t0 (K 0) 400 f_186)]) (hS : va_S A s.heap H locs) (ls : Array Slot) (hl : lv_has ls 3 [(2, .int v_184), (0, .ref m0), (1, .int x)]), W p l e ({ frames := 0, cells := 0, slots := 0, locals := 0 }) s m (([.ref m0, .int x] : List Value).toArray) below meth c H locs 0 0 Q (F0 m 3 ls []) := by
    clear hE hP hD hS hl
    intro nn_
    induction nn_ with
    | zero =>
      intro v_184 v_185 f_186 hv_184 hv_185 hr0_lp_202 hr1_lp_202 hn hE H locs hP hD hS ls hl
      exact absurd hn (Nat.not_lt_zero _)
    | succ nn_ ih_203 =>
      intro v_184 v_185 f_186 hv_184 hv_185 hr0_lp_202 hr1_lp_202 hn hE H locs hP hD hS ls hl
      replace hE : E_v_fourX x ta ft = E_v_fourX_l3 x (Lp (α := Int32 → Int32 → (Nat → Int32) → (Int32 × (Nat → Int32))) (E_v_fourX_l3 x) (fun _ _ _ => ((0, fun _ => 0) : Int32 × (Nat → Int32))) nn_) v_184 v_185 f_186 := hE
      obtain ⟨rec_202, hrec_202⟩ : ∃ z9, z9 = Lp (α := Int32 → Int32 → (Nat → Int32) → (Int32 × (Nat → Int32))) (E_v_fourX_l3 x) (fun _ _ _ => ((0, fun _ => 0) : Int32 × (Nat → Int32))) nn_ := ⟨_, rfl⟩
      rw [← hrec_202] at hE
      replace hE := hE.trans (E_v_fourX_l3.eq_def _ _ _ _ _)
      refine lv_iload_n hx hb dX12_four_3 rfl (lv_at hl 0 rfl) (lv_if_lt (tgt := 39) hx hb dX12_four_4 (by decide +kernel) (fun c_204 => ?_) (fun c_204 => ?_))
      · have c_204i := i_lt (x := v_184.toInt) (y := 0) rfl rfl c_204
        replace hE := hE.trans (if_pos c_204)
        rw [← hQ]
        have hP9 := hP.sub (ws' := [(cc_O m0 12 [m_0, m_1, m_2, m_3, m_4, m_5, m_6, m_7, m_8, m_9, m_10, m_11, .ref t0, .int v_185, m_14, m_15, m_16, m_17, m_18, m_19, m_20, m_21, m_22, m_23, m_24, m_25, m_26, m_27, m_28, m_29, m_30, m_31, m_32, m_33, m_34, m_35, m_36, m_37, m_38, m_39, m_40, m_41, m_42, m_43, m_44, m_45, m_46, m_47, m_48, m_49, m_50, m_51, m_52, m_53, m_54, m_55, m_56, m_57, m_58, m_59]), (cc_l t0 (K 0) 400 f_186)]) [0, 1] rfl
        have hD9 := sub_D hP9 hD [0, 1] (by decide +kernel) rfl
        exact W.vret hx hb hr (fun t ht hW => ⟨⟨((fun _ => 0, fun i => match i with | _ => f_186, fun _ => fun _ => 0, fun i => match i with | _ => v_185, fun _ => 0, fun _ => fun _ => none) : Su), rfl, ⟨(show 0 ≤ (v_185 : Int32).toInt ∧ (v_185 : Int32).toInt ≤ 400 by omega), hE.symm, (show (f_186 = pu ft ta.toInt.toNat x 4 ∧ (v_185 : Int32).toInt = ta.toInt + 4) by have q9 := hr1_lp_202; rw [show (v_185.toInt - ta.toInt).toNat = 4 by omega] at q9; exact ⟨q9, by omega⟩), trivial⟩, (⟨by rw [ht]; exact hP9, hD9⟩ : Wd D A _ t)⟩, hS.F ht⟩) hS.2.2 dX12_four_39
      · have c_204i := i_nlt (x := v_184.toInt) (y := 0) rfl rfl c_204
        replace hE := hE.trans (if_neg c_204)
        refine lv_aload_n hx hb dX12_four_7 rfl (lv_at hl 1 rfl) (va_get (ci := 12) (v := .ref t0) (C := RX12) (T := TX12) (N := 60) hx hb hts hw12 hown hK hP 0 rfl rfl 12 (by decide +kernel) (hts _ mm_X12_four_842) (fun _ h9 => h9) rfl dX12_four_8 (lv_aload_n hx hb dX12_four_11 rfl (lv_at hl 1 rfl) (va_get (ci := 12) (v := .int v_185) (C := RX12) (T := TX12) (N := 60) hx hb hts hw12 hown hK hP 0 rfl rfl 13 (by decide +kernel) (hts _ mm_X12_four_843) (fun _ h9 => h9) rfl dX12_four_12 (lv_iload_n hx hb dX12_four_15 rfl (lv_at hl 2 rfl) (lv_iload_n hx hb dX12_four_16 rfl (lv_at hl 0 rfl) (lv_ishr hx hb dX12_four_17 (lv_topi (fun x_205 ex_205 => ?_))))))))
        replace hE := hE.trans (Lt_in ex_205)
        refine lv_sipush (v := 255) hx hb dX12_four_18 (by decide +kernel) (lv_iand hx hb dX12_four_21 (lv_topi (fun x_206 ex_206 => ?_)))
        replace hE := hE.trans (Lt_in ex_206)
        have hx_206 : 0 ≤ x_206.toInt ∧ x_206.toInt ≤ 255 := by rw [ex_206]; exact i_mask x_205 8 rfl (by decide +kernel)
        refine va_iast hx hb hK hP hD hS 1 0 rfl rfl (i_in rfl (by omega)) dX12_four_22 (fun H locs hP0 hD0 hS0 => ?_)
        replace hP := hP0
        replace hD := hD0
        replace hS := hS0
        clear hP0 hD0 hS0
        generalize hf_207 : (upd f_186 (v_185 : Int32).toNatClampNeg x_206) = f_207 at hP hD
        replace hE := hE.trans (Lt_in hf_207.symm)
        replace hP : va_P D vwCl [(cc_O m0 12 [m_0, m_1, m_2, m_3, m_4, m_5, m_6, m_7, m_8, m_9, m_10, m_11, .ref t0, .int v_185, m_14, m_15, m_16, m_17, m_18, m_19, m_20, m_21, m_22, m_23, m_24, m_25, m_26, m_27, m_28, m_29, m_30, m_31, m_32, m_33, m_34, m_35, m_36, m_37, m_38, m_39, m_40, m_41, m_42, m_43, m_44, m_45, m_46, m_47, m_48, m_49, m_50, m_51, m_52, m_53, m_54, m_55, m_56, m_57, m_58, m_59]), (cc_l t0 (K 0) 400 f_207)] H := hP
        replace hD := as_D hP hD rfl
        refine lv_aload_n hx hb dX12_four_23 rfl (lv_at hl 1 rfl) (lv_dup hx hb dX12_four_24 rfl (va_get (ci := 12) (v := .int v_185) (C := RX12) (T := TX12) (N := 60) hx hb hts hw12 hown hK hP 0 rfl rfl 13 (by decide +kernel) (hts _ mm_X12_four_843) (fun _ h9 => h9) rfl dX12_four_25 (lv_iconst (v := 1) hx hb dX12_four_28 (by decide +kernel) (lv_iadd hx hb dX12_four_29 (lv_topi (fun x_208 ex_208 => ?_))))))
        replace hE := hE.trans (Lt_in ex_208)
        have hx_208 : x_208.toInt = (v_185.toInt + 1) := by rw [ex_208]; exact i_add rfl (show (1 : Int32).toInt = 1 from rfl) (by omega)
        refine va_put (ci := 12) (v := .int x_208) (ty := .int) (C := RX12) (T := TX12) (N := 60) hx hb hts hw12 tyX12 tyX12_ok nmX12 hown hK hP hD hS 0 rfl rfl 13 (by decide +kernel) (hts _ mm_X12_four_843) (fun _ h9 => h9) rfl (by decide +kernel) (by first | rfl | decide) (by first | rfl | decide) (Nat.le_of_ble_eq_true rfl) dX12_four_30 (fun H locs hP0 hD0 hS0 => ?_)
        replace hP : va_P D vwCl [(cc_O m0 12 [m_0, m_1, m_2, m_3, m_4, m_5, m_6, m_7, m_8, m_9, m_10, m_11, .ref t0, .int x_208, m_14, m_15, m_16, m_17, m_18, m_19, m_20, m_21, m_22, m_23, m_24, m_25, m_26, m_27, m_28, m_29, m_30, m_31, m_32, m_33, m_34, m_35, m_36, m_37, m_38, m_39, m_40, m_41, m_42, m_43, m_44, m_45, m_46, m_47, m_48, m_49, m_50, m_51, m_52, m_53, m_54, m_55, m_56, m_57, m_58, m_59]), (cc_l t0 (K 0) 400 f_207)] H := hP0
        replace hD := as_D hP hD0 rfl
        replace hS := hS0
        clear hP0 hD0 hS0
        obtain ⟨x_209, ex_209⟩ : ∃ y : Int32, y = v_184 + Int32.ofInt (-8) := ⟨_, rfl⟩
        replace hE := hE.trans (Lt_in ex_209)
        have hx_209 : x_209.toInt = (v_184.toInt + (-8)) := by rw [ex_209]; exact i_add rfl (show (Int32.ofInt (-8)).toInt = (-8) from rfl) (by omega)
        refine lv_iinc (v := x_209) (lv' := [(2, .int x_209), (0, .ref m0), (1, .int x)]) hx hb dX12_four_33 hl (k := 0) rfl (by rw [ex_209]) (by decide +kernel) rfl (fun ls hl => ?_)
        refine lv_goto (tgt := 3) hx hb dX12_four_36 (by decide +kernel) ?_
        exact ih_203 x_209 x_208 f_207 (by rw [hx_209]; omega) (by rw [hx_208]; omega) (show 8 * ((x_208 : Int32).toInt - ta.toInt) = 24 - (x_209 : Int32).toInt ∧ -8 ≤ (x_209 : Int32).toInt by omega) (show f_207 = pu ft ta.toInt.toNat x ((x_208 : Int32).toInt - ta.toInt).toNat by rw [hx_208, ← hf_207]; exact pu_put hr1_lp_202 (by omega) rfl (by omega) ex_205 ex_206) (by omega) (hE.trans (by rw [hrec_202])) _ _ hP hD hS ls (lv_sub hl [0, 1, 2] rfl)
  have hz_210 : (24 : Int32).toInt = 24 := rfl
  exact lp_202 (((24 : Int32).toInt - (-9) : Int).toNat + 1) 24 ta ft (by decide +kernel) (by omega) (show 8 * ((ta : Int32).toInt - ta.toInt) = 24 - (24 : Int32).toInt ∧ -8 ≤ (24 : Int32).toInt by omega) (show ft = pu ft ta.toInt.toNat x ((ta : Int32).toInt - ta.toInt).toNat by rw [Int.sub_self]; rfl) (Nat.lt_succ_self _) hE _ _ hP hD hS ls (lv_sub hl [0, 1, 2] rfl)
set_option maxRecDepth 100000 in
noncomputable def E_w_feedX (x0 : Int32) (x1 : Int32) (x2 : Int32) (x3 : Int32) (x4 : Int32) (ln : Int32) (fb : Nat → Int32) : Int32 × Int32 × (Nat → Int32) :=
  Lt (ln + 20 : Int32) (fun x_115 => if x_115 ≤ 400 then (Lt2 (E_w_takeX x0 ln fb) (fun u_118_2_2_2_1_0 u_118_2_1_0 => Lt2 (E_w_takeX x1 u_118_2_2_2_1_0 u_118_2_1_0) (fun u_123_2_2_2_1_0 u_123_2_1_0 => Lt2 (E_w_takeX x2 u_123_2_2_2_1_0 u_123_2_1_0) (fun u_128_2_2_2_1_0 u_128_2_1_0 => Lt2 (E_w_takeX x3 u_128_2_2_2_1_0 u_128_2_1_0) (fun u_133_2_2_2_1_0 u_133_2_1_0 => Lt2 (E_w_takeX x4 u_133_2_2_2_1_0 u_133_2_1_0) (fun u_138_2_2_2_1_0 u_138_2_1_0 => ((u_138_2_2_2_1_0, u_138_2_2_2_1_0, u_138_2_1_0) : Int32 × Int32 × (Nat → Int32)))))))) else ((((-1), ln, fb) : Int32 × Int32 × (Nat → Int32))))
set_option maxHeartbeats 4000000 in
set_option maxRecDepth 100000 in
theorem w_feedX (l : Launch) (D : va_G) (K : Nat → ClassId) (o0 : Nat) (x0 : Int32) (x1 : Int32) (x2 : Int32) (x3 : Int32) (x4 : Int32) (o_0 : Value) (o_1 : Value) (o_2 : Value) (o_3 : Value) (o_4 : Value) (p0 : Nat) (o_6 : Value) (o_7 : Value) (o_8 : Value) (o_9 : Value) (o_10 : Value) (o_11 : Value) (o_12 : Value) (o_13 : Value) (o_14 : Value) (o_15 : Value) (o_16 : Value) (p1 : Nat) (ln : Int32) (p_2 : Value) (p_3 : Value) (p_4 : Value) (p_5 : Value) (fb : Nat → Int32) (sz : Nat) (zln : 0 ≤ ln.toInt ∧ ln.toInt ≤ 400) : Met l yX11_feed wsX11_feed ({ frames := 1, cells := 0, slots := 0, locals := 22 }) (va_Pc [.ref o0, .int x0, .int x1, .int x2, .int x3, .int x4] (Pre D K [(cc_O o0 11 [o_0, o_1, o_2, o_3, o_4, .ref p0, o_6, o_7, o_8, o_9, o_10, o_11, o_12, o_13, o_14, o_15, o_16]), (cc_O p0 8 [.ref p1, .int ln, p_2, p_3, p_4, p_5]), (cc_l p1 (K 0) 400 fb)] sz)) (va_Qi (S := Su) (fun (r : Int32) (u : Su) => ((-1) ≤ r.toInt ∧ r.toInt ≤ 400) ∧ (0 ≤ (u.2.2.2.1 0).toInt ∧ (u.2.2.2.1 0).toInt ≤ 400) ∧ ((r, (u.2.2.2.1 0), (u.2.1 0)) = E_w_feedX x0 x1 x2 x3 x4 ln fb) ∧ (((400 < ln.toInt + 20 ∧ (u.2.2.2.1 0).toInt = ln.toInt ∧ r.toInt = -1 ∧ (u.2.1 0) = fb) ∨ (ln.toInt + 20 ≤ 400 ∧ (u.2.2.2.1 0).toInt = ln.toInt + 20 ∧ r.toInt = ln.toInt + 20 ∧ (u.2.1 0) = fe fb ln.toInt.toNat x0 x1 x2 x3 x4))) ∧ True) (fun u t => Wd D (va_A [(cc_O o0 11 [o_0, o_1, o_2, o_3, o_4, .ref p0, o_6, o_7, o_8, o_9, o_10, o_11, o_12, o_13, o_14, o_15, o_16]), (cc_O p0 8 [.ref p1, .int ln, p_2, p_3, p_4, p_5]), (cc_l p1 (K 0) 400 fb)] sz) ((fun u => [(cc_O o0 11 [o_0, o_1, o_2, o_3, o_4, .ref p0, o_6, o_7, o_8, o_9, o_10, o_11, o_12, o_13, o_14, o_15, o_16]), (cc_O p0 8 [.ref p1, .int (u.2.2.2.1 0), p_2, p_3, p_4, p_5]), (cc_l p1 (K 0) 400 (u.2.1 0))]) u) t) (va_A [(cc_O o0 11 [o_0, o_1, o_2, o_3, o_4, .ref p0, o_6, o_7, o_8, o_9, o_10, o_11, o_12, o_13, o_14, o_15, o_16]), (cc_O p0 8 [.ref p1, .int ln, p_2, p_3, p_4, p_5]), (cc_l p1 (K 0) 400 fb)] sz)) 0 0 (va_A [(cc_O o0 11 [o_0, o_1, o_2, o_3, o_4, .ref p0, o_6, o_7, o_8, o_9, o_10, o_11, o_12, o_13, o_14, o_15, o_16]), (cc_O p0 8 [.ref p1, .int ln, p_2, p_3, p_4, p_5]), (cc_l p1 (K 0) 400 fb)] sz) := by
  refine Met.ofW (cc := cX11_feed) (maxL := 6) (ret := (some .int)) (by decide +kernel) rfl ?_
  intro p e s m args below meth c s₁ B hml hv
  obtain ⟨rfl, hsz, hP, hK, hD0, hN⟩ := hv
  have hx := B.exec
  have hb := B.bytes
  have hr := B.returns
  have hts := atoms_spec (ws := wsX11_feed) B.pre
  have hown : s.vm.findClass RX11 = some m.cls := findClass_of_methodNamed B.named
  have hlocks := B.notSynchronized
  subst hsz
  have hD := hD0.self (sz := s.heap.size)
  generalize hAe : va_A [(cc_O o0 11 [o_0, o_1, o_2, o_3, o_4, .ref p0, o_6, o_7, o_8, o_9, o_10, o_11, o_12, o_13, o_14, o_15, o_16]), (cc_O p0 8 [.ref p1, .int ln, p_2, p_3, p_4, p_5]), (cc_l p1 (K 0) 400 fb)] s.heap.size = A at hD ⊢
  have hA : ∀ q : Nat, s.heap.size ≤ q → A q := fun q h => by rw [← hAe]; exact Or.inr h
  clear hAe
  have hS : va_S A s.heap s.heap [] := va_S.rf
  replace hP : va_P D vwCl [(cc_O o0 11 [o_0, o_1, o_2, o_3, o_4, .ref p0, o_6, o_7, o_8, o_9, o_10, o_11, o_12, o_13, o_14, o_15, o_16]), (cc_O p0 8 [.ref p1, .int ln, p_2, p_3, p_4, p_5]), (cc_l p1 (K 0) 400 fb)] s.heap := hP
  have hl := lv_entry [.ref o0, .int x0, .int x1, .int x2, .int x3, .int x4] (n := 6) (Nat.le_of_ble_eq_true rfl)
  rw [lg_entry_eq]
  generalize (lg_sl [.ref o0, .int x0, .int x1, .int x2, .int x3, .int x4] ++ List.replicate (6 - (lg_sl [.ref o0, .int x0, .int x1, .int x2, .int x3, .int x4]).length) Slot.unset).toArray = ls at hl ⊢
  have hl : lv_has ls 6 [(0, .ref o0), (1, .int x0), (2, .int x1), (3, .int x2), (4, .int x3), (5, .int x4)] := hl
  have hw8 : ∀ w ∈ wsX80, w ∈ wsX11_feed := fun w h => (List.mem_cons_of_mem _ (List.mem_append_right _ h))
  have hw11 : ∀ w ∈ wsX110, w ∈ wsX11_feed := fun w h => (List.mem_cons_of_mem _ (List.mem_append_left _ (List.mem_append_right _ h)))
  generalize hQ : MQ below _ _ s _ _ _ = Q
  have hE := E_w_feedX.eq_def x0 x1 x2 x3 x4 ln fb
  refine lv_aload_n hx hb dX11_feed_0 rfl (lv_at hl 0 rfl) (va_get (ci := 11) (v := .ref p0) (C := RX11) (T := TX11) (N := 17) hx hb hts hw11 hown hK hP 0 rfl rfl 5 (by decide +kernel) (hts _ mm_X11_feed_339) (fun _ h9 => h9) rfl dX11_feed_1 (va_getN (ci := 8) (v := .int ln) (C := RX8) (T := TX8) (N := 6) hx hb hts hw8 hown hK hP 1 rfl rfl 1 (by decide +kernel) (nst_use hN 120 rfl) (fun _ h9 => h9) rfl dX11_feed_4 (lv_bipush (v := 20) hx hb dX11_feed_7 (by decide +kernel) (lv_iadd hx hb dX11_feed_9 (lv_topi (fun x_115 ex_115 => ?_))))))
  replace hE := hE.trans (Lt_in ex_115)
  have hx_115 : x_115.toInt = (ln.toInt + 20) := by rw [ex_115]; exact i_add rfl (show (20 : Int32).toInt = 20 from rfl) (by omega)
  refine lv_sipush (v := 400) hx hb dX11_feed_10 (by decide +kernel) (lv_icmp_le (tgt := 18) hx hb dX11_feed_13 (by decide +kernel) (fun c_116 => ?_) (fun c_116 => ?_))
  · have c_116i := i_le (x := (ln.toInt + 20)) (y := 400) hx_115 rfl c_116
    replace hE := hE.trans (if_pos c_116)
    refine lv_aload_n hx hb dX11_feed_18 rfl (lv_at hl 0 rfl) (va_get (ci := 11) (v := .ref p0) (C := RX11) (T := TX11) (N := 17) hx hb hts hw11 hown hK hP 0 rfl rfl 5 (by decide +kernel) (hts _ mm_X11_feed_339) (fun _ h9 => h9) rfl dX11_feed_19 (lv_iload_n hx hb dX11_feed_22 rfl (lv_at hl 1 rfl) (kcv (S := Su) (wr := [(cc_O o0 11 [o_0, o_1, o_2, o_3, o_4, .ref p0, o_6, o_7, o_8, o_9, o_10, o_11, o_12, o_13, o_14, o_15, o_16])]) (va_runVN (As := [.int x0]) (rest := []) ⟨hx, hb, hml, hown, hts⟩ (w_takeX l D K p0 x0 p1 ln p_2 p_3 p_4 p_5 fb s.heap.size (by first | omega | decide)) ⟨va_cnB 1 hts gX11_feed_X8_take_n166 rfl rfl rfl (nst_at hN 29 rfl) (hts _ mm_X11_feed_147) (by decide +kernel) ⟨Nat.le_of_ble_eq_true rfl, Nat.le_of_ble_eq_true rfl⟩, (hts _ mm_X11_feed_449), (hts _ mm_X11_feed_18)⟩ (mkV hK hN (hP.sub [1, 2] rfl) (hD.sub [1, 2] (by decide +kernel) rfl) (ci := 8) (q0 := 0) rfl rfl) rfl rfl hl.1 rfl (lv_room (Nat.le_of_ble_eq_true rfl)) dX11_feed_23 ⟨Nat.le_of_ble_eq_true rfl, Nat.le_of_ble_eq_true rfl⟩) hP hD hS hA [1, 2] [0] rfl rfl (by decide +kernel) (by decide +kernel) (fun u_118 H locs hw hP0 hD0 hS0 => ?_))))
    replace hP : va_P D vwCl [(cc_O o0 11 [o_0, o_1, o_2, o_3, o_4, .ref p0, o_6, o_7, o_8, o_9, o_10, o_11, o_12, o_13, o_14, o_15, o_16]), (cc_O p0 8 [.ref p1, .int (u_118.2.2.2.1 0), p_2, p_3, p_4, p_5]), (cc_l p1 (K 0) 400 (u_118.2.1 0))] H := hP0
    replace hD := as_D hP hD0 rfl
    replace hS := hS0
    clear hP0 hD0 hS0
    obtain ⟨k_119, k_120, k_121, -⟩ := hw
    replace hE := hE.trans (Lt2_in k_120)
    obtain ⟨ck_121, lk_121⟩ := k_121
    refine lv_aload_n hx hb dX11_feed_26 rfl (lv_at hl 0 rfl) (va_get (ci := 11) (v := .ref p0) (C := RX11) (T := TX11) (N := 17) hx hb hts hw11 hown hK hP 0 rfl rfl 5 (by decide +kernel) (hts _ mm_X11_feed_339) (fun _ h9 => h9) rfl dX11_feed_27 (lv_iload_n hx hb dX11_feed_30 rfl (lv_at hl 2 rfl) (kcv (S := Su) (wr := [(cc_O o0 11 [o_0, o_1, o_2, o_3, o_4, .ref p0, o_6, o_7, o_8, o_9, o_10, o_11, o_12, o_13, o_14, o_15, o_16])]) (va_runVN (As := [.int x1]) (rest := []) ⟨hx, hb, hml, hown, hts⟩ (w_takeX l D K p0 x1 p1 (u_118.2.2.2.1 0) p_2 p_3 p_4 p_5 (u_118.2.1 0) H.size (by first | omega | decide)) ⟨va_cnB 1 hts gX11_feed_X8_take_n166 rfl rfl rfl (nst_at hN 29 rfl) (hts _ mm_X11_feed_147) (by decide +kernel) ⟨Nat.le_of_ble_eq_true rfl, Nat.le_of_ble_eq_true rfl⟩, (hts _ mm_X11_feed_449), (hts _ mm_X11_feed_18)⟩ (mkV hK hN (hP.sub [1, 2] rfl) (hD.sub [1, 2] (by decide +kernel) rfl) (ci := 8) (q0 := 0) rfl rfl) rfl rfl hl.1 rfl (lv_room (Nat.le_of_ble_eq_true rfl)) dX11_feed_31 ⟨Nat.le_of_ble_eq_true rfl, Nat.le_of_ble_eq_true rfl⟩) hP hD hS hA [1, 2] [0] rfl rfl (by decide +kernel) (by decide +kernel) (fun u_123 H locs hw hP0 hD0 hS0 => ?_))))
    replace hP : va_P D vwCl [(cc_O o0 11 [o_0, o_1, o_2, o_3, o_4, .ref p0, o_6, o_7, o_8, o_9, o_10, o_11, o_12, o_13, o_14, o_15, o_16]), (cc_O p0 8 [.ref p1, .int (u_123.2.2.2.1 0), p_2, p_3, p_4, p_5]), (cc_l p1 (K 0) 400 (u_123.2.1 0))] H := hP0
    replace hD := as_D hP hD0 rfl
    replace hS := hS0
    clear hP0 hD0 hS0
    obtain ⟨k_124, k_125, k_126, -⟩ := hw
    replace hE := hE.trans (Lt2_in k_125)
    obtain ⟨ck_126, lk_126⟩ := k_126
    refine lv_aload_n hx hb dX11_feed_34 rfl (lv_at hl 0 rfl) (va_get (ci := 11) (v := .ref p0) (C := RX11) (T := TX11) (N := 17) hx hb hts hw11 hown hK hP 0 rfl rfl 5 (by decide +kernel) (hts _ mm_X11_feed_339) (fun _ h9 => h9) rfl dX11_feed_35 (lv_iload_n hx hb dX11_feed_38 rfl (lv_at hl 3 rfl) (kcv (S := Su) (wr := [(cc_O o0 11 [o_0, o_1, o_2, o_3, o_4, .ref p0, o_6, o_7, o_8, o_9, o_10, o_11, o_12, o_13, o_14, o_15, o_16])]) (va_runVN (As := [.int x2]) (rest := []) ⟨hx, hb, hml, hown, hts⟩ (w_takeX l D K p0 x2 p1 (u_123.2.2.2.1 0) p_2 p_3 p_4 p_5 (u_123.2.1 0) H.size (by first | omega | decide)) ⟨va_cnB 1 hts gX11_feed_X8_take_n166 rfl rfl rfl (nst_at hN 29 rfl) (hts _ mm_X11_feed_147) (by decide +kernel) ⟨Nat.le_of_ble_eq_true rfl, Nat.le_of_ble_eq_true rfl⟩, (hts _ mm_X11_feed_449), (hts _ mm_X11_feed_18)⟩ (mkV hK hN (hP.sub [1, 2] rfl) (hD.sub [1, 2] (by decide +kernel) rfl) (ci := 8) (q0 := 0) rfl rfl) rfl rfl hl.1 rfl (lv_room (Nat.le_of_ble_eq_true rfl)) dX11_feed_39 ⟨Nat.le_of_ble_eq_true rfl, Nat.le_of_ble_eq_true rfl⟩) hP hD hS hA [1, 2] [0] rfl rfl (by decide +kernel) (by decide +kernel) (fun u_128 H locs hw hP0 hD0 hS0 => ?_))))
    replace hP : va_P D vwCl [(cc_O o0 11 [o_0, o_1, o_2, o_3, o_4, .ref p0, o_6, o_7, o_8, o_9, o_10, o_11, o_12, o_13, o_14, o_15, o_16]), (cc_O p0 8 [.ref p1, .int (u_128.2.2.2.1 0), p_2, p_3, p_4, p_5]), (cc_l p1 (K 0) 400 (u_128.2.1 0))] H := hP0
    replace hD := as_D hP hD0 rfl
    replace hS := hS0
    clear hP0 hD0 hS0
    obtain ⟨k_129, k_130, k_131, -⟩ := hw
    replace hE := hE.trans (Lt2_in k_130)
    obtain ⟨ck_131, lk_131⟩ := k_131
    refine lv_aload_n hx hb dX11_feed_42 rfl (lv_at hl 0 rfl) (va_get (ci := 11) (v := .ref p0) (C := RX11) (T := TX11) (N := 17) hx hb hts hw11 hown hK hP 0 rfl rfl 5 (by decide +kernel) (hts _ mm_X11_feed_339) (fun _ h9 => h9) rfl dX11_feed_43 (lv_iload hx hb dX11_feed_46 (lv_at hl 4 rfl) (kcv (S := Su) (wr := [(cc_O o0 11 [o_0, o_1, o_2, o_3, o_4, .ref p0, o_6, o_7, o_8, o_9, o_10, o_11, o_12, o_13, o_14, o_15, o_16])]) (va_runVN (As := [.int x3]) (rest := []) ⟨hx, hb, hml, hown, hts⟩ (w_takeX l D K p0 x3 p1 (u_128.2.2.2.1 0) p_2 p_3 p_4 p_5 (u_128.2.1 0) H.size (by first | omega | decide)) ⟨va_cnB 1 hts gX11_feed_X8_take_n166 rfl rfl rfl (nst_at hN 29 rfl) (hts _ mm_X11_feed_147) (by decide +kernel) ⟨Nat.le_of_ble_eq_true rfl, Nat.le_of_ble_eq_true rfl⟩, (hts _ mm_X11_feed_449), (hts _ mm_X11_feed_18)⟩ (mkV hK hN (hP.sub [1, 2] rfl) (hD.sub [1, 2] (by decide +kernel) rfl) (ci := 8) (q0 := 0) rfl rfl) rfl rfl hl.1 rfl (lv_room (Nat.le_of_ble_eq_true rfl)) dX11_feed_48 ⟨Nat.le_of_ble_eq_true rfl, Nat.le_of_ble_eq_true rfl⟩) hP hD hS hA [1, 2] [0] rfl rfl (by decide +kernel) (by decide +kernel) (fun u_133 H locs hw hP0 hD0 hS0 => ?_))))
    replace hP : va_P D vwCl [(cc_O o0 11 [o_0, o_1, o_2, o_3, o_4, .ref p0, o_6, o_7, o_8, o_9, o_10, o_11, o_12, o_13, o_14, o_15, o_16]), (cc_O p0 8 [.ref p1, .int (u_133.2.2.2.1 0), p_2, p_3, p_4, p_5]), (cc_l p1 (K 0) 400 (u_133.2.1 0))] H := hP0
    replace hD := as_D hP hD0 rfl
    replace hS := hS0
    clear hP0 hD0 hS0
    obtain ⟨k_134, k_135, k_136, -⟩ := hw
    replace hE := hE.trans (Lt2_in k_135)
    obtain ⟨ck_136, lk_136⟩ := k_136
    refine lv_aload_n hx hb dX11_feed_51 rfl (lv_at hl 0 rfl) (va_get (ci := 11) (v := .ref p0) (C := RX11) (T := TX11) (N := 17) hx hb hts hw11 hown hK hP 0 rfl rfl 5 (by decide +kernel) (hts _ mm_X11_feed_339) (fun _ h9 => h9) rfl dX11_feed_52 (lv_iload hx hb dX11_feed_55 (lv_at hl 5 rfl) (kcv (S := Su) (wr := [(cc_O o0 11 [o_0, o_1, o_2, o_3, o_4, .ref p0, o_6, o_7, o_8, o_9, o_10, o_11, o_12, o_13, o_14, o_15, o_16])]) (va_runVN (As := [.int x4]) (rest := []) ⟨hx, hb, hml, hown, hts⟩ (w_takeX l D K p0 x4 p1 (u_133.2.2.2.1 0) p_2 p_3 p_4 p_5 (u_133.2.1 0) H.size (by first | omega | decide)) ⟨va_cnB 1 hts gX11_feed_X8_take_n166 rfl rfl rfl (nst_at hN 29 rfl) (hts _ mm_X11_feed_147) (by decide +kernel) ⟨Nat.le_of_ble_eq_true rfl, Nat.le_of_ble_eq_true rfl⟩, (hts _ mm_X11_feed_449), (hts _ mm_X11_feed_18)⟩ (mkV hK hN (hP.sub [1, 2] rfl) (hD.sub [1, 2] (by decide +kernel) rfl) (ci := 8) (q0 := 0) rfl rfl) rfl rfl hl.1 rfl (lv_room (Nat.le_of_ble_eq_true rfl)) dX11_feed_57 ⟨Nat.le_of_ble_eq_true rfl, Nat.le_of_ble_eq_true rfl⟩) hP hD hS hA [1, 2] [0] rfl rfl (by decide +kernel) (by decide +kernel) (fun u_138 H locs hw hP0 hD0 hS0 => ?_))))
    replace hP : va_P D vwCl [(cc_O o0 11 [o_0, o_1, o_2, o_3, o_4, .ref p0, o_6, o_7, o_8, o_9, o_10, o_11, o_12, o_13, o_14, o_15, o_16]), (cc_O p0 8 [.ref p1, .int (u_138.2.2.2.1 0), p_2, p_3, p_4, p_5]), (cc_l p1 (K 0) 400 (u_138.2.1 0))] H := hP0
    replace hD := as_D hP hD0 rfl
    replace hS := hS0
    clear hP0 hD0 hS0
    obtain ⟨k_139, k_140, k_141, -⟩ := hw
    replace hE := hE.trans (Lt2_in k_140)
    obtain ⟨ck_141, lk_141⟩ := k_141
    refine lv_aload_n hx hb dX11_feed_60 rfl (lv_at hl 0 rfl) (va_get (ci := 11) (v := .ref p0) (C := RX11) (T := TX11) (N := 17) hx hb hts hw11 hown hK hP 0 rfl rfl 5 (by decide +kernel) (hts _ mm_X11_feed_339) (fun _ h9 => h9) rfl dX11_feed_61 (va_getN (ci := 8) (v := .int (u_138.2.2.2.1 0)) (C := RX8) (T := TX8) (N := 6) hx hb hts hw8 hown hK hP 1 rfl rfl 1 (by decide +kernel) (nst_use hN 120 rfl) (fun _ h9 => h9) rfl dX11_feed_64 ?_))
    rw [← hQ]
    have hP9 := hP.sub (ws' := [(cc_O o0 11 [o_0, o_1, o_2, o_3, o_4, .ref p0, o_6, o_7, o_8, o_9, o_10, o_11, o_12, o_13, o_14, o_15, o_16]), (cc_O p0 8 [.ref p1, .int (u_138.2.2.2.1 0), p_2, p_3, p_4, p_5]), (cc_l p1 (K 0) 400 (u_138.2.1 0))]) [0, 1, 2] rfl
    have hD9 := sub_D hP9 hD [0, 1, 2] (by decide +kernel) rfl
    exact W.iret (v := (u_138.2.2.2.1 0)) hx hb hr (fun t ht hW => ⟨⟨(u_138.2.2.2.1 0), ((fun _ => 0, fun i => match i with | _ => (u_138.2.1 0), fun _ => fun _ => 0, fun i => match i with | _ => (u_138.2.2.2.1 0), fun _ => 0, fun _ => fun _ => none) : Su), rfl, ⟨(show (-1) ≤ (u_138.2.2.2.1 0).toInt ∧ (u_138.2.2.2.1 0).toInt ≤ 400 by omega), (show 0 ≤ ((u_138.2.2.2.1 0) : Int32).toInt ∧ ((u_138.2.2.2.1 0) : Int32).toInt ≤ 400 by omega), hE.symm, (show ((400 < ln.toInt + 20 ∧ ((u_138.2.2.2.1 0) : Int32).toInt = ln.toInt ∧ ((u_138.2.2.2.1 0) : Int32).toInt = -1 ∧ (u_138.2.1 0) = fb) ∨ (ln.toInt + 20 ≤ 400 ∧ ((u_138.2.2.2.1 0) : Int32).toInt = ln.toInt + 20 ∧ ((u_138.2.2.2.1 0) : Int32).toInt = ln.toInt + 20 ∧ (u_138.2.1 0) = fe fb ln.toInt.toNat x0 x1 x2 x3 x4)) by refine Or.inr ⟨by omega, by omega, by omega, ?_⟩; rw [ck_141, ck_136, ck_131, ck_126, ck_121, show ((u_133.2.2.2.1 0).toInt).toNat = ln.toInt.toNat + 16 by omega, show ((u_128.2.2.2.1 0).toInt).toNat = ln.toInt.toNat + 12 by omega, show ((u_123.2.2.2.1 0).toInt).toNat = ln.toInt.toNat + 8 by omega, show ((u_118.2.2.2.1 0).toInt).toNat = ln.toInt.toNat + 4 by omega]; rfl), trivial⟩, (⟨by rw [ht]; exact hP9, hD9⟩ : Wd D A _ t)⟩, hS.F ht⟩) hS.2.2 dX11_feed_67
  · have c_116i := i_nle (x := (ln.toInt + 20)) (y := 400) hx_115 rfl c_116
    replace hE := hE.trans (if_neg c_116)
    refine lv_iconst (v := (-1)) hx hb dX11_feed_16 (by decide +kernel) ?_
    rw [← hQ]
    have hP9 := hP.sub (ws' := [(cc_O o0 11 [o_0, o_1, o_2, o_3, o_4, .ref p0, o_6, o_7, o_8, o_9, o_10, o_11, o_12, o_13, o_14, o_15, o_16]), (cc_O p0 8 [.ref p1, .int ln, p_2, p_3, p_4, p_5]), (cc_l p1 (K 0) 400 fb)]) [0, 1, 2] rfl
    have hD9 := sub_D hP9 hD [0, 1, 2] (by decide +kernel) rfl
    exact W.iret (v := (-1)) hx hb hr (fun t ht hW => ⟨⟨(-1), ((fun _ => 0, fun i => match i with | _ => fb, fun _ => fun _ => 0, fun i => match i with | _ => ln, fun _ => 0, fun _ => fun _ => none) : Su), rfl, ⟨(show (-1) ≤ ((-1) : Int32).toInt ∧ ((-1) : Int32).toInt ≤ 400 by decide), (show 0 ≤ (ln : Int32).toInt ∧ (ln : Int32).toInt ≤ 400 by omega), hE.symm, (show ((400 < ln.toInt + 20 ∧ (ln : Int32).toInt = ln.toInt ∧ ((-1) : Int32).toInt = -1 ∧ fb = fb) ∨ (ln.toInt + 20 ≤ 400 ∧ (ln : Int32).toInt = ln.toInt + 20 ∧ ((-1) : Int32).toInt = ln.toInt + 20 ∧ fb = fe fb ln.toInt.toNat x0 x1 x2 x3 x4)) by exact Or.inl ⟨by omega, rfl, rfl, rfl⟩), trivial⟩, (⟨by rw [ht]; exact hP9, hD9⟩ : Wd D A _ t)⟩, hS.F ht⟩) hS.2.2 dX11_feed_17
set_option maxRecDepth 100000 in
noncomputable def E_v_feedX (x0 : Int32) (x1 : Int32) (x2 : Int32) (x3 : Int32) (x4 : Int32) (thr : Int32) (ta : Int32) (ft : Nat → Int32) : Int32 × Int32 × (Nat → Int32) :=
  Lt (ta + 20 : Int32) (fun x_115 => if x_115 ≤ 400 then (Lt2 (E_v_fourX x0 ta ft) (fun u_118_2_2_2_1_0 u_118_2_1_0 => Lt2 (E_v_fourX x1 u_118_2_2_2_1_0 u_118_2_1_0) (fun u_123_2_2_2_1_0 u_123_2_1_0 => Lt2 (E_v_fourX x2 u_123_2_2_2_1_0 u_123_2_1_0) (fun u_128_2_2_2_1_0 u_128_2_1_0 => Lt2 (E_v_fourX x3 u_128_2_2_2_1_0 u_128_2_1_0) (fun u_133_2_2_2_1_0 u_133_2_1_0 => Lt2 (E_v_fourX x4 u_133_2_2_2_1_0 u_133_2_1_0) (fun u_138_2_2_2_1_0 u_138_2_1_0 => ((u_138_2_2_2_1_0, u_138_2_2_2_1_0, u_138_2_1_0) : Int32 × Int32 × (Nat → Int32)))))))) else ((((-1), ta, ft) : Int32 × Int32 × (Nat → Int32))))
set_option maxHeartbeats 4000000 in
set_option maxRecDepth 100000 in
theorem v_feedX (l : Launch) (D : va_G) (K : Nat → ClassId) (m0 : Nat) (x0 : Int32) (x1 : Int32) (x2 : Int32) (x3 : Int32) (x4 : Int32) (thr : Int32) (m_1 : Value) (m_2 : Value) (m_3 : Value) (m_4 : Value) (m_5 : Value) (m_6 : Value) (m_7 : Value) (m_8 : Value) (m_9 : Value) (m_10 : Value) (m_11 : Value) (t0 : Nat) (ta : Int32) (m_14 : Value) (m_15 : Value) (m_16 : Value) (m_17 : Value) (m_18 : Value) (m_19 : Value) (m_20 : Value) (m_21 : Value) (m_22 : Value) (m_23 : Value) (m_24 : Value) (m_25 : Value) (m_26 : Value) (m_27 : Value) (m_28 : Value) (m_29 : Value) (m_30 : Value) (m_31 : Value) (m_32 : Value) (m_33 : Value) (m_34 : Value) (m_35 : Value) (m_36 : Value) (m_37 : Value) (m_38 : Value) (m_39 : Value) (m_40 : Value) (m_41 : Value) (m_42 : Value) (m_43 : Value) (m_44 : Value) (m_45 : Value) (m_46 : Value) (m_47 : Value) (m_48 : Value) (m_49 : Value) (m_50 : Value) (m_51 : Value) (m_52 : Value) (m_53 : Value) (m_54 : Value) (m_55 : Value) (m_56 : Value) (m_57 : Value) (m_58 : Value) (m_59 : Value) (ft : Nat → Int32) (sz : Nat) (zta : 0 ≤ ta.toInt ∧ ta.toInt ≤ 400) : Met l yX12_feed wsX12_feed ({ frames := 1, cells := 0, slots := 0, locals := 22 }) (va_Pc [.ref m0, .int x0, .int x1, .int x2, .int x3, .int x4] (Pre D K [(cc_O m0 12 [.int thr, m_1, m_2, m_3, m_4, m_5, m_6, m_7, m_8, m_9, m_10, m_11, .ref t0, .int ta, m_14, m_15, m_16, m_17, m_18, m_19, m_20, m_21, m_22, m_23, m_24, m_25, m_26, m_27, m_28, m_29, m_30, m_31, m_32, m_33, m_34, m_35, m_36, m_37, m_38, m_39, m_40, m_41, m_42, m_43, m_44, m_45, m_46, m_47, m_48, m_49, m_50, m_51, m_52, m_53, m_54, m_55, m_56, m_57, m_58, m_59]), (cc_l t0 (K 0) 400 ft)] sz)) (va_Qi (S := Su) (fun (r : Int32) (u : Su) => ((-1) ≤ r.toInt ∧ r.toInt ≤ 400) ∧ (0 ≤ (u.2.2.2.1 0).toInt ∧ (u.2.2.2.1 0).toInt ≤ 400) ∧ ((r, (u.2.2.2.1 0), (u.2.1 0)) = E_v_feedX x0 x1 x2 x3 x4 thr ta ft) ∧ (((400 < ta.toInt + 20 ∧ (u.2.2.2.1 0).toInt = ta.toInt ∧ r.toInt = -1 ∧ (u.2.1 0) = ft) ∨ (ta.toInt + 20 ≤ 400 ∧ (u.2.2.2.1 0).toInt = ta.toInt + 20 ∧ r.toInt = ta.toInt + 20 ∧ (u.2.1 0) = fe ft ta.toInt.toNat x0 x1 x2 x3 x4))) ∧ True) (fun u t => Wd D (va_A [(cc_O m0 12 [.int thr, m_1, m_2, m_3, m_4, m_5, m_6, m_7, m_8, m_9, m_10, m_11, .ref t0, .int ta, m_14, m_15, m_16, m_17, m_18, m_19, m_20, m_21, m_22, m_23, m_24, m_25, m_26, m_27, m_28, m_29, m_30, m_31, m_32, m_33, m_34, m_35, m_36, m_37, m_38, m_39, m_40, m_41, m_42, m_43, m_44, m_45, m_46, m_47, m_48, m_49, m_50, m_51, m_52, m_53, m_54, m_55, m_56, m_57, m_58, m_59]), (cc_l t0 (K 0) 400 ft)] sz) ((fun u => [(cc_O m0 12 [.int 0, m_1, m_2, m_3, m_4, m_5, m_6, m_7, m_8, m_9, m_10, m_11, .ref t0, .int (u.2.2.2.1 0), m_14, m_15, m_16, m_17, m_18, m_19, m_20, m_21, m_22, m_23, m_24, m_25, m_26, m_27, m_28, m_29, m_30, m_31, m_32, m_33, m_34, m_35, m_36, m_37, m_38, m_39, m_40, m_41, m_42, m_43, m_44, m_45, m_46, m_47, m_48, m_49, m_50, m_51, m_52, m_53, m_54, m_55, m_56, m_57, m_58, m_59]), (cc_l t0 (K 0) 400 (u.2.1 0))]) u) t) (va_A [(cc_O m0 12 [.int thr, m_1, m_2, m_3, m_4, m_5, m_6, m_7, m_8, m_9, m_10, m_11, .ref t0, .int ta, m_14, m_15, m_16, m_17, m_18, m_19, m_20, m_21, m_22, m_23, m_24, m_25, m_26, m_27, m_28, m_29, m_30, m_31, m_32, m_33, m_34, m_35, m_36, m_37, m_38, m_39, m_40, m_41, m_42, m_43, m_44, m_45, m_46, m_47, m_48, m_49, m_50, m_51, m_52, m_53, m_54, m_55, m_56, m_57, m_58, m_59]), (cc_l t0 (K 0) 400 ft)] sz)) 0 0 (va_A [(cc_O m0 12 [.int thr, m_1, m_2, m_3, m_4, m_5, m_6, m_7, m_8, m_9, m_10, m_11, .ref t0, .int ta, m_14, m_15, m_16, m_17, m_18, m_19, m_20, m_21, m_22, m_23, m_24, m_25, m_26, m_27, m_28, m_29, m_30, m_31, m_32, m_33, m_34, m_35, m_36, m_37, m_38, m_39, m_40, m_41, m_42, m_43, m_44, m_45, m_46, m_47, m_48, m_49, m_50, m_51, m_52, m_53, m_54, m_55, m_56, m_57, m_58, m_59]), (cc_l t0 (K 0) 400 ft)] sz) := by
  refine Met.ofW (cc := cX12_feed) (maxL := 6) (ret := (some .int)) (by decide +kernel) rfl ?_
  intro p e s m args below meth c s₁ B hml hv
  obtain ⟨rfl, hsz, hP, hK, hD0, hN⟩ := hv
  have hx := B.exec
  have hb := B.bytes
  have hr := B.returns
  have hts := atoms_spec (ws := wsX12_feed) B.pre
  have hown : s.vm.findClass RX12 = some m.cls := findClass_of_methodNamed B.named
  have hlocks := B.notSynchronized
  subst hsz
  have hD := hD0.self (sz := s.heap.size)
  generalize hAe : va_A [(cc_O m0 12 [.int thr, m_1, m_2, m_3, m_4, m_5, m_6, m_7, m_8, m_9, m_10, m_11, .ref t0, .int ta, m_14, m_15, m_16, m_17, m_18, m_19, m_20, m_21, m_22, m_23, m_24, m_25, m_26, m_27, m_28, m_29, m_30, m_31, m_32, m_33, m_34, m_35, m_36, m_37, m_38, m_39, m_40, m_41, m_42, m_43, m_44, m_45, m_46, m_47, m_48, m_49, m_50, m_51, m_52, m_53, m_54, m_55, m_56, m_57, m_58, m_59]), (cc_l t0 (K 0) 400 ft)] s.heap.size = A at hD ⊢
  have hA : ∀ q : Nat, s.heap.size ≤ q → A q := fun q h => by rw [← hAe]; exact Or.inr h
  clear hAe
  have hS : va_S A s.heap s.heap [] := va_S.rf
  replace hP : va_P D vwCl [(cc_O m0 12 [.int thr, m_1, m_2, m_3, m_4, m_5, m_6, m_7, m_8, m_9, m_10, m_11, .ref t0, .int ta, m_14, m_15, m_16, m_17, m_18, m_19, m_20, m_21, m_22, m_23, m_24, m_25, m_26, m_27, m_28, m_29, m_30, m_31, m_32, m_33, m_34, m_35, m_36, m_37, m_38, m_39, m_40, m_41, m_42, m_43, m_44, m_45, m_46, m_47, m_48, m_49, m_50, m_51, m_52, m_53, m_54, m_55, m_56, m_57, m_58, m_59]), (cc_l t0 (K 0) 400 ft)] s.heap := hP
  have hl := lv_entry [.ref m0, .int x0, .int x1, .int x2, .int x3, .int x4] (n := 6) (Nat.le_of_ble_eq_true rfl)
  rw [lg_entry_eq]
  generalize (lg_sl [.ref m0, .int x0, .int x1, .int x2, .int x3, .int x4] ++ List.replicate (6 - (lg_sl [.ref m0, .int x0, .int x1, .int x2, .int x3, .int x4]).length) Slot.unset).toArray = ls at hl ⊢
  have hl : lv_has ls 6 [(0, .ref m0), (1, .int x0), (2, .int x1), (3, .int x2), (4, .int x3), (5, .int x4)] := hl
  have hw12 : ∀ w ∈ wsX120, w ∈ wsX12_feed := fun w h => (List.mem_cons_of_mem _ (List.mem_append_right _ h))
  generalize hQ : MQ below _ _ s _ _ _ = Q
  have hE := E_v_feedX.eq_def x0 x1 x2 x3 x4 thr ta ft
  refine lv_aload_n hx hb dX12_feed_0 rfl (lv_at hl 0 rfl) (lv_iconst (v := 0) hx hb dX12_feed_1 (by decide +kernel) (va_put (ci := 12) (v := .int 0) (ty := .int) (C := RX12) (T := TX12) (N := 60) hx hb hts hw12 tyX12 tyX12_ok nmX12 hown hK hP hD hS 0 rfl rfl 0 (by decide +kernel) (hts _ mm_X12_feed_830) (fun _ h9 => h9) rfl (by decide +kernel) (by first | rfl | decide) (by first | rfl | decide) (Nat.le_of_ble_eq_true rfl) dX12_feed_2 (fun H locs hP0 hD0 hS0 => ?_)))
  replace hP : va_P D vwCl [(cc_O m0 12 [.int 0, m_1, m_2, m_3, m_4, m_5, m_6, m_7, m_8, m_9, m_10, m_11, .ref t0, .int ta, m_14, m_15, m_16, m_17, m_18, m_19, m_20, m_21, m_22, m_23, m_24, m_25, m_26, m_27, m_28, m_29, m_30, m_31, m_32, m_33, m_34, m_35, m_36, m_37, m_38, m_39, m_40, m_41, m_42, m_43, m_44, m_45, m_46, m_47, m_48, m_49, m_50, m_51, m_52, m_53, m_54, m_55, m_56, m_57, m_58, m_59]), (cc_l t0 (K 0) 400 ft)] H := hP0
  replace hD := as_D hP hD0 rfl
  replace hS := hS0
  clear hP0 hD0 hS0
  refine lv_aload_n hx hb dX12_feed_5 rfl (lv_at hl 0 rfl) (va_get (ci := 12) (v := .int ta) (C := RX12) (T := TX12) (N := 60) hx hb hts hw12 hown hK hP 0 rfl rfl 13 (by decide +kernel) (hts _ mm_X12_feed_843) (fun _ h9 => h9) rfl dX12_feed_6 (lv_bipush (v := 20) hx hb dX12_feed_9 (by decide +kernel) (lv_iadd hx hb dX12_feed_11 (lv_topi (fun x_115 ex_115 => ?_)))))
  replace hE := hE.trans (Lt_in ex_115)
  have hx_115 : x_115.toInt = (ta.toInt + 20) := by rw [ex_115]; exact i_add rfl (show (20 : Int32).toInt = 20 from rfl) (by omega)
  refine lv_sipush (v := 400) hx hb dX12_feed_12 (by decide +kernel) (lv_icmp_le (tgt := 20) hx hb dX12_feed_15 (by decide +kernel) (fun c_116 => ?_) (fun c_116 => ?_))
  · have c_116i := i_le (x := (ta.toInt + 20)) (y := 400) hx_115 rfl c_116
    replace hE := hE.trans (if_pos c_116)
    refine lv_aload_n hx hb dX12_feed_20 rfl (lv_at hl 0 rfl) (lv_iload_n hx hb dX12_feed_21 rfl (lv_at hl 1 rfl) (kcv (S := Su) (wr := []) (va_runV (As := [.int x0]) (rest := []) ⟨hx, hb, hml, hown, hts⟩ (v_fourX l D K m0 x0 (.int 0) m_1 m_2 m_3 m_4 m_5 m_6 m_7 m_8 m_9 m_10 m_11 t0 ta m_14 m_15 m_16 m_17 m_18 m_19 m_20 m_21 m_22 m_23 m_24 m_25 m_26 m_27 m_28 m_29 m_30 m_31 m_32 m_33 m_34 m_35 m_36 m_37 m_38 m_39 m_40 m_41 m_42 m_43 m_44 m_45 m_46 m_47 m_48 m_49 m_50 m_51 m_52 m_53 m_54 m_55 m_56 m_57 m_58 m_59 ft H.size (by first | omega | decide)) (cwV 1 hts gX12_feed_X12_four rfl rfl rfl (by decide +kernel) ⟨Nat.le_of_ble_eq_true rfl, Nat.le_of_ble_eq_true rfl⟩) (mkV hK hN (hP.sub [0, 1] rfl) (hD.sub [0, 1] (by decide +kernel) rfl) (ci := 12) (q0 := 0) rfl rfl) rfl rfl hl.1 rfl (lv_room (Nat.le_of_ble_eq_true rfl)) dX12_feed_22 ⟨Nat.le_of_ble_eq_true rfl, Nat.le_of_ble_eq_true rfl⟩) hP hD hS hA [0, 1] [] rfl rfl (by decide +kernel) (by decide +kernel) (fun u_118 H locs hw hP0 hD0 hS0 => ?_)))
    replace hP : va_P D vwCl [(cc_O m0 12 [.int 0, m_1, m_2, m_3, m_4, m_5, m_6, m_7, m_8, m_9, m_10, m_11, .ref t0, .int (u_118.2.2.2.1 0), m_14, m_15, m_16, m_17, m_18, m_19, m_20, m_21, m_22, m_23, m_24, m_25, m_26, m_27, m_28, m_29, m_30, m_31, m_32, m_33, m_34, m_35, m_36, m_37, m_38, m_39, m_40, m_41, m_42, m_43, m_44, m_45, m_46, m_47, m_48, m_49, m_50, m_51, m_52, m_53, m_54, m_55, m_56, m_57, m_58, m_59]), (cc_l t0 (K 0) 400 (u_118.2.1 0))] H := hP0
    replace hD := as_D hP hD0 rfl
    replace hS := hS0
    clear hP0 hD0 hS0
    obtain ⟨k_119, k_120, k_121, -⟩ := hw
    replace hE := hE.trans (Lt2_in k_120)
    obtain ⟨ck_121, lk_121⟩ := k_121
    refine lv_aload_n hx hb dX12_feed_25 rfl (lv_at hl 0 rfl) (lv_iload_n hx hb dX12_feed_26 rfl (lv_at hl 2 rfl) (kcv (S := Su) (wr := []) (va_runV (As := [.int x1]) (rest := []) ⟨hx, hb, hml, hown, hts⟩ (v_fourX l D K m0 x1 (.int 0) m_1 m_2 m_3 m_4 m_5 m_6 m_7 m_8 m_9 m_10 m_11 t0 (u_118.2.2.2.1 0) m_14 m_15 m_16 m_17 m_18 m_19 m_20 m_21 m_22 m_23 m_24 m_25 m_26 m_27 m_28 m_29 m_30 m_31 m_32 m_33 m_34 m_35 m_36 m_37 m_38 m_39 m_40 m_41 m_42 m_43 m_44 m_45 m_46 m_47 m_48 m_49 m_50 m_51 m_52 m_53 m_54 m_55 m_56 m_57 m_58 m_59 (u_118.2.1 0) H.size (by first | omega | decide)) (cwV 1 hts gX12_feed_X12_four rfl rfl rfl (by decide +kernel) ⟨Nat.le_of_ble_eq_true rfl, Nat.le_of_ble_eq_true rfl⟩) (mkV hK hN (hP.sub [0, 1] rfl) (hD.sub [0, 1] (by decide +kernel) rfl) (ci := 12) (q0 := 0) rfl rfl) rfl rfl hl.1 rfl (lv_room (Nat.le_of_ble_eq_true rfl)) dX12_feed_27 ⟨Nat.le_of_ble_eq_true rfl, Nat.le_of_ble_eq_true rfl⟩) hP hD hS hA [0, 1] [] rfl rfl (by decide +kernel) (by decide +kernel) (fun u_123 H locs hw hP0 hD0 hS0 => ?_)))
    replace hP : va_P D vwCl [(cc_O m0 12 [.int 0, m_1, m_2, m_3, m_4, m_5, m_6, m_7, m_8, m_9, m_10, m_11, .ref t0, .int (u_123.2.2.2.1 0), m_14, m_15, m_16, m_17, m_18, m_19, m_20, m_21, m_22, m_23, m_24, m_25, m_26, m_27, m_28, m_29, m_30, m_31, m_32, m_33, m_34, m_35, m_36, m_37, m_38, m_39, m_40, m_41, m_42, m_43, m_44, m_45, m_46, m_47, m_48, m_49, m_50, m_51, m_52, m_53, m_54, m_55, m_56, m_57, m_58, m_59]), (cc_l t0 (K 0) 400 (u_123.2.1 0))] H := hP0
    replace hD := as_D hP hD0 rfl
    replace hS := hS0
    clear hP0 hD0 hS0
    obtain ⟨k_124, k_125, k_126, -⟩ := hw
    replace hE := hE.trans (Lt2_in k_125)
    obtain ⟨ck_126, lk_126⟩ := k_126
    refine lv_aload_n hx hb dX12_feed_30 rfl (lv_at hl 0 rfl) (lv_iload_n hx hb dX12_feed_31 rfl (lv_at hl 3 rfl) (kcv (S := Su) (wr := []) (va_runV (As := [.int x2]) (rest := []) ⟨hx, hb, hml, hown, hts⟩ (v_fourX l D K m0 x2 (.int 0) m_1 m_2 m_3 m_4 m_5 m_6 m_7 m_8 m_9 m_10 m_11 t0 (u_123.2.2.2.1 0) m_14 m_15 m_16 m_17 m_18 m_19 m_20 m_21 m_22 m_23 m_24 m_25 m_26 m_27 m_28 m_29 m_30 m_31 m_32 m_33 m_34 m_35 m_36 m_37 m_38 m_39 m_40 m_41 m_42 m_43 m_44 m_45 m_46 m_47 m_48 m_49 m_50 m_51 m_52 m_53 m_54 m_55 m_56 m_57 m_58 m_59 (u_123.2.1 0) H.size (by first | omega | decide)) (cwV 1 hts gX12_feed_X12_four rfl rfl rfl (by decide +kernel) ⟨Nat.le_of_ble_eq_true rfl, Nat.le_of_ble_eq_true rfl⟩) (mkV hK hN (hP.sub [0, 1] rfl) (hD.sub [0, 1] (by decide +kernel) rfl) (ci := 12) (q0 := 0) rfl rfl) rfl rfl hl.1 rfl (lv_room (Nat.le_of_ble_eq_true rfl)) dX12_feed_32 ⟨Nat.le_of_ble_eq_true rfl, Nat.le_of_ble_eq_true rfl⟩) hP hD hS hA [0, 1] [] rfl rfl (by decide +kernel) (by decide +kernel) (fun u_128 H locs hw hP0 hD0 hS0 => ?_)))
    replace hP : va_P D vwCl [(cc_O m0 12 [.int 0, m_1, m_2, m_3, m_4, m_5, m_6, m_7, m_8, m_9, m_10, m_11, .ref t0, .int (u_128.2.2.2.1 0), m_14, m_15, m_16, m_17, m_18, m_19, m_20, m_21, m_22, m_23, m_24, m_25, m_26, m_27, m_28, m_29, m_30, m_31, m_32, m_33, m_34, m_35, m_36, m_37, m_38, m_39, m_40, m_41, m_42, m_43, m_44, m_45, m_46, m_47, m_48, m_49, m_50, m_51, m_52, m_53, m_54, m_55, m_56, m_57, m_58, m_59]), (cc_l t0 (K 0) 400 (u_128.2.1 0))] H := hP0
    replace hD := as_D hP hD0 rfl
    replace hS := hS0
    clear hP0 hD0 hS0
    obtain ⟨k_129, k_130, k_131, -⟩ := hw
    replace hE := hE.trans (Lt2_in k_130)
    obtain ⟨ck_131, lk_131⟩ := k_131
    refine lv_aload_n hx hb dX12_feed_35 rfl (lv_at hl 0 rfl) (lv_iload hx hb dX12_feed_36 (lv_at hl 4 rfl) (kcv (S := Su) (wr := []) (va_runV (As := [.int x3]) (rest := []) ⟨hx, hb, hml, hown, hts⟩ (v_fourX l D K m0 x3 (.int 0) m_1 m_2 m_3 m_4 m_5 m_6 m_7 m_8 m_9 m_10 m_11 t0 (u_128.2.2.2.1 0) m_14 m_15 m_16 m_17 m_18 m_19 m_20 m_21 m_22 m_23 m_24 m_25 m_26 m_27 m_28 m_29 m_30 m_31 m_32 m_33 m_34 m_35 m_36 m_37 m_38 m_39 m_40 m_41 m_42 m_43 m_44 m_45 m_46 m_47 m_48 m_49 m_50 m_51 m_52 m_53 m_54 m_55 m_56 m_57 m_58 m_59 (u_128.2.1 0) H.size (by first | omega | decide)) (cwV 1 hts gX12_feed_X12_four rfl rfl rfl (by decide +kernel) ⟨Nat.le_of_ble_eq_true rfl, Nat.le_of_ble_eq_true rfl⟩) (mkV hK hN (hP.sub [0, 1] rfl) (hD.sub [0, 1] (by decide +kernel) rfl) (ci := 12) (q0 := 0) rfl rfl) rfl rfl hl.1 rfl (lv_room (Nat.le_of_ble_eq_true rfl)) dX12_feed_38 ⟨Nat.le_of_ble_eq_true rfl, Nat.le_of_ble_eq_true rfl⟩) hP hD hS hA [0, 1] [] rfl rfl (by decide +kernel) (by decide +kernel) (fun u_133 H locs hw hP0 hD0 hS0 => ?_)))
    replace hP : va_P D vwCl [(cc_O m0 12 [.int 0, m_1, m_2, m_3, m_4, m_5, m_6, m_7, m_8, m_9, m_10, m_11, .ref t0, .int (u_133.2.2.2.1 0), m_14, m_15, m_16, m_17, m_18, m_19, m_20, m_21, m_22, m_23, m_24, m_25, m_26, m_27, m_28, m_29, m_30, m_31, m_32, m_33, m_34, m_35, m_36, m_37, m_38, m_39, m_40, m_41, m_42, m_43, m_44, m_45, m_46, m_47, m_48, m_49, m_50, m_51, m_52, m_53, m_54, m_55, m_56, m_57, m_58, m_59]), (cc_l t0 (K 0) 400 (u_133.2.1 0))] H := hP0
    replace hD := as_D hP hD0 rfl
    replace hS := hS0
    clear hP0 hD0 hS0
    obtain ⟨k_134, k_135, k_136, -⟩ := hw
    replace hE := hE.trans (Lt2_in k_135)
    obtain ⟨ck_136, lk_136⟩ := k_136
    refine lv_aload_n hx hb dX12_feed_41 rfl (lv_at hl 0 rfl) (lv_iload hx hb dX12_feed_42 (lv_at hl 5 rfl) (kcv (S := Su) (wr := []) (va_runV (As := [.int x4]) (rest := []) ⟨hx, hb, hml, hown, hts⟩ (v_fourX l D K m0 x4 (.int 0) m_1 m_2 m_3 m_4 m_5 m_6 m_7 m_8 m_9 m_10 m_11 t0 (u_133.2.2.2.1 0) m_14 m_15 m_16 m_17 m_18 m_19 m_20 m_21 m_22 m_23 m_24 m_25 m_26 m_27 m_28 m_29 m_30 m_31 m_32 m_33 m_34 m_35 m_36 m_37 m_38 m_39 m_40 m_41 m_42 m_43 m_44 m_45 m_46 m_47 m_48 m_49 m_50 m_51 m_52 m_53 m_54 m_55 m_56 m_57 m_58 m_59 (u_133.2.1 0) H.size (by first | omega | decide)) (cwV 1 hts gX12_feed_X12_four rfl rfl rfl (by decide +kernel) ⟨Nat.le_of_ble_eq_true rfl, Nat.le_of_ble_eq_true rfl⟩) (mkV hK hN (hP.sub [0, 1] rfl) (hD.sub [0, 1] (by decide +kernel) rfl) (ci := 12) (q0 := 0) rfl rfl) rfl rfl hl.1 rfl (lv_room (Nat.le_of_ble_eq_true rfl)) dX12_feed_44 ⟨Nat.le_of_ble_eq_true rfl, Nat.le_of_ble_eq_true rfl⟩) hP hD hS hA [0, 1] [] rfl rfl (by decide +kernel) (by decide +kernel) (fun u_138 H locs hw hP0 hD0 hS0 => ?_)))
    replace hP : va_P D vwCl [(cc_O m0 12 [.int 0, m_1, m_2, m_3, m_4, m_5, m_6, m_7, m_8, m_9, m_10, m_11, .ref t0, .int (u_138.2.2.2.1 0), m_14, m_15, m_16, m_17, m_18, m_19, m_20, m_21, m_22, m_23, m_24, m_25, m_26, m_27, m_28, m_29, m_30, m_31, m_32, m_33, m_34, m_35, m_36, m_37, m_38, m_39, m_40, m_41, m_42, m_43, m_44, m_45, m_46, m_47, m_48, m_49, m_50, m_51, m_52, m_53, m_54, m_55, m_56, m_57, m_58, m_59]), (cc_l t0 (K 0) 400 (u_138.2.1 0))] H := hP0
    replace hD := as_D hP hD0 rfl
    replace hS := hS0
    clear hP0 hD0 hS0
    obtain ⟨k_139, k_140, k_141, -⟩ := hw
    replace hE := hE.trans (Lt2_in k_140)
    obtain ⟨ck_141, lk_141⟩ := k_141
    refine lv_aload_n hx hb dX12_feed_47 rfl (lv_at hl 0 rfl) (va_get (ci := 12) (v := .int (u_138.2.2.2.1 0)) (C := RX12) (T := TX12) (N := 60) hx hb hts hw12 hown hK hP 0 rfl rfl 13 (by decide +kernel) (hts _ mm_X12_feed_843) (fun _ h9 => h9) rfl dX12_feed_48 ?_)
    rw [← hQ]
    have hP9 := hP.sub (ws' := [(cc_O m0 12 [.int 0, m_1, m_2, m_3, m_4, m_5, m_6, m_7, m_8, m_9, m_10, m_11, .ref t0, .int (u_138.2.2.2.1 0), m_14, m_15, m_16, m_17, m_18, m_19, m_20, m_21, m_22, m_23, m_24, m_25, m_26, m_27, m_28, m_29, m_30, m_31, m_32, m_33, m_34, m_35, m_36, m_37, m_38, m_39, m_40, m_41, m_42, m_43, m_44, m_45, m_46, m_47, m_48, m_49, m_50, m_51, m_52, m_53, m_54, m_55, m_56, m_57, m_58, m_59]), (cc_l t0 (K 0) 400 (u_138.2.1 0))]) [0, 1] rfl
    have hD9 := sub_D hP9 hD [0, 1] (by decide +kernel) rfl
    exact W.iret (v := (u_138.2.2.2.1 0)) hx hb hr (fun t ht hW => ⟨⟨(u_138.2.2.2.1 0), ((fun _ => 0, fun i => match i with | _ => (u_138.2.1 0), fun _ => fun _ => 0, fun i => match i with | _ => (u_138.2.2.2.1 0), fun _ => 0, fun _ => fun _ => none) : Su), rfl, ⟨(show (-1) ≤ (u_138.2.2.2.1 0).toInt ∧ (u_138.2.2.2.1 0).toInt ≤ 400 by omega), (show 0 ≤ ((u_138.2.2.2.1 0) : Int32).toInt ∧ ((u_138.2.2.2.1 0) : Int32).toInt ≤ 400 by omega), hE.symm, (show ((400 < ta.toInt + 20 ∧ ((u_138.2.2.2.1 0) : Int32).toInt = ta.toInt ∧ ((u_138.2.2.2.1 0) : Int32).toInt = -1 ∧ (u_138.2.1 0) = ft) ∨ (ta.toInt + 20 ≤ 400 ∧ ((u_138.2.2.2.1 0) : Int32).toInt = ta.toInt + 20 ∧ ((u_138.2.2.2.1 0) : Int32).toInt = ta.toInt + 20 ∧ (u_138.2.1 0) = fe ft ta.toInt.toNat x0 x1 x2 x3 x4)) by refine Or.inr ⟨by omega, by omega, by omega, ?_⟩; rw [ck_141, ck_136, ck_131, ck_126, ck_121, show ((u_133.2.2.2.1 0).toInt).toNat = ta.toInt.toNat + 16 by omega, show ((u_128.2.2.2.1 0).toInt).toNat = ta.toInt.toNat + 12 by omega, show ((u_123.2.2.2.1 0).toInt).toNat = ta.toInt.toNat + 8 by omega, show ((u_118.2.2.2.1 0).toInt).toNat = ta.toInt.toNat + 4 by omega]; rfl), trivial⟩, (⟨by rw [ht]; exact hP9, hD9⟩ : Wd D A _ t)⟩, hS.F ht⟩) hS.2.2 dX12_feed_51
  · have c_116i := i_nle (x := (ta.toInt + 20)) (y := 400) hx_115 rfl c_116
    replace hE := hE.trans (if_neg c_116)
    refine lv_iconst (v := (-1)) hx hb dX12_feed_18 (by decide +kernel) ?_
    rw [← hQ]
    have hP9 := hP.sub (ws' := [(cc_O m0 12 [.int 0, m_1, m_2, m_3, m_4, m_5, m_6, m_7, m_8, m_9, m_10, m_11, .ref t0, .int ta, m_14, m_15, m_16, m_17, m_18, m_19, m_20, m_21, m_22, m_23, m_24, m_25, m_26, m_27, m_28, m_29, m_30, m_31, m_32, m_33, m_34, m_35, m_36, m_37, m_38, m_39, m_40, m_41, m_42, m_43, m_44, m_45, m_46, m_47, m_48, m_49, m_50, m_51, m_52, m_53, m_54, m_55, m_56, m_57, m_58, m_59]), (cc_l t0 (K 0) 400 ft)]) [0, 1] rfl
    have hD9 := sub_D hP9 hD [0, 1] (by decide +kernel) rfl
    exact W.iret (v := (-1)) hx hb hr (fun t ht hW => ⟨⟨(-1), ((fun _ => 0, fun i => match i with | _ => ft, fun _ => fun _ => 0, fun i => match i with | _ => ta, fun _ => 0, fun _ => fun _ => none) : Su), rfl, ⟨(show (-1) ≤ ((-1) : Int32).toInt ∧ ((-1) : Int32).toInt ≤ 400 by decide), (show 0 ≤ (ta : Int32).toInt ∧ (ta : Int32).toInt ≤ 400 by omega), hE.symm, (show ((400 < ta.toInt + 20 ∧ (ta : Int32).toInt = ta.toInt ∧ ((-1) : Int32).toInt = -1 ∧ ft = ft) ∨ (ta.toInt + 20 ≤ 400 ∧ (ta : Int32).toInt = ta.toInt + 20 ∧ ((-1) : Int32).toInt = ta.toInt + 20 ∧ ft = fe ft ta.toInt.toNat x0 x1 x2 x3 x4)) by exact Or.inl ⟨by omega, rfl, rfl, rfl⟩), trivial⟩, (⟨by rw [ht]; exact hP9, hD9⟩ : Wd D A _ t)⟩, hS.F ht⟩) hS.2.2 dX12_feed_19
set_option maxRecDepth 100000 in
noncomputable def E_w_byteAtX (x : Int32) (ln : Int32) (f : Nat → Int32) : Int32 :=
  if x < 0 then (((0) : Int32)) else (if ln ≤ x then (((-1) : Int32)) else (if 400 ≤ x then (((0) : Int32)) else (Lt (f (x : Int32).toNatClampNeg : Int32) (fun x_68 => (x_68 : Int32)))))
set_option maxHeartbeats 4000000 in
set_option maxRecDepth 100000 in
theorem w_byteAtX (l : Launch) (D : va_G) (K : Nat → ClassId) (a0 : Nat) (x : Int32) (a1 : Nat) (ln : Int32) (p_2 : Value) (p_3 : Value) (p_4 : Value) (p_5 : Value) (f : Nat → Int32) (sz : Nat) (zx : 0 ≤ x.toInt ∧ x.toInt < ln.toInt ∧ ln.toInt ≤ 400) : Met l yX8_byteAt wsX8_byteAt ({ frames := 0, cells := 0, slots := 0, locals := 0 }) (va_Pc [.ref a0, .int x] (Pre D K [(cc_O a0 8 [.ref a1, .int ln, p_2, p_3, p_4, p_5]), (cc_l a1 (K 0) 400 f)] sz)) (vp_Si (fun r : Int32 => (r = f x.toInt.toNat ∧ True) ∧ r = E_w_byteAtX x ln f)) 0 0 (fun _ => False) := by
  refine Met.ofW (cc := cX8_byteAt) (maxL := 2) (ret := (some .int)) (by decide +kernel) rfl ?_
  intro p e s m args below meth c s₁ B hml hv
  obtain ⟨rfl, hsz, hP, hK, hD0, hN⟩ := hv
  have hx := B.exec
  have hb := B.bytes
  have hr := B.returns
  have hts := atoms_spec (ws := wsX8_byteAt) B.pre
  have hown : s.vm.findClass RX8 = some m.cls := findClass_of_methodNamed B.named
  have hlocks := B.notSynchronized
  subst hsz
  have hD := hD0
  replace hP : va_P D vwCl [(cc_O a0 8 [.ref a1, .int ln, p_2, p_3, p_4, p_5]), (cc_l a1 (K 0) 400 f)] s.heap := hP
  have hl := lv_entry [.ref a0, .int x] (n := 2) (Nat.le_of_ble_eq_true rfl)
  rw [lg_entry_eq]
  generalize (lg_sl [.ref a0, .int x] ++ List.replicate (2 - (lg_sl [.ref a0, .int x]).length) Slot.unset).toArray = ls at hl ⊢
  have hl : lv_has ls 2 [(0, .ref a0), (1, .int x)] := hl
  have hw8 : ∀ w ∈ wsX80, w ∈ wsX8_byteAt := fun w h => (List.mem_cons_of_mem _ (List.mem_append_right _ h))
  generalize hQ : MQ below _ _ s _ _ _ = Q
  have hE := E_w_byteAtX.eq_def x ln f
  refine lv_iload_n hx hb dX8_byteAt_0 rfl (lv_at hl 1 rfl) (lv_if_lt (tgt := 28) hx hb dX8_byteAt_1 (by decide +kernel) (fun c_65 => ?_) (fun c_65 => ?_))
  · have c_65i := i_lt (x := x.toInt) (y := 0) rfl rfl c_65
    exfalso; omega
  · have c_65i := i_nlt (x := x.toInt) (y := 0) rfl rfl c_65
    replace hE := hE.trans (if_neg c_65)
    refine lv_iload_n hx hb dX8_byteAt_4 rfl (lv_at hl 1 rfl) (lv_aload_n hx hb dX8_byteAt_5 rfl (lv_at hl 0 rfl) (va_get (ci := 8) (v := .int ln) (C := RX8) (T := TX8) (N := 6) hx hb hts hw8 hown hK hP 0 rfl rfl 1 (by decide +kernel) (hts _ mm_X8_byteAt_206) (fun _ h9 => h9) rfl dX8_byteAt_6 (lv_icmp_ge (tgt := 28) hx hb dX8_byteAt_9 (by decide +kernel) (fun c_66 => ?_) (fun c_66 => ?_))))
    · have c_66i := i_le (x := ln.toInt) (y := x.toInt) rfl rfl c_66
      replace hE := hE.trans (if_pos c_66)
      refine lv_iconst (v := (-1)) hx hb dX8_byteAt_28 (by decide +kernel) ?_
      rw [← hQ]
      exact W.iret (v := (-1)) hx hb hr (fun t ht hW => ⟨_, rfl, ⟨(by exfalso; omega), hE.symm⟩, ht⟩) (fun q hq => by cases hq) dX8_byteAt_29
    · have c_66i := i_nle (x := ln.toInt) (y := x.toInt) rfl rfl c_66
      replace hE := hE.trans (if_neg c_66)
      refine lv_iload_n hx hb dX8_byteAt_12 rfl (lv_at hl 1 rfl) (lv_sipush (v := 400) hx hb dX8_byteAt_13 (by decide +kernel) (lv_icmp_ge (tgt := 28) hx hb dX8_byteAt_16 (by decide +kernel) (fun c_67 => ?_) (fun c_67 => ?_)))
      · have c_67i := i_le (x := 400) (y := x.toInt) rfl rfl c_67
        exfalso; omega
      · have c_67i := i_nle (x := 400) (y := x.toInt) rfl rfl c_67
        replace hE := hE.trans (if_neg c_67)
        refine lv_aload_n hx hb dX8_byteAt_19 rfl (lv_at hl 0 rfl) (va_get (ci := 8) (v := .ref a1) (C := RX8) (T := TX8) (N := 6) hx hb hts hw8 hown hK hP 0 rfl rfl 0 (by decide +kernel) (hts _ mm_X8_byteAt_205) (fun _ h9 => h9) rfl dX8_byteAt_20 (lv_iload_n hx hb dX8_byteAt_23 rfl (lv_at hl 1 rfl) (va_iald hx hb hK hP 1 0 rfl rfl (i_in rfl (by omega)) dX8_byteAt_24 (lv_topi (fun x_68 ex_68 => ?_)))))
        replace hE := hE.trans (Lt_in ex_68)
        refine lv_goto (tgt := 29) hx hb dX8_byteAt_25 (by decide +kernel) ?_
        rw [← hQ]
        exact W.iret (v := x_68) hx hb hr (fun t ht hW => ⟨_, rfl, ⟨⟨by rw [ex_68, i_clamp rfl], trivial⟩, hE.symm⟩, ht⟩) (fun q hq => by cases hq) dX8_byteAt_29
set_option maxRecDepth 100000 in
noncomputable def E_w_refuseX_j43 (x : Int32) (f_200 : Nat → Int32) : Int32 × (Nat → Int32) :=
  ((x, f_200) : Int32 × (Nat → Int32))
set_option maxRecDepth 100000 in
noncomputable def E_w_refuseX (x : Int32) (rb : Int32) (frf : Nat → Int32) : Int32 × (Nat → Int32) :=
  if x ≤ (-4) then (Lt (- x : Int32) (fun x_203 => Lt (x_203 - 2 : Int32) (fun x_204 => Lt (E_w_within x_204 0 4) (fun r_206 => if r_206 = 1 then (Lt (frf (x_204 : Int32).toNatClampNeg : Int32) (fun x_212 => Lt (x_212 + 1 : Int32) (fun x_213 => Lt (upd frf (x_204 : Int32).toNatClampNeg x_213 : Nat → Int32) (fun f_214 => E_w_refuseX_j43 x f_214)))) else (E_w_refuseX_j43 x frf))))) else (Lt (- x : Int32) (fun x_216 => Lt (x_216 - 1 : Int32) (fun x_217 => Lt (E_w_within x_217 0 4) (fun r_219 => if r_219 = 1 then (Lt (frf (x_217 : Int32).toNatClampNeg : Int32) (fun x_225 => Lt (x_225 + 1 : Int32) (fun x_226 => Lt (upd frf (x_217 : Int32).toNatClampNeg x_226 : Nat → Int32) (fun f_227 => E_w_refuseX_j43 x f_227)))) else (E_w_refuseX_j43 x frf)))))
set_option maxHeartbeats 4000000 in
set_option maxRecDepth 100000 in
theorem w_refuseX (l : Launch) (D : va_G) (K : Nat → ClassId) (o0 : Nat) (x : Int32) (o_0 : Value) (o_1 : Value) (o_2 : Value) (o_3 : Value) (o_4 : Value) (o_5 : Value) (o_6 : Value) (o_7 : Value) (o_8 : Value) (o_9 : Value) (o_10 : Value) (o_11 : Value) (rf : Nat) (rb : Int32) (o_14 : Value) (o_15 : Value) (o_16 : Value) (frf : Nat → Int32) (sz : Nat) : Met l yX11_refuse wsX11_refuse ({ frames := 1, cells := 0, slots := 0, locals := 22 }) (va_Pc [.ref o0, .int x] (Pre D K [(cc_O o0 11 [o_0, o_1, o_2, o_3, o_4, o_5, o_6, o_7, o_8, o_9, o_10, o_11, .ref rf, .int rb, o_14, o_15, o_16]), (cc_l rf (K 0) 5 frf)] sz)) (va_Qi (S := Su) (fun (r : Int32) (u : Su) => ((r = x)) ∧ ((r, (u.2.1 0)) = E_w_refuseX x rb frf) ∧ True) (fun u t => Wd D (va_A [(cc_O o0 11 [o_0, o_1, o_2, o_3, o_4, o_5, o_6, o_7, o_8, o_9, o_10, o_11, .ref rf, .int rb, o_14, o_15, o_16]), (cc_l rf (K 0) 5 frf)] sz) ((fun u => [(cc_O o0 11 [o_0, o_1, o_2, o_3, o_4, o_5, o_6, o_7, o_8, o_9, o_10, o_11, .ref rf, .int x, o_14, o_15, o_16]), (cc_l rf (K 0) 5 (u.2.1 0))]) u) t) (va_A [(cc_O o0 11 [o_0, o_1, o_2, o_3, o_4, o_5, o_6, o_7, o_8, o_9, o_10, o_11, .ref rf, .int rb, o_14, o_15, o_16]), (cc_l rf (K 0) 5 frf)] sz)) 0 0 (va_A [(cc_O o0 11 [o_0, o_1, o_2, o_3, o_4, o_5, o_6, o_7, o_8, o_9, o_10, o_11, .ref rf, .int rb, o_14, o_15, o_16]), (cc_l rf (K 0) 5 frf)] sz) := by
  refine Met.ofW (cc := cX11_refuse) (maxL := 3) (ret := (some .int)) (by decide +kernel) rfl ?_
  intro p e s m args below meth c s₁ B hml hv
  obtain ⟨rfl, hsz, hP, hK, hD0, hN⟩ := hv
  have hx := B.exec
  have hb := B.bytes
  have hr := B.returns
  have hts := atoms_spec (ws := wsX11_refuse) B.pre
  have hown : s.vm.findClass RX11 = some m.cls := findClass_of_methodNamed B.named
  have hlocks := B.notSynchronized
  subst hsz
  have hD := hD0.self (sz := s.heap.size)
  generalize hAe : va_A [(cc_O o0 11 [o_0, o_1, o_2, o_3, o_4, o_5, o_6, o_7, o_8, o_9, o_10, o_11, .ref rf, .int rb, o_14, o_15, o_16]), (cc_l rf (K 0) 5 frf)] s.heap.size = A at hD ⊢
  have hA : ∀ q : Nat, s.heap.size ≤ q → A q := fun q h => by rw [← hAe]; exact Or.inr h
  clear hAe
  have hS : va_S A s.heap s.heap [] := va_S.rf
  replace hP : va_P D vwCl [(cc_O o0 11 [o_0, o_1, o_2, o_3, o_4, o_5, o_6, o_7, o_8, o_9, o_10, o_11, .ref rf, .int rb, o_14, o_15, o_16]), (cc_l rf (K 0) 5 frf)] s.heap := hP
  have hl := lv_entry [.ref o0, .int x] (n := 3) (Nat.le_of_ble_eq_true rfl)
  rw [lg_entry_eq]
  generalize (lg_sl [.ref o0, .int x] ++ List.replicate (3 - (lg_sl [.ref o0, .int x]).length) Slot.unset).toArray = ls at hl ⊢
  have hl : lv_has ls 3 [(0, .ref o0), (1, .int x)] := hl
  have hw11 : ∀ w ∈ wsX110, w ∈ wsX11_refuse := fun w h => (List.mem_cons_of_mem _ (List.mem_append_right _ h))
  generalize hQ : MQ below _ _ s _ _ _ = Q
  have hE := E_w_refuseX.eq_def x rb frf
  refine lv_iload_n hx hb dX11_refuse_0 rfl (lv_at hl 1 rfl) (lv_bipush (v := (-4)) hx hb dX11_refuse_1 (by decide +kernel) ?_)
  have j_201 : ∀ (f_200 : Nat → Int32) (hE : E_w_refuseX x rb frf = E_w_refuseX_j43 x f_200) (H : Heap) (locs : List Loc) (hP : va_P D vwCl [(cc_O o0 11 [o_0, o_1, o_2, o_3, o_4, o_5, o_6, o_7, o_8, o_9, o_10, o_11, .ref rf, .int rb, o_14, o_15, o_16]), (cc_l rf (K 0) 5 f_200)] H) (hD : va_D A [(cc_O o0 11 [o_0, o_1, o_2, o_3, o_4, o_5, o_6, o_7, o_8, o_9, o_10, o_11, .ref rf, .int rb, o_14, o_15, o_16]), (cc_l rf (K 0) 5 f_200)]) (hS : va_S A s.heap H locs) (ls : Array Slot) (hl : lv_has ls 3 [(0, .ref o0), (1, .int x)]), W p l e ({ frames := 1, cells := 0, slots := 0, locals := 22 }) s m (([.ref o0, .int x] : List Value).toArray) below meth c H locs 0 0 Q (F0 m 43 ls []) := by
    clear hE hP hD hS hl
    intro f_200 hE H locs hP hD hS ls hl
    replace hE := hE.trans (E_w_refuseX_j43.eq_def _ _)
    refine lv_aload_n hx hb dX11_refuse_43 rfl (lv_at hl 0 rfl) (lv_iload_n hx hb dX11_refuse_44 rfl (lv_at hl 1 rfl) (va_put (ci := 11) (v := .int x) (ty := .int) (C := RX11) (T := TX11) (N := 17) hx hb hts hw11 tyX11 tyX11_ok nmX11 hown hK hP hD hS 0 rfl rfl 13 (by decide +kernel) (hts _ mm_X11_refuse_347) (fun _ h9 => h9) rfl (by decide +kernel) (by first | rfl | decide) (by first | rfl | decide) (Nat.le_of_ble_eq_true rfl) dX11_refuse_45 (fun H locs hP0 hD0 hS0 => ?_)))
    replace hP : va_P D vwCl [(cc_O o0 11 [o_0, o_1, o_2, o_3, o_4, o_5, o_6, o_7, o_8, o_9, o_10, o_11, .ref rf, .int x, o_14, o_15, o_16]), (cc_l rf (K 0) 5 f_200)] H := hP0
    replace hD := as_D hP hD0 rfl
    replace hS := hS0
    clear hP0 hD0 hS0
    refine lv_iload_n hx hb dX11_refuse_48 rfl (lv_at hl 1 rfl) ?_
    rw [← hQ]
    have hP9 := hP.sub (ws' := [(cc_O o0 11 [o_0, o_1, o_2, o_3, o_4, o_5, o_6, o_7, o_8, o_9, o_10, o_11, .ref rf, .int x, o_14, o_15, o_16]), (cc_l rf (K 0) 5 f_200)]) [0, 1] rfl
    have hD9 := sub_D hP9 hD [0, 1] (by decide +kernel) rfl
    exact W.iret (v := x) hx hb hr (fun t ht hW => ⟨⟨x, ((fun _ => 0, fun i => match i with | _ => f_200, fun _ => fun _ => 0, fun _ => 0, fun _ => 0, fun _ => fun _ => none) : Su), rfl, ⟨(by first | exact rfl | assumption), hE.symm, trivial⟩, (⟨by rw [ht]; exact hP9, hD9⟩ : Wd D A _ t)⟩, hS.F ht⟩) hS.2.2 dX11_refuse_49
  refine lv_icmp_le (tgt := 13) hx hb dX11_refuse_3 (by decide +kernel) (fun c_202 => ?_) (fun c_202 => ?_)
  · have c_202i := i_le (x := x.toInt) (y := (-4)) rfl rfl c_202
    replace hE := hE.trans (if_pos c_202)
    refine lv_iload_n hx hb dX11_refuse_13 rfl (lv_at hl 1 rfl) (lv_ineg hx hb dX11_refuse_14 (lv_topi (fun x_203 ex_203 => ?_)))
    replace hE := hE.trans (Lt_in ex_203)
    refine lv_iconst (v := 2) hx hb dX11_refuse_15 (by decide +kernel) (lv_isub hx hb dX11_refuse_16 (lv_topi (fun x_204 ex_204 => ?_)))
    replace hE := hE.trans (Lt_in ex_204)
    refine lv_istore_n (lv' := [(2, .int x_204), (0, .ref o0), (1, .int x)]) hx hb dX11_refuse_17 rfl hl (by decide +kernel) rfl (fun ls hl => ?_)
    refine lv_iload_n hx hb dX11_refuse_18 rfl (lv_at hl 0 rfl) (lv_iconst (v := 0) hx hb dX11_refuse_19 (by decide +kernel) (lv_aload_n hx hb dX11_refuse_20 rfl (lv_at hl 1 rfl) (va_get (ci := 11) (v := .ref rf) (C := RX11) (T := TX11) (N := 17) hx hb hts hw11 hown hK hP 0 rfl rfl 12 (by decide +kernel) (hts _ mm_X11_refuse_346) (fun _ h9 => h9) rfl dX11_refuse_21 (va_alen (v := 5) hx hb hK hP 1 0 rfl rfl rfl dX11_refuse_24 (lv_iconst (v := 1) hx hb dX11_refuse_25 (by decide +kernel) (lv_isub hx hb dX11_refuse_26 (lv_topi (fun x_205 ex_205 => ?_))))))))
    obtain rfl : x_205 = 4 := ex_205.trans (by first | rfl | decide)
    refine pci (va_runS (As := [.int x_204, .int 0, .int 4]) (rest := []) ⟨hx, hb, hml, hown, hts⟩ (w_within l D K x_204.toInt 0 4 x_204 0 4 s.heap.size rfl (show (0 : Int32).toInt = 0 from rfl) (show (4 : Int32).toInt = 4 from rfl)) (va_cwS 3 hts gX11_refuse_X11_within rfl rfl rfl (by decide +kernel) ⟨Nat.le_of_ble_eq_true rfl, Nat.le_of_ble_eq_true rfl⟩) (mkS hK hN (va_P.nil) (va_D.nil (A := fun _ => True))) rfl rfl hl.1 rfl (lv_room (Nat.le_of_ble_eq_true rfl)) dX11_refuse_27 ⟨Nat.le_of_ble_eq_true rfl, Nat.le_of_ble_eq_true rfl⟩) (fun r_206 hw => ?_)
    obtain ⟨hw, k_207, -⟩ := hw
    replace hE := hE.trans (Lt_in k_207)
    rcases hw with ⟨rfl, h_208, h_209⟩ | ⟨rfl, h_210⟩
    · replace hE := (hE).trans (if_pos rfl)
      refine lv_if_eq (tgt := 43) hx hb dX11_refuse_30 (by decide +kernel) (fun c_211 => absurd c_211 (by decide +kernel)) (fun c_211 => ?_)
      refine lv_aload_n hx hb dX11_refuse_33 rfl (lv_at hl 1 rfl) (va_get (ci := 11) (v := .ref rf) (C := RX11) (T := TX11) (N := 17) hx hb hts hw11 hown hK hP 0 rfl rfl 12 (by decide +kernel) (hts _ mm_X11_refuse_346) (fun _ h9 => h9) rfl dX11_refuse_34 (lv_iload_n hx hb dX11_refuse_37 rfl (lv_at hl 0 rfl) (lv_dup2_11 hx hb dX11_refuse_38 rfl rfl (va_iald hx hb hK hP 1 0 rfl rfl (i_in rfl (by omega)) dX11_refuse_39 (lv_topi (fun x_212 ex_212 => ?_))))))
      replace hE := hE.trans (Lt_in ex_212)
      refine lv_iconst (v := 1) hx hb dX11_refuse_40 (by decide +kernel) (lv_iadd hx hb dX11_refuse_41 (lv_topi (fun x_213 ex_213 => ?_)))
      replace hE := hE.trans (Lt_in ex_213)
      refine va_iast hx hb hK hP hD hS 1 0 rfl rfl (i_in rfl (by omega)) dX11_refuse_42 (fun H locs hP0 hD0 hS0 => ?_)
      replace hP := hP0
      replace hD := hD0
      replace hS := hS0
      clear hP0 hD0 hS0
      generalize hf_214 : (upd frf (x_204 : Int32).toNatClampNeg x_213) = f_214 at hP hD
      replace hE := hE.trans (Lt_in hf_214.symm)
      replace hP : va_P D vwCl [(cc_O o0 11 [o_0, o_1, o_2, o_3, o_4, o_5, o_6, o_7, o_8, o_9, o_10, o_11, .ref rf, .int rb, o_14, o_15, o_16]), (cc_l rf (K 0) 5 f_214)] H := hP
      replace hD := as_D hP hD rfl
      exact j_201 f_214  hE _ _ hP hD hS ls (lv_sub hl [1, 2] rfl)
    · replace hE := (hE).trans (if_neg (by first | decide | (intro h9; have h8 := congrArg Int32.toInt h9; omega)))
      refine lv_if_eq (tgt := 43) hx hb dX11_refuse_30 (by decide +kernel) (fun c_215 => ?_) (fun c_215 => absurd (by decide +kernel) c_215)
      exact j_201 frf  hE _ _ hP hD hS ls (lv_sub hl [1, 2] rfl)
  · have c_202i := i_nle (x := x.toInt) (y := (-4)) rfl rfl c_202
    replace hE := hE.trans (if_neg c_202)
    refine lv_iload_n hx hb dX11_refuse_6 rfl (lv_at hl 1 rfl) (lv_ineg hx hb dX11_refuse_7 (lv_topi (fun x_216 ex_216 => ?_)))
    replace hE := hE.trans (Lt_in ex_216)
    have hx_216 : x_216.toInt = (- x.toInt) := by rw [ex_216]; exact i_neg rfl (by omega)
    refine lv_iconst (v := 1) hx hb dX11_refuse_8 (by decide +kernel) (lv_isub hx hb dX11_refuse_9 (lv_topi (fun x_217 ex_217 => ?_)))
    replace hE := hE.trans (Lt_in ex_217)
    have hx_217 : x_217.toInt = ((- x.toInt) - 1) := by rw [ex_217]; exact i_sub hx_216 (show (1 : Int32).toInt = 1 from rfl) (by have q3 := i_rng (a := x) rfl; omega)
    refine lv_goto (tgt := 17) hx hb dX11_refuse_10 (by decide +kernel) (lv_istore_n (lv' := [(2, .int x_217), (0, .ref o0), (1, .int x)]) hx hb dX11_refuse_17 rfl hl (by decide +kernel) rfl (fun ls hl => ?_))
    refine lv_iload_n hx hb dX11_refuse_18 rfl (lv_at hl 0 rfl) (lv_iconst (v := 0) hx hb dX11_refuse_19 (by decide +kernel) (lv_aload_n hx hb dX11_refuse_20 rfl (lv_at hl 1 rfl) (va_get (ci := 11) (v := .ref rf) (C := RX11) (T := TX11) (N := 17) hx hb hts hw11 hown hK hP 0 rfl rfl 12 (by decide +kernel) (hts _ mm_X11_refuse_346) (fun _ h9 => h9) rfl dX11_refuse_21 (va_alen (v := 5) hx hb hK hP 1 0 rfl rfl rfl dX11_refuse_24 (lv_iconst (v := 1) hx hb dX11_refuse_25 (by decide +kernel) (lv_isub hx hb dX11_refuse_26 (lv_topi (fun x_218 ex_218 => ?_))))))))
    obtain rfl : x_218 = 4 := ex_218.trans (by first | rfl | decide)
    refine pci (va_runS (As := [.int x_217, .int 0, .int 4]) (rest := []) ⟨hx, hb, hml, hown, hts⟩ (w_within l D K ((- x.toInt) - 1) 0 4 x_217 0 4 s.heap.size hx_217 (show (0 : Int32).toInt = 0 from rfl) (show (4 : Int32).toInt = 4 from rfl)) (va_cwS 3 hts gX11_refuse_X11_within rfl rfl rfl (by decide +kernel) ⟨Nat.le_of_ble_eq_true rfl, Nat.le_of_ble_eq_true rfl⟩) (mkS hK hN (va_P.nil) (va_D.nil (A := fun _ => True))) rfl rfl hl.1 rfl (lv_room (Nat.le_of_ble_eq_true rfl)) dX11_refuse_27 ⟨Nat.le_of_ble_eq_true rfl, Nat.le_of_ble_eq_true rfl⟩) (fun r_219 hw => ?_)
    obtain ⟨hw, k_220, -⟩ := hw
    replace hE := hE.trans (Lt_in k_220)
    rcases hw with ⟨rfl, h_221, h_222⟩ | ⟨rfl, h_223⟩
    · replace hE := (hE).trans (if_pos rfl)
      refine lv_if_eq (tgt := 43) hx hb dX11_refuse_30 (by decide +kernel) (fun c_224 => absurd c_224 (by decide +kernel)) (fun c_224 => ?_)
      refine lv_aload_n hx hb dX11_refuse_33 rfl (lv_at hl 1 rfl) (va_get (ci := 11) (v := .ref rf) (C := RX11) (T := TX11) (N := 17) hx hb hts hw11 hown hK hP 0 rfl rfl 12 (by decide +kernel) (hts _ mm_X11_refuse_346) (fun _ h9 => h9) rfl dX11_refuse_34 (lv_iload_n hx hb dX11_refuse_37 rfl (lv_at hl 0 rfl) (lv_dup2_11 hx hb dX11_refuse_38 rfl rfl (va_iald hx hb hK hP 1 0 rfl rfl (i_in hx_217 (by omega)) dX11_refuse_39 (lv_topi (fun x_225 ex_225 => ?_))))))
      replace hE := hE.trans (Lt_in ex_225)
      refine lv_iconst (v := 1) hx hb dX11_refuse_40 (by decide +kernel) (lv_iadd hx hb dX11_refuse_41 (lv_topi (fun x_226 ex_226 => ?_)))
      replace hE := hE.trans (Lt_in ex_226)
      refine va_iast hx hb hK hP hD hS 1 0 rfl rfl (i_in hx_217 (by omega)) dX11_refuse_42 (fun H locs hP0 hD0 hS0 => ?_)
      replace hP := hP0
      replace hD := hD0
      replace hS := hS0
      clear hP0 hD0 hS0
      generalize hf_227 : (upd frf (x_217 : Int32).toNatClampNeg x_226) = f_227 at hP hD
      replace hE := hE.trans (Lt_in hf_227.symm)
      replace hP : va_P D vwCl [(cc_O o0 11 [o_0, o_1, o_2, o_3, o_4, o_5, o_6, o_7, o_8, o_9, o_10, o_11, .ref rf, .int rb, o_14, o_15, o_16]), (cc_l rf (K 0) 5 f_227)] H := hP
      replace hD := as_D hP hD rfl
      exact j_201 f_227  hE _ _ hP hD hS ls (lv_sub hl [1, 2] rfl)
    · replace hE := (hE).trans (if_neg (by first | decide | (intro h9; have h8 := congrArg Int32.toInt h9; omega)))
      refine lv_if_eq (tgt := 43) hx hb dX11_refuse_30 (by decide +kernel) (fun c_228 => ?_) (fun c_228 => absurd (by decide +kernel) c_228)
      exact j_201 frf  hE _ _ hP hD hS ls (lv_sub hl [1, 2] rfl)
set_option maxRecDepth 100000 in
noncomputable def E_v_tellX_j28 (x : Int32) (v_102 : Int32) (f_103 : Nat → Int32) : Int32 × Int32 × (Nat → Int32) :=
  ((x, v_102, f_103) : Int32 × Int32 × (Nat → Int32))
set_option maxRecDepth 100000 in
noncomputable def E_v_tellX (x : Int32) (sta : Int32) (frf : Nat → Int32) : Int32 × Int32 × (Nat → Int32) :=
  if 0 ≤ x then (if 0 ≤ x then (E_v_tellX_j28 x 0 frf) else (((0, 0, fun _ => 0) : Int32 × Int32 × (Nat → Int32)))) else (if 0 ≤ x then (((0, 0, fun _ => 0) : Int32 × Int32 × (Nat → Int32))) else (Lt (- x : Int32) (fun x_108 => Lt (frf (x_108 : Int32).toNatClampNeg : Int32) (fun x_109 => Lt (x_109 + 1 : Int32) (fun x_110 => Lt (upd frf (x_108 : Int32).toNatClampNeg x_110 : Nat → Int32) (fun f_111 => E_v_tellX_j28 x x f_111))))))
set_option maxHeartbeats 4000000 in
set_option maxRecDepth 100000 in
theorem v_tellX (l : Launch) (D : va_G) (K : Nat → ClassId) (m0 : Nat) (x : Int32) (m_0 : Value) (sta : Int32) (r0 : Nat) (m_3 : Value) (m_4 : Value) (m_5 : Value) (m_6 : Value) (m_7 : Value) (m_8 : Value) (m_9 : Value) (m_10 : Value) (m_11 : Value) (m_12 : Value) (m_13 : Value) (m_14 : Value) (m_15 : Value) (m_16 : Value) (m_17 : Value) (m_18 : Value) (m_19 : Value) (m_20 : Value) (m_21 : Value) (m_22 : Value) (m_23 : Value) (m_24 : Value) (m_25 : Value) (m_26 : Value) (m_27 : Value) (m_28 : Value) (m_29 : Value) (m_30 : Value) (m_31 : Value) (m_32 : Value) (m_33 : Value) (m_34 : Value) (m_35 : Value) (m_36 : Value) (m_37 : Value) (m_38 : Value) (m_39 : Value) (m_40 : Value) (m_41 : Value) (m_42 : Value) (m_43 : Value) (m_44 : Value) (m_45 : Value) (m_46 : Value) (m_47 : Value) (m_48 : Value) (m_49 : Value) (m_50 : Value) (m_51 : Value) (m_52 : Value) (m_53 : Value) (m_54 : Value) (m_55 : Value) (m_56 : Value) (m_57 : Value) (m_58 : Value) (m_59 : Value) (frf : Nat → Int32) (sz : Nat) (zx : (-6) ≤ x.toInt ∧ x.toInt ≤ 2147483647) : Met l yX12_tell wsX12_tell ({ frames := 0, cells := 0, slots := 0, locals := 0 }) (va_Pc [.ref m0, .int x] (Pre D K [(cc_O m0 12 [m_0, .int sta, .ref r0, m_3, m_4, m_5, m_6, m_7, m_8, m_9, m_10, m_11, m_12, m_13, m_14, m_15, m_16, m_17, m_18, m_19, m_20, m_21, m_22, m_23, m_24, m_25, m_26, m_27, m_28, m_29, m_30, m_31, m_32, m_33, m_34, m_35, m_36, m_37, m_38, m_39, m_40, m_41, m_42, m_43, m_44, m_45, m_46, m_47, m_48, m_49, m_50, m_51, m_52, m_53, m_54, m_55, m_56, m_57, m_58, m_59]), (cc_l r0 (K 0) 7 frf)] sz)) (va_Qi (S := Su) (fun (r : Int32) (u : Su) => ((r = x)) ∧ ((-6) ≤ (u.2.2.2.1 0).toInt ∧ (u.2.2.2.1 0).toInt ≤ 0) ∧ ((r, (u.2.2.2.1 0), (u.2.1 0)) = E_v_tellX x sta frf) ∧ True) (fun u t => Wd D (va_A [(cc_O m0 12 [m_0, .int sta, .ref r0, m_3, m_4, m_5, m_6, m_7, m_8, m_9, m_10, m_11, m_12, m_13, m_14, m_15, m_16, m_17, m_18, m_19, m_20, m_21, m_22, m_23, m_24, m_25, m_26, m_27, m_28, m_29, m_30, m_31, m_32, m_33, m_34, m_35, m_36, m_37, m_38, m_39, m_40, m_41, m_42, m_43, m_44, m_45, m_46, m_47, m_48, m_49, m_50, m_51, m_52, m_53, m_54, m_55, m_56, m_57, m_58, m_59]), (cc_l r0 (K 0) 7 frf)] sz) ((fun u => [(cc_O m0 12 [m_0, .int (u.2.2.2.1 0), .ref r0, m_3, m_4, m_5, m_6, m_7, m_8, m_9, m_10, m_11, m_12, m_13, m_14, m_15, m_16, m_17, m_18, m_19, m_20, m_21, m_22, m_23, m_24, m_25, m_26, m_27, m_28, m_29, m_30, m_31, m_32, m_33, m_34, m_35, m_36, m_37, m_38, m_39, m_40, m_41, m_42, m_43, m_44, m_45, m_46, m_47, m_48, m_49, m_50, m_51, m_52, m_53, m_54, m_55, m_56, m_57, m_58, m_59]), (cc_l r0 (K 0) 7 (u.2.1 0))]) u) t) (va_A [(cc_O m0 12 [m_0, .int sta, .ref r0, m_3, m_4, m_5, m_6, m_7, m_8, m_9, m_10, m_11, m_12, m_13, m_14, m_15, m_16, m_17, m_18, m_19, m_20, m_21, m_22, m_23, m_24, m_25, m_26, m_27, m_28, m_29, m_30, m_31, m_32, m_33, m_34, m_35, m_36, m_37, m_38, m_39, m_40, m_41, m_42, m_43, m_44, m_45, m_46, m_47, m_48, m_49, m_50, m_51, m_52, m_53, m_54, m_55, m_56, m_57, m_58, m_59]), (cc_l r0 (K 0) 7 frf)] sz)) 0 0 (va_A [(cc_O m0 12 [m_0, .int sta, .ref r0, m_3, m_4, m_5, m_6, m_7, m_8, m_9, m_10, m_11, m_12, m_13, m_14, m_15, m_16, m_17, m_18, m_19, m_20, m_21, m_22, m_23, m_24, m_25, m_26, m_27, m_28, m_29, m_30, m_31, m_32, m_33, m_34, m_35, m_36, m_37, m_38, m_39, m_40, m_41, m_42, m_43, m_44, m_45, m_46, m_47, m_48, m_49, m_50, m_51, m_52, m_53, m_54, m_55, m_56, m_57, m_58, m_59]), (cc_l r0 (K 0) 7 frf)] sz) := by
  refine Met.ofW (cc := cX12_tell) (maxL := 2) (ret := (some .int)) (by decide +kernel) rfl ?_
  intro p e s m args below meth c s₁ B hml hv
  obtain ⟨rfl, hsz, hP, hK, hD0, hN⟩ := hv
  have hx := B.exec
  have hb := B.bytes
  have hr := B.returns
  have hts := atoms_spec (ws := wsX12_tell) B.pre
  have hown : s.vm.findClass RX12 = some m.cls := findClass_of_methodNamed B.named
  have hlocks := B.notSynchronized
  subst hsz
  have hD := hD0.self (sz := s.heap.size)
  generalize hAe : va_A [(cc_O m0 12 [m_0, .int sta, .ref r0, m_3, m_4, m_5, m_6, m_7, m_8, m_9, m_10, m_11, m_12, m_13, m_14, m_15, m_16, m_17, m_18, m_19, m_20, m_21, m_22, m_23, m_24, m_25, m_26, m_27, m_28, m_29, m_30, m_31, m_32, m_33, m_34, m_35, m_36, m_37, m_38, m_39, m_40, m_41, m_42, m_43, m_44, m_45, m_46, m_47, m_48, m_49, m_50, m_51, m_52, m_53, m_54, m_55, m_56, m_57, m_58, m_59]), (cc_l r0 (K 0) 7 frf)] s.heap.size = A at hD ⊢
  have hA : ∀ q : Nat, s.heap.size ≤ q → A q := fun q h => by rw [← hAe]; exact Or.inr h
  clear hAe
  have hS : va_S A s.heap s.heap [] := va_S.rf
  replace hP : va_P D vwCl [(cc_O m0 12 [m_0, .int sta, .ref r0, m_3, m_4, m_5, m_6, m_7, m_8, m_9, m_10, m_11, m_12, m_13, m_14, m_15, m_16, m_17, m_18, m_19, m_20, m_21, m_22, m_23, m_24, m_25, m_26, m_27, m_28, m_29, m_30, m_31, m_32, m_33, m_34, m_35, m_36, m_37, m_38, m_39, m_40, m_41, m_42, m_43, m_44, m_45, m_46, m_47, m_48, m_49, m_50, m_51, m_52, m_53, m_54, m_55, m_56, m_57, m_58, m_59]), (cc_l r0 (K 0) 7 frf)] s.heap := hP
  have hl := lv_entry [.ref m0, .int x] (n := 2) (Nat.le_of_ble_eq_true rfl)
  rw [lg_entry_eq]
  generalize (lg_sl [.ref m0, .int x] ++ List.replicate (2 - (lg_sl [.ref m0, .int x]).length) Slot.unset).toArray = ls at hl ⊢
  have hl : lv_has ls 2 [(0, .ref m0), (1, .int x)] := hl
  have hw12 : ∀ w ∈ wsX120, w ∈ wsX12_tell := fun w h => (List.mem_cons_of_mem _ (List.mem_append_right _ h))
  generalize hQ : MQ below _ _ s _ _ _ = Q
  have hE := E_v_tellX.eq_def x sta frf
  refine lv_aload_n hx hb dX12_tell_0 rfl (lv_at hl 0 rfl) (lv_iload_n hx hb dX12_tell_1 rfl (lv_at hl 1 rfl) ?_)
  have j_104 : ∀ (v_102 : Int32) (f_103 : Nat → Int32) (hv_102 : (-6) ≤ v_102.toInt ∧ v_102.toInt ≤ 0) (hE : E_v_tellX x sta frf = E_v_tellX_j28 x v_102 f_103) (H : Heap) (locs : List Loc) (hP : va_P D vwCl [(cc_O m0 12 [m_0, .int v_102, .ref r0, m_3, m_4, m_5, m_6, m_7, m_8, m_9, m_10, m_11, m_12, m_13, m_14, m_15, m_16, m_17, m_18, m_19, m_20, m_21, m_22, m_23, m_24, m_25, m_26, m_27, m_28, m_29, m_30, m_31, m_32, m_33, m_34, m_35, m_36, m_37, m_38, m_39, m_40, m_41, m_42, m_43, m_44, m_45, m_46, m_47, m_48, m_49, m_50, m_51, m_52, m_53, m_54, m_55, m_56, m_57, m_58, m_59]), (cc_l r0 (K 0) 7 f_103)] H) (hD : va_D A [(cc_O m0 12 [m_0, .int v_102, .ref r0, m_3, m_4, m_5, m_6, m_7, m_8, m_9, m_10, m_11, m_12, m_13, m_14, m_15, m_16, m_17, m_18, m_19, m_20, m_21, m_22, m_23, m_24, m_25, m_26, m_27, m_28, m_29, m_30, m_31, m_32, m_33, m_34, m_35, m_36, m_37, m_38, m_39, m_40, m_41, m_42, m_43, m_44, m_45, m_46, m_47, m_48, m_49, m_50, m_51, m_52, m_53, m_54, m_55, m_56, m_57, m_58, m_59]), (cc_l r0 (K 0) 7 f_103)]) (hS : va_S A s.heap H locs) (ls : Array Slot) (hl : lv_has ls 2 [(1, .int x)]), W p l e ({ frames := 0, cells := 0, slots := 0, locals := 0 }) s m (([.ref m0, .int x] : List Value).toArray) below meth c H locs 0 0 Q (F0 m 28 ls []) := by
    clear hE hP hD hS hl
    intro v_102 f_103 hv_102 hE H locs hP hD hS ls hl
    replace hE := hE.trans (E_v_tellX_j28.eq_def _ _ _)
    refine lv_iload_n hx hb dX12_tell_28 rfl (lv_at hl 0 rfl) ?_
    rw [← hQ]
    have hP9 := hP.sub (ws' := [(cc_O m0 12 [m_0, .int v_102, .ref r0, m_3, m_4, m_5, m_6, m_7, m_8, m_9, m_10, m_11, m_12, m_13, m_14, m_15, m_16, m_17, m_18, m_19, m_20, m_21, m_22, m_23, m_24, m_25, m_26, m_27, m_28, m_29, m_30, m_31, m_32, m_33, m_34, m_35, m_36, m_37, m_38, m_39, m_40, m_41, m_42, m_43, m_44, m_45, m_46, m_47, m_48, m_49, m_50, m_51, m_52, m_53, m_54, m_55, m_56, m_57, m_58, m_59]), (cc_l r0 (K 0) 7 f_103)]) [0, 1] rfl
    have hD9 := sub_D hP9 hD [0, 1] (by decide +kernel) rfl
    exact W.iret (v := x) hx hb hr (fun t ht hW => ⟨⟨x, ((fun _ => 0, fun i => match i with | _ => f_103, fun _ => fun _ => 0, fun i => match i with | _ => v_102, fun _ => 0, fun _ => fun _ => none) : Su), rfl, ⟨(by first | exact rfl | assumption), (show (-6) ≤ (v_102 : Int32).toInt ∧ (v_102 : Int32).toInt ≤ 0 by omega), hE.symm, trivial⟩, (⟨by rw [ht]; exact hP9, hD9⟩ : Wd D A _ t)⟩, hS.F ht⟩) hS.2.2 dX12_tell_29
  refine lv_if_ge (tgt := 9) hx hb dX12_tell_2 (by decide +kernel) (fun c_105 => ?_) (fun c_105 => ?_)
  · have c_105i := i_le (x := 0) (y := x.toInt) rfl rfl c_105
    replace hE := hE.trans (if_pos c_105)
    refine lv_iconst (v := 0) hx hb dX12_tell_9 (by decide +kernel) (va_put (ci := 12) (v := .int 0) (ty := .int) (C := RX12) (T := TX12) (N := 60) hx hb hts hw12 tyX12 tyX12_ok nmX12 hown hK hP hD hS 0 rfl rfl 1 (by decide +kernel) (hts _ mm_X12_tell_831) (fun _ h9 => h9) rfl (by decide +kernel) (by first | rfl | decide) (by first | rfl | decide) (Nat.le_of_ble_eq_true rfl) dX12_tell_10 (fun H locs hP0 hD0 hS0 => ?_))
    replace hP : va_P D vwCl [(cc_O m0 12 [m_0, .int 0, .ref r0, m_3, m_4, m_5, m_6, m_7, m_8, m_9, m_10, m_11, m_12, m_13, m_14, m_15, m_16, m_17, m_18, m_19, m_20, m_21, m_22, m_23, m_24, m_25, m_26, m_27, m_28, m_29, m_30, m_31, m_32, m_33, m_34, m_35, m_36, m_37, m_38, m_39, m_40, m_41, m_42, m_43, m_44, m_45, m_46, m_47, m_48, m_49, m_50, m_51, m_52, m_53, m_54, m_55, m_56, m_57, m_58, m_59]), (cc_l r0 (K 0) 7 frf)] H := hP0
    replace hD := as_D hP hD0 rfl
    replace hS := hS0
    clear hP0 hD0 hS0
    refine lv_iload_n hx hb dX12_tell_13 rfl (lv_at hl 1 rfl) (lv_if_ge (tgt := 28) hx hb dX12_tell_14 (by decide +kernel) (fun c_106 => ?_) (fun c_106 => ?_))
    · have c_106i := i_le (x := 0) (y := x.toInt) rfl rfl c_106
      replace hE := hE.trans (if_pos c_106)
      exact j_104 0 frf (by decide +kernel) hE _ _ hP hD hS ls (lv_sub hl [1] rfl)
    · have c_106i := i_nle (x := 0) (y := x.toInt) rfl rfl c_106
      exfalso; omega
  · have c_105i := i_nle (x := 0) (y := x.toInt) rfl rfl c_105
    replace hE := hE.trans (if_neg c_105)
    refine lv_iload_n hx hb dX12_tell_5 rfl (lv_at hl 1 rfl) (lv_goto (tgt := 10) hx hb dX12_tell_6 (by decide +kernel) (va_put (ci := 12) (v := .int x) (ty := .int) (C := RX12) (T := TX12) (N := 60) hx hb hts hw12 tyX12 tyX12_ok nmX12 hown hK hP hD hS 0 rfl rfl 1 (by decide +kernel) (hts _ mm_X12_tell_831) (fun _ h9 => h9) rfl (by decide +kernel) (by first | rfl | decide) (by first | rfl | decide) (Nat.le_of_ble_eq_true rfl) dX12_tell_10 (fun H locs hP0 hD0 hS0 => ?_)))
    replace hP : va_P D vwCl [(cc_O m0 12 [m_0, .int x, .ref r0, m_3, m_4, m_5, m_6, m_7, m_8, m_9, m_10, m_11, m_12, m_13, m_14, m_15, m_16, m_17, m_18, m_19, m_20, m_21, m_22, m_23, m_24, m_25, m_26, m_27, m_28, m_29, m_30, m_31, m_32, m_33, m_34, m_35, m_36, m_37, m_38, m_39, m_40, m_41, m_42, m_43, m_44, m_45, m_46, m_47, m_48, m_49, m_50, m_51, m_52, m_53, m_54, m_55, m_56, m_57, m_58, m_59]), (cc_l r0 (K 0) 7 frf)] H := hP0
    replace hD := as_D hP hD0 rfl
    replace hS := hS0
    clear hP0 hD0 hS0
    refine lv_iload_n hx hb dX12_tell_13 rfl (lv_at hl 1 rfl) (lv_if_ge (tgt := 28) hx hb dX12_tell_14 (by decide +kernel) (fun c_107 => ?_) (fun c_107 => ?_))
    · have c_107i := i_le (x := 0) (y := x.toInt) rfl rfl c_107
      exfalso; omega
    · have c_107i := i_nle (x := 0) (y := x.toInt) rfl rfl c_107
      replace hE := hE.trans (if_neg c_107)
      refine lv_aload_n hx hb dX12_tell_17 rfl (lv_at hl 0 rfl) (va_get (ci := 12) (v := .ref r0) (C := RX12) (T := TX12) (N := 60) hx hb hts hw12 hown hK hP 0 rfl rfl 2 (by decide +kernel) (hts _ mm_X12_tell_832) (fun _ h9 => h9) rfl dX12_tell_18 (lv_iload_n hx hb dX12_tell_21 rfl (lv_at hl 1 rfl) (lv_ineg hx hb dX12_tell_22 (lv_topi (fun x_108 ex_108 => ?_)))))
      replace hE := hE.trans (Lt_in ex_108)
      have hx_108 : x_108.toInt = (- x.toInt) := by rw [ex_108]; exact i_neg rfl (by omega)
      refine lv_dup2_11 hx hb dX12_tell_23 rfl rfl (va_iald hx hb hK hP 1 0 rfl rfl (i_in hx_108 (by omega)) dX12_tell_24 (lv_topi (fun x_109 ex_109 => ?_)))
      replace hE := hE.trans (Lt_in ex_109)
      refine lv_iconst (v := 1) hx hb dX12_tell_25 (by decide +kernel) (lv_iadd hx hb dX12_tell_26 (lv_topi (fun x_110 ex_110 => ?_)))
      replace hE := hE.trans (Lt_in ex_110)
      refine va_iast hx hb hK hP hD hS 1 0 rfl rfl (i_in hx_108 (by omega)) dX12_tell_27 (fun H locs hP0 hD0 hS0 => ?_)
      replace hP := hP0
      replace hD := hD0
      replace hS := hS0
      clear hP0 hD0 hS0
      generalize hf_111 : (upd frf (x_108 : Int32).toNatClampNeg x_110) = f_111 at hP hD
      replace hE := hE.trans (Lt_in hf_111.symm)
      replace hP : va_P D vwCl [(cc_O m0 12 [m_0, .int x, .ref r0, m_3, m_4, m_5, m_6, m_7, m_8, m_9, m_10, m_11, m_12, m_13, m_14, m_15, m_16, m_17, m_18, m_19, m_20, m_21, m_22, m_23, m_24, m_25, m_26, m_27, m_28, m_29, m_30, m_31, m_32, m_33, m_34, m_35, m_36, m_37, m_38, m_39, m_40, m_41, m_42, m_43, m_44, m_45, m_46, m_47, m_48, m_49, m_50, m_51, m_52, m_53, m_54, m_55, m_56, m_57, m_58, m_59]), (cc_l r0 (K 0) 7 f_111)] H := hP
      replace hD := as_D hP hD rfl
      exact j_104 x f_111 (by omega) hE _ _ hP hD hS ls (lv_sub hl [1] rfl)
set_option maxRecDepth 100000 in
noncomputable def E_w_rowX_l21 (rb : Int32) (frf : Nat → Int32) (ln : Int32) (fb : Nat → Int32) (rec_379 : Int32 → Int32 → (Nat → Int32) → (Int32 × Int32 × Int32 × (Nat → Int32) × Int32 × (Nat → Int32))) (v_341 : Int32) (v_342 : Int32) (f_343 : Nat → Int32) : Int32 × Int32 × Int32 × (Nat → Int32) × Int32 × (Nat → Int32) :=
  if ln ≤ v_341 then (Lt (ln - v_342 : Int32) (fun x_382 => Lt (E_w_accept v_342 rb) (fun r_383 => ((r_383, 0, x_382, frf, 0, f_343) : Int32 × Int32 × Int32 × (Nat → Int32) × Int32 × (Nat → Int32))))) else (Lt (E_w_byteAtX v_341 ln fb) (fun r_386 => if 24 ≤ v_341 then (Lt (v_341 + Int32.ofInt 1 : Int32) (fun x_389 => rec_379 x_389 v_342 f_343)) else (Lt (E_w_within r_386 0 127) (fun r_390 => if r_390 = 1 then (Lt (upd f_343 (v_341 : Int32).toNatClampNeg r_386 : Nat → Int32) (fun f_396 => Lt (v_342 + Int32.ofInt 1 : Int32) (fun x_397 => Lt (v_341 + Int32.ofInt 1 : Int32) (fun x_398 => rec_379 x_398 x_397 f_396)))) else (Lt (v_341 + Int32.ofInt 1 : Int32) (fun x_400 => rec_379 x_400 v_342 f_343))))))
set_option maxRecDepth 100000 in
noncomputable def E_w_rowX (rb : Int32) (ato : Int32) (frf : Nat → Int32) (ln : Int32) (fb : Nat → Int32) (f3 : Nat → Int32) : Int32 × Int32 × Int32 × (Nat → Int32) × Int32 × (Nat → Int32) :=
  if ln = 0 then (Lt2 (E_w_refuseX (-6) rb frf) (fun r_403 u_404_2_1_0 => (((-6), (-6), ato, u_404_2_1_0, ln, f3) : Int32 × Int32 × Int32 × (Nat → Int32) × Int32 × (Nat → Int32)))) else (Lp (α := Int32 → Int32 → (Nat → Int32) → (Int32 × Int32 × Int32 × (Nat → Int32) × Int32 × (Nat → Int32))) (E_w_rowX_l21 rb frf ln fb) (fun _ _ _ => ((0, 0, 0, fun _ => 0, 0, fun _ => 0) : Int32 × Int32 × Int32 × (Nat → Int32) × Int32 × (Nat → Int32))) ((401 - (0 : Int32).toInt : Int).toNat + 1) 0 0 f3)
set_option maxHeartbeats 4000000 in
set_option maxRecDepth 100000 in
theorem w_rowX (l : Launch) (D : va_G) (K : Nat → ClassId) (o0 : Nat) (t0 : Nat) (o_1 : Value) (o_2 : Value) (o_3 : Value) (o_4 : Value) (p0 : Nat) (o_6 : Value) (o_7 : Value) (o_8 : Value) (o_9 : Value) (o_10 : Value) (o_11 : Value) (rf : Nat) (rb : Int32) (ato : Int32) (o_15 : Value) (o_16 : Value) (frf : Nat → Int32) (p1 : Nat) (ln : Int32) (p_2 : Value) (p_3 : Value) (p_4 : Value) (p_5 : Value) (fb : Nat → Int32) (k_0 : Value) (t3 : Nat) (k_2 : Value) (k_3 : Value) (k_4 : Value) (k_5 : Value) (k_6 : Value) (k_7 : Value) (k_8 : Value) (k_9 : Value) (f3 : Nat → Int32) (sz : Nat) (zln : 0 ≤ ln.toInt ∧ ln.toInt ≤ 400) (hnn : ∀ j : Nat, (j : Int) < ln.toInt → 0 ≤ (fb j).toInt) : Met l yX11_row wsX11_row ({ frames := 2, cells := 0, slots := 0, locals := 44 }) (va_Pc [.ref o0] (Pre D K [(cc_O o0 11 [.ref t0, o_1, o_2, o_3, o_4, .ref p0, o_6, o_7, o_8, o_9, o_10, o_11, .ref rf, .int rb, .int ato, o_15, o_16]), (cc_l rf (K 0) 5 frf), (cc_O p0 8 [.ref p1, .int ln, p_2, p_3, p_4, p_5]), (cc_l p1 (K 0) 400 fb), (cc_O t0 9 [k_0, .ref t3, k_2, k_3, k_4, k_5, k_6, k_7, k_8, k_9]), (cc_l t3 (K 0) 24 f3)] sz)) (va_Qi (S := Su) (fun (r : Int32) (u : Su) => ((-6) ≤ r.toInt ∧ r.toInt ≤ 400) ∧ ((-6) ≤ (u.2.2.2.1 0).toInt ∧ (u.2.2.2.1 0).toInt ≤ 0) ∧ (0 ≤ (u.2.2.2.1 2).toInt ∧ (u.2.2.2.1 2).toInt ≤ 0) ∧ ((r, (u.2.2.2.1 0), (u.2.2.2.1 1), (u.2.1 0), (u.2.2.2.1 2), (u.2.1 1)) = E_w_rowX rb ato frf ln fb f3) ∧ (((ln.toInt = 0 ∧ r.toInt = -6 ∧ (u.2.2.2.1 1).toInt = ato.toInt) ∨ (0 < ln.toInt ∧ r.toInt = cnt fb ln.toInt.toNat ∧ (u.2.2.2.1 1).toInt = ln.toInt - cnt fb ln.toInt.toNat))) ∧ True) (fun u t => Wd D (va_A [(cc_O o0 11 [.ref t0, o_1, o_2, o_3, o_4, .ref p0, o_6, o_7, o_8, o_9, o_10, o_11, .ref rf, .int rb, .int ato, o_15, o_16]), (cc_l rf (K 0) 5 frf), (cc_O p0 8 [.ref p1, .int ln, p_2, p_3, p_4, p_5]), (cc_l p1 (K 0) 400 fb), (cc_O t0 9 [k_0, .ref t3, k_2, k_3, k_4, k_5, k_6, k_7, k_8, k_9]), (cc_l t3 (K 0) 24 f3)] sz) ((fun u => [(cc_O o0 11 [.ref t0, o_1, o_2, o_3, o_4, .ref p0, o_6, o_7, o_8, o_9, o_10, o_11, .ref rf, .int (u.2.2.2.1 0), .int (u.2.2.2.1 1), o_15, o_16]), (cc_l rf (K 0) 5 (u.2.1 0)), (cc_O p0 8 [.ref p1, .int (u.2.2.2.1 2), p_2, p_3, p_4, p_5]), (cc_l p1 (K 0) 400 fb), (cc_O t0 9 [k_0, .ref t3, k_2, k_3, k_4, k_5, k_6, k_7, k_8, k_9]), (cc_l t3 (K 0) 24 (u.2.1 1))]) u) t) (va_A [(cc_O o0 11 [.ref t0, o_1, o_2, o_3, o_4, .ref p0, o_6, o_7, o_8, o_9, o_10, o_11, .ref rf, .int rb, .int ato, o_15, o_16]), (cc_l rf (K 0) 5 frf), (cc_O p0 8 [.ref p1, .int ln, p_2, p_3, p_4, p_5]), (cc_l p1 (K 0) 400 fb), (cc_O t0 9 [k_0, .ref t3, k_2, k_3, k_4, k_5, k_6, k_7, k_8, k_9]), (cc_l t3 (K 0) 24 f3)] sz)) 0 0 (va_A [(cc_O o0 11 [.ref t0, o_1, o_2, o_3, o_4, .ref p0, o_6, o_7, o_8, o_9, o_10, o_11, .ref rf, .int rb, .int ato, o_15, o_16]), (cc_l rf (K 0) 5 frf), (cc_O p0 8 [.ref p1, .int ln, p_2, p_3, p_4, p_5]), (cc_l p1 (K 0) 400 fb), (cc_O t0 9 [k_0, .ref t3, k_2, k_3, k_4, k_5, k_6, k_7, k_8, k_9]), (cc_l t3 (K 0) 24 f3)] sz) := by
  refine Met.ofW (cc := cX11_row) (maxL := 4) (ret := (some .int)) (by decide +kernel) rfl ?_
  intro p e s m args below meth c s₁ B hml hv
  obtain ⟨rfl, hsz, hP, hK, hD0, hN⟩ := hv
  have hx := B.exec
  have hb := B.bytes
  have hr := B.returns
  have hts := atoms_spec (ws := wsX11_row) B.pre
  have hown : s.vm.findClass RX11 = some m.cls := findClass_of_methodNamed B.named
  have hlocks := B.notSynchronized
  subst hsz
  have hD := hD0.self (sz := s.heap.size)
  generalize hAe : va_A [(cc_O o0 11 [.ref t0, o_1, o_2, o_3, o_4, .ref p0, o_6, o_7, o_8, o_9, o_10, o_11, .ref rf, .int rb, .int ato, o_15, o_16]), (cc_l rf (K 0) 5 frf), (cc_O p0 8 [.ref p1, .int ln, p_2, p_3, p_4, p_5]), (cc_l p1 (K 0) 400 fb), (cc_O t0 9 [k_0, .ref t3, k_2, k_3, k_4, k_5, k_6, k_7, k_8, k_9]), (cc_l t3 (K 0) 24 f3)] s.heap.size = A at hD ⊢
  have hA : ∀ q : Nat, s.heap.size ≤ q → A q := fun q h => by rw [← hAe]; exact Or.inr h
  clear hAe
  have hS : va_S A s.heap s.heap [] := va_S.rf
  replace hP : va_P D vwCl [(cc_O o0 11 [.ref t0, o_1, o_2, o_3, o_4, .ref p0, o_6, o_7, o_8, o_9, o_10, o_11, .ref rf, .int rb, .int ato, o_15, o_16]), (cc_l rf (K 0) 5 frf), (cc_O p0 8 [.ref p1, .int ln, p_2, p_3, p_4, p_5]), (cc_l p1 (K 0) 400 fb), (cc_O t0 9 [k_0, .ref t3, k_2, k_3, k_4, k_5, k_6, k_7, k_8, k_9]), (cc_l t3 (K 0) 24 f3)] s.heap := hP
  have hl := lv_entry [.ref o0] (n := 4) (Nat.le_of_ble_eq_true rfl)
  rw [lg_entry_eq]
  generalize (lg_sl [.ref o0] ++ List.replicate (4 - (lg_sl [.ref o0]).length) Slot.unset).toArray = ls at hl ⊢
  have hl : lv_has ls 4 [(0, .ref o0)] := hl
  have hw8 : ∀ w ∈ wsX80, w ∈ wsX11_row := fun w h => (List.mem_cons_of_mem _ (List.mem_append_left _ (List.mem_append_right _ h)))
  have hw9 : ∀ w ∈ wsX90, w ∈ wsX11_row := fun w h => (List.mem_cons_of_mem _ (List.mem_append_right _ h))
  have hw11 : ∀ w ∈ wsX110, w ∈ wsX11_row := fun w h => (List.mem_cons_of_mem _ (List.mem_append_left _ (List.mem_append_left _ (List.mem_append_right _ h))))
  generalize hQ : MQ below _ _ s _ _ _ = Q
  have hE := E_w_rowX.eq_def rb ato frf ln fb f3
  refine lv_aload_n hx hb dX11_row_0 rfl (lv_at hl 0 rfl) (va_get (ci := 11) (v := .ref p0) (C := RX11) (T := TX11) (N := 17) hx hb hts hw11 hown hK hP 0 rfl rfl 5 (by decide +kernel) (hts _ mm_X11_row_339) (fun _ h9 => h9) rfl dX11_row_1 (va_getN (ci := 8) (v := .int ln) (C := RX8) (T := TX8) (N := 6) hx hb hts hw8 hown hK hP 2 rfl rfl 1 (by decide +kernel) (nst_use hN 120 rfl) (fun _ h9 => h9) rfl dX11_row_4 (lv_if_ne (tgt := 17) hx hb dX11_row_7 (by decide +kernel) (fun c_291 => ?_) (fun c_291 => ?_))))
  · have c_291i := i_ne (x := ln.toInt) (y := 0) rfl rfl c_291
    replace hE := hE.trans (if_neg c_291)
    refine lv_iconst (v := 0) hx hb dX11_row_17 (by decide +kernel) (lv_istore_n (lv' := [(1, .int 0), (0, .ref o0)]) hx hb dX11_row_18 rfl hl (by decide +kernel) rfl (fun ls hl => ?_))
    refine lv_iconst (v := 0) hx hb dX11_row_19 (by decide +kernel) (lv_istore_n (lv' := [(2, .int 0), (1, .int 0), (0, .ref o0)]) hx hb dX11_row_20 rfl hl (by decide +kernel) rfl (fun ls hl => ?_))
    have lp_379 : ∀ (nn_ : Nat) (v_341 : Int32) (v_342 : Int32) (f_343 : Nat → Int32) (hv_341 : 0 ≤ v_341.toInt ∧ v_341.toInt ≤ 400) (hv_342 : 0 ≤ v_342.toInt ∧ v_342.toInt ≤ 400) (hr0_lp_379 : v_342.toInt = cnt fb (v_341.toInt).toNat) (hr1_lp_379 : v_341.toInt ≤ ln.toInt ∧ 0 ≤ v_342.toInt ∧ v_342.toInt ≤ v_341.toInt) (hn : (401 - v_341.toInt : Int).toNat < nn_) (hE : E_w_rowX rb ato frf ln fb f3 = Lp (α := Int32 → Int32 → (Nat → Int32) → (Int32 × Int32 × Int32 × (Nat → Int32) × Int32 × (Nat → Int32))) (E_w_rowX_l21 rb frf ln fb) (fun _ _ _ => ((0, 0, 0, fun _ => 0, 0, fun _ => 0) : Int32 × Int32 × Int32 × (Nat → Int32) × Int32 × (Nat → Int32))) nn_ v_341 v_342 f_343) (H : Heap) (locs : List Loc) (hP : va_P D vwCl [(cc_O o0 11 [.ref t0, o_1, o_2, o_3, o_4, .ref p0, o_6, o_7, o_8, o_9, o_10, o_11, .ref rf, .int rb, .int ato, o_15, o_16]), (cc_l rf (K 0) 5 frf), (cc_O p0 8 [.ref p1, .int ln, p_2, p_3, p_4, p_5]), (cc_l p1 (K 0) 400 fb), (cc_O t0 9 [k_0, .ref t3, k_2, k_3, k_4, k_5, k_6, k_7, k_8, k_9]), (cc_l t3 (K 0) 24 f_343)] H) (hD : va_D A [(cc_O o0 11 [.ref t0, o_1, o_2, o_3, o_4, .ref p0, o_6, o_7, o_8, o_9, o_10, o_11, .ref rf, .int rb, .int ato, o_15, o_16]), (cc_l rf (K 0) 5 frf), (cc_O p0 8 [.ref p1, .int ln, p_2, p_3, p_4, p_5]), (cc_l p1 (K 0) 400 fb), (cc_O t0 9 [k_0, .ref t3, k_2, k_3, k_4, k_5, k_6, k_7, k_8, k_9]), (cc_l t3 (K 0) 24 f_343)]) (hS : va_S A s.heap H locs) (ls : Array Slot) (hl : lv_has ls 4 [(2, .int v_341), (1, .int v_342), (0, .ref o0)]), W p l e ({ frames := 2, cells := 0, slots := 0, locals := 44 }) s m (([.ref o0] : List Value).toArray) below meth c H locs 0 0 Q (F0 m 21 ls []) := by
      clear hE hP hD hS hl
      intro nn_
      induction nn_ with
      | zero =>
        intro v_341 v_342 f_343 hv_341 hv_342 hr0_lp_379 hr1_lp_379 hn hE H locs hP hD hS ls hl
        exact absurd hn (Nat.not_lt_zero _)
      | succ nn_ ih_380 =>
        intro v_341 v_342 f_343 hv_341 hv_342 hr0_lp_379 hr1_lp_379 hn hE H locs hP hD hS ls hl
        replace hE : E_w_rowX rb ato frf ln fb f3 = E_w_rowX_l21 rb frf ln fb (Lp (α := Int32 → Int32 → (Nat → Int32) → (Int32 × Int32 × Int32 × (Nat → Int32) × Int32 × (Nat → Int32))) (E_w_rowX_l21 rb frf ln fb) (fun _ _ _ => ((0, 0, 0, fun _ => 0, 0, fun _ => 0) : Int32 × Int32 × Int32 × (Nat → Int32) × Int32 × (Nat → Int32))) nn_) v_341 v_342 f_343 := hE
        obtain ⟨rec_379, hrec_379⟩ : ∃ z9, z9 = Lp (α := Int32 → Int32 → (Nat → Int32) → (Int32 × Int32 × Int32 × (Nat → Int32) × Int32 × (Nat → Int32))) (E_w_rowX_l21 rb frf ln fb) (fun _ _ _ => ((0, 0, 0, fun _ => 0, 0, fun _ => 0) : Int32 × Int32 × Int32 × (Nat → Int32) × Int32 × (Nat → Int32))) nn_ := ⟨_, rfl⟩
        rw [← hrec_379] at hE
        replace hE := hE.trans (E_w_rowX_l21.eq_def _ _ _ _ _ _ _ _)
        refine lv_iload_n hx hb dX11_row_21 rfl (lv_at hl 0 rfl) (lv_aload_n hx hb dX11_row_22 rfl (lv_at hl 2 rfl) (va_get (ci := 11) (v := .ref p0) (C := RX11) (T := TX11) (N := 17) hx hb hts hw11 hown hK hP 0 rfl rfl 5 (by decide +kernel) (hts _ mm_X11_row_339) (fun _ h9 => h9) rfl dX11_row_23 (va_getN (ci := 8) (v := .int ln) (C := RX8) (T := TX8) (N := 6) hx hb hts hw8 hown hK hP 2 rfl rfl 1 (by decide +kernel) (nst_use hN 120 rfl) (fun _ h9 => h9) rfl dX11_row_26 (lv_icmp_ge (tgt := 76) hx hb dX11_row_29 (by decide +kernel) (fun c_381 => ?_) (fun c_381 => ?_)))))
        · have c_381i := i_le (x := ln.toInt) (y := v_341.toInt) rfl rfl c_381
          replace hE := hE.trans (if_pos c_381)
          refine lv_aload_n hx hb dX11_row_76 rfl (lv_at hl 2 rfl) (lv_aload_n hx hb dX11_row_77 rfl (lv_at hl 2 rfl) (va_get (ci := 11) (v := .ref p0) (C := RX11) (T := TX11) (N := 17) hx hb hts hw11 hown hK hP 0 rfl rfl 5 (by decide +kernel) (hts _ mm_X11_row_339) (fun _ h9 => h9) rfl dX11_row_78 (va_getN (ci := 8) (v := .int ln) (C := RX8) (T := TX8) (N := 6) hx hb hts hw8 hown hK hP 2 rfl rfl 1 (by decide +kernel) (nst_use hN 120 rfl) (fun _ h9 => h9) rfl dX11_row_81 (lv_iload_n hx hb dX11_row_84 rfl (lv_at hl 1 rfl) (lv_isub hx hb dX11_row_85 (lv_topi (fun x_382 ex_382 => ?_)))))))
          replace hE := hE.trans (Lt_in ex_382)
          have hx_382 : x_382.toInt = (ln.toInt - v_342.toInt) := by rw [ex_382]; exact i_sub rfl rfl (by omega)
          refine va_put (ci := 11) (v := .int x_382) (ty := .int) (C := RX11) (T := TX11) (N := 17) hx hb hts hw11 tyX11 tyX11_ok nmX11 hown hK hP hD hS 0 rfl rfl 14 (by decide +kernel) (hts _ mm_X11_row_348) (fun _ h9 => h9) rfl (by decide +kernel) (by first | rfl | decide) (by first | rfl | decide) (Nat.le_of_ble_eq_true rfl) dX11_row_86 (fun H locs hP0 hD0 hS0 => ?_)
          replace hP : va_P D vwCl [(cc_O o0 11 [.ref t0, o_1, o_2, o_3, o_4, .ref p0, o_6, o_7, o_8, o_9, o_10, o_11, .ref rf, .int rb, .int x_382, o_15, o_16]), (cc_l rf (K 0) 5 frf), (cc_O p0 8 [.ref p1, .int ln, p_2, p_3, p_4, p_5]), (cc_l p1 (K 0) 400 fb), (cc_O t0 9 [k_0, .ref t3, k_2, k_3, k_4, k_5, k_6, k_7, k_8, k_9]), (cc_l t3 (K 0) 24 f_343)] H := hP0
          replace hD := as_D hP hD0 rfl
          replace hS := hS0
          clear hP0 hD0 hS0
          refine lv_aload_n hx hb dX11_row_89 rfl (lv_at hl 2 rfl) (va_get (ci := 11) (v := .ref p0) (C := RX11) (T := TX11) (N := 17) hx hb hts hw11 hown hK hP 0 rfl rfl 5 (by decide +kernel) (hts _ mm_X11_row_339) (fun _ h9 => h9) rfl dX11_row_90 (lv_iconst (v := 0) hx hb dX11_row_93 (by decide +kernel) (va_putN (ci := 8) (v := .int 0) (ty := .int) (C := RX8) (T := TX8) (N := 6) hx hb hts hw8 tyX8 tyX8_ok nmX8 hown hK hP hD hS 2 rfl rfl 1 (by decide +kernel) (nst_use hN 120 rfl) (fun _ h9 => h9) rfl (by decide +kernel) (by first | rfl | decide) (by first | rfl | decide) (Nat.le_of_ble_eq_true rfl) dX11_row_94 (fun H locs hP0 hD0 hS0 => ?_))))
          replace hP : va_P D vwCl [(cc_O o0 11 [.ref t0, o_1, o_2, o_3, o_4, .ref p0, o_6, o_7, o_8, o_9, o_10, o_11, .ref rf, .int rb, .int x_382, o_15, o_16]), (cc_l rf (K 0) 5 frf), (cc_O p0 8 [.ref p1, .int 0, p_2, p_3, p_4, p_5]), (cc_l p1 (K 0) 400 fb), (cc_O t0 9 [k_0, .ref t3, k_2, k_3, k_4, k_5, k_6, k_7, k_8, k_9]), (cc_l t3 (K 0) 24 f_343)] H := hP0
          replace hD := as_D hP hD0 rfl
          replace hS := hS0
          clear hP0 hD0 hS0
          refine lv_aload_n hx hb dX11_row_97 rfl (lv_at hl 2 rfl) (lv_iload_n hx hb dX11_row_98 rfl (lv_at hl 1 rfl) (kci (S := Su) (wr := [(cc_l rf (K 0) 5 frf), (cc_O p0 8 [.ref p1, .int 0, p_2, p_3, p_4, p_5]), (cc_l p1 (K 0) 400 fb), (cc_O t0 9 [k_0, .ref t3, k_2, k_3, k_4, k_5, k_6, k_7, k_8, k_9]), (cc_l t3 (K 0) 24 f_343)]) (va_runV (As := [.int v_342]) (rest := []) ⟨hx, hb, hml, hown, hts⟩ (w_accept l D K o0 v_342 (.ref t0) o_1 o_2 o_3 o_4 (.ref p0) o_6 o_7 o_8 o_9 o_10 o_11 (.ref rf) rb (.int x_382) o_15 o_16 H.size) (cwV 1 hts gX11_row_X11_accept rfl rfl rfl (by decide +kernel) ⟨Nat.le_of_ble_eq_true rfl, Nat.le_of_ble_eq_true rfl⟩) (mkV hK hN (hP.sub [0] rfl) (hD.sub [0] (by decide +kernel) rfl) (ci := 11) (q0 := 0) rfl rfl) rfl rfl hl.1 rfl (lv_room (Nat.le_of_ble_eq_true rfl)) dX11_row_99 ⟨Nat.le_of_ble_eq_true rfl, Nat.le_of_ble_eq_true rfl⟩) hP hD hS hA [0] [1, 2, 3, 4, 5] rfl rfl (by decide +kernel) (by decide +kernel) (fun r_383 u_384 H locs hw hP0 hD0 hS0 => ?_)))
          replace hP : va_P D vwCl [(cc_l rf (K 0) 5 frf), (cc_O p0 8 [.ref p1, .int 0, p_2, p_3, p_4, p_5]), (cc_l p1 (K 0) 400 fb), (cc_O t0 9 [k_0, .ref t3, k_2, k_3, k_4, k_5, k_6, k_7, k_8, k_9]), (cc_l t3 (K 0) 24 f_343), (cc_O o0 11 [.ref t0, o_1, o_2, o_3, o_4, .ref p0, o_6, o_7, o_8, o_9, o_10, o_11, .ref rf, .int 0, .int x_382, o_15, o_16])] H := hP0
          replace hD := as_D hP hD0 rfl
          replace hS := hS0
          clear hP0 hD0 hS0
          obtain ⟨hw, k_385, -⟩ := hw
          replace hE := hE.trans (Lt_in k_385)
          have er_r_383 := hw
          have hr_r_383 : r_383.toInt = v_342.toInt := (congrArg Int32.toInt er_r_383).trans rfl
          rw [← hQ]
          have hP9 := hP.sub (ws' := [(cc_O o0 11 [.ref t0, o_1, o_2, o_3, o_4, .ref p0, o_6, o_7, o_8, o_9, o_10, o_11, .ref rf, .int 0, .int x_382, o_15, o_16]), (cc_l rf (K 0) 5 frf), (cc_O p0 8 [.ref p1, .int 0, p_2, p_3, p_4, p_5]), (cc_l p1 (K 0) 400 fb), (cc_O t0 9 [k_0, .ref t3, k_2, k_3, k_4, k_5, k_6, k_7, k_8, k_9]), (cc_l t3 (K 0) 24 f_343)]) [5, 0, 1, 2, 3, 4] rfl
          have hD9 := sub_D hP9 hD [5, 0, 1, 2, 3, 4] (by decide +kernel) rfl
          exact W.iret (v := r_383) hx hb hr (fun t ht hW => ⟨⟨r_383, ((fun _ => 0, fun i => match i with | 0 => frf | _ => f_343, fun _ => fun _ => 0, fun i => match i with | 0 => 0 | 1 => x_382 | _ => 0, fun _ => 0, fun _ => fun _ => none) : Su), rfl, ⟨(show (-6) ≤ r_383.toInt ∧ r_383.toInt ≤ 400 by rw [hr_r_383]; omega), (show (-6) ≤ (0 : Int32).toInt ∧ (0 : Int32).toInt ≤ 0 by decide), (show 0 ≤ (0 : Int32).toInt ∧ (0 : Int32).toInt ≤ 0 by decide), hE.symm, (show ((ln.toInt = 0 ∧ (r_383 : Int32).toInt = -6 ∧ (x_382 : Int32).toInt = ato.toInt) ∨ (0 < ln.toInt ∧ (r_383 : Int32).toInt = cnt fb ln.toInt.toNat ∧ (x_382 : Int32).toInt = ln.toInt - cnt fb ln.toInt.toNat)) by have q9 := hr0_lp_379; rw [show v_341.toInt = ln.toInt by omega] at q9; exact Or.inr ⟨by omega, by first | omega | (rw [← q9]; omega), by first | omega | (rw [← q9]; omega)⟩), trivial⟩, (⟨by rw [ht]; exact hP9, hD9⟩ : Wd D A _ t)⟩, hS.F ht⟩) hS.2.2 dX11_row_102
        · have c_381i := i_nle (x := ln.toInt) (y := v_341.toInt) rfl rfl c_381
          replace hE := hE.trans (if_neg c_381)
          refine lv_aload_n hx hb dX11_row_32 rfl (lv_at hl 2 rfl) (va_get (ci := 11) (v := .ref p0) (C := RX11) (T := TX11) (N := 17) hx hb hts hw11 hown hK hP 0 rfl rfl 5 (by decide +kernel) (hts _ mm_X11_row_339) (fun _ h9 => h9) rfl dX11_row_33 (lv_iload_n hx hb dX11_row_36 rfl (lv_at hl 0 rfl) (pci (va_runVN (As := [.int v_341]) (rest := []) ⟨hx, hb, hml, hown, hts⟩ (w_byteAtX l D K p0 v_341 p1 ln p_2 p_3 p_4 p_5 fb H.size (by first | omega | decide)) ⟨va_cnB 1 hts gX11_row_X8_byteAt_n170 rfl rfl rfl (nst_at hN 30 rfl) (hts _ mm_X11_row_147) (by decide +kernel) ⟨Nat.le_of_ble_eq_true rfl, Nat.le_of_ble_eq_true rfl⟩, (hts _ mm_X11_row_459), (hts _ mm_X11_row_19)⟩ (mkV hK hN (hP.sub [2, 3] rfl) (hD.sub [2, 3] (by decide +kernel) rfl) (ci := 8) (q0 := 0) rfl rfl) rfl rfl hl.1 rfl (lv_room (Nat.le_of_ble_eq_true rfl)) dX11_row_37 ⟨Nat.le_of_ble_eq_true rfl, Nat.le_of_ble_eq_true rfl⟩) (fun r_386 hw => ?_))))
          obtain ⟨hw, k_387⟩ := hw
          replace hE := hE.trans (Lt_in k_387)
          obtain ⟨hby_r_386, -⟩ := hw
          refine lv_istore_n (lv' := [(3, .int r_386), (2, .int v_341), (1, .int v_342), (0, .ref o0)]) hx hb dX11_row_40 rfl hl (by decide +kernel) rfl (fun ls hl => ?_)
          refine lv_iload_n hx hb dX11_row_41 rfl (lv_at hl 1 rfl) (lv_bipush (v := 24) hx hb dX11_row_42 (by decide +kernel) (lv_icmp_ge (tgt := 70) hx hb dX11_row_44 (by decide +kernel) (fun c_388 => ?_) (fun c_388 => ?_)))
          · have c_388i := i_le (x := 24) (y := v_341.toInt) rfl rfl c_388
            replace hE := hE.trans (if_pos c_388)
            obtain ⟨x_389, ex_389⟩ : ∃ y : Int32, y = v_341 + Int32.ofInt 1 := ⟨_, rfl⟩
            replace hE := hE.trans (Lt_in ex_389)
            have hx_389 : x_389.toInt = (v_341.toInt + 1) := by rw [ex_389]; exact i_add rfl (show (Int32.ofInt 1).toInt = 1 from rfl) (by omega)
            refine lv_iinc (v := x_389) (lv' := [(2, .int x_389), (3, .int r_386), (1, .int v_342), (0, .ref o0)]) hx hb dX11_row_70 hl (k := 1) rfl (by rw [ex_389]) (by decide +kernel) rfl (fun ls hl => ?_)
            refine lv_goto (tgt := 21) hx hb dX11_row_73 (by decide +kernel) ?_
            exact ih_380 x_389 v_342 f_343 (by rw [hx_389]; omega) (by omega) (show (v_342 : Int32).toInt = cnt fb ((x_389 : Int32).toInt).toNat by rw [hx_389]; exact cnt_far (by omega) hr0_lp_379) (show (x_389 : Int32).toInt ≤ ln.toInt ∧ 0 ≤ (v_342 : Int32).toInt ∧ (v_342 : Int32).toInt ≤ (x_389 : Int32).toInt by omega) (by omega) (hE.trans (by rw [hrec_379])) _ _ hP hD hS ls (lv_sub hl [0, 2, 3] rfl)
          · have c_388i := i_nle (x := 24) (y := v_341.toInt) rfl rfl c_388
            replace hE := hE.trans (if_neg c_388)
            refine lv_iload_n hx hb dX11_row_47 rfl (lv_at hl 0 rfl) (lv_iconst (v := 0) hx hb dX11_row_48 (by decide +kernel) (lv_bipush (v := 127) hx hb dX11_row_49 (by decide +kernel) (pci (va_runS (As := [.int r_386, .int 0, .int 127]) (rest := []) ⟨hx, hb, hml, hown, hts⟩ (w_within l D K r_386.toInt 0 127 r_386 0 127 H.size rfl (show (0 : Int32).toInt = 0 from rfl) (show (127 : Int32).toInt = 127 from rfl)) (va_cwS 3 hts gX11_row_X11_within rfl rfl rfl (by decide +kernel) ⟨Nat.le_of_ble_eq_true rfl, Nat.le_of_ble_eq_true rfl⟩) (mkS hK hN (va_P.nil) (va_D.nil (A := fun _ => True))) rfl rfl hl.1 rfl (lv_room (Nat.le_of_ble_eq_true rfl)) dX11_row_51 ⟨Nat.le_of_ble_eq_true rfl, Nat.le_of_ble_eq_true rfl⟩) (fun r_390 hw => ?_))))
            obtain ⟨hw, k_391, -⟩ := hw
            replace hE := hE.trans (Lt_in k_391)
            rcases hw with ⟨rfl, h_392, h_393⟩ | ⟨rfl, h_394⟩
            · replace hE := (hE).trans (if_pos rfl)
              refine lv_if_eq (tgt := 70) hx hb dX11_row_54 (by decide +kernel) (fun c_395 => absurd c_395 (by decide +kernel)) (fun c_395 => ?_)
              refine lv_aload_n hx hb dX11_row_57 rfl (lv_at hl 3 rfl) (va_get (ci := 11) (v := .ref t0) (C := RX11) (T := TX11) (N := 17) hx hb hts hw11 hown hK hP 0 rfl rfl 0 (by decide +kernel) (hts _ mm_X11_row_334) (fun _ h9 => h9) rfl dX11_row_58 (va_getN (ci := 9) (v := .ref t3) (C := RX9) (T := TX9) (N := 10) hx hb hts hw9 hown hK hP 4 rfl rfl 1 (by decide +kernel) (nst_use hN 98 rfl) (fun _ h9 => h9) rfl dX11_row_61 (lv_iload_n hx hb dX11_row_64 rfl (lv_at hl 1 rfl) (lv_iload_n hx hb dX11_row_65 rfl (lv_at hl 0 rfl) (va_iast hx hb hK hP hD hS 5 0 rfl rfl (i_in rfl (by omega)) dX11_row_66 (fun H locs hP0 hD0 hS0 => ?_))))))
              replace hP := hP0
              replace hD := hD0
              replace hS := hS0
              clear hP0 hD0 hS0
              generalize hf_396 : (upd f_343 (v_341 : Int32).toNatClampNeg r_386) = f_396 at hP hD
              replace hE := hE.trans (Lt_in hf_396.symm)
              replace hP : va_P D vwCl [(cc_O o0 11 [.ref t0, o_1, o_2, o_3, o_4, .ref p0, o_6, o_7, o_8, o_9, o_10, o_11, .ref rf, .int rb, .int ato, o_15, o_16]), (cc_l rf (K 0) 5 frf), (cc_O p0 8 [.ref p1, .int ln, p_2, p_3, p_4, p_5]), (cc_l p1 (K 0) 400 fb), (cc_O t0 9 [k_0, .ref t3, k_2, k_3, k_4, k_5, k_6, k_7, k_8, k_9]), (cc_l t3 (K 0) 24 f_396)] H := hP
              replace hD := as_D hP hD rfl
              obtain ⟨x_397, ex_397⟩ : ∃ y : Int32, y = v_342 + Int32.ofInt 1 := ⟨_, rfl⟩
              replace hE := hE.trans (Lt_in ex_397)
              have hx_397 : x_397.toInt = (v_342.toInt + 1) := by rw [ex_397]; exact i_add rfl (show (Int32.ofInt 1).toInt = 1 from rfl) (by omega)
              refine lv_iinc (v := x_397) (lv' := [(1, .int x_397), (3, .int r_386), (2, .int v_341), (0, .ref o0)]) hx hb dX11_row_67 hl (k := 2) rfl (by rw [ex_397]) (by decide +kernel) rfl (fun ls hl => ?_)
              obtain ⟨x_398, ex_398⟩ : ∃ y : Int32, y = v_341 + Int32.ofInt 1 := ⟨_, rfl⟩
              replace hE := hE.trans (Lt_in ex_398)
              have hx_398 : x_398.toInt = (v_341.toInt + 1) := by rw [ex_398]; exact i_add rfl (show (Int32.ofInt 1).toInt = 1 from rfl) (by omega)
              refine lv_iinc (v := x_398) (lv' := [(2, .int x_398), (1, .int x_397), (3, .int r_386), (0, .ref o0)]) hx hb dX11_row_70 hl (k := 2) rfl (by rw [ex_398]) (by decide +kernel) rfl (fun ls hl => ?_)
              refine lv_goto (tgt := 21) hx hb dX11_row_73 (by decide +kernel) ?_
              exact ih_380 x_398 x_397 f_396 (by rw [hx_398]; omega) (by rw [hx_397]; omega) (show (x_397 : Int32).toInt = cnt fb ((x_398 : Int32).toInt).toNat by rw [hx_397, hx_398]; exact cnt_yes (by omega) hby_r_386 (by omega) hr0_lp_379) (show (x_398 : Int32).toInt ≤ ln.toInt ∧ 0 ≤ (x_397 : Int32).toInt ∧ (x_397 : Int32).toInt ≤ (x_398 : Int32).toInt by omega) (by omega) (hE.trans (by rw [hrec_379])) _ _ hP hD hS ls (lv_sub hl [0, 1, 3] rfl)
            · replace hE := (hE).trans (if_neg (by first | decide | (intro h9; have h8 := congrArg Int32.toInt h9; omega)))
              refine lv_if_eq (tgt := 70) hx hb dX11_row_54 (by decide +kernel) (fun c_399 => ?_) (fun c_399 => absurd (by decide +kernel) c_399)
              obtain ⟨x_400, ex_400⟩ : ∃ y : Int32, y = v_341 + Int32.ofInt 1 := ⟨_, rfl⟩
              replace hE := hE.trans (Lt_in ex_400)
              have hx_400 : x_400.toInt = (v_341.toInt + 1) := by rw [ex_400]; exact i_add rfl (show (Int32.ofInt 1).toInt = 1 from rfl) (by omega)
              refine lv_iinc (v := x_400) (lv' := [(2, .int x_400), (3, .int r_386), (1, .int v_342), (0, .ref o0)]) hx hb dX11_row_70 hl (k := 1) rfl (by rw [ex_400]) (by decide +kernel) rfl (fun ls hl => ?_)
              refine lv_goto (tgt := 21) hx hb dX11_row_73 (by decide +kernel) ?_
              exact ih_380 x_400 v_342 f_343 (by rw [hx_400]; omega) (by omega) (show (v_342 : Int32).toInt = cnt fb ((x_400 : Int32).toInt).toNat by rw [hx_400]; exact cnt_no (by omega) hby_r_386 (by have q9 := hnn (v_341.toInt).toNat (by omega); rw [← hby_r_386] at q9; omega) hr0_lp_379) (show (x_400 : Int32).toInt ≤ ln.toInt ∧ 0 ≤ (v_342 : Int32).toInt ∧ (v_342 : Int32).toInt ≤ (x_400 : Int32).toInt by omega) (by omega) (hE.trans (by rw [hrec_379])) _ _ hP hD hS ls (lv_sub hl [0, 2, 3] rfl)
    have hz_401 : (0 : Int32).toInt = 0 := rfl
    have hz_402 : (0 : Int32).toInt = 0 := rfl
    exact lp_379 ((401 - (0 : Int32).toInt : Int).toNat + 1) 0 0 f3 (by decide +kernel) (by decide +kernel) (show (0 : Int32).toInt = cnt fb ((0 : Int32).toInt).toNat by rfl) (show (0 : Int32).toInt ≤ ln.toInt ∧ 0 ≤ (0 : Int32).toInt ∧ (0 : Int32).toInt ≤ (0 : Int32).toInt by omega) (Nat.lt_succ_self _) hE _ _ hP hD hS ls (lv_sub hl [0, 1, 2] rfl)
  · have c_291i := i_eq (x := ln.toInt) (y := 0) rfl rfl c_291
    replace hE := hE.trans (if_pos c_291)
    refine lv_aload_n hx hb dX11_row_10 rfl (lv_at hl 0 rfl) (lv_bipush (v := (-6)) hx hb dX11_row_11 (by decide +kernel) (kci (S := Su) (wr := [(cc_O p0 8 [.ref p1, .int ln, p_2, p_3, p_4, p_5]), (cc_l p1 (K 0) 400 fb), (cc_O t0 9 [k_0, .ref t3, k_2, k_3, k_4, k_5, k_6, k_7, k_8, k_9]), (cc_l t3 (K 0) 24 f3)]) (va_runV (As := [.int (-6)]) (rest := []) ⟨hx, hb, hml, hown, hts⟩ (w_refuseX l D K o0 (-6) (.ref t0) o_1 o_2 o_3 o_4 (.ref p0) o_6 o_7 o_8 o_9 o_10 o_11 rf rb (.int ato) o_15 o_16 frf s.heap.size) (cwV 1 hts gX11_row_X11_refuse rfl rfl rfl (by decide +kernel) ⟨Nat.le_of_ble_eq_true rfl, Nat.le_of_ble_eq_true rfl⟩) (mkV hK hN (hP.sub [0, 1] rfl) (hD.sub [0, 1] (by decide +kernel) rfl) (ci := 11) (q0 := 0) rfl rfl) rfl rfl hl.1 rfl (lv_room (Nat.le_of_ble_eq_true rfl)) dX11_row_13 ⟨Nat.le_of_ble_eq_true rfl, Nat.le_of_ble_eq_true rfl⟩) hP hD hS hA [0, 1] [2, 3, 4, 5] rfl rfl (by decide +kernel) (by decide +kernel) (fun r_403 u_404 H locs hw hP0 hD0 hS0 => ?_)))
    replace hP : va_P D vwCl [(cc_O p0 8 [.ref p1, .int ln, p_2, p_3, p_4, p_5]), (cc_l p1 (K 0) 400 fb), (cc_O t0 9 [k_0, .ref t3, k_2, k_3, k_4, k_5, k_6, k_7, k_8, k_9]), (cc_l t3 (K 0) 24 f3), (cc_O o0 11 [.ref t0, o_1, o_2, o_3, o_4, .ref p0, o_6, o_7, o_8, o_9, o_10, o_11, .ref rf, .int (-6), .int ato, o_15, o_16]), (cc_l rf (K 0) 5 (u_404.2.1 0))] H := hP0
    replace hD := as_D hP hD0 rfl
    replace hS := hS0
    clear hP0 hD0 hS0
    obtain ⟨hw, k_405, -⟩ := hw
    replace hE := hE.trans (Lt2_in k_405)
    obtain rfl := hw
    rw [← hQ]
    have hP9 := hP.sub (ws' := [(cc_O o0 11 [.ref t0, o_1, o_2, o_3, o_4, .ref p0, o_6, o_7, o_8, o_9, o_10, o_11, .ref rf, .int (-6), .int ato, o_15, o_16]), (cc_l rf (K 0) 5 (u_404.2.1 0)), (cc_O p0 8 [.ref p1, .int ln, p_2, p_3, p_4, p_5]), (cc_l p1 (K 0) 400 fb), (cc_O t0 9 [k_0, .ref t3, k_2, k_3, k_4, k_5, k_6, k_7, k_8, k_9]), (cc_l t3 (K 0) 24 f3)]) [4, 5, 0, 1, 2, 3] rfl
    have hD9 := sub_D hP9 hD [4, 5, 0, 1, 2, 3] (by decide +kernel) rfl
    exact W.iret (v := (-6)) hx hb hr (fun t ht hW => ⟨⟨(-6), ((fun _ => 0, fun i => match i with | 0 => (u_404.2.1 0) | _ => f3, fun _ => fun _ => 0, fun i => match i with | 0 => (-6) | 1 => ato | _ => ln, fun _ => 0, fun _ => fun _ => none) : Su), rfl, ⟨(show (-6) ≤ ((-6) : Int32).toInt ∧ ((-6) : Int32).toInt ≤ 400 by decide), (show (-6) ≤ ((-6) : Int32).toInt ∧ ((-6) : Int32).toInt ≤ 0 by decide), (show 0 ≤ (ln : Int32).toInt ∧ (ln : Int32).toInt ≤ 0 by omega), hE.symm, (show ((ln.toInt = 0 ∧ ((-6) : Int32).toInt = -6 ∧ (ato : Int32).toInt = ato.toInt) ∨ (0 < ln.toInt ∧ ((-6) : Int32).toInt = cnt fb ln.toInt.toNat ∧ (ato : Int32).toInt = ln.toInt - cnt fb ln.toInt.toNat)) by exact Or.inl ⟨by omega, by first | rfl | omega, rfl⟩), trivial⟩, (⟨by rw [ht]; exact hP9, hD9⟩ : Wd D A _ t)⟩, hS.F ht⟩) hS.2.2 dX11_row_16
set_option maxRecDepth 100000 in
noncomputable def E_v_rowX_l35 (sta : Int32) (ta : Int32) (ft : Nat → Int32) (frf : Nat → Int32) (rec_338 : Int32 → Int32 → Int32 → (Nat → Int32) → (Int32 × Int32 × Int32 × (Nat → Int32) × (Nat → Int32))) (v_304 : Int32) (v_305 : Int32) (v_306 : Int32) (f_307 : Nat → Int32) : Int32 × Int32 × Int32 × (Nat → Int32) × (Nat → Int32) :=
  if ta ≤ v_304 then (Lt2 (E_v_tellX v_305 sta frf) (fun r_341 q0_r_341 => Lt2 q0_r_341 (fun u_342_2_2_2_1_0 u_342_2_1_0 => ((r_341, u_342_2_2_2_1_0, v_306, f_307, u_342_2_1_0) : Int32 × Int32 × Int32 × (Nat → Int32) × (Nat → Int32))))) else (if 24 ≤ v_304 then (Lt (v_306 + 1 : Int32) (fun x_346 => Lt (v_304 + Int32.ofInt 1 : Int32) (fun x_347 => rec_338 x_347 v_305 x_346 f_307))) else (Lt (ft (v_304 : Int32).toNatClampNeg : Int32) (fun x_348 => if 128 ≤ x_348 then (Lt (v_306 + 1 : Int32) (fun x_350 => Lt (v_304 + Int32.ofInt 1 : Int32) (fun x_351 => rec_338 x_351 v_305 x_350 f_307))) else (Lt (67 + v_304 : Int32) (fun x_352 => Lt (ft (v_304 : Int32).toNatClampNeg : Int32) (fun x_353 => Lt (upd f_307 (x_352 : Int32).toNatClampNeg x_353 : Nat → Int32) (fun f_354 => Lt (v_305 + Int32.ofInt 1 : Int32) (fun x_355 => Lt (v_304 + Int32.ofInt 1 : Int32) (fun x_356 => rec_338 x_356 x_355 v_306 f_354)))))))))
set_option maxRecDepth 100000 in
noncomputable def E_v_rowX (thr : Int32) (sta : Int32) (as_ : Int32) (ta : Int32) (fw : Nat → Int32) (ft : Nat → Int32) (frf : Nat → Int32) : Int32 × Int32 × Int32 × (Nat → Int32) × (Nat → Int32) :=
  if ta = 0 then (Lt2 (E_v_tellX (-6) sta frf) (fun r_360 q0_r_360 => Lt2 q0_r_360 (fun u_361_2_2_2_1_0 u_361_2_1_0 => (((-6), u_361_2_2_2_1_0, as_, fw, u_361_2_1_0) : Int32 × Int32 × Int32 × (Nat → Int32) × (Nat → Int32))))) else (Lp (α := Int32 → Int32 → Int32 → (Nat → Int32) → (Int32 × Int32 × Int32 × (Nat → Int32) × (Nat → Int32))) (E_v_rowX_l35 sta ta ft frf) (fun _ _ _ _ => ((0, 0, 0, fun _ => 0, fun _ => 0) : Int32 × Int32 × Int32 × (Nat → Int32) × (Nat → Int32))) ((401 - (0 : Int32).toInt : Int).toNat + 1) 0 0 0 fw)
set_option maxHeartbeats 4000000 in
set_option maxRecDepth 100000 in
theorem v_rowX (l : Launch) (D : va_G) (K : Nat → ClassId) (m0 : Nat) (thr : Int32) (sta : Int32) (r0 : Nat) (w0 : Nat) (m_4 : Value) (m_5 : Value) (m_6 : Value) (m_7 : Value) (m_8 : Value) (m_9 : Value) (m_10 : Value) (as_ : Int32) (t0 : Nat) (ta : Int32) (m_14 : Value) (m_15 : Value) (m_16 : Value) (m_17 : Value) (m_18 : Value) (m_19 : Value) (m_20 : Value) (m_21 : Value) (m_22 : Value) (m_23 : Value) (m_24 : Value) (m_25 : Value) (m_26 : Value) (m_27 : Value) (m_28 : Value) (m_29 : Value) (m_30 : Value) (m_31 : Value) (m_32 : Value) (m_33 : Value) (m_34 : Value) (m_35 : Value) (m_36 : Value) (m_37 : Value) (m_38 : Value) (m_39 : Value) (m_40 : Value) (m_41 : Value) (m_42 : Value) (m_43 : Value) (m_44 : Value) (m_45 : Value) (m_46 : Value) (m_47 : Value) (m_48 : Value) (m_49 : Value) (m_50 : Value) (m_51 : Value) (m_52 : Value) (m_53 : Value) (m_54 : Value) (m_55 : Value) (m_56 : Value) (m_57 : Value) (m_58 : Value) (m_59 : Value) (fw : Nat → Int32) (ft : Nat → Int32) (frf : Nat → Int32) (sz : Nat) (zta : 0 ≤ ta.toInt ∧ ta.toInt ≤ 400) (zfw : RwOK fw) : Met l yX12_row wsX12_row ({ frames := 1, cells := 0, slots := 0, locals := 21 }) (va_Pc [.ref m0] (Pre D K [(cc_O m0 12 [.int thr, .int sta, .ref r0, .ref w0, m_4, m_5, m_6, m_7, m_8, m_9, m_10, .int as_, .ref t0, .int ta, m_14, m_15, m_16, m_17, m_18, m_19, m_20, m_21, m_22, m_23, m_24, m_25, m_26, m_27, m_28, m_29, m_30, m_31, m_32, m_33, m_34, m_35, m_36, m_37, m_38, m_39, m_40, m_41, m_42, m_43, m_44, m_45, m_46, m_47, m_48, m_49, m_50, m_51, m_52, m_53, m_54, m_55, m_56, m_57, m_58, m_59]), (cc_l w0 (K 0) 5500 fw), (cc_l t0 (K 0) 400 ft), (cc_l r0 (K 0) 7 frf)] sz)) (va_Qi (S := Su) (fun (r : Int32) (u : Su) => ((-6) ≤ r.toInt ∧ r.toInt ≤ 400) ∧ ((-6) ≤ (u.2.2.2.1 0).toInt ∧ (u.2.2.2.1 0).toInt ≤ 0) ∧ (RwOK (u.2.1 0)) ∧ ((r, (u.2.2.2.1 0), (u.2.2.2.1 1), (u.2.1 0), (u.2.1 1)) = E_v_rowX thr sta as_ ta fw ft frf) ∧ (((ta.toInt = 0 ∧ r.toInt = -6 ∧ (u.2.2.2.1 1).toInt = as_.toInt) ∨ (0 < ta.toInt ∧ r.toInt = cnt ft ta.toInt.toNat ∧ (u.2.2.2.1 1).toInt = ta.toInt - cnt ft ta.toInt.toNat))) ∧ True) (fun u t => Wd D (va_A [(cc_O m0 12 [.int thr, .int sta, .ref r0, .ref w0, m_4, m_5, m_6, m_7, m_8, m_9, m_10, .int as_, .ref t0, .int ta, m_14, m_15, m_16, m_17, m_18, m_19, m_20, m_21, m_22, m_23, m_24, m_25, m_26, m_27, m_28, m_29, m_30, m_31, m_32, m_33, m_34, m_35, m_36, m_37, m_38, m_39, m_40, m_41, m_42, m_43, m_44, m_45, m_46, m_47, m_48, m_49, m_50, m_51, m_52, m_53, m_54, m_55, m_56, m_57, m_58, m_59]), (cc_l w0 (K 0) 5500 fw), (cc_l t0 (K 0) 400 ft), (cc_l r0 (K 0) 7 frf)] sz) ((fun u => [(cc_O m0 12 [.int 0, .int (u.2.2.2.1 0), .ref r0, .ref w0, m_4, m_5, m_6, m_7, m_8, m_9, m_10, .int (u.2.2.2.1 1), .ref t0, .int 0, m_14, m_15, m_16, m_17, m_18, m_19, m_20, m_21, m_22, m_23, m_24, m_25, m_26, m_27, m_28, m_29, m_30, m_31, m_32, m_33, m_34, m_35, m_36, m_37, m_38, m_39, m_40, m_41, m_42, m_43, m_44, m_45, m_46, m_47, m_48, m_49, m_50, m_51, m_52, m_53, m_54, m_55, m_56, m_57, m_58, m_59]), (cc_l w0 (K 0) 5500 (u.2.1 0)), (cc_l t0 (K 0) 400 ft), (cc_l r0 (K 0) 7 (u.2.1 1))]) u) t) (va_A [(cc_O m0 12 [.int thr, .int sta, .ref r0, .ref w0, m_4, m_5, m_6, m_7, m_8, m_9, m_10, .int as_, .ref t0, .int ta, m_14, m_15, m_16, m_17, m_18, m_19, m_20, m_21, m_22, m_23, m_24, m_25, m_26, m_27, m_28, m_29, m_30, m_31, m_32, m_33, m_34, m_35, m_36, m_37, m_38, m_39, m_40, m_41, m_42, m_43, m_44, m_45, m_46, m_47, m_48, m_49, m_50, m_51, m_52, m_53, m_54, m_55, m_56, m_57, m_58, m_59]), (cc_l w0 (K 0) 5500 fw), (cc_l t0 (K 0) 400 ft), (cc_l r0 (K 0) 7 frf)] sz)) 0 0 (va_A [(cc_O m0 12 [.int thr, .int sta, .ref r0, .ref w0, m_4, m_5, m_6, m_7, m_8, m_9, m_10, .int as_, .ref t0, .int ta, m_14, m_15, m_16, m_17, m_18, m_19, m_20, m_21, m_22, m_23, m_24, m_25, m_26, m_27, m_28, m_29, m_30, m_31, m_32, m_33, m_34, m_35, m_36, m_37, m_38, m_39, m_40, m_41, m_42, m_43, m_44, m_45, m_46, m_47, m_48, m_49, m_50, m_51, m_52, m_53, m_54, m_55, m_56, m_57, m_58, m_59]), (cc_l w0 (K 0) 5500 fw), (cc_l t0 (K 0) 400 ft), (cc_l r0 (K 0) 7 frf)] sz) := by
  refine Met.ofW (cc := cX12_row) (maxL := 4) (ret := (some .int)) (by decide +kernel) rfl ?_
  intro p e s m args below meth c s₁ B hml hv
  obtain ⟨rfl, hsz, hP, hK, hD0, hN⟩ := hv
  have hx := B.exec
  have hb := B.bytes
  have hr := B.returns
  have hts := atoms_spec (ws := wsX12_row) B.pre
  have hown : s.vm.findClass RX12 = some m.cls := findClass_of_methodNamed B.named
  have hlocks := B.notSynchronized
  subst hsz
  have hD := hD0.self (sz := s.heap.size)
  generalize hAe : va_A [(cc_O m0 12 [.int thr, .int sta, .ref r0, .ref w0, m_4, m_5, m_6, m_7, m_8, m_9, m_10, .int as_, .ref t0, .int ta, m_14, m_15, m_16, m_17, m_18, m_19, m_20, m_21, m_22, m_23, m_24, m_25, m_26, m_27, m_28, m_29, m_30, m_31, m_32, m_33, m_34, m_35, m_36, m_37, m_38, m_39, m_40, m_41, m_42, m_43, m_44, m_45, m_46, m_47, m_48, m_49, m_50, m_51, m_52, m_53, m_54, m_55, m_56, m_57, m_58, m_59]), (cc_l w0 (K 0) 5500 fw), (cc_l t0 (K 0) 400 ft), (cc_l r0 (K 0) 7 frf)] s.heap.size = A at hD ⊢
  have hA : ∀ q : Nat, s.heap.size ≤ q → A q := fun q h => by rw [← hAe]; exact Or.inr h
  clear hAe
  have hS : va_S A s.heap s.heap [] := va_S.rf
  replace hP : va_P D vwCl [(cc_O m0 12 [.int thr, .int sta, .ref r0, .ref w0, m_4, m_5, m_6, m_7, m_8, m_9, m_10, .int as_, .ref t0, .int ta, m_14, m_15, m_16, m_17, m_18, m_19, m_20, m_21, m_22, m_23, m_24, m_25, m_26, m_27, m_28, m_29, m_30, m_31, m_32, m_33, m_34, m_35, m_36, m_37, m_38, m_39, m_40, m_41, m_42, m_43, m_44, m_45, m_46, m_47, m_48, m_49, m_50, m_51, m_52, m_53, m_54, m_55, m_56, m_57, m_58, m_59]), (cc_l w0 (K 0) 5500 fw), (cc_l t0 (K 0) 400 ft), (cc_l r0 (K 0) 7 frf)] s.heap := hP
  have hl := lv_entry [.ref m0] (n := 4) (Nat.le_of_ble_eq_true rfl)
  rw [lg_entry_eq]
  generalize (lg_sl [.ref m0] ++ List.replicate (4 - (lg_sl [.ref m0]).length) Slot.unset).toArray = ls at hl ⊢
  have hl : lv_has ls 4 [(0, .ref m0)] := hl
  have hw12 : ∀ w ∈ wsX120, w ∈ wsX12_row := fun w h => (List.mem_cons_of_mem _ (List.mem_append_right _ h))
  generalize hQ : MQ below _ _ s _ _ _ = Q
  have hE := E_v_rowX.eq_def thr sta as_ ta fw ft frf
  refine lv_aload_n hx hb dX12_row_0 rfl (lv_at hl 0 rfl) (lv_iconst (v := 0) hx hb dX12_row_1 (by decide +kernel) (va_put (ci := 12) (v := .int 0) (ty := .int) (C := RX12) (T := TX12) (N := 60) hx hb hts hw12 tyX12 tyX12_ok nmX12 hown hK hP hD hS 0 rfl rfl 0 (by decide +kernel) (hts _ mm_X12_row_830) (fun _ h9 => h9) rfl (by decide +kernel) (by first | rfl | decide) (by first | rfl | decide) (Nat.le_of_ble_eq_true rfl) dX12_row_2 (fun H locs hP0 hD0 hS0 => ?_)))
  replace hP : va_P D vwCl [(cc_O m0 12 [.int 0, .int sta, .ref r0, .ref w0, m_4, m_5, m_6, m_7, m_8, m_9, m_10, .int as_, .ref t0, .int ta, m_14, m_15, m_16, m_17, m_18, m_19, m_20, m_21, m_22, m_23, m_24, m_25, m_26, m_27, m_28, m_29, m_30, m_31, m_32, m_33, m_34, m_35, m_36, m_37, m_38, m_39, m_40, m_41, m_42, m_43, m_44, m_45, m_46, m_47, m_48, m_49, m_50, m_51, m_52, m_53, m_54, m_55, m_56, m_57, m_58, m_59]), (cc_l w0 (K 0) 5500 fw), (cc_l t0 (K 0) 400 ft), (cc_l r0 (K 0) 7 frf)] H := hP0
  replace hD := as_D hP hD0 rfl
  replace hS := hS0
  clear hP0 hD0 hS0
  refine lv_aload_n hx hb dX12_row_5 rfl (lv_at hl 0 rfl) (va_get (ci := 12) (v := .int ta) (C := RX12) (T := TX12) (N := 60) hx hb hts hw12 hown hK hP 0 rfl rfl 13 (by decide +kernel) (hts _ mm_X12_row_843) (fun _ h9 => h9) rfl dX12_row_6 (lv_istore_n (lv' := [(1, .int ta), (0, .ref m0)]) hx hb dX12_row_9 rfl hl (by decide +kernel) rfl (fun ls hl => ?_)))
  refine lv_aload_n hx hb dX12_row_10 rfl (lv_at hl 1 rfl) (lv_iconst (v := 0) hx hb dX12_row_11 (by decide +kernel) (va_put (ci := 12) (v := .int 0) (ty := .int) (C := RX12) (T := TX12) (N := 60) hx hb hts hw12 tyX12 tyX12_ok nmX12 hown hK hP hD hS 0 rfl rfl 13 (by decide +kernel) (hts _ mm_X12_row_843) (fun _ h9 => h9) rfl (by decide +kernel) (by first | rfl | decide) (by first | rfl | decide) (Nat.le_of_ble_eq_true rfl) dX12_row_12 (fun H locs hP0 hD0 hS0 => ?_)))
  replace hP : va_P D vwCl [(cc_O m0 12 [.int 0, .int sta, .ref r0, .ref w0, m_4, m_5, m_6, m_7, m_8, m_9, m_10, .int as_, .ref t0, .int 0, m_14, m_15, m_16, m_17, m_18, m_19, m_20, m_21, m_22, m_23, m_24, m_25, m_26, m_27, m_28, m_29, m_30, m_31, m_32, m_33, m_34, m_35, m_36, m_37, m_38, m_39, m_40, m_41, m_42, m_43, m_44, m_45, m_46, m_47, m_48, m_49, m_50, m_51, m_52, m_53, m_54, m_55, m_56, m_57, m_58, m_59]), (cc_l w0 (K 0) 5500 fw), (cc_l t0 (K 0) 400 ft), (cc_l r0 (K 0) 7 frf)] H := hP0
  replace hD := as_D hP hD0 rfl
  replace hS := hS0
  clear hP0 hD0 hS0
  refine lv_iload_n hx hb dX12_row_15 rfl (lv_at hl 0 rfl) (lv_if_ne (tgt := 26) hx hb dX12_row_16 (by decide +kernel) (fun c_263 => ?_) (fun c_263 => ?_))
  · have c_263i := i_ne (x := ta.toInt) (y := 0) rfl rfl c_263
    replace hE := hE.trans (if_neg c_263)
    refine lv_aload_n hx hb dX12_row_26 rfl (lv_at hl 1 rfl) (lv_iconst (v := 0) hx hb dX12_row_27 (by decide +kernel) (va_put (ci := 12) (v := .int 0) (ty := .int) (C := RX12) (T := TX12) (N := 60) hx hb hts hw12 tyX12 tyX12_ok nmX12 hown hK hP hD hS 0 rfl rfl 11 (by decide +kernel) (hts _ mm_X12_row_841) (fun _ h9 => h9) rfl (by decide +kernel) (by first | rfl | decide) (by first | rfl | decide) (Nat.le_of_ble_eq_true rfl) dX12_row_28 (fun H locs hP0 hD0 hS0 => ?_)))
    replace hP : va_P D vwCl [(cc_O m0 12 [.int 0, .int sta, .ref r0, .ref w0, m_4, m_5, m_6, m_7, m_8, m_9, m_10, .int 0, .ref t0, .int 0, m_14, m_15, m_16, m_17, m_18, m_19, m_20, m_21, m_22, m_23, m_24, m_25, m_26, m_27, m_28, m_29, m_30, m_31, m_32, m_33, m_34, m_35, m_36, m_37, m_38, m_39, m_40, m_41, m_42, m_43, m_44, m_45, m_46, m_47, m_48, m_49, m_50, m_51, m_52, m_53, m_54, m_55, m_56, m_57, m_58, m_59]), (cc_l w0 (K 0) 5500 fw), (cc_l t0 (K 0) 400 ft), (cc_l r0 (K 0) 7 frf)] H := hP0
    replace hD := as_D hP hD0 rfl
    replace hS := hS0
    clear hP0 hD0 hS0
    refine lv_iconst (v := 0) hx hb dX12_row_31 (by decide +kernel) (lv_istore_n (lv' := [(2, .int 0), (1, .int ta), (0, .ref m0)]) hx hb dX12_row_32 rfl hl (by decide +kernel) rfl (fun ls hl => ?_))
    refine lv_iconst (v := 0) hx hb dX12_row_33 (by decide +kernel) (lv_istore_n (lv' := [(3, .int 0), (2, .int 0), (1, .int ta), (0, .ref m0)]) hx hb dX12_row_34 rfl hl (by decide +kernel) rfl (fun ls hl => ?_))
    have lp_338 : ∀ (nn_ : Nat) (v_304 : Int32) (v_305 : Int32) (v_306 : Int32) (f_307 : Nat → Int32) (hv_304 : 0 ≤ v_304.toInt ∧ v_304.toInt ≤ 400) (hv_305 : 0 ≤ v_305.toInt ∧ v_305.toInt ≤ 400) (hv_306 : 0 ≤ v_306.toInt ∧ v_306.toInt ≤ 400) (hf_307_0 : RwOK f_307) (hr0_lp_338 : v_305.toInt = cnt ft (v_304.toInt).toNat) (hr1_lp_338 : 0 ≤ v_305.toInt ∧ v_305.toInt ≤ v_304.toInt ∧ v_304.toInt ≤ ta.toInt ∧ v_306.toInt = v_304.toInt - v_305.toInt) (hn : (401 - v_304.toInt : Int).toNat < nn_) (hE : E_v_rowX thr sta as_ ta fw ft frf = Lp (α := Int32 → Int32 → Int32 → (Nat → Int32) → (Int32 × Int32 × Int32 × (Nat → Int32) × (Nat → Int32))) (E_v_rowX_l35 sta ta ft frf) (fun _ _ _ _ => ((0, 0, 0, fun _ => 0, fun _ => 0) : Int32 × Int32 × Int32 × (Nat → Int32) × (Nat → Int32))) nn_ v_304 v_305 v_306 f_307) (H : Heap) (locs : List Loc) (hP : va_P D vwCl [(cc_O m0 12 [.int 0, .int sta, .ref r0, .ref w0, m_4, m_5, m_6, m_7, m_8, m_9, m_10, .int v_306, .ref t0, .int 0, m_14, m_15, m_16, m_17, m_18, m_19, m_20, m_21, m_22, m_23, m_24, m_25, m_26, m_27, m_28, m_29, m_30, m_31, m_32, m_33, m_34, m_35, m_36, m_37, m_38, m_39, m_40, m_41, m_42, m_43, m_44, m_45, m_46, m_47, m_48, m_49, m_50, m_51, m_52, m_53, m_54, m_55, m_56, m_57, m_58, m_59]), (cc_l w0 (K 0) 5500 f_307), (cc_l t0 (K 0) 400 ft), (cc_l r0 (K 0) 7 frf)] H) (hD : va_D A [(cc_O m0 12 [.int 0, .int sta, .ref r0, .ref w0, m_4, m_5, m_6, m_7, m_8, m_9, m_10, .int v_306, .ref t0, .int 0, m_14, m_15, m_16, m_17, m_18, m_19, m_20, m_21, m_22, m_23, m_24, m_25, m_26, m_27, m_28, m_29, m_30, m_31, m_32, m_33, m_34, m_35, m_36, m_37, m_38, m_39, m_40, m_41, m_42, m_43, m_44, m_45, m_46, m_47, m_48, m_49, m_50, m_51, m_52, m_53, m_54, m_55, m_56, m_57, m_58, m_59]), (cc_l w0 (K 0) 5500 f_307), (cc_l t0 (K 0) 400 ft), (cc_l r0 (K 0) 7 frf)]) (hS : va_S A s.heap H locs) (ls : Array Slot) (hl : lv_has ls 4 [(3, .int v_304), (2, .int v_305), (1, .int ta), (0, .ref m0)]), W p l e ({ frames := 1, cells := 0, slots := 0, locals := 21 }) s m (([.ref m0] : List Value).toArray) below meth c H locs 0 0 Q (F0 m 35 ls []) := by
      clear hE hP hD hS hl
      intro nn_
      induction nn_ with
      | zero =>
        intro v_304 v_305 v_306 f_307 hv_304 hv_305 hv_306 hf_307_0 hr0_lp_338 hr1_lp_338 hn hE H locs hP hD hS ls hl
        exact absurd hn (Nat.not_lt_zero _)
      | succ nn_ ih_339 =>
        intro v_304 v_305 v_306 f_307 hv_304 hv_305 hv_306 hf_307_0 hr0_lp_338 hr1_lp_338 hn hE H locs hP hD hS ls hl
        replace hE : E_v_rowX thr sta as_ ta fw ft frf = E_v_rowX_l35 sta ta ft frf (Lp (α := Int32 → Int32 → Int32 → (Nat → Int32) → (Int32 × Int32 × Int32 × (Nat → Int32) × (Nat → Int32))) (E_v_rowX_l35 sta ta ft frf) (fun _ _ _ _ => ((0, 0, 0, fun _ => 0, fun _ => 0) : Int32 × Int32 × Int32 × (Nat → Int32) × (Nat → Int32))) nn_) v_304 v_305 v_306 f_307 := hE
        obtain ⟨rec_338, hrec_338⟩ : ∃ z9, z9 = Lp (α := Int32 → Int32 → Int32 → (Nat → Int32) → (Int32 × Int32 × Int32 × (Nat → Int32) × (Nat → Int32))) (E_v_rowX_l35 sta ta ft frf) (fun _ _ _ _ => ((0, 0, 0, fun _ => 0, fun _ => 0) : Int32 × Int32 × Int32 × (Nat → Int32) × (Nat → Int32))) nn_ := ⟨_, rfl⟩
        rw [← hrec_338] at hE
        replace hE := hE.trans (E_v_rowX_l35.eq_def _ _ _ _ _ _ _ _ _)
        refine lv_iload_n hx hb dX12_row_35 rfl (lv_at hl 0 rfl) (lv_iload_n hx hb dX12_row_36 rfl (lv_at hl 2 rfl) (lv_icmp_ge (tgt := 95) hx hb dX12_row_37 (by decide +kernel) (fun c_340 => ?_) (fun c_340 => ?_)))
        · have c_340i := i_le (x := ta.toInt) (y := v_304.toInt) rfl rfl c_340
          replace hE := hE.trans (if_pos c_340)
          refine lv_aload_n hx hb dX12_row_95 rfl (lv_at hl 3 rfl) (lv_iload_n hx hb dX12_row_96 rfl (lv_at hl 1 rfl) (kci (S := Su) (wr := [(cc_l w0 (K 0) 5500 f_307), (cc_l t0 (K 0) 400 ft)]) (va_runV (As := [.int v_305]) (rest := []) ⟨hx, hb, hml, hown, hts⟩ (v_tellX l D K m0 v_305 (.int 0) sta r0 (.ref w0) m_4 m_5 m_6 m_7 m_8 m_9 m_10 (.int v_306) (.ref t0) (.int 0) m_14 m_15 m_16 m_17 m_18 m_19 m_20 m_21 m_22 m_23 m_24 m_25 m_26 m_27 m_28 m_29 m_30 m_31 m_32 m_33 m_34 m_35 m_36 m_37 m_38 m_39 m_40 m_41 m_42 m_43 m_44 m_45 m_46 m_47 m_48 m_49 m_50 m_51 m_52 m_53 m_54 m_55 m_56 m_57 m_58 m_59 frf H.size (by first | omega | decide)) (cwV 1 hts gX12_row_X12_tell rfl rfl rfl (by decide +kernel) ⟨Nat.le_of_ble_eq_true rfl, Nat.le_of_ble_eq_true rfl⟩) (mkV hK hN (hP.sub [0, 3] rfl) (hD.sub [0, 3] (by decide +kernel) rfl) (ci := 12) (q0 := 0) rfl rfl) rfl rfl hl.1 rfl (lv_room (Nat.le_of_ble_eq_true rfl)) dX12_row_97 ⟨Nat.le_of_ble_eq_true rfl, Nat.le_of_ble_eq_true rfl⟩) hP hD hS hA [0, 3] [1, 2] rfl rfl (by decide +kernel) (by decide +kernel) (fun r_341 u_342 H locs hw hP0 hD0 hS0 => ?_)))
          replace hP : va_P D vwCl [(cc_l w0 (K 0) 5500 f_307), (cc_l t0 (K 0) 400 ft), (cc_O m0 12 [.int 0, .int (u_342.2.2.2.1 0), .ref r0, .ref w0, m_4, m_5, m_6, m_7, m_8, m_9, m_10, .int v_306, .ref t0, .int 0, m_14, m_15, m_16, m_17, m_18, m_19, m_20, m_21, m_22, m_23, m_24, m_25, m_26, m_27, m_28, m_29, m_30, m_31, m_32, m_33, m_34, m_35, m_36, m_37, m_38, m_39, m_40, m_41, m_42, m_43, m_44, m_45, m_46, m_47, m_48, m_49, m_50, m_51, m_52, m_53, m_54, m_55, m_56, m_57, m_58, m_59]), (cc_l r0 (K 0) 7 (u_342.2.1 0))] H := hP0
          replace hD := as_D hP hD0 rfl
          replace hS := hS0
          clear hP0 hD0 hS0
          obtain ⟨hw, k_343, k_344, -⟩ := hw
          replace hE := (hE.trans (Lt2_in k_344)).trans (Lt2_in rfl)
          have er_r_341 := hw
          have hr_r_341 : r_341.toInt = v_305.toInt := (congrArg Int32.toInt er_r_341).trans rfl
          rw [← hQ]
          have hP9 := hP.sub (ws' := [(cc_O m0 12 [.int 0, .int (u_342.2.2.2.1 0), .ref r0, .ref w0, m_4, m_5, m_6, m_7, m_8, m_9, m_10, .int v_306, .ref t0, .int 0, m_14, m_15, m_16, m_17, m_18, m_19, m_20, m_21, m_22, m_23, m_24, m_25, m_26, m_27, m_28, m_29, m_30, m_31, m_32, m_33, m_34, m_35, m_36, m_37, m_38, m_39, m_40, m_41, m_42, m_43, m_44, m_45, m_46, m_47, m_48, m_49, m_50, m_51, m_52, m_53, m_54, m_55, m_56, m_57, m_58, m_59]), (cc_l w0 (K 0) 5500 f_307), (cc_l t0 (K 0) 400 ft), (cc_l r0 (K 0) 7 (u_342.2.1 0))]) [2, 0, 1, 3] rfl
          have hD9 := sub_D hP9 hD [2, 0, 1, 3] (by decide +kernel) rfl
          exact W.iret (v := r_341) hx hb hr (fun t ht hW => ⟨⟨r_341, ((fun _ => 0, fun i => match i with | 0 => f_307 | _ => (u_342.2.1 0), fun _ => fun _ => 0, fun i => match i with | 0 => (u_342.2.2.2.1 0) | _ => v_306, fun _ => 0, fun _ => fun _ => none) : Su), rfl, ⟨(show (-6) ≤ r_341.toInt ∧ r_341.toInt ≤ 400 by rw [hr_r_341]; omega), (show (-6) ≤ ((u_342.2.2.2.1 0) : Int32).toInt ∧ ((u_342.2.2.2.1 0) : Int32).toInt ≤ 0 by omega), hf_307_0, hE.symm, (show ((ta.toInt = 0 ∧ (r_341 : Int32).toInt = -6 ∧ (v_306 : Int32).toInt = as_.toInt) ∨ (0 < ta.toInt ∧ (r_341 : Int32).toInt = cnt ft ta.toInt.toNat ∧ (v_306 : Int32).toInt = ta.toInt - cnt ft ta.toInt.toNat)) by have q9 := hr0_lp_338; rw [show v_304.toInt = ta.toInt by omega] at q9; exact Or.inr ⟨by omega, by first | omega | (rw [← q9]; omega), by first | omega | (rw [← q9]; omega)⟩), trivial⟩, (⟨by rw [ht]; exact hP9, hD9⟩ : Wd D A _ t)⟩, hS.F ht⟩) hS.2.2 dX12_row_100
        · have c_340i := i_nle (x := ta.toInt) (y := v_304.toInt) rfl rfl c_340
          replace hE := hE.trans (if_neg c_340)
          refine lv_iload_n hx hb dX12_row_40 rfl (lv_at hl 0 rfl) (lv_bipush (v := 24) hx hb dX12_row_41 (by decide +kernel) (lv_icmp_ge (tgt := 79) hx hb dX12_row_43 (by decide +kernel) (fun c_345 => ?_) (fun c_345 => ?_)))
          · have c_345i := i_le (x := 24) (y := v_304.toInt) rfl rfl c_345
            replace hE := hE.trans (if_pos c_345)
            refine lv_aload_n hx hb dX12_row_79 rfl (lv_at hl 3 rfl) (lv_dup hx hb dX12_row_80 rfl (va_get (ci := 12) (v := .int v_306) (C := RX12) (T := TX12) (N := 60) hx hb hts hw12 hown hK hP 0 rfl rfl 11 (by decide +kernel) (hts _ mm_X12_row_841) (fun _ h9 => h9) rfl dX12_row_81 (lv_iconst (v := 1) hx hb dX12_row_84 (by decide +kernel) (lv_iadd hx hb dX12_row_85 (lv_topi (fun x_346 ex_346 => ?_))))))
            replace hE := hE.trans (Lt_in ex_346)
            have hx_346 : x_346.toInt = (v_306.toInt + 1) := by rw [ex_346]; exact i_add rfl (show (1 : Int32).toInt = 1 from rfl) (by omega)
            refine va_put (ci := 12) (v := .int x_346) (ty := .int) (C := RX12) (T := TX12) (N := 60) hx hb hts hw12 tyX12 tyX12_ok nmX12 hown hK hP hD hS 0 rfl rfl 11 (by decide +kernel) (hts _ mm_X12_row_841) (fun _ h9 => h9) rfl (by decide +kernel) (by first | rfl | decide) (by first | rfl | decide) (Nat.le_of_ble_eq_true rfl) dX12_row_86 (fun H locs hP0 hD0 hS0 => ?_)
            replace hP : va_P D vwCl [(cc_O m0 12 [.int 0, .int sta, .ref r0, .ref w0, m_4, m_5, m_6, m_7, m_8, m_9, m_10, .int x_346, .ref t0, .int 0, m_14, m_15, m_16, m_17, m_18, m_19, m_20, m_21, m_22, m_23, m_24, m_25, m_26, m_27, m_28, m_29, m_30, m_31, m_32, m_33, m_34, m_35, m_36, m_37, m_38, m_39, m_40, m_41, m_42, m_43, m_44, m_45, m_46, m_47, m_48, m_49, m_50, m_51, m_52, m_53, m_54, m_55, m_56, m_57, m_58, m_59]), (cc_l w0 (K 0) 5500 f_307), (cc_l t0 (K 0) 400 ft), (cc_l r0 (K 0) 7 frf)] H := hP0
            replace hD := as_D hP hD0 rfl
            replace hS := hS0
            clear hP0 hD0 hS0
            obtain ⟨x_347, ex_347⟩ : ∃ y : Int32, y = v_304 + Int32.ofInt 1 := ⟨_, rfl⟩
            replace hE := hE.trans (Lt_in ex_347)
            have hx_347 : x_347.toInt = (v_304.toInt + 1) := by rw [ex_347]; exact i_add rfl (show (Int32.ofInt 1).toInt = 1 from rfl) (by omega)
            refine lv_iinc (v := x_347) (lv' := [(3, .int x_347), (2, .int v_305), (1, .int ta), (0, .ref m0)]) hx hb dX12_row_89 hl (k := 0) rfl (by rw [ex_347]) (by decide +kernel) rfl (fun ls hl => ?_)
            refine lv_goto (tgt := 35) hx hb dX12_row_92 (by decide +kernel) ?_
            exact ih_339 x_347 v_305 x_346 f_307 (by rw [hx_347]; omega) (by omega) (by rw [hx_346]; omega) hf_307_0 (show (v_305 : Int32).toInt = cnt ft ((x_347 : Int32).toInt).toNat by rw [hx_347]; exact cnt_far (by omega) hr0_lp_338) (show 0 ≤ (v_305 : Int32).toInt ∧ (v_305 : Int32).toInt ≤ (x_347 : Int32).toInt ∧ (x_347 : Int32).toInt ≤ ta.toInt ∧ (x_346 : Int32).toInt = (x_347 : Int32).toInt - (v_305 : Int32).toInt by omega) (by omega) (hE.trans (by rw [hrec_338])) _ _ hP hD hS ls (lv_sub hl [0, 1, 2, 3] rfl)
          · have c_345i := i_nle (x := 24) (y := v_304.toInt) rfl rfl c_345
            replace hE := hE.trans (if_neg c_345)
            refine lv_aload_n hx hb dX12_row_46 rfl (lv_at hl 3 rfl) (va_get (ci := 12) (v := .ref t0) (C := RX12) (T := TX12) (N := 60) hx hb hts hw12 hown hK hP 0 rfl rfl 12 (by decide +kernel) (hts _ mm_X12_row_842) (fun _ h9 => h9) rfl dX12_row_47 (lv_iload_n hx hb dX12_row_50 rfl (lv_at hl 0 rfl) (va_iald hx hb hK hP 2 0 rfl rfl (i_in rfl (by omega)) dX12_row_51 (lv_topi (fun x_348 ex_348 => ?_)))))
            replace hE := hE.trans (Lt_in ex_348)
            refine lv_sipush (v := 128) hx hb dX12_row_52 (by decide +kernel) (lv_icmp_ge (tgt := 79) hx hb dX12_row_55 (by decide +kernel) (fun c_349 => ?_) (fun c_349 => ?_))
            · have c_349i := i_le (x := 128) (y := x_348.toInt) rfl rfl c_349
              replace hE := hE.trans (if_pos c_349)
              refine lv_aload_n hx hb dX12_row_79 rfl (lv_at hl 3 rfl) (lv_dup hx hb dX12_row_80 rfl (va_get (ci := 12) (v := .int v_306) (C := RX12) (T := TX12) (N := 60) hx hb hts hw12 hown hK hP 0 rfl rfl 11 (by decide +kernel) (hts _ mm_X12_row_841) (fun _ h9 => h9) rfl dX12_row_81 (lv_iconst (v := 1) hx hb dX12_row_84 (by decide +kernel) (lv_iadd hx hb dX12_row_85 (lv_topi (fun x_350 ex_350 => ?_))))))
              replace hE := hE.trans (Lt_in ex_350)
              have hx_350 : x_350.toInt = (v_306.toInt + 1) := by rw [ex_350]; exact i_add rfl (show (1 : Int32).toInt = 1 from rfl) (by omega)
              refine va_put (ci := 12) (v := .int x_350) (ty := .int) (C := RX12) (T := TX12) (N := 60) hx hb hts hw12 tyX12 tyX12_ok nmX12 hown hK hP hD hS 0 rfl rfl 11 (by decide +kernel) (hts _ mm_X12_row_841) (fun _ h9 => h9) rfl (by decide +kernel) (by first | rfl | decide) (by first | rfl | decide) (Nat.le_of_ble_eq_true rfl) dX12_row_86 (fun H locs hP0 hD0 hS0 => ?_)
              replace hP : va_P D vwCl [(cc_O m0 12 [.int 0, .int sta, .ref r0, .ref w0, m_4, m_5, m_6, m_7, m_8, m_9, m_10, .int x_350, .ref t0, .int 0, m_14, m_15, m_16, m_17, m_18, m_19, m_20, m_21, m_22, m_23, m_24, m_25, m_26, m_27, m_28, m_29, m_30, m_31, m_32, m_33, m_34, m_35, m_36, m_37, m_38, m_39, m_40, m_41, m_42, m_43, m_44, m_45, m_46, m_47, m_48, m_49, m_50, m_51, m_52, m_53, m_54, m_55, m_56, m_57, m_58, m_59]), (cc_l w0 (K 0) 5500 f_307), (cc_l t0 (K 0) 400 ft), (cc_l r0 (K 0) 7 frf)] H := hP0
              replace hD := as_D hP hD0 rfl
              replace hS := hS0
              clear hP0 hD0 hS0
              obtain ⟨x_351, ex_351⟩ : ∃ y : Int32, y = v_304 + Int32.ofInt 1 := ⟨_, rfl⟩
              replace hE := hE.trans (Lt_in ex_351)
              have hx_351 : x_351.toInt = (v_304.toInt + 1) := by rw [ex_351]; exact i_add rfl (show (Int32.ofInt 1).toInt = 1 from rfl) (by omega)
              refine lv_iinc (v := x_351) (lv' := [(3, .int x_351), (2, .int v_305), (1, .int ta), (0, .ref m0)]) hx hb dX12_row_89 hl (k := 0) rfl (by rw [ex_351]) (by decide +kernel) rfl (fun ls hl => ?_)
              refine lv_goto (tgt := 35) hx hb dX12_row_92 (by decide +kernel) ?_
              exact ih_339 x_351 v_305 x_350 f_307 (by rw [hx_351]; omega) (by omega) (by rw [hx_350]; omega) hf_307_0 (show (v_305 : Int32).toInt = cnt ft ((x_351 : Int32).toInt).toNat by rw [hx_351]; exact cnt_no (by omega) (show x_348 = ft (v_304.toInt).toNat by rw [ex_348, i_clamp rfl]) (by omega) hr0_lp_338) (show 0 ≤ (v_305 : Int32).toInt ∧ (v_305 : Int32).toInt ≤ (x_351 : Int32).toInt ∧ (x_351 : Int32).toInt ≤ ta.toInt ∧ (x_350 : Int32).toInt = (x_351 : Int32).toInt - (v_305 : Int32).toInt by omega) (by omega) (hE.trans (by rw [hrec_338])) _ _ hP hD hS ls (lv_sub hl [0, 1, 2, 3] rfl)
            · have c_349i := i_nle (x := 128) (y := x_348.toInt) rfl rfl c_349
              replace hE := hE.trans (if_neg c_349)
              refine lv_aload_n hx hb dX12_row_58 rfl (lv_at hl 3 rfl) (va_get (ci := 12) (v := .ref w0) (C := RX12) (T := TX12) (N := 60) hx hb hts hw12 hown hK hP 0 rfl rfl 3 (by decide +kernel) (hts _ mm_X12_row_833) (fun _ h9 => h9) rfl dX12_row_59 (lv_bipush (v := 67) hx hb dX12_row_62 (by decide +kernel) (lv_iload_n hx hb dX12_row_64 rfl (lv_at hl 0 rfl) (lv_iadd hx hb dX12_row_65 (lv_topi (fun x_352 ex_352 => ?_))))))
              replace hE := hE.trans (Lt_in ex_352)
              have hx_352 : x_352.toInt = (67 + v_304.toInt) := by rw [ex_352]; exact i_add (show (67 : Int32).toInt = 67 from rfl) rfl (by omega)
              refine lv_aload_n hx hb dX12_row_66 rfl (lv_at hl 3 rfl) (va_get (ci := 12) (v := .ref t0) (C := RX12) (T := TX12) (N := 60) hx hb hts hw12 hown hK hP 0 rfl rfl 12 (by decide +kernel) (hts _ mm_X12_row_842) (fun _ h9 => h9) rfl dX12_row_67 (lv_iload_n hx hb dX12_row_70 rfl (lv_at hl 0 rfl) (va_iald hx hb hK hP 2 0 rfl rfl (i_in rfl (by omega)) dX12_row_71 (lv_topi (fun x_353 ex_353 => ?_)))))
              replace hE := hE.trans (Lt_in ex_353)
              refine va_iast hx hb hK hP hD hS 1 0 rfl rfl (i_in hx_352 (by omega)) dX12_row_72 (fun H locs hP0 hD0 hS0 => ?_)
              replace hP := hP0
              replace hD := hD0
              replace hS := hS0
              clear hP0 hD0 hS0
              generalize hf_354 : (upd f_307 (x_352 : Int32).toNatClampNeg x_353) = f_354 at hP hD
              replace hE := hE.trans (Lt_in hf_354.symm)
              have hf_354_0 : RwOK f_354 := by rw [← hf_354]; exact RwOK.upd hf_307_0 hx_352 (by omega) rfl (PR.free (by omega))
              replace hP : va_P D vwCl [(cc_O m0 12 [.int 0, .int sta, .ref r0, .ref w0, m_4, m_5, m_6, m_7, m_8, m_9, m_10, .int v_306, .ref t0, .int 0, m_14, m_15, m_16, m_17, m_18, m_19, m_20, m_21, m_22, m_23, m_24, m_25, m_26, m_27, m_28, m_29, m_30, m_31, m_32, m_33, m_34, m_35, m_36, m_37, m_38, m_39, m_40, m_41, m_42, m_43, m_44, m_45, m_46, m_47, m_48, m_49, m_50, m_51, m_52, m_53, m_54, m_55, m_56, m_57, m_58, m_59]), (cc_l w0 (K 0) 5500 f_354), (cc_l t0 (K 0) 400 ft), (cc_l r0 (K 0) 7 frf)] H := hP
              replace hD := as_D hP hD rfl
              obtain ⟨x_355, ex_355⟩ : ∃ y : Int32, y = v_305 + Int32.ofInt 1 := ⟨_, rfl⟩
              replace hE := hE.trans (Lt_in ex_355)
              have hx_355 : x_355.toInt = (v_305.toInt + 1) := by rw [ex_355]; exact i_add rfl (show (Int32.ofInt 1).toInt = 1 from rfl) (by omega)
              refine lv_iinc (v := x_355) (lv' := [(2, .int x_355), (3, .int v_304), (1, .int ta), (0, .ref m0)]) hx hb dX12_row_73 hl (k := 1) rfl (by rw [ex_355]) (by decide +kernel) rfl (fun ls hl => ?_)
              refine lv_goto (tgt := 89) hx hb dX12_row_76 (by decide +kernel) ?_
              obtain ⟨x_356, ex_356⟩ : ∃ y : Int32, y = v_304 + Int32.ofInt 1 := ⟨_, rfl⟩
              replace hE := hE.trans (Lt_in ex_356)
              have hx_356 : x_356.toInt = (v_304.toInt + 1) := by rw [ex_356]; exact i_add rfl (show (Int32.ofInt 1).toInt = 1 from rfl) (by omega)
              refine lv_iinc (v := x_356) (lv' := [(3, .int x_356), (2, .int x_355), (1, .int ta), (0, .ref m0)]) hx hb dX12_row_89 hl (k := 1) rfl (by rw [ex_356]) (by decide +kernel) rfl (fun ls hl => ?_)
              refine lv_goto (tgt := 35) hx hb dX12_row_92 (by decide +kernel) ?_
              exact ih_339 x_356 x_355 v_306 f_354 (by rw [hx_356]; omega) (by rw [hx_355]; omega) (by omega) hf_354_0 (show (x_355 : Int32).toInt = cnt ft ((x_356 : Int32).toInt).toNat by rw [hx_355, hx_356]; exact cnt_yes (by omega) (show x_348 = ft (v_304.toInt).toNat by rw [ex_348, i_clamp rfl]) (by omega) hr0_lp_338) (show 0 ≤ (x_355 : Int32).toInt ∧ (x_355 : Int32).toInt ≤ (x_356 : Int32).toInt ∧ (x_356 : Int32).toInt ≤ ta.toInt ∧ (v_306 : Int32).toInt = (x_356 : Int32).toInt - (x_355 : Int32).toInt by omega) (by omega) (hE.trans (by rw [hrec_338])) _ _ hP hD hS ls (lv_sub hl [0, 1, 2, 3] rfl)
    have hz_357 : (0 : Int32).toInt = 0 := rfl
    have hz_358 : (0 : Int32).toInt = 0 := rfl
    have hz_359 : (0 : Int32).toInt = 0 := rfl
    exact lp_338 ((401 - (0 : Int32).toInt : Int).toNat + 1) 0 0 0 fw (by decide +kernel) (by decide +kernel) (by decide +kernel) zfw (show (0 : Int32).toInt = cnt ft ((0 : Int32).toInt).toNat by rfl) (show 0 ≤ (0 : Int32).toInt ∧ (0 : Int32).toInt ≤ (0 : Int32).toInt ∧ (0 : Int32).toInt ≤ ta.toInt ∧ (0 : Int32).toInt = (0 : Int32).toInt - (0 : Int32).toInt by omega) (Nat.lt_succ_self _) hE _ _ hP hD hS ls (lv_sub hl [0, 1, 2, 3] rfl)
  · have c_263i := i_eq (x := ta.toInt) (y := 0) rfl rfl c_263
    replace hE := hE.trans (if_pos c_263)
    refine lv_aload_n hx hb dX12_row_19 rfl (lv_at hl 1 rfl) (lv_bipush (v := (-6)) hx hb dX12_row_20 (by decide +kernel) (kci (S := Su) (wr := [(cc_l w0 (K 0) 5500 fw), (cc_l t0 (K 0) 400 ft)]) (va_runV (As := [.int (-6)]) (rest := []) ⟨hx, hb, hml, hown, hts⟩ (v_tellX l D K m0 (-6) (.int 0) sta r0 (.ref w0) m_4 m_5 m_6 m_7 m_8 m_9 m_10 (.int as_) (.ref t0) (.int 0) m_14 m_15 m_16 m_17 m_18 m_19 m_20 m_21 m_22 m_23 m_24 m_25 m_26 m_27 m_28 m_29 m_30 m_31 m_32 m_33 m_34 m_35 m_36 m_37 m_38 m_39 m_40 m_41 m_42 m_43 m_44 m_45 m_46 m_47 m_48 m_49 m_50 m_51 m_52 m_53 m_54 m_55 m_56 m_57 m_58 m_59 frf H.size (by first | omega | decide)) (cwV 1 hts gX12_row_X12_tell rfl rfl rfl (by decide +kernel) ⟨Nat.le_of_ble_eq_true rfl, Nat.le_of_ble_eq_true rfl⟩) (mkV hK hN (hP.sub [0, 3] rfl) (hD.sub [0, 3] (by decide +kernel) rfl) (ci := 12) (q0 := 0) rfl rfl) rfl rfl hl.1 rfl (lv_room (Nat.le_of_ble_eq_true rfl)) dX12_row_22 ⟨Nat.le_of_ble_eq_true rfl, Nat.le_of_ble_eq_true rfl⟩) hP hD hS hA [0, 3] [1, 2] rfl rfl (by decide +kernel) (by decide +kernel) (fun r_360 u_361 H locs hw hP0 hD0 hS0 => ?_)))
    replace hP : va_P D vwCl [(cc_l w0 (K 0) 5500 fw), (cc_l t0 (K 0) 400 ft), (cc_O m0 12 [.int 0, .int (u_361.2.2.2.1 0), .ref r0, .ref w0, m_4, m_5, m_6, m_7, m_8, m_9, m_10, .int as_, .ref t0, .int 0, m_14, m_15, m_16, m_17, m_18, m_19, m_20, m_21, m_22, m_23, m_24, m_25, m_26, m_27, m_28, m_29, m_30, m_31, m_32, m_33, m_34, m_35, m_36, m_37, m_38, m_39, m_40, m_41, m_42, m_43, m_44, m_45, m_46, m_47, m_48, m_49, m_50, m_51, m_52, m_53, m_54, m_55, m_56, m_57, m_58, m_59]), (cc_l r0 (K 0) 7 (u_361.2.1 0))] H := hP0
    replace hD := as_D hP hD0 rfl
    replace hS := hS0
    clear hP0 hD0 hS0
    obtain ⟨hw, k_362, k_363, -⟩ := hw
    replace hE := (hE.trans (Lt2_in k_363)).trans (Lt2_in rfl)
    obtain rfl := hw
    rw [← hQ]
    have hP9 := hP.sub (ws' := [(cc_O m0 12 [.int 0, .int (u_361.2.2.2.1 0), .ref r0, .ref w0, m_4, m_5, m_6, m_7, m_8, m_9, m_10, .int as_, .ref t0, .int 0, m_14, m_15, m_16, m_17, m_18, m_19, m_20, m_21, m_22, m_23, m_24, m_25, m_26, m_27, m_28, m_29, m_30, m_31, m_32, m_33, m_34, m_35, m_36, m_37, m_38, m_39, m_40, m_41, m_42, m_43, m_44, m_45, m_46, m_47, m_48, m_49, m_50, m_51, m_52, m_53, m_54, m_55, m_56, m_57, m_58, m_59]), (cc_l w0 (K 0) 5500 fw), (cc_l t0 (K 0) 400 ft), (cc_l r0 (K 0) 7 (u_361.2.1 0))]) [2, 0, 1, 3] rfl
    have hD9 := sub_D hP9 hD [2, 0, 1, 3] (by decide +kernel) rfl
    exact W.iret (v := (-6)) hx hb hr (fun t ht hW => ⟨⟨(-6), ((fun _ => 0, fun i => match i with | 0 => fw | _ => (u_361.2.1 0), fun _ => fun _ => 0, fun i => match i with | 0 => (u_361.2.2.2.1 0) | _ => as_, fun _ => 0, fun _ => fun _ => none) : Su), rfl, ⟨(show (-6) ≤ ((-6) : Int32).toInt ∧ ((-6) : Int32).toInt ≤ 400 by decide), (show (-6) ≤ ((u_361.2.2.2.1 0) : Int32).toInt ∧ ((u_361.2.2.2.1 0) : Int32).toInt ≤ 0 by omega), zfw, hE.symm, (show ((ta.toInt = 0 ∧ ((-6) : Int32).toInt = -6 ∧ (as_ : Int32).toInt = as_.toInt) ∨ (0 < ta.toInt ∧ ((-6) : Int32).toInt = cnt ft ta.toInt.toNat ∧ (as_ : Int32).toInt = ta.toInt - cnt ft ta.toInt.toNat)) by exact Or.inl ⟨by omega, by first | rfl | omega, rfl⟩), trivial⟩, (⟨by rw [ht]; exact hP9, hD9⟩ : Wd D A _ t)⟩, hS.F ht⟩) hS.2.2 dX12_row_25
set_option maxRecDepth 100000 in
noncomputable def E_w_ashX (ato : Int32) : Int32 :=
  (ato : Int32)
set_option maxHeartbeats 4000000 in
set_option maxRecDepth 100000 in
theorem w_ashX (l : Launch) (D : va_G) (K : Nat → ClassId) (o0 : Nat) (o_0 : Value) (o_1 : Value) (o_2 : Value) (o_3 : Value) (o_4 : Value) (o_5 : Value) (o_6 : Value) (o_7 : Value) (o_8 : Value) (o_9 : Value) (o_10 : Value) (o_11 : Value) (o_12 : Value) (o_13 : Value) (ato : Int32) (o_15 : Value) (o_16 : Value) (sz : Nat) : Met l yX11_ash wsX11_ash ({ frames := 0, cells := 0, slots := 0, locals := 0 }) (va_Pc [.ref o0] (Pre D K [(cc_O o0 11 [o_0, o_1, o_2, o_3, o_4, o_5, o_6, o_7, o_8, o_9, o_10, o_11, o_12, o_13, .int ato, o_15, o_16])] sz)) (vp_Si (fun r : Int32 => ((r = ato)) ∧ (r = E_w_ashX ato) ∧ True)) 0 0 (fun _ => False) := by
  refine Met.ofW (cc := cX11_ash) (maxL := 1) (ret := (some .int)) (by decide +kernel) rfl ?_
  intro p e s m args below meth c s₁ B hml hv
  obtain ⟨rfl, hsz, hP, hK, hD0, hN⟩ := hv
  have hx := B.exec
  have hb := B.bytes
  have hr := B.returns
  have hts := atoms_spec (ws := wsX11_ash) B.pre
  have hown : s.vm.findClass RX11 = some m.cls := findClass_of_methodNamed B.named
  have hlocks := B.notSynchronized
  subst hsz
  have hD := hD0
  replace hP : va_P D vwCl [(cc_O o0 11 [o_0, o_1, o_2, o_3, o_4, o_5, o_6, o_7, o_8, o_9, o_10, o_11, o_12, o_13, .int ato, o_15, o_16])] s.heap := hP
  have hl := lv_entry [.ref o0] (n := 1) (Nat.le_of_ble_eq_true rfl)
  rw [lg_entry_eq]
  generalize (lg_sl [.ref o0] ++ List.replicate (1 - (lg_sl [.ref o0]).length) Slot.unset).toArray = ls at hl ⊢
  have hl : lv_has ls 1 [(0, .ref o0)] := hl
  have hw11 : ∀ w ∈ wsX110, w ∈ wsX11_ash := fun w h => (List.mem_cons_of_mem _ (List.mem_append_right _ h))
  generalize hQ : MQ below _ _ s _ _ _ = Q
  have hE := E_w_ashX.eq_def ato
  refine lv_aload_n hx hb dX11_ash_0 rfl (lv_at hl 0 rfl) (va_get (ci := 11) (v := .int ato) (C := RX11) (T := TX11) (N := 17) hx hb hts hw11 hown hK hP 0 rfl rfl 14 (by decide +kernel) (hts _ mm_X11_ash_348) (fun _ h9 => h9) rfl dX11_ash_1 ?_)
  rw [← hQ]
  exact W.iret (v := ato) hx hb hr (fun t ht hW => ⟨_, rfl, ⟨(by first | exact rfl | assumption), hE.symm, trivial⟩, ht⟩) (fun q hq => by cases hq) dX11_ash_4
set_option maxRecDepth 100000 in
noncomputable def E_v_ashX (thr : Int32) (as_ : Int32) : Int32 :=
  (as_ : Int32)
set_option maxHeartbeats 4000000 in
set_option maxRecDepth 100000 in
theorem v_ashX (l : Launch) (D : va_G) (K : Nat → ClassId) (m0 : Nat) (thr : Int32) (m_1 : Value) (m_2 : Value) (m_3 : Value) (m_4 : Value) (m_5 : Value) (m_6 : Value) (m_7 : Value) (m_8 : Value) (m_9 : Value) (m_10 : Value) (as_ : Int32) (m_12 : Value) (m_13 : Value) (m_14 : Value) (m_15 : Value) (m_16 : Value) (m_17 : Value) (m_18 : Value) (m_19 : Value) (m_20 : Value) (m_21 : Value) (m_22 : Value) (m_23 : Value) (m_24 : Value) (m_25 : Value) (m_26 : Value) (m_27 : Value) (m_28 : Value) (m_29 : Value) (m_30 : Value) (m_31 : Value) (m_32 : Value) (m_33 : Value) (m_34 : Value) (m_35 : Value) (m_36 : Value) (m_37 : Value) (m_38 : Value) (m_39 : Value) (m_40 : Value) (m_41 : Value) (m_42 : Value) (m_43 : Value) (m_44 : Value) (m_45 : Value) (m_46 : Value) (m_47 : Value) (m_48 : Value) (m_49 : Value) (m_50 : Value) (m_51 : Value) (m_52 : Value) (m_53 : Value) (m_54 : Value) (m_55 : Value) (m_56 : Value) (m_57 : Value) (m_58 : Value) (m_59 : Value) (sz : Nat) : Met l yX12_ash wsX12_ash ({ frames := 0, cells := 0, slots := 0, locals := 0 }) (va_Pc [.ref m0] (Pre D K [(cc_O m0 12 [.int thr, m_1, m_2, m_3, m_4, m_5, m_6, m_7, m_8, m_9, m_10, .int as_, m_12, m_13, m_14, m_15, m_16, m_17, m_18, m_19, m_20, m_21, m_22, m_23, m_24, m_25, m_26, m_27, m_28, m_29, m_30, m_31, m_32, m_33, m_34, m_35, m_36, m_37, m_38, m_39, m_40, m_41, m_42, m_43, m_44, m_45, m_46, m_47, m_48, m_49, m_50, m_51, m_52, m_53, m_54, m_55, m_56, m_57, m_58, m_59])] sz)) (va_Qi (S := Su) (fun (r : Int32) (u : Su) => ((r = as_)) ∧ (r = E_v_ashX thr as_) ∧ True) (fun u t => Wd D (va_A [(cc_O m0 12 [.int thr, m_1, m_2, m_3, m_4, m_5, m_6, m_7, m_8, m_9, m_10, .int as_, m_12, m_13, m_14, m_15, m_16, m_17, m_18, m_19, m_20, m_21, m_22, m_23, m_24, m_25, m_26, m_27, m_28, m_29, m_30, m_31, m_32, m_33, m_34, m_35, m_36, m_37, m_38, m_39, m_40, m_41, m_42, m_43, m_44, m_45, m_46, m_47, m_48, m_49, m_50, m_51, m_52, m_53, m_54, m_55, m_56, m_57, m_58, m_59])] sz) ((fun u => [(cc_O m0 12 [.int 0, m_1, m_2, m_3, m_4, m_5, m_6, m_7, m_8, m_9, m_10, .int as_, m_12, m_13, m_14, m_15, m_16, m_17, m_18, m_19, m_20, m_21, m_22, m_23, m_24, m_25, m_26, m_27, m_28, m_29, m_30, m_31, m_32, m_33, m_34, m_35, m_36, m_37, m_38, m_39, m_40, m_41, m_42, m_43, m_44, m_45, m_46, m_47, m_48, m_49, m_50, m_51, m_52, m_53, m_54, m_55, m_56, m_57, m_58, m_59])]) u) t) (va_A [(cc_O m0 12 [.int thr, m_1, m_2, m_3, m_4, m_5, m_6, m_7, m_8, m_9, m_10, .int as_, m_12, m_13, m_14, m_15, m_16, m_17, m_18, m_19, m_20, m_21, m_22, m_23, m_24, m_25, m_26, m_27, m_28, m_29, m_30, m_31, m_32, m_33, m_34, m_35, m_36, m_37, m_38, m_39, m_40, m_41, m_42, m_43, m_44, m_45, m_46, m_47, m_48, m_49, m_50, m_51, m_52, m_53, m_54, m_55, m_56, m_57, m_58, m_59])] sz)) 0 0 (va_A [(cc_O m0 12 [.int thr, m_1, m_2, m_3, m_4, m_5, m_6, m_7, m_8, m_9, m_10, .int as_, m_12, m_13, m_14, m_15, m_16, m_17, m_18, m_19, m_20, m_21, m_22, m_23, m_24, m_25, m_26, m_27, m_28, m_29, m_30, m_31, m_32, m_33, m_34, m_35, m_36, m_37, m_38, m_39, m_40, m_41, m_42, m_43, m_44, m_45, m_46, m_47, m_48, m_49, m_50, m_51, m_52, m_53, m_54, m_55, m_56, m_57, m_58, m_59])] sz) := by
  refine Met.ofW (cc := cX12_ash) (maxL := 1) (ret := (some .int)) (by decide +kernel) rfl ?_
  intro p e s m args below meth c s₁ B hml hv
  obtain ⟨rfl, hsz, hP, hK, hD0, hN⟩ := hv
  have hx := B.exec
  have hb := B.bytes
  have hr := B.returns
  have hts := atoms_spec (ws := wsX12_ash) B.pre
  have hown : s.vm.findClass RX12 = some m.cls := findClass_of_methodNamed B.named
  have hlocks := B.notSynchronized
  subst hsz
  have hD := hD0.self (sz := s.heap.size)
  generalize hAe : va_A [(cc_O m0 12 [.int thr, m_1, m_2, m_3, m_4, m_5, m_6, m_7, m_8, m_9, m_10, .int as_, m_12, m_13, m_14, m_15, m_16, m_17, m_18, m_19, m_20, m_21, m_22, m_23, m_24, m_25, m_26, m_27, m_28, m_29, m_30, m_31, m_32, m_33, m_34, m_35, m_36, m_37, m_38, m_39, m_40, m_41, m_42, m_43, m_44, m_45, m_46, m_47, m_48, m_49, m_50, m_51, m_52, m_53, m_54, m_55, m_56, m_57, m_58, m_59])] s.heap.size = A at hD ⊢
  have hA : ∀ q : Nat, s.heap.size ≤ q → A q := fun q h => by rw [← hAe]; exact Or.inr h
  clear hAe
  have hS : va_S A s.heap s.heap [] := va_S.rf
  replace hP : va_P D vwCl [(cc_O m0 12 [.int thr, m_1, m_2, m_3, m_4, m_5, m_6, m_7, m_8, m_9, m_10, .int as_, m_12, m_13, m_14, m_15, m_16, m_17, m_18, m_19, m_20, m_21, m_22, m_23, m_24, m_25, m_26, m_27, m_28, m_29, m_30, m_31, m_32, m_33, m_34, m_35, m_36, m_37, m_38, m_39, m_40, m_41, m_42, m_43, m_44, m_45, m_46, m_47, m_48, m_49, m_50, m_51, m_52, m_53, m_54, m_55, m_56, m_57, m_58, m_59])] s.heap := hP
  have hl := lv_entry [.ref m0] (n := 1) (Nat.le_of_ble_eq_true rfl)
  rw [lg_entry_eq]
  generalize (lg_sl [.ref m0] ++ List.replicate (1 - (lg_sl [.ref m0]).length) Slot.unset).toArray = ls at hl ⊢
  have hl : lv_has ls 1 [(0, .ref m0)] := hl
  have hw12 : ∀ w ∈ wsX120, w ∈ wsX12_ash := fun w h => (List.mem_cons_of_mem _ (List.mem_append_right _ h))
  generalize hQ : MQ below _ _ s _ _ _ = Q
  have hE := E_v_ashX.eq_def thr as_
  refine lv_aload_n hx hb dX12_ash_0 rfl (lv_at hl 0 rfl) (lv_iconst (v := 0) hx hb dX12_ash_1 (by decide +kernel) (va_put (ci := 12) (v := .int 0) (ty := .int) (C := RX12) (T := TX12) (N := 60) hx hb hts hw12 tyX12 tyX12_ok nmX12 hown hK hP hD hS 0 rfl rfl 0 (by decide +kernel) (hts _ mm_X12_ash_830) (fun _ h9 => h9) rfl (by decide +kernel) (by first | rfl | decide) (by first | rfl | decide) (Nat.le_of_ble_eq_true rfl) dX12_ash_2 (fun H locs hP0 hD0 hS0 => ?_)))
  replace hP : va_P D vwCl [(cc_O m0 12 [.int 0, m_1, m_2, m_3, m_4, m_5, m_6, m_7, m_8, m_9, m_10, .int as_, m_12, m_13, m_14, m_15, m_16, m_17, m_18, m_19, m_20, m_21, m_22, m_23, m_24, m_25, m_26, m_27, m_28, m_29, m_30, m_31, m_32, m_33, m_34, m_35, m_36, m_37, m_38, m_39, m_40, m_41, m_42, m_43, m_44, m_45, m_46, m_47, m_48, m_49, m_50, m_51, m_52, m_53, m_54, m_55, m_56, m_57, m_58, m_59])] H := hP0
  replace hD := as_D hP hD0 rfl
  replace hS := hS0
  clear hP0 hD0 hS0
  refine lv_aload_n hx hb dX12_ash_5 rfl (lv_at hl 0 rfl) (va_get (ci := 12) (v := .int as_) (C := RX12) (T := TX12) (N := 60) hx hb hts hw12 hown hK hP 0 rfl rfl 11 (by decide +kernel) (hts _ mm_X12_ash_841) (fun _ h9 => h9) rfl dX12_ash_6 ?_)
  rw [← hQ]
  have hP9 := hP.sub (ws' := [(cc_O m0 12 [.int 0, m_1, m_2, m_3, m_4, m_5, m_6, m_7, m_8, m_9, m_10, .int as_, m_12, m_13, m_14, m_15, m_16, m_17, m_18, m_19, m_20, m_21, m_22, m_23, m_24, m_25, m_26, m_27, m_28, m_29, m_30, m_31, m_32, m_33, m_34, m_35, m_36, m_37, m_38, m_39, m_40, m_41, m_42, m_43, m_44, m_45, m_46, m_47, m_48, m_49, m_50, m_51, m_52, m_53, m_54, m_55, m_56, m_57, m_58, m_59])]) [0] rfl
  have hD9 := sub_D hP9 hD [0] (by decide +kernel) rfl
  exact W.iret (v := as_) hx hb hr (fun t ht hW => ⟨⟨as_, ((fun _ => 0, fun _ => fun _ => 0, fun _ => fun _ => 0, fun _ => 0, fun _ => 0, fun _ => fun _ => none) : Su), rfl, ⟨(by first | exact rfl | assumption), hE.symm, trivial⟩, (⟨by rw [ht]; exact hP9, hD9⟩ : Wd D A _ t)⟩, hS.F ht⟩) hS.2.2 dX12_ash_9
