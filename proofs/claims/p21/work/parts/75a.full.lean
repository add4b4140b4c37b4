/-! places as Nats -/
theorem kn_le {a b : Nat} (ha : a < 2147483648) (hb : b < 2147483648) : nI a ≤ nI b ↔ a ≤ b := by
  rw [ie_iff, nI_toInt ha, nI_toInt hb]; omega
theorem kn_lt {a b : Nat} (ha : a < 2147483648) (hb : b < 2147483648) : nI a < nI b ↔ a < b := by
  rw [il_iff, nI_toInt ha, nI_toInt hb]; omega
theorem kn_eq {a b : Nat} (ha : a < 2147483648) (hb : b < 2147483648) : nI a = nI b ↔ a = b := by
  rw [iq_iff, nI_toInt ha, nI_toInt hb]; omega
theorem kn_cl {a : Nat} (ha : a < 2147483648) : (nI a).toNatClampNeg = a := by
  rw [cl_of (nI_toInt ha)]; rfl
theorem kn_p1 {a : Nat} (h : a + 1 < 2147483648) : nI a + 1 = nI (a + 1) := Int32.toInt_inj.mp (by
  rw [i_add (nI_toInt (by omega)) (show (1 : Int32).toInt = 1 from rfl) (by omega), nI_toInt (by omega)]; omega)
theorem kn_po {a : Nat} (h : a + 1 < 2147483648) : nI a + Int32.ofInt 1 = nI (a + 1) := Int32.toInt_inj.mp (by
  rw [i_add (nI_toInt (by omega)) (show (Int32.ofInt 1).toInt = 1 from rfl) (by omega), nI_toInt (by omega)]; omega)
theorem kn_p2 {a : Nat} (h : a + 2 < 2147483648) : nI a + 2 = nI (a + 2) := Int32.toInt_inj.mp (by
  rw [i_add (nI_toInt (by omega)) (show (2 : Int32).toInt = 2 from rfl) (by omega), nI_toInt (by omega)]; omega)
theorem kn_m1 {a : Nat} (h : a < 2147483648) (h1 : 1 ≤ a) : nI a - 1 = nI (a - 1) := Int32.toInt_inj.mp (by
  rw [i_sub (nI_toInt (by omega)) (show (1 : Int32).toInt = 1 from rfl) (by omega), nI_toInt (by omega)]; omega)
theorem kn_m2 {a : Nat} (h : a < 2147483648) (h1 : 2 ≤ a) : nI a - 2 = nI (a - 2) := Int32.toInt_inj.mp (by
  rw [i_sub (nI_toInt (by omega)) (show (2 : Int32).toInt = 2 from rfl) (by omega), nI_toInt (by omega)]; omega)
theorem kn_mo {a : Nat} (h : a < 2147483648) (h1 : 1 ≤ a) : nI a + Int32.ofInt (-1) = nI (a - 1) := Int32.toInt_inj.mp (by
  rw [i_add (nI_toInt (by omega)) (show (Int32.ofInt (-1)).toInt = -1 from rfl) (by omega), nI_toInt (by omega)]; omega)
theorem kn_ms {a : Nat} (h : a < 2147483648) : nI a + Int32.ofInt (-1) = nI a - 1 := Int32.toInt_inj.mp (by
  rw [i_add (nI_toInt h) (show (Int32.ofInt (-1)).toInt = -1 from rfl) (by omega), i_sub (nI_toInt h) (show (1 : Int32).toInt = 1 from rfl) (by omega)]; omega)
theorem kn_ge {a : Nat} (h : a < 2147483648) : 0 ≤ nI a := ie_iff.mpr (by
  have z : (0 : Int32).toInt = 0 := rfl
  rw [nI_toInt h]; omega)
theorem kn_nl {a : Nat} (h : a < 2147483648) : ¬ nI a < 0 := fun q => by
  have q2 := il_iff.mp q
  have z : (0 : Int32).toInt = 0 := rfl
  rw [nI_toInt h] at q2; omega
theorem kn_ne {a b : Nat} (ha : a < 2147483648) (hb : b < 2147483648) (h : a ≠ b) : ¬ nI a = nI b := fun q => h ((kn_eq ha hb).mp q)
/-! what two values become by an operator: 3 + - * / % < > 10 = -/
noncomputable def kz_chk (v : Int) : Option Int := if -1000000000 ≤ v ∧ v ≤ 1000000000 then some v else none
noncomputable def kz_bin (o : Nat) (x y : Int) : Option Int :=
  if o = 3 then kz_chk (x + y) else if o = 4 then kz_chk (x - y) else if o = 5 then kz_chk (x * y)
  else if o = 6 then (if y = 0 then none else kz_chk (x.tdiv y))
  else if o = 7 then (if y = 0 then none else kz_chk (x.tmod y))
  else if o = 8 then some (if x < y then 1 else 0)
  else if o = 9 then some (if y < x then 1 else 0)
  else some (if x = y then 1 else 0)
theorem kz_chk_b {v w : Int} (h : kz_chk v = some w) : -1000000000 ≤ w ∧ w ≤ 1000000000 := by
  unfold kz_chk at h
  split at h
  · rename_i q
    have := Option.some.inj h
    omega
  · exact absurd h (by simp)
theorem kz_bin_b {o : Nat} {x y w : Int} (h : kz_bin o x y = some w) : -1000000000 ≤ w ∧ w ≤ 1000000000 := by
  unfold kz_bin at h
  by_cases c3 : o = 3
  · rw [if_pos c3] at h; exact kz_chk_b h
  rw [if_neg c3] at h
  by_cases c4 : o = 4
  · rw [if_pos c4] at h; exact kz_chk_b h
  rw [if_neg c4] at h
  by_cases c5 : o = 5
  · rw [if_pos c5] at h; exact kz_chk_b h
  rw [if_neg c5] at h
  by_cases c6 : o = 6
  · rw [if_pos c6] at h
    by_cases c : y = 0
    · rw [if_pos c] at h; exact absurd h (by simp)
    · rw [if_neg c] at h; exact kz_chk_b h
  rw [if_neg c6] at h
  by_cases c7 : o = 7
  · rw [if_pos c7] at h
    by_cases c : y = 0
    · rw [if_pos c] at h; exact absurd h (by simp)
    · rw [if_neg c] at h; exact kz_chk_b h
  rw [if_neg c7] at h
  by_cases c8 : o = 8
  · rw [if_pos c8] at h
    have := Option.some.inj h
    split at this <;> omega
  rw [if_neg c8] at h
  by_cases c9 : o = 9
  · rw [if_pos c9] at h
    have := Option.some.inj h
    split at this <;> omega
  rw [if_neg c9] at h
  have := Option.some.inj h
  split at this <;> omega
theorem kz_bin_t {o : Nat} {x y : Int} (ho : 8 ≤ o) : ∃ w, kz_bin o x y = some w ∧ (w = 0 ∨ w = 1) := by
  unfold kz_bin
  rw [if_neg (by omega), if_neg (by omega), if_neg (by omega), if_neg (by omega), if_neg (by omega)]
  by_cases c8 : o = 8
  · rw [if_pos c8]; refine ⟨_, rfl, ?_⟩; split <;> omega
  rw [if_neg c8]
  by_cases c9 : o = 9
  · rw [if_pos c9]; refine ⟨_, rfl, ?_⟩; split <;> omega
  rw [if_neg c9]; refine ⟨_, rfl, ?_⟩; split <;> omega
/-- products of values that aren't broken fit a long -/
theorem kz_mul {x y : Int} (hx : -1000000000 ≤ x ∧ x ≤ 1000000000) (hy : -1000000000 ≤ y ∧ y ≤ 1000000000) : -1000000000000000000 ≤ x * y ∧ x * y ≤ 1000000000000000000 := by
  have h1 : 0 ≤ (x + 1000000000) * (1000000000 - y) := Int.mul_nonneg (by omega) (by omega)
  have h2 : 0 ≤ (1000000000 - x) * (y + 1000000000) := Int.mul_nonneg (by omega) (by omega)
  have h3 : 0 ≤ (x + 1000000000) * (y + 1000000000) := Int.mul_nonneg (by omega) (by omega)
  have h4 : 0 ≤ (1000000000 - x) * (1000000000 - y) := Int.mul_nonneg (by omega) (by omega)
  have e1 : (x + 1000000000) * (1000000000 - y) = x * 1000000000 - x * y + 1000000000000000000 - 1000000000 * y := by
    rw [Int.add_mul, Int.mul_sub, Int.mul_sub]; omega
  have e2 : (1000000000 - x) * (y + 1000000000) = 1000000000 * y + 1000000000000000000 - x * y - x * 1000000000 := by
    rw [Int.sub_mul, Int.mul_add, Int.mul_add]; omega
  have e3 : (x + 1000000000) * (y + 1000000000) = x * y + x * 1000000000 + 1000000000 * y + 1000000000000000000 := by
    rw [Int.add_mul, Int.mul_add, Int.mul_add]; omega
  have e4 : (1000000000 - x) * (1000000000 - y) = 1000000000000000000 - 1000000000 * y - x * 1000000000 + x * y := by
    rw [Int.sub_mul, Int.mul_sub, Int.mul_sub]; omega
  omega
theorem kz_tdiv {x y : Int} (hx : -1000000000 ≤ x ∧ x ≤ 1000000000) (hy : y ≠ 0) : -1000000000 ≤ x.tdiv y ∧ x.tdiv y ≤ 1000000000 := by
  have h1 : (x.tdiv y).natAbs = x.natAbs / y.natAbs := Int.natAbs_tdiv x y
  have h2 : x.natAbs / y.natAbs ≤ x.natAbs := Nat.div_le_self _ _
  omega
theorem kz_tmul {x y : Int} (hx : -1000000000 ≤ x ∧ x ≤ 1000000000) : x - x.tdiv y * y = x.tmod y ∧ -1000000000 ≤ x.tdiv y * y ∧ x.tdiv y * y ≤ 1000000000 ∧ -1000000000 ≤ x.tmod y ∧ x.tmod y ≤ 1000000000 := by
  have h0 : y * x.tdiv y + x.tmod y = x := by first | exact Int.mul_tdiv_add_tmod x y | exact Int.tdiv_add_tmod x y
  have hc : y * x.tdiv y = x.tdiv y * y := Int.mul_comm _ _
  have h1 : (x.tmod y).natAbs = x.natAbs % y.natAbs := Int.natAbs_tmod x y
  have h2 : x.natAbs % y.natAbs ≤ x.natAbs := Nat.mod_le _ _
  have h3 : (x.tdiv y * y).natAbs = x.natAbs / y.natAbs * y.natAbs := by rw [Int.natAbs_mul, Int.natAbs_tdiv]; rfl
  have h4 : x.natAbs / y.natAbs * y.natAbs ≤ x.natAbs := Nat.div_mul_le_self _ _
  omega
/-! both machines' operators tell the same -/
noncomputable def kz_is (o : Option Int) (r : Int32 × Int32) : Prop := (∃ w, o = some w ∧ r.2 = 0 ∧ r.1.toInt = w) ∨ (o = none ∧ r.2 = 1)
theorem kz_j195 {v : Int64} {x : Int} (hv : v.toInt = x) : kz_is (kz_chk x) (E_w_combine_j195 v 0) := by
  have zA : (1000000000 : Int64).toInt = 1000000000 := rfl
  have zB : (-1000000000 : Int64).toInt = -1000000000 := rfl
  rw [E_w_combine_j195.eq_def, if_pos (show (0 : Int32) = 0 from rfl)]
  unfold kz_chk
  by_cases c : 0 < lg_cmp v 1000000000
  · have c2 := jl_iff.mp ((lg_cmp_gt _ _).mp c)
    rw [if_pos c, if_neg (by omega)]
    exact Or.inr ⟨rfl, rfl⟩
  · have c2 : ¬ (1000000000 : Int64).toInt < v.toInt := fun q => c ((lg_cmp_gt _ _).mpr (jl_iff.mpr q))
    rw [if_neg c]
    by_cases d : 0 ≤ lg_cmp v (-1000000000)
    · have d2 := je_iff.mp ((lg_cmp_ge _ _).mp d)
      rw [if_pos d, if_pos (by omega)]
      refine Or.inl ⟨x, rfl, rfl, ?_⟩
      exact l_nar hv (by omega)
    · have d2 : ¬ (-1000000000 : Int64).toInt ≤ v.toInt := fun q => d ((lg_cmp_ge _ _).mpr (je_iff.mpr q))
      rw [if_neg d, if_neg (by omega)]
      exact Or.inr ⟨rfl, rfl⟩
theorem kz_j0 (v : Int64) : E_w_combine_j195 v 1 = (0, 1) := by
  rw [E_w_combine_j195.eq_def, if_neg (by decide)]
theorem kz_div {x y : Int64} {X Y : Int} (hx : x.toInt = X) (hy : y.toInt = Y) (bx : -1000000000 ≤ X ∧ X ≤ 1000000000) (h0 : Y ≠ 0) : (x / y).toInt = X.tdiv Y := by
  have h := kz_tdiv bx h0
  rw [Int64.toInt_div, hx, hy]
  exact Int.bmod_eq_of_le (by omega) (by omega)
theorem kz_rem {x y : Int64} {X Y : Int} (hx : x.toInt = X) (hy : y.toInt = Y) (bx : -1000000000 ≤ X ∧ X ≤ 1000000000) (h0 : Y ≠ 0) : (x - x / y * y).toInt = X.tmod Y := by
  obtain ⟨h1, h2, h3, h4, h5⟩ := kz_tmul (y := Y) bx
  have hd := kz_div hx hy bx h0
  have hm : (x / y * y).toInt = X.tdiv Y * Y := l_mul hd hy (by omega)
  rw [l_sub hx hm (by omega)]
  exact h1
theorem kz_y0 {y : Int64} {Y : Int} (hy : y.toInt = Y) : lg_cmp y 0 = 0 ↔ Y = 0 := by
  rw [lg_cmp_eq]
  have z : (0 : Int64).toInt = 0 := rfl
  exact ⟨fun q => by rw [q] at hy; omega, fun q => Int64.toInt_inj.mp (by omega)⟩
theorem kz_comb {o : Nat} (ho : 3 ≤ o ∧ o ≤ 10) {x y : Int64} {X Y : Int} (hx : x.toInt = X) (hy : y.toInt = Y) (bx : -1000000000 ≤ X ∧ X ≤ 1000000000) (bq : -1000000000 ≤ Y ∧ Y ≤ 1000000000) : kz_is (kz_bin o X Y) (E_w_combine (nI o) x y 0) := by
  have hmul := kz_mul bx bq
  have z1 : (1 : Int64).toInt = 1 := rfl
  have z0 : (0 : Int64).toInt = 0 := rfl
  rw [E_w_combine.eq_def]
  rcases (show o = 3 ∨ o = 4 ∨ o = 5 ∨ o = 6 ∨ o = 7 ∨ o = 8 ∨ o = 9 ∨ o = 10 by omega) with rfl | rfl | rfl | rfl | rfl | rfl | rfl | rfl
  · rw [if_pos (by decide), show kz_bin 3 X Y = kz_chk (X + Y) from rfl]
    exact kz_j195 (l_add hx hy (by omega))
  · rw [if_neg (by decide), if_pos (by decide), show kz_bin 4 X Y = kz_chk (X - Y) from rfl]
    exact kz_j195 (l_sub hx hy (by omega))
  · rw [if_neg (by decide), if_neg (by decide), if_pos (by decide), show kz_bin 5 X Y = kz_chk (X * Y) from rfl]
    exact kz_j195 (l_mul hx hy (by omega))
  · rw [if_neg (by decide), if_neg (by decide), if_neg (by decide), if_pos (by decide), show kz_bin 6 X Y = if Y = 0 then none else kz_chk (X.tdiv Y) from rfl]
    by_cases c : Y = 0
    · rw [if_pos c, if_pos ((kz_y0 hy).mpr c), if_pos ((kz_y0 hy).mpr c), kz_j0]
      exact Or.inr ⟨rfl, rfl⟩
    · have c2 : ¬ lg_cmp y 0 = 0 := fun q => c ((kz_y0 hy).mp q)
      rw [if_neg c, if_neg c2, if_neg c2]
      exact kz_j195 (kz_div hx hy bx c)
  · rw [if_neg (by decide), if_neg (by decide), if_neg (by decide), if_neg (by decide), if_pos (by decide), show kz_bin 7 X Y = if Y = 0 then none else kz_chk (X.tmod Y) from rfl]
    by_cases c : Y = 0
    · rw [if_pos c, if_pos ((kz_y0 hy).mpr c), if_pos ((kz_y0 hy).mpr c), kz_j0]
      exact Or.inr ⟨rfl, rfl⟩
    · have c2 : ¬ lg_cmp y 0 = 0 := fun q => c ((kz_y0 hy).mp q)
      rw [if_neg c, if_neg c2, if_neg c2]
      exact kz_j195 (kz_rem hx hy bx c)
  · rw [if_neg (by decide), if_neg (by decide), if_neg (by decide), if_neg (by decide), if_neg (by decide), if_pos (by decide), show kz_bin 8 X Y = some (if X < Y then 1 else 0) from rfl]
    by_cases c : 0 ≤ lg_cmp x y
    · have c2 := je_iff.mp ((lg_cmp_ge _ _).mp c)
      rw [if_pos c, if_neg (by omega)]
      exact kz_j195 z0
    · have c2 : ¬ y.toInt ≤ x.toInt := fun q => c ((lg_cmp_ge _ _).mpr (je_iff.mpr q))
      rw [if_neg c, if_pos (by omega)]
      exact kz_j195 z1
  · rw [if_neg (by decide), if_neg (by decide), if_neg (by decide), if_neg (by decide), if_neg (by decide), if_neg (by decide), if_pos (by decide), show kz_bin 9 X Y = some (if Y < X then 1 else 0) from rfl]
    by_cases c : lg_cmp x y ≤ 0
    · have c2 := je_iff.mp ((lg_cmp_le _ _).mp c)
      rw [if_pos c, if_neg (by omega)]
      exact kz_j195 z0
    · have c2 : ¬ x.toInt ≤ y.toInt := fun q => c ((lg_cmp_le _ _).mpr (je_iff.mpr q))
      rw [if_neg c, if_pos (by omega)]
      exact kz_j195 z1
  · rw [if_neg (by decide), if_neg (by decide), if_neg (by decide), if_neg (by decide), if_neg (by decide), if_neg (by decide), if_neg (by decide), show kz_bin 10 X Y = some (if X = Y then 1 else 0) from rfl]
    by_cases c : lg_cmp x y = 0
    · have c2 := congrArg Int64.toInt ((lg_cmp_eq _ _).mp c)
      rw [if_pos c, if_pos (by omega)]
      exact kz_j195 z1
    · have c2 : ¬ x.toInt = y.toInt := fun q => c ((lg_cmp_eq _ _).mpr (Int64.toInt_inj.mp q))
      rw [if_neg c, if_neg (by omega)]
      exact kz_j195 z0
theorem kz_reck {o : Nat} (ho : 3 ≤ o ∧ o ≤ 10) {x y : Int64} {X Y : Int} (hx : x.toInt = X) (hy : y.toInt = Y) (bx : -1000000000 ≤ X ∧ X ≤ 1000000000) (bq : -1000000000 ≤ Y ∧ Y ≤ 1000000000) : ((E_v_reckon (nI (o + 17)) x y 0).2 = 0 ∧ kz_chk (E_v_reckon (nI (o + 17)) x y 0).1.toInt = kz_bin o X Y) ∨ ((E_v_reckon (nI (o + 17)) x y 0).2 = 1 ∧ kz_bin o X Y = none) := by
  have hmul := kz_mul bx bq
  rw [E_v_reckon.eq_def]
  rcases (show o = 3 ∨ o = 4 ∨ o = 5 ∨ o = 6 ∨ o = 7 ∨ o = 8 ∨ o = 9 ∨ o = 10 by omega) with rfl | rfl | rfl | rfl | rfl | rfl | rfl | rfl
  · rw [if_pos (by decide), show kz_bin 3 X Y = kz_chk (X + Y) from rfl]
    exact Or.inl ⟨rfl, congrArg kz_chk (l_add hx hy (by omega))⟩
  · rw [if_neg (by decide), if_pos (by decide), show kz_bin 4 X Y = kz_chk (X - Y) from rfl]
    exact Or.inl ⟨rfl, congrArg kz_chk (l_sub hx hy (by omega))⟩
  · rw [if_neg (by decide), if_neg (by decide), if_pos (by decide), show kz_bin 5 X Y = kz_chk (X * Y) from rfl]
    exact Or.inl ⟨rfl, congrArg kz_chk (l_mul hx hy (by omega))⟩
  · rw [if_neg (by decide), if_neg (by decide), if_neg (by decide), if_pos (by decide), show kz_bin 6 X Y = if Y = 0 then none else kz_chk (X.tdiv Y) from rfl]
    by_cases c : Y = 0
    · rw [if_pos c, if_pos ((kz_y0 hy).mpr c)]
      exact Or.inr ⟨rfl, rfl⟩
    · rw [if_neg c, if_neg (fun q => c ((kz_y0 hy).mp q))]
      exact Or.inl ⟨rfl, congrArg kz_chk (kz_div hx hy bx c)⟩
  · rw [if_neg (by decide), if_neg (by decide), if_neg (by decide), if_neg (by decide), if_pos (by decide), show kz_bin 7 X Y = if Y = 0 then none else kz_chk (X.tmod Y) from rfl]
    by_cases c : Y = 0
    · rw [if_pos c, if_pos ((kz_y0 hy).mpr c)]
      exact Or.inr ⟨rfl, rfl⟩
    · rw [if_neg c, if_neg (fun q => c ((kz_y0 hy).mp q))]
      exact Or.inl ⟨rfl, congrArg kz_chk (kz_rem hx hy bx c)⟩
  · rw [if_neg (by decide), if_neg (by decide), if_neg (by decide), if_neg (by decide), if_neg (by decide), if_pos (by decide), show kz_bin 8 X Y = some (if X < Y then 1 else 0) from rfl]
    by_cases c : 0 ≤ lg_cmp x y
    · have c2 := je_iff.mp ((lg_cmp_ge _ _).mp c)
      rw [if_pos c, if_neg (by omega)]
      exact Or.inl ⟨rfl, rfl⟩
    · have c2 : ¬ y.toInt ≤ x.toInt := fun q => c ((lg_cmp_ge _ _).mpr (je_iff.mpr q))
      rw [if_neg c, if_pos (by omega)]
      exact Or.inl ⟨rfl, rfl⟩
  · rw [if_neg (by decide), if_neg (by decide), if_neg (by decide), if_neg (by decide), if_neg (by decide), if_neg (by decide), if_pos (by decide), show kz_bin 9 X Y = some (if Y < X then 1 else 0) from rfl]
    by_cases c : lg_cmp x y ≤ 0
    · have c2 := je_iff.mp ((lg_cmp_le _ _).mp c)
      rw [if_pos c, if_neg (by omega)]
      exact Or.inl ⟨rfl, rfl⟩
    · have c2 : ¬ x.toInt ≤ y.toInt := fun q => c ((lg_cmp_le _ _).mpr (je_iff.mpr q))
      rw [if_neg c, if_pos (by omega)]
      exact Or.inl ⟨rfl, rfl⟩
  · rw [if_neg (by decide), if_neg (by decide), if_neg (by decide), if_neg (by decide), if_neg (by decide), if_neg (by decide), if_neg (by decide), show kz_bin 10 X Y = some (if X = Y then 1 else 0) from rfl]
    by_cases c : lg_cmp x y = 0
    · have c2 := congrArg Int64.toInt ((lg_cmp_eq _ _).mp c)
      rw [if_pos c, if_pos (by omega)]
      exact Or.inl ⟨rfl, rfl⟩
    · have c2 : ¬ x.toInt = y.toInt := fun q => c ((lg_cmp_eq _ _).mpr (Int64.toInt_inj.mp q))
      rw [if_neg c, if_neg (by omega)]
      exact Or.inl ⟨rfl, rfl⟩
/-! steps of both machines, between two places of the code; what a piece of code tells -/
noncomputable abbrev KCR : Type := Int32 → Int32 → Int32 → (Nat → Int32) → (Int32 × Int32 × (Nat → Int32))
noncomputable abbrev KRR : Type := Int32 → Int32 → Int32 → (Nat → Int64) → (Int32 × Int64 × (Nat → Int64))
noncomputable def CM (lo hi : Nat) (fc : Nat → Int32) (wv : Int32 → Int32) (wo : Int32 → Prop) (B : KCR → KCR) : Prop :=
  (∀ (a t : Nat) (f : Nat → Int32) (rc : KCR), lo ≤ a → a + 1 < hi → t < 64 → fc a = 1 → B rc (nI a) (nI t) 0 f = rc (nI (a + 2)) (nI (t + 1)) 0 (upd f t (fc (a + 1)))) ∧
  (∀ (a t : Nat) (f : Nat → Int32) (rc : KCR), lo ≤ a → a + 1 < hi → t < 64 → fc a = 2 → wo (fc (a + 1)) → B rc (nI a) (nI t) 0 f = rc (nI (a + 2)) (nI (t + 1)) 0 (upd f t (wv (fc (a + 1))))) ∧
  (∀ (o a t : Nat) (f : Nat → Int32) (rc : KCR), lo ≤ a → a + 1 < hi → 2 ≤ t → t ≤ 64 → 3 ≤ o ∧ o ≤ 10 → fc a = nI o → B rc (nI a) (nI t) 0 f = rc (nI (a + 2)) (nI (t - 1)) (E_w_combine (nI o) (f (t - 2)).toInt64 (f (t - 1)).toInt64 0).2 (upd f (t - 2) (E_w_combine (nI o) (f (t - 2)).toInt64 (f (t - 1)).toInt64 0).1)) ∧
  (∀ (a t : Nat) (f : Nat → Int32) (rc : KCR), lo ≤ a → a + 1 < hi → 1 ≤ t → t ≤ 64 → fc a = 11 → B rc (nI a) (nI t) 0 f = rc (nI (a + 2)) (nI t) 0 (upd f (t - 1) (1 - f (t - 1)))) ∧
  (∀ (e a t : Nat) (f : Nat → Int32) (rc : KCR), lo ≤ a → a + 1 < hi → 1 ≤ t → t ≤ 64 → a + 2 ≤ e → e ≤ 1000000 → fc a = 12 → fc (a + 1) = nI e → B rc (nI a) (nI t) 0 f = if f (t - 1) = 0 then rc (nI (a + 2)) (nI (t - 1)) 0 f else rc (nI e) (nI t) 0 f) ∧
  (∀ (e a t : Nat) (f : Nat → Int32) (rc : KCR), lo ≤ a → a + 1 < hi → 1 ≤ t → t ≤ 64 → a + 2 ≤ e → e ≤ 1000000 → fc a = 13 → fc (a + 1) = nI e → B rc (nI a) (nI t) 0 f = if f (t - 1) = 0 then rc (nI e) (nI t) 0 f else rc (nI (a + 2)) (nI (t - 1)) 0 f) ∧
  (∀ (a t : Int32) (f : Nat → Int32) (rc : KCR), B rc a t 1 f = (0, 1, f))
noncomputable def RM (lo hi : Nat) (op ar : Nat → Int32) (lf : Int32 → Int32 → Int64) (B : KRR → KRR) : Prop :=
  (∀ (o k t : Nat) (f : Nat → Int64) (rc : KRR), lo ≤ k → k < hi → t < 400 → o < 20 → op k = nI o → B rc (nI k) (nI t) 0 f = rc (nI (k + 1)) (nI (t + 1)) 0 (vp_updL f t (lf (op k) (ar k)))) ∧
  (∀ (o k t : Nat) (f : Nat → Int64) (rc : KRR), lo ≤ k → k < hi → 2 ≤ t → t ≤ 400 → 3 ≤ o ∧ o ≤ 10 → op k = nI (o + 17) → B rc (nI k) (nI t) 0 f = rc (nI (k + 1)) (nI (t - 1)) (if (E_v_reckon (nI (o + 17)) (f (t - 2)) (f (t - 1)) 0).2 = 0 then (if E_v_in (E_v_reckon (nI (o + 17)) (f (t - 2)) (f (t - 1)) 0).1 (-1000000000) 1000000000 = 1 then 0 else 1) else 1) (vp_updL f (t - 2) (E_v_reckon (nI (o + 17)) (f (t - 2)) (f (t - 1)) 0).1)) ∧
  (∀ (k t : Nat) (f : Nat → Int64) (rc : KRR), lo ≤ k → k < hi → 1 ≤ t → t ≤ 400 → op k = 28 → B rc (nI k) (nI t) 0 f = rc (nI (k + 1)) (nI t) 0 (vp_updL f (t - 1) (1 - f (t - 1)))) ∧
  (∀ (e k t : Nat) (f : Nat → Int64) (rc : KRR), lo ≤ k → k < hi → 1 ≤ t → t ≤ 400 → ar k = nI e → op k = 29 → B rc (nI k) (nI t) 0 f = if f (t - 1) = 0 then rc (nI e) (nI t) 0 f else rc (nI (k + 1)) (nI (t - 1)) 0 f) ∧
  (∀ (e k t : Nat) (f : Nat → Int64) (rc : KRR), lo ≤ k → k < hi → 1 ≤ t → t ≤ 400 → ar k = nI e → op k = 30 → B rc (nI k) (nI t) 0 f = if f (t - 1) = 1 then rc (nI e) (nI t) 0 f else rc (nI (k + 1)) (nI (t - 1)) 0 f) ∧
  (∀ (k t : Nat) (f : Nat → Int64) (rc : KRR), t ≤ 400 → k ≤ 1000000 → ∃ v, B rc (nI k) (nI t) 1 f = (1, v, f))
theorem CM.sub {lo hi lo' hi' : Nat} {fc fc' : Nat → Int32} {wv : Int32 → Int32} {wo : Int32 → Prop} {B : KCR → KCR} (h : CM lo hi fc wv wo B) (h1 : lo ≤ lo') (h2 : hi' ≤ hi) (he : ∀ j, lo' ≤ j → j < hi' → fc' j = fc j) : CM lo' hi' fc' wv wo B := by
  obtain ⟨a1, a2, a3, a4, a5, a6, a7⟩ := h
  refine ⟨fun a t f rc p q r s => ?_, fun a t f rc p q r s s2 => ?_, fun o a t f rc p q r r2 s s2 => ?_, fun a t f rc p q r r2 s => ?_, fun e a t f rc p q r r2 s s2 s3 s4 => ?_, fun e a t f rc p q r r2 s s2 s3 s4 => ?_, a7⟩
  · rw [he a p (by omega)] at s; rw [he (a + 1) (by omega) q]; exact a1 a t f rc (by omega) (by omega) r s
  · rw [he a p (by omega)] at s; rw [he (a + 1) (by omega) q] at s2 ⊢; exact a2 a t f rc (by omega) (by omega) r s s2
  · rw [he a p (by omega)] at s2; exact a3 o a t f rc (by omega) (by omega) r r2 s s2
  · rw [he a p (by omega)] at s; exact a4 a t f rc (by omega) (by omega) r r2 s
  · rw [he a p (by omega)] at s3; rw [he (a + 1) (by omega) q] at s4; exact a5 e a t f rc (by omega) (by omega) r r2 s s2 s3 s4
  · rw [he a p (by omega)] at s3; rw [he (a + 1) (by omega) q] at s4; exact a6 e a t f rc (by omega) (by omega) r r2 s s2 s3 s4
theorem RM.sub {lo hi lo' hi' : Nat} {op ar op' ar' : Nat → Int32} {lf : Int32 → Int32 → Int64} {B : KRR → KRR} (h : RM lo hi op ar lf B) (h1 : lo ≤ lo') (h2 : hi' ≤ hi) (he : ∀ j, lo' ≤ j → j < hi' → op' j = op j ∧ ar' j = ar j) : RM lo' hi' op' ar' lf B := by
  obtain ⟨a1, a2, a3, a4, a5, a6⟩ := h
  refine ⟨fun o k t f rc p q r s s2 => ?_, fun o k t f rc p q r r2 s s2 => ?_, fun k t f rc p q r r2 s => ?_, fun e k t f rc p q r r2 s s2 => ?_, fun e k t f rc p q r r2 s s2 => ?_, a6⟩
  · rw [(he k p q).1] at s2; rw [(he k p q).1, (he k p q).2]; exact a1 o k t f rc (by omega) (by omega) r s s2
  · rw [(he k p q).1] at s2; exact a2 o k t f rc (by omega) (by omega) r r2 s s2
  · rw [(he k p q).1] at s; exact a3 k t f rc (by omega) (by omega) r r2 s
  · rw [(he k p q).1] at s2; rw [(he k p q).2] at s; exact a4 e k t f rc (by omega) (by omega) r r2 s s2
  · rw [(he k p q).1] at s2; rw [(he k p q).2] at s; exact a5 e k t f rc (by omega) (by omega) r r2 s s2
noncomputable def KCv (B : KCR → KCR) (z : KCR) (a t b k : Nat) (f : Nat → Int32) (g : Nat → Int) : Prop := ∃ (n : Nat) (f' : Nat → Int32), n ≤ b - a ∧ (∀ F, Lp B z (F + n) (nI a) (nI t) 0 f = Lp B z F (nI b) (nI (t + k)) 0 f') ∧ (∀ j, j < t → f' j = f j) ∧ (∀ i, i < k → (f' (t + i)).toInt = g i)
noncomputable def KCb (B : KCR → KCR) (z : KCR) (a t b : Nat) (f : Nat → Int32) : Prop := ∃ n : Nat, n ≤ b - a ∧ ∀ F, ∃ f', Lp B z (F + n + 1) (nI a) (nI t) 0 f = (0, 1, f')
noncomputable def KRv (B : KRR → KRR) (z : KRR) (a t b k : Nat) (f : Nat → Int64) (g : Nat → Int) : Prop := ∃ (n : Nat) (f' : Nat → Int64), n ≤ b - a ∧ (∀ F, Lp B z (F + n) (nI a) (nI t) 0 f = Lp B z F (nI b) (nI (t + k)) 0 f') ∧ (∀ j, j < t → f' j = f j) ∧ (∀ i, i < k → (f' (t + i)).toInt = g i)
noncomputable def KRb (B : KRR → KRR) (z : KRR) (a t b : Nat) (f : Nat → Int64) : Prop := ∃ n : Nat, n ≤ b - a ∧ ∀ F, ∃ v f', Lp B z (F + n + 1) (nI a) (nI t) 0 f = (1, v, f')
/-- a word of the class and a leaf of the reference that tell the same (od 0: laws) -/
noncomputable def KL (od : Nat) (w op ar : Int32) : Prop := if od = 0 then ∃ j : Nat, j < 9 ∧ w = nI j ∧ op = nI (j + 1) else (∃ j : Nat, j < 5 ∧ w = nI j ∧ op = nI (j + 1)) ∨ (∃ h : Nat, h < 8 ∧ w = nI (5 + h) ∧ op = 6 ∧ ar = nI h) ∨ (∃ h : Nat, h < 8 ∧ w = nI (13 + h) ∧ op = 7 ∧ ar = nI h) ∨ (∃ h : Nat, h < 7 ∧ w = nI (21 + h) ∧ op = 8 ∧ ar = nI h)
theorem KL.op {od : Nat} {w op ar : Int32} (h : KL od w op ar) : ∃ o : Nat, 1 ≤ o ∧ o < 20 ∧ op = nI o := by
  unfold KL at h
  split at h
  · obtain ⟨j, h1, h2, h3⟩ := h; exact ⟨j + 1, by omega, by omega, h3⟩
  · rcases h with ⟨j, h1, h2, h3⟩ | ⟨j, h1, h2, h3, h4⟩ | ⟨j, h1, h2, h3, h4⟩ | ⟨j, h1, h2, h3, h4⟩
    · exact ⟨j + 1, by omega, by omega, h3⟩
    · exact ⟨6, by omega, by omega, h3⟩
    · exact ⟨7, by omega, by omega, h3⟩
    · exact ⟨8, by omega, by omega, h3⟩
noncomputable def KEnv (od : Nat) (wv : Int32 → Int32) (wo : Int32 → Prop) (lf : Int32 → Int32 → Int64) : Prop :=
  (∀ ar : Int32, (lf 0 ar).toInt = ar.toInt) ∧ ∀ w op ar, KL od w op ar → wo w ∧ (lf op ar).toInt = (wv w).toInt ∧ -1000000000 ≤ (wv w).toInt ∧ (wv w).toInt ≤ 1000000000
noncomputable def SE (od : Nat) (P : Int → Prop) (k m : Nat) (fc : Nat → Int32) (a b : Nat) (op ar : Nat → Int32) (x y : Nat) : Prop :=
  k ≤ m ∧ a ≤ b ∧ x ≤ y ∧ b ≤ 1000000 ∧ y ≤ 1000000 ∧ ∀ (wv : Int32 → Int32) (wo : Int32 → Prop) (lf : Int32 → Int32 → Int64), KEnv od wv wo lf →
    ((∀ B, CM a b fc wv wo B → ∀ z t f, t + m ≤ 64 → KCb B z a t b f) ∧ (∀ B, RM x y op ar lf B → ∀ z t f, t + m ≤ 64 → KRb B z x t y f)) ∨
    (∃ g : Nat → Int, (∀ i, i < k → -1000000000 ≤ g i ∧ g i ≤ 1000000000) ∧ P (g (k - 1)) ∧
      (∀ B, CM a b fc wv wo B → ∀ z t f, t + m ≤ 64 → KCv B z a t b k f g) ∧ (∀ B, RM x y op ar lf B → ∀ z t f, t + m ≤ 64 → KRv B z x t y k f g))
noncomputable def KT_ (v : Int) : Prop := v = 0 ∨ v = 1
noncomputable def KA_ (_ : Int) : Prop := True
theorem SE.any {od k m a b x y : Nat} {P : Int → Prop} {fc op ar : Nat → Int32} (h : SE od P k m fc a b op ar x y) : SE od KA_ k m fc a b op ar x y := by
  obtain ⟨h1, h2, h3, h4, h5, h6⟩ := h
  refine ⟨h1, h2, h3, h4, h5, fun wv wo lf he => ?_⟩
  rcases h6 wv wo lf he with q | ⟨g, q1, _, q3, q4⟩
  · exact Or.inl q
  · exact Or.inr ⟨g, q1, trivial, q3, q4⟩
theorem SE.ext {od k m a b x y : Nat} {P : Int → Prop} {fc op ar fc' op' ar' : Nat → Int32} (h : SE od P k m fc a b op ar x y) (hc : ∀ j, a ≤ j → j < b → fc' j = fc j) (hr : ∀ j, x ≤ j → j < y → op' j = op j ∧ ar' j = ar j) : SE od P k m fc' a b op' ar' x y := by
  obtain ⟨h1, h2, h3, h4, h5, h6⟩ := h
  refine ⟨h1, h2, h3, h4, h5, fun wv wo lf he => ?_⟩
  have e1 : ∀ B, CM a b fc' wv wo B → CM a b fc wv wo B := fun B hB => hB.sub (Nat.le_refl _) (Nat.le_refl _) (fun j p q => (hc j p q).symm)
  have e2 : ∀ B, RM x y op' ar' lf B → RM x y op ar lf B := fun B hB => hB.sub (Nat.le_refl _) (Nat.le_refl _) (fun j p q => ⟨(hr j p q).1.symm, (hr j p q).2.symm⟩)
  rcases h6 wv wo lf he with ⟨q1, q2⟩ | ⟨g, q1, q2, q3, q4⟩
  · exact Or.inl ⟨fun B hB => q1 B (e1 B hB), fun B hB => q2 B (e2 B hB)⟩
  · exact Or.inr ⟨g, q1, q2, fun B hB => q3 B (e1 B hB), fun B hB => q4 B (e2 B hB)⟩
theorem SE.more {od k m m' a b x y : Nat} {P : Int → Prop} {fc op ar : Nat → Int32} (h : SE od P k m fc a b op ar x y) (hm : m ≤ m') : SE od P k m' fc a b op ar x y := by
  obtain ⟨h1, h2, h3, h4, h5, h6⟩ := h
  refine ⟨by omega, h2, h3, h4, h5, fun wv wo lf he => ?_⟩
  rcases h6 wv wo lf he with ⟨q1, q2⟩ | ⟨g, q1, q2, q3, q4⟩
  · exact Or.inl ⟨fun B hB z t f ht => q1 B hB z t f (by omega), fun B hB z t f ht => q2 B hB z t f (by omega)⟩
  · exact Or.inr ⟨g, q1, q2, fun B hB z t f ht => q3 B hB z t f (by omega), fun B hB z t f ht => q4 B hB z t f (by omega)⟩
/-! pieces of one step -/
theorem SE.num {od a x : Nat} {fc op ar : Nat → Int32} (ha : a + 2 ≤ 1000000) (hx : x + 1 ≤ 1000000) (h1 : fc a = 1) (h2 : op x = 0) (h3 : fc (a + 1) = ar x) (hb : -1000000000 ≤ (ar x).toInt ∧ (ar x).toInt ≤ 1000000000) : SE od KA_ 1 1 fc a (a + 2) op ar x (x + 1) := by
  refine ⟨Nat.le_refl _, by omega, by omega, ha, hx, fun wv wo lf he => Or.inr ⟨fun _ => (ar x).toInt, fun _ _ => hb, trivial, fun B hB z t f ht => ?_, fun B hB z t f ht => ?_⟩⟩
  · refine ⟨1, upd f t (fc (a + 1)), by omega, fun F => ?_, fun j hj => upd_n (by omega), fun i hi => ?_⟩
    · rw [Lp_s]; exact hB.1 a t f _ (Nat.le_refl _) (by omega) (by omega) h1
    · rw [show t + i = t by omega, upd_s, h3]
  · refine ⟨1, vp_updL f t (lf (op x) (ar x)), by omega, fun F => ?_, fun j hj => if_neg (by omega), fun i hi => ?_⟩
    · rw [Lp_s]; exact hB.1 0 x t f _ (Nat.le_refl _) (by omega) (by omega) (by omega) h2
    · rw [show t + i = t by omega]
      show (if t = t then lf (op x) (ar x) else f t).toInt = _
      rw [if_pos rfl, h2]; exact he.1 _
theorem SE.word {od a x : Nat} {fc op ar : Nat → Int32} (ha : a + 2 ≤ 1000000) (hx : x + 1 ≤ 1000000) (h1 : fc a = 2) (h2 : KL od (fc (a + 1)) (op x) (ar x)) : SE od KA_ 1 1 fc a (a + 2) op ar x (x + 1) := by
  refine ⟨Nat.le_refl _, by omega, by omega, ha, hx, fun wv wo lf he => ?_⟩
  obtain ⟨e1, e2, e3, e4⟩ := he.2 _ _ _ h2
  obtain ⟨o, _, o2, o3⟩ := h2.op
  refine Or.inr ⟨fun _ => (wv (fc (a + 1))).toInt, fun _ _ => ⟨e3, e4⟩, trivial, fun B hB z t f ht => ?_, fun B hB z t f ht => ?_⟩
  · refine ⟨1, upd f t (wv (fc (a + 1))), by omega, fun F => ?_, fun j hj => upd_n (by omega), fun i hi => ?_⟩
    · rw [Lp_s]; exact hB.2.1 a t f _ (Nat.le_refl _) (by omega) (by omega) h1 e1
    · rw [show t + i = t by omega, upd_s]
  · refine ⟨1, vp_updL f t (lf (op x) (ar x)), by omega, fun F => ?_, fun j hj => if_neg (by omega), fun i hi => ?_⟩
    · rw [Lp_s]; exact hB.1 o x t f _ (Nat.le_refl _) (by omega) (by omega) o2 o3
    · rw [show t + i = t by omega]
      show (if t = t then lf (op x) (ar x) else f t).toInt = _
      rw [if_pos rfl]; exact e2
/-! one piece behind another -/
theorem KCv.app {B : KCR → KCR} {z : KCR} {a t b c k j : Nat} {f : Nat → Int32} {g q : Nat → Int} (hab : a ≤ b) (hbc : b ≤ c) (h : KCv B z a t b k f g) (h2 : ∀ f, KCv B z b (t + k) c j f q) : KCv B z a t c (k + j) f (fun i => if i < k then g i else q (i - k)) := by
  obtain ⟨n1, f1, a1, a2, a3, a4⟩ := h
  obtain ⟨n2, f2, b1, b2, b3, b4⟩ := h2 f1
  refine ⟨n1 + n2, f2, by omega, fun F => ?_, fun i hi => ?_, fun i hi => ?_⟩
  · rw [show F + (n1 + n2) = (F + n2) + n1 by omega, a2, b2, show t + k + j = t + (k + j) by omega]
  · rw [b3 i (by omega), a3 i hi]
  · show _ = if i < k then g i else q (i - k)
    by_cases e : i < k
    · rw [if_pos e, b3 (t + i) (by omega), a4 i e]
    · rw [if_neg e, ← b4 (i - k) (by omega), show t + k + (i - k) = t + i by omega]
theorem KRv.app {B : KRR → KRR} {z : KRR} {a t b c k j : Nat} {f : Nat → Int64} {g q : Nat → Int} (hab : a ≤ b) (hbc : b ≤ c) (h : KRv B z a t b k f g) (h2 : ∀ f, KRv B z b (t + k) c j f q) : KRv B z a t c (k + j) f (fun i => if i < k then g i else q (i - k)) := by
  obtain ⟨n1, f1, a1, a2, a3, a4⟩ := h
  obtain ⟨n2, f2, b1, b2, b3, b4⟩ := h2 f1
  refine ⟨n1 + n2, f2, by omega, fun F => ?_, fun i hi => ?_, fun i hi => ?_⟩
  · rw [show F + (n1 + n2) = (F + n2) + n1 by omega, a2, b2, show t + k + j = t + (k + j) by omega]
  · rw [b3 i (by omega), a3 i hi]
  · show _ = if i < k then g i else q (i - k)
    by_cases e : i < k
    · rw [if_pos e, b3 (t + i) (by omega), a4 i e]
    · rw [if_neg e, ← b4 (i - k) (by omega), show t + k + (i - k) = t + i by omega]
theorem KCb.app {B : KCR → KCR} {z : KCR} {a t b c k : Nat} {f : Nat → Int32} {g : Nat → Int} (hab : a ≤ b) (hbc : b ≤ c) (h : KCv B z a t b k f g) (h2 : ∀ f, KCb B z b (t + k) c f) : KCb B z a t c f := by
  obtain ⟨n1, f1, a1, a2, a3, a4⟩ := h
  obtain ⟨n2, b1, b2⟩ := h2 f1
  refine ⟨n1 + n2, by omega, fun F => ?_⟩
  obtain ⟨f2, e⟩ := b2 F
  exact ⟨f2, by rw [show F + (n1 + n2) + 1 = (F + n2 + 1) + n1 by omega, a2, e]⟩
theorem KRb.app {B : KRR → KRR} {z : KRR} {a t b c k : Nat} {f : Nat → Int64} {g : Nat → Int} (hab : a ≤ b) (hbc : b ≤ c) (h : KRv B z a t b k f g) (h2 : ∀ f, KRb B z b (t + k) c f) : KRb B z a t c f := by
  obtain ⟨n1, f1, a1, a2, a3, a4⟩ := h
  obtain ⟨n2, b1, b2⟩ := h2 f1
  refine ⟨n1 + n2, by omega, fun F => ?_⟩
  obtain ⟨v, f2, e⟩ := b2 F
  exact ⟨v, f2, by rw [show F + (n1 + n2) + 1 = (F + n2 + 1) + n1 by omega, a2, e]⟩
theorem KCb.long {B : KCR → KCR} {z : KCR} {a t b c : Nat} {f : Nat → Int32} (hbc : b ≤ c) (h : KCb B z a t b f) : KCb B z a t c f := by
  obtain ⟨n, h1, h2⟩ := h
  exact ⟨n, by omega, h2⟩
theorem KRb.long {B : KRR → KRR} {z : KRR} {a t b c : Nat} {f : Nat → Int64} (hbc : b ≤ c) (h : KRb B z a t b f) : KRb B z a t c f := by
  obtain ⟨n, h1, h2⟩ := h
  exact ⟨n, by omega, h2⟩
theorem SE.app {od k j m n a b c x y w : Nat} {P Q : Int → Prop} {fc op ar : Nat → Int32} (h : SE od P k m fc a b op ar x y) (h2 : SE od Q j n fc b c op ar y w) (hj : 1 ≤ j) : SE od Q (k + j) (m + n) fc a c op ar x w := by
  obtain ⟨a1, a2, a3, a4, a5, a6⟩ := h
  obtain ⟨b1, b2, b3, b4, b5, b6⟩ := h2
  refine ⟨by omega, by omega, by omega, b4, b5, fun wv wo lf he => ?_⟩
  have c1 : ∀ B, CM a c fc wv wo B → CM a b fc wv wo B := fun B hB => hB.sub (Nat.le_refl _) b2 (fun _ _ _ => rfl)
  have c2 : ∀ B, CM a c fc wv wo B → CM b c fc wv wo B := fun B hB => hB.sub a2 (Nat.le_refl _) (fun _ _ _ => rfl)
  have r1 : ∀ B, RM x w op ar lf B → RM x y op ar lf B := fun B hB => hB.sub (Nat.le_refl _) b3 (fun _ _ _ => ⟨rfl, rfl⟩)
  have r2 : ∀ B, RM x w op ar lf B → RM y w op ar lf B := fun B hB => hB.sub a3 (Nat.le_refl _) (fun _ _ _ => ⟨rfl, rfl⟩)
  rcases a6 wv wo lf he with ⟨p1, p2⟩ | ⟨g, p1, p2, p3, p4⟩
  · exact Or.inl ⟨fun B hB z t f ht => (p1 B (c1 B hB) z t f (by omega)).long b2, fun B hB z t f ht => (p2 B (r1 B hB) z t f (by omega)).long b3⟩
  rcases b6 wv wo lf he with ⟨q1, q2⟩ | ⟨v, q1, q2, q3, q4⟩
  · exact Or.inl ⟨fun B hB z t f ht => KCb.app a2 b2 (p3 B (c1 B hB) z t f (by omega)) (fun f => q1 B (c2 B hB) z _ f (by omega)), fun B hB z t f ht => KRb.app a3 b3 (p4 B (r1 B hB) z t f (by omega)) (fun f => q2 B (r2 B hB) z _ f (by omega))⟩
  · refine Or.inr ⟨fun i => if i < k then g i else v (i - k), fun i hi => ?_, ?_, fun B hB z t f ht => KCv.app a2 b2 (p3 B (c1 B hB) z t f (by omega)) (fun f => q3 B (c2 B hB) z _ f (by omega)), fun B hB z t f ht => KRv.app a3 b3 (p4 B (r1 B hB) z t f (by omega)) (fun f => q4 B (r2 B hB) z _ f (by omega))⟩
    · show -1000000000 ≤ (if i < k then g i else v (i - k)) ∧ (if i < k then g i else v (i - k)) ≤ 1000000000
      by_cases e : i < k
      · rw [if_pos e]; exact p1 i e
      · rw [if_neg e]; exact q1 _ (by omega)
    · show Q (if k + j - 1 < k then g (k + j - 1) else v (k + j - 1 - k))
      rw [if_neg (by omega), show k + j - 1 - k = j - 1 by omega]
      exact q2
/-! an operator behind two values -/
theorem kz_in {v : Int64} : E_v_in v (-1000000000) 1000000000 = 1 ↔ -1000000000 ≤ v.toInt ∧ v.toInt ≤ 1000000000 := by
  have zA : (1000000000 : Int64).toInt = 1000000000 := rfl
  have zB : (-1000000000 : Int64).toInt = -1000000000 := rfl
  unfold E_v_in
  by_cases c : lg_cmp v (-1000000000) < 0
  · have c2 := jl_iff.mp ((lg_cmp_lt _ _).mp c)
    rw [if_pos c]
    exact ⟨fun q => absurd q (by decide), fun q => by omega⟩
  · have c2 : ¬ v.toInt < (-1000000000 : Int64).toInt := fun q => c ((lg_cmp_lt _ _).mpr (jl_iff.mpr q))
    rw [if_neg c]
    by_cases d : 0 < lg_cmp v 1000000000
    · have d2 := jl_iff.mp ((lg_cmp_gt _ _).mp d)
      rw [if_pos d]
      exact ⟨fun q => absurd q (by decide), fun q => by omega⟩
    · have d2 : ¬ (1000000000 : Int64).toInt < v.toInt := fun q => d ((lg_cmp_gt _ _).mpr (jl_iff.mpr q))
      rw [if_neg d]
      exact ⟨fun _ => by omega, fun _ => rfl⟩
theorem kz_chk_p {v : Int} (h : -1000000000 ≤ v ∧ v ≤ 1000000000) : kz_chk v = some v := if_pos h
theorem kz_chk_n {v : Int} (h : ¬ (-1000000000 ≤ v ∧ v ≤ 1000000000)) : kz_chk v = none := if_neg h
theorem upl_n {f : Nat → Int64} {k j : Nat} {x : Int64} (h : ¬ j = k) : vp_updL f k x j = f j := if_neg h
theorem upl_e {f : Nat → Int64} {k j : Nat} {x : Int64} (h : j = k) : vp_updL f k x j = x := if_pos h
theorem upl_s {f : Nat → Int64} {k : Nat} {x : Int64} : vp_updL f k x k = x := if_pos rfl
/-- how the class's step by an operator ends -/
theorem KC_bin {B : KCR → KCR} {a b : Nat} {fc : Nat → Int32} {wv : Int32 → Int32} {wo : Int32 → Prop} (hB : CM a (b + 2) fc wv wo B) (hab : a ≤ b) {o : Nat} (ho : 3 ≤ o ∧ o ≤ 10) (h1 : fc b = nI o) {t : Nat} (ht : t + 2 ≤ 64) {f : Nat → Int32} {X Y : Int} (hx : (f t).toInt = X) (hy : (f (t + 1)).toInt = Y) (bx : -1000000000 ≤ X ∧ X ≤ 1000000000) (bq : -1000000000 ≤ Y ∧ Y ≤ 1000000000) (z : KCR) :
    (∃ w v, kz_bin o X Y = some w ∧ v.toInt = w ∧ ∀ F, Lp B z (F + 1) (nI b) (nI (t + 2)) 0 f = Lp B z F (nI (b + 2)) (nI (t + 1)) 0 (upd f t v)) ∨ (kz_bin o X Y = none ∧ ∀ F, ∃ f', Lp B z (F + 2) (nI b) (nI (t + 2)) 0 f = (0, 1, f')) := by
  have st := fun F => hB.2.2.1 o b (t + 2) f (Lp B z F) hab (by omega) (by omega) (by omega) ho h1
  simp only [show t + 2 - 2 = t by omega, show t + 2 - 1 = t + 1 by omega] at st
  rcases kz_comb ho (i_wide hx) (i_wide hy) bx bq with ⟨w, q1, q2, q3⟩ | ⟨q1, q2⟩
  · refine Or.inl ⟨w, _, q1, q3, fun F => ?_⟩
    rw [Lp_s, st F, q2]
  · refine Or.inr ⟨q1, fun F => ?_⟩
    rw [show F + 2 = (F + 1) + 1 by omega, Lp_s, st (F + 1), q2, Lp_s]
    exact ⟨_, hB.2.2.2.2.2.2 _ _ _ _⟩
theorem KR_bin {B : KRR → KRR} {a b : Nat} {op ar : Nat → Int32} {lf : Int32 → Int32 → Int64} (hB : RM a (b + 1) op ar lf B) (hab : a ≤ b) (hb : b + 1 ≤ 1000000) {o : Nat} (ho : 3 ≤ o ∧ o ≤ 10) (h1 : op b = nI (o + 17)) {t : Nat} (ht : t + 2 ≤ 64) {f : Nat → Int64} {X Y : Int} (hx : (f t).toInt = X) (hy : (f (t + 1)).toInt = Y) (bx : -1000000000 ≤ X ∧ X ≤ 1000000000) (bq : -1000000000 ≤ Y ∧ Y ≤ 1000000000) (z : KRR) :
    (∃ w v, kz_bin o X Y = some w ∧ v.toInt = w ∧ ∀ F, Lp B z (F + 1) (nI b) (nI (t + 2)) 0 f = Lp B z F (nI (b + 1)) (nI (t + 1)) 0 (vp_updL f t v)) ∨ (kz_bin o X Y = none ∧ ∀ F, ∃ v f', Lp B z (F + 2) (nI b) (nI (t + 2)) 0 f = (1, v, f')) := by
  have st := fun F => hB.2.1 o b (t + 2) f (Lp B z F) hab (by omega) (by omega) (by omega) ho h1
  simp only [show t + 2 - 2 = t by omega, show t + 2 - 1 = t + 1 by omega] at st
  have br : ∀ (F : Nat) (f2 : Nat → Int64), ∃ v f', Lp B z (F + 1) (nI (b + 1)) (nI (t + 1)) 1 f2 = (1, v, f') := fun F f2 => by
    rw [Lp_s]
    obtain ⟨v, e⟩ := hB.2.2.2.2.2 (b + 1) (t + 1) f2 (Lp B z F) (by omega) (by omega)
    exact ⟨v, f2, e⟩
  rcases kz_reck ho hx hy bx bq with ⟨q1, q2⟩ | ⟨q1, q2⟩
  · by_cases c : -1000000000 ≤ (E_v_reckon (nI (o + 17)) (f t) (f (t + 1)) 0).1.toInt ∧ (E_v_reckon (nI (o + 17)) (f t) (f (t + 1)) 0).1.toInt ≤ 1000000000
    · rw [kz_chk_p c] at q2
      refine Or.inl ⟨_, _, q2.symm, rfl, fun F => ?_⟩
      rw [Lp_s, st F, if_pos q1, if_pos (kz_in.mpr c)]
    · rw [kz_chk_n c] at q2
      refine Or.inr ⟨q2.symm, fun F => ?_⟩
      rw [show F + 2 = (F + 1) + 1 by omega, Lp_s, st (F + 1), if_pos q1, if_neg (fun q => c (kz_in.mp q))]
      exact br F _
  · refine Or.inr ⟨q2, fun F => ?_⟩
    rw [show F + 2 = (F + 1) + 1 by omega, Lp_s, st (F + 1), if_neg (by rw [q1]; decide)]
    exact br F _
theorem SE.bin {od k m a b x y o : Nat} {P Q : Int → Prop} {fc op ar : Nat → Int32} (h : SE od P (k + 2) m fc a b op ar x y) (ho : 3 ≤ o ∧ o ≤ 10) (h1 : fc b = nI o) (h2 : op y = nI (o + 17)) (hb : b + 2 ≤ 1000000) (hy : y + 1 ≤ 1000000) (hQ : ∀ X Y w, kz_bin o X Y = some w → Q w) : SE od Q (k + 1) m fc a (b + 2) op ar x (y + 1) := by
  obtain ⟨a1, a2, a3, a4, a5, a6⟩ := h
  refine ⟨by omega, by omega, by omega, hb, hy, fun wv wo lf he => ?_⟩
  have c1 : ∀ B, CM a (b + 2) fc wv wo B → CM a b fc wv wo B := fun B hB => hB.sub (Nat.le_refl _) (by omega) (fun _ _ _ => rfl)
  have r1 : ∀ B, RM x (y + 1) op ar lf B → RM x y op ar lf B := fun B hB => hB.sub (Nat.le_refl _) (by omega) (fun _ _ _ => ⟨rfl, rfl⟩)
  rcases a6 wv wo lf he with ⟨p1, p2⟩ | ⟨g, p1, p2, p3, p4⟩
  · exact Or.inl ⟨fun B hB z t f ht => (p1 B (c1 B hB) z t f ht).long (by omega), fun B hB z t f ht => (p2 B (r1 B hB) z t f ht).long (by omega)⟩
  have bx := p1 k (by omega)
  have bq := p1 (k + 1) (by omega)
  cases e : kz_bin o (g k) (g (k + 1)) with
  | none =>
    refine Or.inl ⟨fun B hB z t f ht => ?_, fun B hB z t f ht => ?_⟩
    · obtain ⟨n1, f1, s1, s2, s3, s4⟩ := p3 B (c1 B hB) z t f ht
      rcases KC_bin hB a2 ho h1 (t := t + k) (by omega) (f := f1) (s4 k (by omega)) (s4 (k + 1) (by omega)) bx bq z with ⟨w, v, q1, _⟩ | ⟨_, q2⟩
      · rw [e] at q1; exact absurd q1 (by simp)
      · refine ⟨n1 + 1, by omega, fun F => ?_⟩
        obtain ⟨f2, q3⟩ := q2 F
        exact ⟨f2, by rw [show F + (n1 + 1) + 1 = (F + 2) + n1 by omega, s2, ← q3, show t + (k + 2) = t + k + 2 by omega]⟩
    · obtain ⟨n1, f1, s1, s2, s3, s4⟩ := p4 B (r1 B hB) z t f ht
      rcases KR_bin hB a3 hy ho h2 (t := t + k) (by omega) (f := f1) (s4 k (by omega)) (s4 (k + 1) (by omega)) bx bq z with ⟨w, v, q1, _⟩ | ⟨_, q2⟩
      · rw [e] at q1; exact absurd q1 (by simp)
      · refine ⟨n1 + 1, by omega, fun F => ?_⟩
        obtain ⟨v, f2, q3⟩ := q2 F
        exact ⟨v, f2, by rw [show F + (n1 + 1) + 1 = (F + 2) + n1 by omega, s2, ← q3, show t + (k + 2) = t + k + 2 by omega]⟩
  | some w =>
    refine Or.inr ⟨fun i => if i < k then g i else w, fun i hi => ?_, ?_, fun B hB z t f ht => ?_, fun B hB z t f ht => ?_⟩
    · show -1000000000 ≤ (if i < k then g i else w) ∧ (if i < k then g i else w) ≤ 1000000000
      by_cases c : i < k
      · rw [if_pos c]; exact p1 i (by omega)
      · rw [if_neg c]; exact kz_bin_b e
    · show Q (if k + 1 - 1 < k then g (k + 1 - 1) else w)
      rw [if_neg (by omega)]; exact hQ _ _ _ e
    · obtain ⟨n1, f1, s1, s2, s3, s4⟩ := p3 B (c1 B hB) z t f ht
      rcases KC_bin hB a2 ho h1 (t := t + k) (by omega) (f := f1) (s4 k (by omega)) (s4 (k + 1) (by omega)) bx bq z with ⟨w2, v, q1, q2, q3⟩ | ⟨q1, _⟩
      · rw [e] at q1
        have ew := Option.some.inj q1
        refine ⟨n1 + 1, upd f1 (t + k) v, by omega, fun F => ?_, fun j hj => ?_, fun i hi => ?_⟩
        · rw [show F + (n1 + 1) = (F + 1) + n1 by omega, s2, show t + (k + 2) = t + k + 2 by omega, q3, show t + (k + 1) = t + k + 1 by omega]
        · rw [upd_n (by omega), s3 j hj]
        · show _ = if i < k then g i else w
          by_cases c : i < k
          · rw [if_pos c, upd_n (by omega), s4 i (by omega)]
          · rw [if_neg c, show t + i = t + k by omega, upd_s, q2, ew]
      · rw [e] at q1; exact absurd q1 (by simp)
    · obtain ⟨n1, f1, s1, s2, s3, s4⟩ := p4 B (r1 B hB) z t f ht
      rcases KR_bin hB a3 hy ho h2 (t := t + k) (by omega) (f := f1) (s4 k (by omega)) (s4 (k + 1) (by omega)) bx bq z with ⟨w2, v, q1, q2, q3⟩ | ⟨q1, _⟩
      · rw [e] at q1
        have ew := Option.some.inj q1
        refine ⟨n1 + 1, vp_updL f1 (t + k) v, by omega, fun F => ?_, fun j hj => ?_, fun i hi => ?_⟩
        · rw [show F + (n1 + 1) = (F + 1) + n1 by omega, s2, show t + (k + 2) = t + k + 2 by omega, q3, show t + (k + 1) = t + k + 1 by omega]
        · rw [upl_n (by omega), s3 j hj]
        · show _ = if i < k then g i else w
          by_cases c : i < k
          · rw [if_pos c, upl_n (by omega), s4 i (by omega)]
          · rw [if_neg c, show t + i = t + k by omega, upl_s, q2, ew]
      · rw [e] at q1; exact absurd q1 (by simp)
/-! NOT behind a test; two of them on the reference's side alone -/
theorem KR_not {B : KRR → KRR} {a hi b : Nat} {op ar : Nat → Int32} {lf : Int32 → Int32 → Int64} (hB : RM a hi op ar lf B) (hab : a ≤ b) (hbh : b < hi) (h1 : op b = 28) {t : Nat} (ht : t + 1 ≤ 64) {f : Nat → Int64} {X : Int} (hx : (f t).toInt = X) (bx : X = 0 ∨ X = 1) (z : KRR) : ∃ v : Int64, v.toInt = 1 - X ∧ ∀ F, Lp B z (F + 1) (nI b) (nI (t + 1)) 0 f = Lp B z F (nI (b + 1)) (nI (t + 1)) 0 (vp_updL f t v) := by
  refine ⟨1 - f t, l_sub (show (1 : Int64).toInt = 1 from rfl) hx (by omega), fun F => ?_⟩
  have st := hB.2.2.1 b (t + 1) f (Lp B z F) hab hbh (by omega) (by omega) h1
  simp only [show t + 1 - 1 = t by omega] at st
  rw [Lp_s, st]
theorem KC_not {B : KCR → KCR} {a b : Nat} {fc : Nat → Int32} {wv : Int32 → Int32} {wo : Int32 → Prop} (hB : CM a (b + 2) fc wv wo B) (hab : a ≤ b) (h1 : fc b = 11) {t : Nat} (ht : t + 1 ≤ 64) {f : Nat → Int32} {X : Int} (hx : (f t).toInt = X) (bx : X = 0 ∨ X = 1) (z : KCR) : ∃ v : Int32, v.toInt = 1 - X ∧ ∀ F, Lp B z (F + 1) (nI b) (nI (t + 1)) 0 f = Lp B z F (nI (b + 2)) (nI (t + 1)) 0 (upd f t v) := by
  refine ⟨1 - f t, i_sub (show (1 : Int32).toInt = 1 from rfl) hx (by omega), fun F => ?_⟩
  have st := hB.2.2.2.1 b (t + 1) f (Lp B z F) hab (by omega) (by omega) (by omega) h1
  simp only [show t + 1 - 1 = t by omega] at st
  rw [Lp_s, st]
theorem SE.not1 {od m a b x y : Nat} {fc op ar : Nat → Int32} (h : SE od KT_ 1 m fc a b op ar x y) (h1 : fc b = 11) (h2 : op y = 28) (hb : b + 2 ≤ 1000000) (hy : y + 1 ≤ 1000000) : SE od KT_ 1 m fc a (b + 2) op ar x (y + 1) := by
  obtain ⟨a1, a2, a3, a4, a5, a6⟩ := h
  refine ⟨a1, by omega, by omega, hb, hy, fun wv wo lf he => ?_⟩
  have c1 : ∀ B, CM a (b + 2) fc wv wo B → CM a b fc wv wo B := fun B hB => hB.sub (Nat.le_refl _) (by omega) (fun _ _ _ => rfl)
  have r1 : ∀ B, RM x (y + 1) op ar lf B → RM x y op ar lf B := fun B hB => hB.sub (Nat.le_refl _) (by omega) (fun _ _ _ => ⟨rfl, rfl⟩)
  rcases a6 wv wo lf he with ⟨p1, p2⟩ | ⟨g, p1, p2, p3, p4⟩
  · exact Or.inl ⟨fun B hB z t f ht => (p1 B (c1 B hB) z t f ht).long (by omega), fun B hB z t f ht => (p2 B (r1 B hB) z t f ht).long (by omega)⟩
  have p2 : g 0 = 0 ∨ g 0 = 1 := p2
  refine Or.inr ⟨fun _ => 1 - g 0, fun i hi => (show -1000000000 ≤ 1 - g 0 ∧ 1 - g 0 ≤ 1000000000 by omega), (show 1 - g 0 = 0 ∨ 1 - g 0 = 1 by omega), fun B hB z t f ht => ?_, fun B hB z t f ht => ?_⟩
  · obtain ⟨n1, f1, s1, s2, s3, s4⟩ := p3 B (c1 B hB) z t f ht
    obtain ⟨v, q2, q3⟩ := KC_not hB a2 h1 (t := t) (by omega) (f := f1) (s4 0 (by omega)) p2 z
    refine ⟨n1 + 1, upd f1 t v, by omega, fun F => ?_, fun j hj => ?_, fun i hi => ?_⟩
    · rw [show F + (n1 + 1) = (F + 1) + n1 by omega, s2, q3]
    · rw [upd_n (by omega), s3 j hj]
    · rw [show t + i = t by omega, upd_s, q2]
  · obtain ⟨n1, f1, s1, s2, s3, s4⟩ := p4 B (r1 B hB) z t f ht
    obtain ⟨v, q2, q3⟩ := KR_not hB a3 (by omega) h2 (t := t) (by omega) (f := f1) (s4 0 (by omega)) p2 z
    refine ⟨n1 + 1, vp_updL f1 t v, by omega, fun F => ?_, fun j hj => ?_, fun i hi => ?_⟩
    · rw [show F + (n1 + 1) = (F + 1) + n1 by omega, s2, q3]
    · rw [upl_n (by omega), s3 j hj]
    · rw [show t + i = t by omega, upl_s, q2]
theorem SE.not2 {od m a b x y : Nat} {fc op ar : Nat → Int32} (h : SE od KT_ 1 m fc a b op ar x y) (h1 : op y = 28) (h2 : op (y + 1) = 28) (hy : y + 2 ≤ 1000000) : SE od KT_ 1 m fc a b op ar x (y + 2) := by
  obtain ⟨a1, a2, a3, a4, a5, a6⟩ := h
  refine ⟨a1, a2, by omega, a4, hy, fun wv wo lf he => ?_⟩
  have r1 : ∀ B, RM x (y + 2) op ar lf B → RM x y op ar lf B := fun B hB => hB.sub (Nat.le_refl _) (by omega) (fun _ _ _ => ⟨rfl, rfl⟩)
  rcases a6 wv wo lf he with ⟨p1, p2⟩ | ⟨g, p1, p2, p3, p4⟩
  · exact Or.inl ⟨p1, fun B hB z t f ht => (p2 B (r1 B hB) z t f ht).long (by omega)⟩
  have q : g 0 = 0 ∨ g 0 = 1 := p2
  refine Or.inr ⟨g, p1, p2, p3, fun B hB z t f ht => ?_⟩
  obtain ⟨n1, f1, s1, s2, s3, s4⟩ := p4 B (r1 B hB) z t f ht
  obtain ⟨v, q2, q3⟩ := KR_not hB a3 (by omega) h1 (t := t) (by omega) (f := f1) (s4 0 (by omega)) q z
  obtain ⟨v', q4, q5⟩ := KR_not hB (b := y + 1) (by omega) (by omega) h2 (t := t) (by omega) (f := vp_updL f1 t v) (X := 1 - g 0) (by rw [upl_s]; exact q2) (by omega) z
  refine ⟨n1 + 2, vp_updL (vp_updL f1 t v) t v', by omega, fun F => ?_, fun j hj => ?_, fun i hi => ?_⟩
  · rw [show F + (n1 + 2) = (F + 1 + 1) + n1 by omega, s2, q3, q5]
  · rw [upl_n (by omega), upl_n (by omega), s3 j hj]
  · rw [show t + i = t by omega, upl_s, q4, show i = 0 by omega]; omega
/-! "and", "or": what stands behind is asked only if it can still matter -/
theorem SE.skip {od m n a b c x y w : Nat} {fc op ar : Nat → Int32} (v : Bool) (h : SE od KT_ 1 m fc a b op ar x y) (h2 : SE od KT_ 1 n fc (b + 2) c op ar (y + 1) w) (h1 : fc b = if v then 12 else 13) (h3 : fc (b + 1) = nI c) (h4 : op y = if v then 30 else 29) (h5 : ar y = nI w) : SE od KT_ 1 (m + n) fc a c op ar x w := by
  obtain ⟨a1, a2, a3, a4, a5, a6⟩ := h
  obtain ⟨b1, b2, b3, b4, b5, b6⟩ := h2
  refine ⟨by omega, by omega, by omega, b4, b5, fun wv wo lf he => ?_⟩
  have c1 : ∀ B, CM a c fc wv wo B → CM a b fc wv wo B := fun B hB => hB.sub (Nat.le_refl _) (by omega) (fun _ _ _ => rfl)
  have c2 : ∀ B, CM a c fc wv wo B → CM (b + 2) c fc wv wo B := fun B hB => hB.sub (by omega) (Nat.le_refl _) (fun _ _ _ => rfl)
  have r1 : ∀ B, RM x w op ar lf B → RM x y op ar lf B := fun B hB => hB.sub (Nat.le_refl _) (by omega) (fun _ _ _ => ⟨rfl, rfl⟩)
  have r2 : ∀ B, RM x w op ar lf B → RM (y + 1) w op ar lf B := fun B hB => hB.sub (by omega) (Nat.le_refl _) (fun _ _ _ => ⟨rfl, rfl⟩)
  have z0 : (0 : Int32).toInt = 0 := rfl
  have y0 : (0 : Int64).toInt = 0 := rfl
  have y1 : (1 : Int64).toInt = 1 := rfl
  rcases a6 wv wo lf he with ⟨p1, p2⟩ | ⟨g, p1, p2, p3, p4⟩
  · exact Or.inl ⟨fun B hB z t f ht => (p1 B (c1 B hB) z t f (by omega)).long (by omega), fun B hB z t f ht => (p2 B (r1 B hB) z t f (by omega)).long (by omega)⟩
  have pq : g 0 = 0 ∨ g 0 = 1 := p2
  -- one step behind the left side: it stays, or it is taken away
  have sc : ∀ B, CM a c fc wv wo B → ∀ (z : KCR) (t : Nat) (f : Nat → Int32), t + 1 ≤ 64 → (f t).toInt = g 0 → ∀ F, Lp B z (F + 1) (nI b) (nI (t + 1)) 0 f = if g 0 = (if v then 1 else 0) then Lp B z F (nI c) (nI (t + 1)) 0 f else Lp B z F (nI (b + 2)) (nI t) 0 f := by
    intro B hB z t f ht hf F
    have st1 := hB.2.2.2.2.1 c b (t + 1) f (Lp B z F) a2 (by omega) (by omega) (by omega) (by omega) b4
    have st2 := hB.2.2.2.2.2.1 c b (t + 1) f (Lp B z F) a2 (by omega) (by omega) (by omega) (by omega) b4
    simp only [show t + 1 - 1 = t by omega] at st1 st2
    rw [Lp_s]
    cases v with
    | true =>
      rw [st1 h1 h3]
      by_cases e : f t = 0
      · rw [if_pos e, if_neg (by rw [e] at hf; simp only [if_true]; omega)]
      · have e2 : ¬ (f t).toInt = 0 := fun q => e (Int32.toInt_inj.mp (q.trans z0.symm))
        rw [if_neg e, if_pos (by simp only [if_true]; omega)]
    | false =>
      rw [st2 h1 h3]
      by_cases e : f t = 0
      · rw [if_pos e, if_pos (by rw [e] at hf; show g 0 = 0; omega)]
      · have e2 : ¬ (f t).toInt = 0 := fun q => e (Int32.toInt_inj.mp (q.trans z0.symm))
        rw [if_neg e, if_neg (fun q => by have q9 : g 0 = 0 := q; omega)]
  have sr : ∀ B, RM x w op ar lf B → ∀ (z : KRR) (t : Nat) (f : Nat → Int64), t + 1 ≤ 64 → (f t).toInt = g 0 → ∀ F, Lp B z (F + 1) (nI y) (nI (t + 1)) 0 f = if g 0 = (if v then 1 else 0) then Lp B z F (nI w) (nI (t + 1)) 0 f else Lp B z F (nI (y + 1)) (nI t) 0 f := by
    intro B hB z t f ht hf F
    have st1 := hB.2.2.2.2.1 w y (t + 1) f (Lp B z F) a3 (by omega) (by omega) (by omega) h5
    have st2 := hB.2.2.2.1 w y (t + 1) f (Lp B z F) a3 (by omega) (by omega) (by omega) h5
    simp only [show t + 1 - 1 = t by omega] at st1 st2
    rw [Lp_s]
    cases v with
    | true =>
      rw [st1 h4]
      by_cases e : f t = 1
      · rw [if_pos e, if_pos (by rw [e] at hf; show g 0 = 1; omega)]
      · have e2 : ¬ (f t).toInt = 1 := fun q => e (Int64.toInt_inj.mp (q.trans y1.symm))
        rw [if_neg e, if_neg (fun q => by have q9 : g 0 = 1 := q; omega)]
    | false =>
      rw [st2 h4]
      by_cases e : f t = 0
      · rw [if_pos e, if_pos (by rw [e] at hf; show g 0 = 0; omega)]
      · have e2 : ¬ (f t).toInt = 0 := fun q => e (Int64.toInt_inj.mp (q.trans y0.symm))
        rw [if_neg e, if_neg (fun q => by have q9 : g 0 = 0 := q; omega)]
  by_cases d : g 0 = (if v then 1 else 0)
  · refine Or.inr ⟨g, p1, p2, fun B hB z t f ht => ?_, fun B hB z t f ht => ?_⟩
    · obtain ⟨n1, f1, s1, s2, s3, s4⟩ := p3 B (c1 B hB) z t f (by omega)
      refine ⟨n1 + 1, f1, by omega, fun F => ?_, s3, s4⟩
      rw [show F + (n1 + 1) = (F + 1) + n1 by omega, s2, sc B hB z t f1 (by omega) (s4 0 (by omega)) F, if_pos d]
    · obtain ⟨n1, f1, s1, s2, s3, s4⟩ := p4 B (r1 B hB) z t f (by omega)
      refine ⟨n1 + 1, f1, by omega, fun F => ?_, s3, s4⟩
      rw [show F + (n1 + 1) = (F + 1) + n1 by omega, s2, sr B hB z t f1 (by omega) (s4 0 (by omega)) F, if_pos d]
  rcases b6 wv wo lf he with ⟨q1, q2⟩ | ⟨u, q1, q2, q3, q4⟩
  · refine Or.inl ⟨fun B hB z t f ht => ?_, fun B hB z t f ht => ?_⟩
    · obtain ⟨n1, f1, s1, s2, s3, s4⟩ := p3 B (c1 B hB) z t f (by omega)
      obtain ⟨n2, s5, s6⟩ := q1 B (c2 B hB) z t f1 (by omega)
      refine ⟨n1 + 1 + n2, by omega, fun F => ?_⟩
      obtain ⟨f2, e⟩ := s6 F
      exact ⟨f2, by rw [show F + (n1 + 1 + n2) + 1 = (F + n2 + 1 + 1) + n1 by omega, s2, sc B hB z t f1 (by omega) (s4 0 (by omega)) _, if_neg d, e]⟩
    · obtain ⟨n1, f1, s1, s2, s3, s4⟩ := p4 B (r1 B hB) z t f (by omega)
      obtain ⟨n2, s5, s6⟩ := q2 B (r2 B hB) z t f1 (by omega)
      refine ⟨n1 + 1 + n2, by omega, fun F => ?_⟩
      obtain ⟨v2, f2, e⟩ := s6 F
      exact ⟨v2, f2, by rw [show F + (n1 + 1 + n2) + 1 = (F + n2 + 1 + 1) + n1 by omega, s2, sr B hB z t f1 (by omega) (s4 0 (by omega)) _, if_neg d, e]⟩
  · refine Or.inr ⟨u, q1, q2, fun B hB z t f ht => ?_, fun B hB z t f ht => ?_⟩
    · obtain ⟨n1, f1, s1, s2, s3, s4⟩ := p3 B (c1 B hB) z t f (by omega)
      obtain ⟨n2, f2, s5, s6, s7, s8⟩ := q3 B (c2 B hB) z t f1 (by omega)
      refine ⟨n1 + 1 + n2, f2, by omega, fun F => ?_, fun j hj => (s7 j hj).trans (s3 j hj), s8⟩
      rw [show F + (n1 + 1 + n2) = (F + n2 + 1) + n1 by omega, s2, sc B hB z t f1 (by omega) (s4 0 (by omega)) _, if_neg d, s6]
    · obtain ⟨n1, f1, s1, s2, s3, s4⟩ := p4 B (r1 B hB) z t f (by omega)
      obtain ⟨n2, f2, s5, s6, s7, s8⟩ := q4 B (r2 B hB) z t f1 (by omega)
      refine ⟨n1 + 1 + n2, f2, by omega, fun F => ?_, fun j hj => (s7 j hj).trans (s3 j hj), s8⟩
      rw [show F + (n1 + 1 + n2) = (F + n2 + 1) + n1 by omega, s2, sr B hB z t f1 (by omega) (s4 0 (by omega)) _, if_neg d, s6]
/-! the class's machine and the reference's take these steps -/
theorem kn_nz {o j : Nat} {c : Int32} (hc : c.toInt = (j : Int)) (ho : o < 2147483648) (h : o ≠ j) : ¬ nI o = c := fun q => by
  have q2 := congrArg Int32.toInt q
  rw [nI_toInt ho, hc] at q2; omega
theorem kn_lel {t j : Nat} {c : Int32} (hc : c.toInt = (j : Int)) (ht : t < 2147483648) (h : j ≤ t) : c ≤ nI t := ie_iff.mpr (by rw [nI_toInt ht, hc]; omega)
theorem kn_ltl {t j : Nat} {c : Int32} (hc : c.toInt = (j : Int)) (ht : t < 2147483648) (h : t < j) : nI t < c := il_iff.mpr (by rw [nI_toInt ht, hc]; omega)
theorem kn_nlel {t j : Nat} {c : Int32} (hc : c.toInt = (j : Int)) (ht : t < 2147483648) (h : t < j) : ¬ c ≤ nI t := fun q => by
  have q2 := ie_iff.mp q
  rw [nI_toInt ht, hc] at q2; omega
theorem kn_gel {t j : Nat} {c : Int32} (hc : c.toInt = (j : Int)) (ht : t < 2147483648) (h : t ≤ j) : nI t ≤ c := ie_iff.mpr (by rw [nI_toInt ht, hc]; omega)
theorem kn_ngel {t j : Nat} {c : Int32} (hc : c.toInt = (j : Int)) (ht : t < 2147483648) (h : j < t) : ¬ nI t ≤ c := fun q => by
  have q2 := ie_iff.mp q
  rw [nI_toInt ht, hc] at q2; omega
theorem kn_nltl {t j : Nat} {c : Int32} (hc : c.toInt = (j : Int)) (ht : t < 2147483648) (h : j ≤ t) : ¬ nI t < c := fun q => by
  have q2 := il_iff.mp q
  rw [nI_toInt ht, hc] at q2; omega
theorem kn_max {a e : Nat} (ha : a < 2147483648) (he : e < 2147483648) (h : a ≤ e) : (if nI a < nI e then nI e else nI a) = nI e := by
  by_cases c : nI a < nI e
  · rw [if_pos c]
  · have c2 : ¬ a < e := fun q => c ((kn_lt ha he).mpr q)
    rw [if_neg c, show a = e by omega]
theorem cm_run {nw nc lo hi : Nat} {fw fc : Nat → Int32} (hn : hi ≤ nc) (hc : nc ≤ 1000000) (hw : nw < 1000000) : CM lo hi fc (fun w => fw w.toNatClampNeg) (fun w => 0 ≤ w.toInt ∧ w.toInt < (nw : Int)) (E_w_run_l22 nw fw nc fc) := by
  have nlt : ∀ a : Nat, a + 1 < hi → ¬ nI nc ≤ nI (a + 1) := fun a h q => by
    have := (kn_le (by omega) (by omega)).mp q
    omega
  refine ⟨fun a t f rc p q r s => ?_, fun a t f rc p q r s s2 => ?_, fun o a t f rc p q r r2 s s2 => ?_, fun a t f rc p q r r2 s => ?_, fun e a t f rc p q r r2 s s2 s3 s4 => ?_, fun e a t f rc p q r r2 s s2 s3 s4 => ?_, fun a t f rc => ?_⟩
  · simp only [E_w_run_l22, E_w_run_j83, E_w_run_j329, Lt]
    rw [if_pos trivial, if_neg (kn_nl (by omega)), kn_p1 (by omega), if_neg (nlt a q), kn_cl (a := a) (by omega), kn_cl (a := a + 1) (by omega), kn_p2 (by omega), s, if_neg (by decide), if_pos rfl, if_pos rfl, if_pos (kn_ltl rfl (by omega) r), if_pos rfl, kn_cl (a := t) (by omega), kn_po (by omega)]
  · simp only [E_w_run_l22, E_w_run_j83, E_w_run_j329, Lt]
    have w1 : ¬ fc (a + 1) < 0 := fun h => by have := il_iff.mp h; have z : (0 : Int32).toInt = 0 := rfl; omega
    have w2 : ¬ nI nw ≤ fc (a + 1) := fun h => by have := ie_iff.mp h; rw [nI_toInt (by omega)] at this; omega
    rw [if_pos trivial, if_neg (kn_nl (by omega)), kn_p1 (by omega), if_neg (nlt a q), kn_cl (a := a) (by omega), kn_cl (a := a + 1) (by omega), kn_p2 (by omega), s, if_neg (by decide), if_neg (by decide), if_pos rfl, if_neg (by decide), if_neg w1, if_neg w2, if_pos (kn_ltl rfl (by omega) r), if_neg (by decide), kn_cl (a := t) (by omega), kn_po (by omega)]
  · simp only [E_w_run_l22, E_w_run_j329, Lt, Lt2]
    rw [if_pos trivial, if_neg (kn_nl (by omega)), kn_p1 (by omega), if_neg (nlt a q), kn_cl (by omega), kn_p2 (by omega), s2]
    rw [if_neg (kn_nz (j := 0) rfl (by omega) (by omega)), if_neg (kn_nz (j := 1) rfl (by omega) (by omega)), if_neg (kn_nz (j := 2) rfl (by omega) (by omega)), if_pos (kn_lel (j := 1) rfl (by omega) (by omega)), if_neg (kn_nz (j := 11) rfl (by omega) (by omega)), if_neg (kn_nz (j := 12) rfl (by omega) (by omega)), if_neg (kn_nz (j := 13) rfl (by omega) (by omega)), if_pos (kn_lel (j := 2) rfl (by omega) (by omega))]
    rw [kn_mo (by omega) (by omega), kn_m1 (by omega) (by omega), kn_cl (by omega), kn_cl (by omega), show t - 1 - 1 = t - 2 by omega]
  · simp only [E_w_run_l22, E_w_run_j329, Lt, Lt2]
    rw [if_pos trivial, if_neg (kn_nl (by omega)), kn_p1 (by omega), if_neg (nlt a q), kn_cl (by omega), kn_p2 (by omega), s, if_neg (by decide), if_neg (by decide), if_neg (by decide), if_pos (kn_lel (j := 1) rfl (by omega) r), if_pos rfl, kn_m1 (by omega) r, kn_cl (by omega)]
  · simp only [E_w_run_l22, E_w_run_j225, E_w_run_j329, Lt, Lt2]
    rw [if_pos trivial, if_neg (kn_nl (by omega)), kn_p1 (by omega), if_neg (nlt a q), kn_cl (by omega), kn_cl (by omega), kn_p2 (by omega), s3, s4, if_neg (by decide), if_neg (by decide), if_neg (by decide), if_pos (kn_lel (j := 1) rfl (by omega) r), if_neg (by decide), if_pos rfl, kn_m1 (by omega) r, kn_cl (by omega), kn_mo (by omega) r, kn_max (by omega) (by omega) s]
    by_cases c : f (t - 1) = 0
    · rw [if_pos c, if_pos c, if_pos rfl]
    · rw [if_neg c, if_neg c, if_pos rfl]
  · simp only [E_w_run_l22, E_w_run_j225, E_w_run_j329, Lt, Lt2]
    rw [if_pos trivial, if_neg (kn_nl (by omega)), kn_p1 (by omega), if_neg (nlt a q), kn_cl (by omega), kn_cl (by omega), kn_p2 (by omega), s3, s4, if_neg (by decide), if_neg (by decide), if_neg (by decide), if_pos (kn_lel (j := 1) rfl (by omega) r), if_neg (by decide), if_neg (by decide), if_pos rfl, kn_m1 (by omega) r, kn_cl (by omega), kn_mo (by omega) r, kn_max (by omega) (by omega) s]
    by_cases c : f (t - 1) = 0
    · rw [if_pos c, if_pos c, if_neg (by decide)]
    · rw [if_neg c, if_neg c, if_neg (by decide)]
  · rw [E_w_run_l22.eq_def, if_neg (by decide)]
    rw [E_w_run_j336.eq_def, if_neg (by decide)]
    rfl
/-- STOP -/
theorem cm_stop {nw nc a t : Nat} {fw fc f : Nat → Int32} {rc : KCR} (h : a + 1 < nc) (hc : nc ≤ 1000000) (h0 : fc a = 0) (ht : 1 ≤ t) (ht2 : t ≤ 64) : E_w_run_l22 nw fw nc fc rc (nI a) (nI t) 0 f = (f (t - 1), 0, f) := by
  simp only [E_w_run_l22, E_w_run_j336, Lt]
  rw [if_pos trivial, if_neg (kn_nl (by omega)), kn_p1 (by omega), if_neg (fun q => by have := (kn_le (by omega) (by omega)).mp q; omega), kn_cl (by omega), h0, if_pos rfl, if_pos trivial, if_pos (kn_lel (j := 1) rfl (by omega) ht), kn_m1 (by omega) ht, kn_cl (by omega)]
theorem rm_j370 {t : Nat} {b : Int32} {f : Nat → Int64} (ht : t ≤ 400) : E_v_reckonAll_j370 (nI t) b f = (b, if t = 0 then 0 else f 0, f) := by
  rw [E_v_reckonAll_j370.eq_def, Lt_b]
  by_cases c : t = 0
  · rw [if_pos (kn_gel (j := 0) rfl (by omega) (by omega)), if_pos c]
  · rw [if_neg (kn_ngel (j := 0) rfl (by omega) (by omega)), if_neg c]
    rfl
/-- where the code of a law lies in the reference's row -/
noncomputable def kop (fw : Nat → Int32) (b : Nat) (k : Nat) : Int32 := fw (b + 98 + 2 * k)
noncomputable def kar (fw : Nat → Int32) (b : Nat) (k : Nat) : Int32 := fw (b + 98 + 2 * k + 1)
theorem kop_cl {b k : Nat} (h : b ≤ 100000) (hk : k ≤ 100000) : (nI b + 98 + 2 * nI k).toNatClampNeg = b + 98 + 2 * k ∧ (nI b + 98 + 2 * nI k + 1).toNatClampNeg = b + 98 + 2 * k + 1 := by
  have e1 : (nI b + 98).toInt = (b : Int) + 98 := i_add (nI_toInt (by omega)) (show (98 : Int32).toInt = 98 from rfl) (by omega)
  have e2 : (2 * nI k).toInt = 2 * (k : Int) := i_mul (show (2 : Int32).toInt = 2 from rfl) (nI_toInt (by omega)) (by omega)
  have e3 : (nI b + 98 + 2 * nI k).toInt = (b : Int) + 98 + 2 * (k : Int) := i_add e1 e2 (by omega)
  have e4 : (nI b + 98 + 2 * nI k + 1).toInt = (b : Int) + 98 + 2 * (k : Int) + 1 := i_add e3 (show (1 : Int32).toInt = 1 from rfl) (by omega)
  rw [cl_of e3, cl_of e4]
  omega
theorem rm_all0 {hi y b : Nat} {fw : Nat → Int32} {fe : Nat → Int64} (hh : hi ≤ y) (hy : y ≤ 1000) (hb : b ≤ 100000) (o k t : Nat) (f : Nat → Int64) (rc : KRR) (q : k < hi) (r : t < 400) (s2 : o < 20) (s : kop fw b k = nI o) : E_v_reckonAll_l10 (nI y) (nI b) fw fe rc (nI k) (nI t) 0 f = rc (nI (k + 1)) (nI (t + 1)) 0 (vp_updL f t (if kop fw b k = 0 then (kar fw b k).toInt64 else fe (kop fw b k).toNatClampNeg)) := by
  have nlt : ¬ nI y ≤ nI k := fun h => by
    have := (kn_le (by omega) (by omega)).mp h
    omega
  obtain ⟨k1, k2⟩ := kop_cl (b := b) (k := k) hb (by omega)
  rw [E_v_reckonAll_l10.eq_def, if_neg nlt, if_pos rfl, Lt_b, Lt_b, Lt_b, k1, Lt_b, show fw (b + 98 + 2 * k) = nI o from s, Lt_b, Lt_b, Lt_b, Lt_b, k2, Lt_b, show fw (b + 98 + 2 * k + 1) = kar fw b k from rfl, Lt_b]
  rw [if_neg (kn_nlel (j := 20) rfl (by omega) s2), s]
  by_cases c : nI o = 0
  · rw [if_pos c, if_pos c, Lt_b, Lt_b, Lt_b, kn_cl (a := t) (by omega), kn_po (by omega), kn_po (by omega)]
  · rw [if_neg c, if_neg c, Lt_b, Lt_b, Lt_b, kn_cl (a := t) (by omega), kn_po (by omega), kn_po (by omega)]
theorem rm_all1 {hi y b : Nat} {fw : Nat → Int32} {fe : Nat → Int64} (hh : hi ≤ y) (hy : y ≤ 1000) (hb : b ≤ 100000) (o k t : Nat) (f : Nat → Int64) (rc : KRR) (q : k < hi) (r : 2 ≤ t) (r2 : t ≤ 400) (s2 : 3 ≤ o ∧ o ≤ 10) (s : kop fw b k = nI (o + 17)) : E_v_reckonAll_l10 (nI y) (nI b) fw fe rc (nI k) (nI t) 0 f = rc (nI (k + 1)) (nI (t - 1)) (if (E_v_reckon (nI (o + 17)) (f (t - 2)) (f (t - 1)) 0).2 = 0 then (if E_v_in (E_v_reckon (nI (o + 17)) (f (t - 2)) (f (t - 1)) 0).1 (-1000000000) 1000000000 = 1 then 0 else 1) else 1) (vp_updL f (t - 2) (E_v_reckon (nI (o + 17)) (f (t - 2)) (f (t - 1)) 0).1) := by
  have nlt : ¬ nI y ≤ nI k := fun h => by
    have := (kn_le (by omega) (by omega)).mp h
    omega
  obtain ⟨k1, k2⟩ := kop_cl (b := b) (k := k) hb (by omega)
  rw [E_v_reckonAll_l10.eq_def, if_neg nlt, if_pos rfl, Lt_b, Lt_b, Lt_b, k1, Lt_b, show fw (b + 98 + 2 * k) = nI (o + 17) from s, Lt_b, Lt_b, Lt_b, Lt_b, k2, Lt_b, Lt_b]
  rw [if_pos (kn_lel (j := 20) rfl (by omega) (by omega)), if_neg (kn_nlel (j := 28) rfl (by omega) (by omega)), Lt_b, Lt_b, Lt_b, Lt_b, Lt_b, kn_mo (by omega) (by omega), kn_m1 (by omega) (by omega), kn_cl (a := t - 1 - 1) (by omega), kn_cl (a := t - 1) (by omega), kn_po (by omega), show t - 1 - 1 = t - 2 by omega]
  rw [Lt2_b, Lt_b]
  by_cases c : (E_v_reckon (nI (o + 17)) (f (t - 2)) (f (t - 1)) 0).2 = 0
  · rw [if_pos c, if_pos c, Lt_b, Lt_b, Lt_b, kn_cl (a := t - 2) (by omega), upl_s]
    by_cases d : E_v_in (E_v_reckon (nI (o + 17)) (f (t - 2)) (f (t - 1)) 0).1 (-1000000000) 1000000000 = 1
    · rw [if_pos d, if_pos d]
    · rw [if_neg d, if_neg d]
  · rw [if_neg c, if_neg c]
theorem rm_all2 {hi y b : Nat} {fw : Nat → Int32} {fe : Nat → Int64} (hh : hi ≤ y) (hy : y ≤ 1000) (hb : b ≤ 100000) (k t : Nat) (f : Nat → Int64) (rc : KRR) (q : k < hi) (r : 1 ≤ t) (r2 : t ≤ 400) (s : kop fw b k = 28) : E_v_reckonAll_l10 (nI y) (nI b) fw fe rc (nI k) (nI t) 0 f = rc (nI (k + 1)) (nI t) 0 (vp_updL f (t - 1) (1 - f (t - 1))) := by
  have nlt : ¬ nI y ≤ nI k := fun h => by
    have := (kn_le (by omega) (by omega)).mp h
    omega
  obtain ⟨k1, k2⟩ := kop_cl (b := b) (k := k) hb (by omega)
  rw [E_v_reckonAll_l10.eq_def, if_neg nlt, if_pos rfl, Lt_b, Lt_b, Lt_b, k1, Lt_b, show fw (b + 98 + 2 * k) = 28 from s, Lt_b, Lt_b, Lt_b, Lt_b, k2, Lt_b, Lt_b]
  rw [if_pos (by decide), if_pos (by decide), if_pos rfl, Lt_b, Lt_b, Lt_b, Lt_b, Lt_b, kn_m1 (by omega) r, kn_cl (a := t - 1) (by omega), kn_po (by omega)]
theorem rm_all3 {hi y b : Nat} {fw : Nat → Int32} {fe : Nat → Int64} (hh : hi ≤ y) (hy : y ≤ 1000) (hb : b ≤ 100000) (e k t : Nat) (f : Nat → Int64) (rc : KRR) (q : k < hi) (r : 1 ≤ t) (r2 : t ≤ 400) (s2 : kar fw b k = nI e) (s : kop fw b k = 29) : E_v_reckonAll_l10 (nI y) (nI b) fw fe rc (nI k) (nI t) 0 f = if f (t - 1) = 0 then rc (nI e) (nI t) 0 f else rc (nI (k + 1)) (nI (t - 1)) 0 f := by
  have nlt : ¬ nI y ≤ nI k := fun h => by
    have := (kn_le (by omega) (by omega)).mp h
    omega
  obtain ⟨k1, k2⟩ := kop_cl (b := b) (k := k) hb (by omega)
  rw [E_v_reckonAll_l10.eq_def, if_neg nlt, if_pos rfl, Lt_b, Lt_b, Lt_b, k1, Lt_b, show fw (b + 98 + 2 * k) = 29 from s, Lt_b, Lt_b, Lt_b, Lt_b, k2, Lt_b, show fw (b + 98 + 2 * k + 1) = nI e from s2, Lt_b]
  rw [if_pos (by decide), if_pos (by decide), if_neg (by decide), Lt_b, Lt_b, if_pos rfl, kn_m1 (by omega) r, kn_cl (a := t - 1) (by omega)]
  by_cases c : f (t - 1) = 0
  · rw [if_pos c, if_pos ((lg_cmp_eq _ _).mpr c)]
  · rw [if_neg c, if_neg (fun h => c ((lg_cmp_eq _ _).mp h)), Lt_b, kn_po (by omega), kn_mo (by omega) r]
theorem rm_all4 {hi y b : Nat} {fw : Nat → Int32} {fe : Nat → Int64} (hh : hi ≤ y) (hy : y ≤ 1000) (hb : b ≤ 100000) (e k t : Nat) (f : Nat → Int64) (rc : KRR) (q : k < hi) (r : 1 ≤ t) (r2 : t ≤ 400) (s2 : kar fw b k = nI e) (s : kop fw b k = 30) : E_v_reckonAll_l10 (nI y) (nI b) fw fe rc (nI k) (nI t) 0 f = if f (t - 1) = 1 then rc (nI e) (nI t) 0 f else rc (nI (k + 1)) (nI (t - 1)) 0 f := by
  have nlt : ¬ nI y ≤ nI k := fun h => by
    have := (kn_le (by omega) (by omega)).mp h
    omega
  obtain ⟨k1, k2⟩ := kop_cl (b := b) (k := k) hb (by omega)
  rw [E_v_reckonAll_l10.eq_def, if_neg nlt, if_pos rfl, Lt_b, Lt_b, Lt_b, k1, Lt_b, show fw (b + 98 + 2 * k) = 30 from s, Lt_b, Lt_b, Lt_b, Lt_b, k2, Lt_b, show fw (b + 98 + 2 * k + 1) = nI e from s2, Lt_b]
  rw [if_pos (by decide), if_pos (by decide), if_neg (by decide), Lt_b, Lt_b, if_neg (by decide), kn_m1 (by omega) r, kn_cl (a := t - 1) (by omega)]
  by_cases c : f (t - 1) = 1
  · rw [if_pos c, if_pos ((lg_cmp_eq _ _).mpr c)]
  · rw [if_neg c, if_neg (fun h => c ((lg_cmp_eq _ _).mp h)), Lt_b, kn_po (by omega), kn_mo (by omega) r]
theorem rm_all5 {y b : Nat} {fw : Nat → Int32} {fe : Nat → Int64} (k t : Nat) (f : Nat → Int64) (rc : KRR) (p : t ≤ 400) : ∃ v, E_v_reckonAll_l10 (nI y) (nI b) fw fe rc (nI k) (nI t) 1 f = (1, v, f) := by
  rw [E_v_reckonAll_l10.eq_def]
  by_cases c : nI y ≤ nI k
  · rw [if_pos c, rm_j370 p]; exact ⟨_, rfl⟩
  · rw [if_neg c, if_neg (by decide), rm_j370 p]; exact ⟨_, rfl⟩
theorem rm_all {lo hi y b : Nat} {fw : Nat → Int32} {fe : Nat → Int64} (hh : hi ≤ y) (hy : y ≤ 1000) (hb : b ≤ 100000) : RM lo hi (kop fw b) (kar fw b) (fun o a => if o = 0 then a.toInt64 else fe o.toNatClampNeg) (E_v_reckonAll_l10 (nI y) (nI b) fw fe) := ⟨fun o k t f rc _ q r s s2 => rm_all0 hh hy hb o k t f rc q r s s2, fun o k t f rc _ q r r2 s s2 => rm_all1 hh hy hb o k t f rc q r r2 s s2, fun k t f rc _ q r r2 s => rm_all2 hh hy hb k t f rc q r r2 s, fun e k t f rc _ q r r2 s s2 => rm_all3 hh hy hb e k t f rc q r r2 s s2, fun e k t f rc _ q r r2 s s2 => rm_all4 hh hy hb e k t f rc q r r2 s s2, fun k t f rc p _ => rm_all5 k t f rc p⟩
theorem kn_nltl' {t : Nat} (ht : t < 2147483648) (h : t ≤ 400) : ¬ (400 : Int32) < nI t := fun q => by
  have q2 := il_iff.mp q
  rw [nI_toInt ht] at q2
  have z : (400 : Int32).toInt = 400 := rfl
  omega
/-! what a law tells: the last clause that holds -/
/-- one run of a sum or a test, on both sides: broken, or the same value -/
theorem run_both {od m a e x y nw nc : Nat} {P : Int → Prop} {fc op ar : Nat → Int32} (h : SE od P 1 m fc a e op ar x y) (hm : m ≤ 64) (h0 : fc e = 0) (he : e + 1 < nc) (hc : nc ≤ 1000000) (hw : nw < 1000000) (cw : Nat → Int32) {lf : Int32 → Int32 → Int64} (henv : KEnv od (fun w => cw w.toNatClampNeg) (fun w => 0 ≤ w.toInt ∧ w.toInt < (nw : Int)) lf) :
    ((∀ br fs, ∃ f', E_w_run (nI a) br fs nw cw nc fc = (0, 1, f')) ∧ ∀ B, RM x y op ar lf B → (∀ (t : Nat) (b : Int32) (f : Nat → Int64) (rc : KRR), t ≤ 400 → B rc (nI y) (nI t) b f = (b, if t = 0 then 0 else f 0, f)) → ∀ z f F, ∃ v f', Lp B z (F + (y - x) + 1) (nI x) (nI 0) 0 f = (1, v, f')) ∨
    (∃ g : Int, (-1000000000 ≤ g ∧ g ≤ 1000000000) ∧ P g ∧ (∀ br fs, ∃ r f', E_w_run (nI a) br fs nw cw nc fc = (r, 0, f') ∧ r.toInt = g) ∧ ∀ B, RM x y op ar lf B → (∀ (t : Nat) (b : Int32) (f : Nat → Int64) (rc : KRR), t ≤ 400 → B rc (nI y) (nI t) b f = (b, if t = 0 then 0 else f 0, f)) → ∀ z f F, ∃ v f', Lp B z (F + (y - x) + 1) (nI x) (nI 0) 0 f = (0, v, f') ∧ v.toInt = g) := by
  obtain ⟨a1, a2, a3, a4, a5, a6⟩ := h
  have hB := cm_run (nw := nw) (nc := nc) (lo := a) (hi := e) (fw := cw) (fc := fc) (by omega) hc hw
  have ea : (nI a).toInt = (a : Int) := nI_toInt (by omega)
  have st : ∀ n, n ≤ e - a → ∃ F, (((nc : Nat) : Int) - (nI a).toInt : Int).toNat + 1 = (F + 1) + n := fun n hn => ⟨(((nc : Nat) : Int) - (nI a).toInt : Int).toNat - n, by rw [ea]; omega⟩
  rcases a6 _ _ lf henv with ⟨p1, p2⟩ | ⟨g, p1, p2, p3, p4⟩
  · refine Or.inl ⟨fun br fs => ?_, fun B hR _ z f F => ?_⟩
    · obtain ⟨n, q1, q2⟩ := p1 _ hB (fun _ _ _ _ => ((0, 0, fun _ => 0) : Int32 × Int32 × (Nat → Int32))) 0 fs (by omega)
      obtain ⟨F, hF⟩ := st n q1
      obtain ⟨f', q3⟩ := q2 F
      refine ⟨f', ?_⟩
      rw [E_w_run.eq_def, if_pos (kn_ge (by omega)), hF, show F + 1 + n = F + n + 1 by omega]
      exact q3
    · obtain ⟨n, q1, q2⟩ := p2 B hR z 0 f (by omega)
      obtain ⟨v, f', q3⟩ := q2 (F + ((y - x) - n))
      exact ⟨v, f', by rw [show F + (y - x) + 1 = F + ((y - x) - n) + n + 1 by omega]; exact q3⟩
  · refine Or.inr ⟨g 0, p1 0 (by omega), p2, fun br fs => ?_, fun B hR hy z f F => ?_⟩
    · obtain ⟨n, f', q1, q2, q3, q4⟩ := p3 _ hB (fun _ _ _ _ => ((0, 0, fun _ => 0) : Int32 × Int32 × (Nat → Int32))) 0 fs (by omega)
      obtain ⟨F, hF⟩ := st n q1
      refine ⟨f' 0, f', ?_, by have := q4 0 (by omega); rw [← this]⟩
      rw [E_w_run.eq_def, if_pos (kn_ge (by omega)), hF]
      have e1 := q2 (F + 1)
      rw [show Lp (α := KCR) (E_w_run_l22 nw cw nc fc) (fun _ _ _ _ => ((0, 0, fun _ => 0) : Int32 × Int32 × (Nat → Int32))) (F + 1 + n) (nI a) 0 0 fs = _ from e1, Lp_s, cm_stop he hc h0 (by omega) (by omega)]
    · obtain ⟨n, f', q1, q2, q3, q4⟩ := p4 B hR z 0 f (by omega)
      refine ⟨f' 0, f', ?_, by have := q4 0 (by omega); rw [← this]⟩
      rw [show F + (y - x) + 1 = F + ((y - x) - n) + 1 + n by omega, q2, Lp_s, hy (0 + 1) 0 f' _ (by omega), if_neg (by omega)]
/-- a law, in the class (c) and as a text of the reference (T) -/
noncomputable def KTest (fc T : Nat → Int32) (nc : Nat) (h : Int32) (x y : Int32) : Prop := (h = -1 ∧ x = y ∧ ∃ j : Nat, x = nI j ∧ j ≤ 400) ∨ ∃ a e p q m : Nat, h = nI a ∧ x = nI p ∧ y = nI q ∧ p < q ∧ q ≤ 400 ∧ m ≤ 64 ∧ SE 0 KT_ 1 m fc a e (kop T 0) (kar T 0) p q ∧ fc e = 0 ∧ e + 1 < nc
noncomputable def KSum (fc T : Nat → Int32) (nc : Nat) (h : Int32) (x y : Int32) : Prop := ∃ a e p q m : Nat, h = nI a ∧ x = nI p ∧ y = nI q ∧ q ≤ 400 ∧ m ≤ 64 ∧ SE 0 KA_ 1 m fc a e (kop T 0) (kar T 0) p q ∧ fc e = 0 ∧ e + 1 < nc
noncomputable def KLaw (c : LC) (T : Nat → Int32) : Prop := ∃ n : Nat, n ≤ 12 ∧ c.2.2.2.2.1 = nI n ∧ T 1 = nI n ∧ 5 * n ≤ c.1 ∧ c.1 < 1000000 ∧ c.2.1 ≤ 1000000 ∧ ∀ i, i < n → ∃ v : Nat, v < 4 ∧ c.2.2.1 (5 * i) = nI v ∧ T (2 + 8 * i) = nI v ∧ KTest c.2.2.2.1 T c.2.1 (c.2.2.1 (5 * i + 4)) (T (2 + 8 * i + 5)) (T (2 + 8 * i + 6)) ∧ (v = 3 ∨ KSum c.2.2.2.1 T c.2.1 (c.2.2.1 (5 * i + 2)) (T (2 + 8 * i + 3)) (T (2 + 8 * i + 4)))
theorem KLaw.ext {c : LC} {T S : Nat → Int32} (h : KLaw c T) (he : ∀ j, j < 900 → S j = T j) : KLaw c S := by
  obtain ⟨n, h1, h2, h3, h4, h5, h6, h7⟩ := h
  have hr : ∀ (p q : Nat), q ≤ 400 → ∀ j, p ≤ j → j < q → kop S 0 j = kop T 0 j ∧ kar S 0 j = kar T 0 j := fun p q hq j _ hj => ⟨he _ (by omega), he _ (by omega)⟩
  refine ⟨n, h1, h2, (he 1 (by omega)).trans h3, h4, h5, h6, fun i hi => ?_⟩
  obtain ⟨v, k1, k2, k3, k4, k5⟩ := h7 i hi
  refine ⟨v, k1, k2, (he _ (by omega)).trans k3, ?_, ?_⟩
  · rw [he (2 + 8 * i + 5) (by omega), he (2 + 8 * i + 6) (by omega)]
    rcases k4 with k | ⟨a, e, p, q, m, q1, q2, q3, q4, q5, q6, q7, q8, q9⟩
    · exact Or.inl k
    · exact Or.inr ⟨a, e, p, q, m, q1, q2, q3, q4, q5, q6, q7.ext (fun _ _ _ => rfl) (hr p q q5), q8, q9⟩
  · rcases k5 with k | ⟨a, e, p, q, m, q1, q2, q3, q5, q6, q7, q8, q9⟩
    · exact Or.inl k
    · rw [he (2 + 8 * i + 3) (by omega), he (2 + 8 * i + 4) (by omega)]
      exact Or.inr ⟨a, e, p, q, m, q1, q2, q3, q5, q6, q7.ext (fun _ _ _ => rfl) (hr p q q5), q8, q9⟩
/-! a clause of a law, on both sides -/
noncomputable def kz_cl (g M : Int) : Int := if g < 0 then 0 else if M < g then M else g
theorem kz_cli {r M : Int32} {g m : Int} (hr : r.toInt = g) (hM : M.toInt = m) (hm : 0 ≤ m) : (if (0 : Int32) < (if r < M then r else M) then (if r < M then r else M) else 0).toInt = kz_cl g m := by
  have z : (0 : Int32).toInt = 0 := rfl
  unfold kz_cl
  by_cases c : r < M
  · have c2 := il_iff.mp c
    rw [if_pos c]
    by_cases d : (0 : Int32) < r
    · have d2 := il_iff.mp d
      rw [if_pos d, if_neg (by omega), if_neg (by omega), hr]
    · have d2 : ¬ (0 : Int32).toInt < r.toInt := fun q => d (il_iff.mpr q)
      rw [if_neg d]
      by_cases e : g < 0
      · rw [if_pos e]; rfl
      · rw [if_neg e, if_neg (by omega), z]; omega
  · have c2 : ¬ r.toInt < M.toInt := fun q => c (il_iff.mpr q)
    rw [if_neg c]
    by_cases d : (0 : Int32) < M
    · rw [if_pos d, if_neg (by omega), hM]
      by_cases e : m < g
      · rw [if_pos e]
      · rw [if_neg e]; omega
    · have d2 : ¬ (0 : Int32).toInt < M.toInt := fun q => d (il_iff.mpr q)
      rw [if_neg d, if_neg (by omega), z]
      by_cases e : m < g
      · rw [if_pos e]; omega
      · rw [if_neg e]; omega
theorem head_at {i j nh : Nat} {c : Int32} {fh : Nat → Int32} (hc : c.toInt = (j : Int)) (hi : i ≤ 1000) (hj : j < 5) (h : 5 * i + j < nh) (hn : nh < 1000000) : E_w_head (nI i) c nh fh = fh (5 * i + j) := by
  have e1 : (nI i * 5).toInt = (i : Int) * 5 := i_mul (nI_toInt (by omega)) (show (5 : Int32).toInt = 5 from rfl) (by omega)
  have e2 : (nI i * 5 + c).toInt = (i : Int) * 5 + j := i_add e1 hc (by omega)
  have z : (0 : Int32).toInt = 0 := rfl
  simp only [E_w_head, Lt]
  rw [if_neg (kn_nl (by omega)), if_neg (fun q => by have := il_iff.mp q; omega), if_neg (fun q => by have := ie_iff.mp q; rw [nI_toInt (by omega)] at this; omega), cl_of e2]
  congr 1
  omega
/-- the text of a law as it lies in the reference's row from b on -/
noncomputable def ktx (fw : Nat → Int32) (b : Nat) : Nat → Int32 := fun j => fw (b + j)
theorem rm_ktx {p q b : Nat} {fw : Nat → Int32} {fe : Nat → Int64} (hq : q ≤ 400) (hb : b ≤ 100000) : RM p q (kop (ktx fw b) 0) (kar (ktx fw b) 0) (fun o a => if o = 0 then a.toInt64 else fe o.toNatClampNeg) (E_v_reckonAll_l10 (nI q) (nI b) fw fe) :=
  (rm_all (lo := p) (hi := q) (y := q) (b := b) (fw := fw) (fe := fe) (Nat.le_refl _) (by omega) hb).sub (Nat.le_refl _) (Nat.le_refl _) (fun j _ _ => ⟨by show fw (b + (0 + 98 + 2 * j)) = fw (b + 98 + 2 * j); congr 1; omega, by show fw (b + (0 + 98 + 2 * j + 1)) = fw (b + 98 + 2 * j + 1); congr 1; omega⟩)
theorem rm_stop {q b : Nat} {fw : Nat → Int32} {fe : Nat → Int64} (t : Nat) (br : Int32) (f : Nat → Int64) (rc : KRR) (ht : t ≤ 400) : E_v_reckonAll_l10 (nI q) (nI b) fw fe rc (nI q) (nI t) br f = (br, if t = 0 then 0 else f 0, f) := by
  rw [E_v_reckonAll_l10.eq_def, if_pos (ie_iff.mpr (Int.le_refl _)), rm_j370 ht]
theorem rk_fuel {p q : Nat} (h : p ≤ q) (hq : q ≤ 400) : ((nI q).toInt - (nI p).toInt + 1 : Int).toNat + 1 = 1 + (q - p) + 1 := by
  rw [nI_toInt (by omega), nI_toInt (by omega)]; omega
/-- what both told at once: nothing, or a value -/
theorem reck_at {P : Int → Prop} {m a e p q b nc : Nat} {fc fw cw : Nat → Int32} {fe : Nat → Int64} (h : SE 0 P 1 m fc a e (kop (ktx fw b) 0) (kar (ktx fw b) 0) p q) (hm : m ≤ 64) (h0 : fc e = 0) (he : e + 1 < nc) (hc : nc ≤ 1000000) (hq : q ≤ 400) (hb : b ≤ 100000) (henv : KEnv 0 (fun w => cw w.toNatClampNeg) (fun w => 0 ≤ w.toInt ∧ w.toInt < ((9 : Nat) : Int)) (fun o a => if o = 0 then a.toInt64 else fe o.toNatClampNeg)) :
    ((∀ br fs, ∃ f', E_w_run (nI a) br fs 9 cw nc fc = (0, 1, f')) ∧ ∀ bro val sm frs, ∃ v f', E_v_reckonAll (nI p) (nI q) (nI b) bro val sm fw fe frs = (1, v, f')) ∨
    (∃ g : Int, P g ∧ (∀ br fs, ∃ r f', E_w_run (nI a) br fs 9 cw nc fc = (r, 0, f') ∧ r.toInt = g) ∧ ∀ bro val sm frs, ∃ v f', E_v_reckonAll (nI p) (nI q) (nI b) bro val sm fw fe frs = (0, v, f') ∧ v.toInt = g) := by
  have hpq : p ≤ q := h.2.2.1
  rcases run_both h hm h0 he hc (show 9 < 1000000 by decide) cw henv with ⟨q1, q2⟩ | ⟨g, _, q0, q1, q2⟩
  · refine Or.inl ⟨q1, fun bro val sm frs => ?_⟩
    rw [E_v_reckonAll.eq_def, rk_fuel hpq hq]
    exact q2 _ (rm_ktx hq hb) (fun t br f rc ht => rm_stop t br f rc ht) _ frs 1
  · refine Or.inr ⟨g, q0, q1, fun bro val sm frs => ?_⟩
    rw [E_v_reckonAll.eq_def, rk_fuel hpq hq]
    exact q2 _ (rm_ktx hq hb) (fun t br f rc ht => rm_stop t br f rc ht) _ frs 1
theorem at_k {b i k : Nat} {c : Int32} (hc : c.toInt = (k : Int)) (h : b + i + k < 1000000) : nI (b + i) + c = nI (b + i + k) := Int32.toInt_inj.mp (by
  rw [i_add (nI_toInt (by omega)) hc (by omega), nI_toInt (by omega)]; omega)
noncomputable abbrev KTR : Type := Int32 → Int64 → Int32 → Int64 → Int64 → (Nat → Int64) → (Int64 × Int32 × Int32 × Int64 × Int64 × (Nat → Int64) × (Nat → Int64))
noncomputable abbrev KTC : Type := Int32 → Int32 → (Nat → Int32) → (Int32 × Int32 × (Nat → Int32))
/-- the sum of a clause (or "bars") -/
theorem cl_sum {b nc nh i v : Nat} {fh fc fw cw : Nat → Int32} {fe : Nat → Int64} (hv : v < 4) (hb : b ≤ 100000) (hi : i < 12) (hn : 5 * i + 5 ≤ nh) (hn2 : nh < 1000000) (hc : nc ≤ 1000000) (k3 : ktx fw b (2 + 8 * i) = nI v) (k5 : v = 3 ∨ KSum fc (ktx fw b) nc (fh (5 * i + 2)) (ktx fw b (2 + 8 * i + 3)) (ktx fw b (2 + 8 * i + 4))) (henv : KEnv 0 (fun w => cw w.toNatClampNeg) (fun w => 0 ≤ w.toInt ∧ w.toInt < ((9 : Nat) : Int)) (fun o a => if o = 0 then a.toInt64 else fe o.toNatClampNeg)) :
    ((∀ rc br f, ∃ br' f', E_w_told_j81 nh nc fh fc (nI v) cw (nI i) rc br f = E_w_told_j136 (nI i) rc br' f') ∧ ∀ sm br vl f, ∃ br' vl' sm' f', E_v_isSo_j59 (nI (b + (2 + 8 * i))) (nI b) sm fw fe br vl f = (0, br', vl', sm', f')) ∨
    (∃ g : Int, (v = 3 → g = 1) ∧ (∀ rc br f, ∃ r br' f', E_w_told_j81 nh nc fh fc (nI v) cw (nI i) rc br f = (r, br', f') ∧ r.toInt = kz_cl g (aF 3 v).toInt) ∧ ∀ sm br vl f, ∃ br' vl' sm' f', E_v_isSo_j59 (nI (b + (2 + 8 * i))) (nI b) sm fw fe br vl f = (1, br', vl', sm', f') ∧ (v = 3 ∨ sm'.toInt = g)) := by
  have x0 : fw (nI (b + (2 + 8 * i))).toNatClampNeg = nI v := by rw [kn_cl (by omega)]; exact k3
  by_cases c3 : v = 3
  · refine Or.inr ⟨1, fun _ => rfl, fun rc br f => ⟨1, br, f, ?_, ?_⟩, fun sm br vl f => ⟨br, vl, sm, f, ?_, Or.inl c3⟩⟩
    · rw [E_w_told_j81.eq_def, if_pos (by rw [c3]; rfl)]
    · rw [c3]; rfl
    · rw [E_v_isSo_j59.eq_def, Lt_b, if_pos (by rw [x0, c3]; rfl)]
  have n3 : ¬ nI v = 3 := kn_nz (j := 3) rfl (by omega) c3
  rcases k5 with k | ⟨a, e, p, q, m, q1, q2, q3, q5, q6, q7, q8, q9⟩
  · exact absurd k c3
  have g2 : E_w_head (nI i) 2 nh fh = nI a := (head_at (j := 2) rfl (by omega) (by omega) (by omega) hn2).trans q1
  have s3 : fw (nI (b + (2 + 8 * i)) + 3).toNatClampNeg = nI p := by
    rw [at_k (k := 3) rfl (by omega), kn_cl (by omega)]; exact q2
  have s4 : fw (nI (b + (2 + 8 * i)) + 4).toNatClampNeg = nI q := by
    rw [at_k (k := 4) rfl (by omega), kn_cl (by omega)]; exact q3
  have j81 : ∀ rc br f, E_w_told_j81 nh nc fh fc (nI v) cw (nI i) rc br f = if (E_w_run (nI a) br f 9 cw nc fc).2.1 = 0 then ((if (0 : Int32) < (if (E_w_run (nI a) br f 9 cw nc fc).1 < aF 3 v then (E_w_run (nI a) br f 9 cw nc fc).1 else aF 3 v) then (if (E_w_run (nI a) br f 9 cw nc fc).1 < aF 3 v then (E_w_run (nI a) br f 9 cw nc fc).1 else aF 3 v) else 0), (E_w_run (nI a) br f 9 cw nc fc).2.1, (E_w_run (nI a) br f 9 cw nc fc).2.2) else E_w_told_j136 (nI i) rc (E_w_run (nI a) br f 9 cw nc fc).2.1 (E_w_run (nI a) br f 9 cw nc fc).2.2 := by
    intro rc br f
    rw [E_w_told_j81.eq_def, if_neg n3, g2, kn_cl (by omega)]
    rfl
  have j59 : ∀ sm br vl f, E_v_isSo_j59 (nI (b + (2 + 8 * i))) (nI b) sm fw fe br vl f = if (E_v_reckonAll (nI p) (nI q) (nI b) br vl sm fw fe f).1 = 0 then (1, (E_v_reckonAll (nI p) (nI q) (nI b) br vl sm fw fe f).1, (E_v_reckonAll (nI p) (nI q) (nI b) br vl sm fw fe f).2.1, (E_v_reckonAll (nI p) (nI q) (nI b) br vl sm fw fe f).2.1, (E_v_reckonAll (nI p) (nI q) (nI b) br vl sm fw fe f).2.2) else (0, (E_v_reckonAll (nI p) (nI q) (nI b) br vl sm fw fe f).1, (E_v_reckonAll (nI p) (nI q) (nI b) br vl sm fw fe f).2.1, (E_v_reckonAll (nI p) (nI q) (nI b) br vl sm fw fe f).2.1, (E_v_reckonAll (nI p) (nI q) (nI b) br vl sm fw fe f).2.2) := by
    intro sm br vl f
    rw [E_v_isSo_j59.eq_def, Lt_b, if_neg (by rw [x0]; exact n3)]
    simp only [Lt, Lt2]
    rw [s3, s4]
  have mm : 0 ≤ (aF 3 v).toInt := by
    rcases (show v = 0 ∨ v = 1 ∨ v = 2 by omega) with rfl | rfl | rfl <;> decide
  rcases reck_at q7 q6 q8 q9 hc q5 hb henv with ⟨w1, w2⟩ | ⟨g, _, w1, w2⟩
  · refine Or.inl ⟨fun rc br f => ?_, fun sm br vl f => ?_⟩
    · obtain ⟨f', z1⟩ := w1 br f
      rw [j81, z1, if_neg (show ¬ (1 : Int32) = 0 by decide)]; exact ⟨_, _, rfl⟩
    · obtain ⟨v2, f2, z2⟩ := w2 br vl sm f
      rw [j59, z2, if_neg (show ¬ (1 : Int32) = 0 by decide)]; exact ⟨_, _, _, _, rfl⟩
  · refine Or.inr ⟨g, fun h => absurd h c3, fun rc br f => ?_, fun sm br vl f => ?_⟩
    · obtain ⟨r, f', z1, z3⟩ := w1 br f
      rw [j81, z1, if_pos rfl]
      exact ⟨_, _, _, rfl, kz_cli z3 rfl mm⟩
    · obtain ⟨v2, f2, z2, z3⟩ := w2 br vl sm f
      rw [j59, z2, if_pos rfl]
      exact ⟨_, _, _, _, rfl, Or.inr z3⟩
/-- a clause: either it doesn't hold, on both sides, or it tells the same -/
theorem cl_both {b nc nh i v w : Nat} {fh fc fw cw : Nat → Int32} {fe : Nat → Int64} (hv : v < 4) (hw : w < 4) (hb : b ≤ 100000) (hi : i < 12) (hn : 5 * i + 5 ≤ nh) (hn2 : nh < 1000000) (hc : nc ≤ 1000000) (k2 : fh (5 * i) = nI v) (k3 : ktx fw b (2 + 8 * i) = nI v) (k4 : KTest fc (ktx fw b) nc (fh (5 * i + 4)) (ktx fw b (2 + 8 * i + 5)) (ktx fw b (2 + 8 * i + 6))) (k5 : v = 3 ∨ KSum fc (ktx fw b) nc (fh (5 * i + 2)) (ktx fw b (2 + 8 * i + 3)) (ktx fw b (2 + 8 * i + 4))) (henv : KEnv 0 (fun w => cw w.toNatClampNeg) (fun w => 0 ≤ w.toInt ∧ w.toInt < ((9 : Nat) : Int)) (fun o a => if o = 0 then a.toInt64 else fe o.toNatClampNeg)) :
    ((∀ (rc : KTC) br f, ∃ br' f', E_w_told_l17 nh nc fh fc (nI w) cw rc (nI i) br f = E_w_told_j136 (nI i) rc br' f') ∧ ∀ (rc : KTR) told br vl sm f, ¬ fw (nI b + 1).toNatClampNeg ≤ nI i → ∃ br' vl' sm' f', E_v_tells_l148 (nI w) fw (nI b) fe rc (nI i) told br vl sm f = rc (nI (i + 1)) told br' vl' sm' f') ∨
    (∃ g : Int, (w = 3 → g = 1) ∧ (∀ (rc : KTC) br f, ∃ r br' f', E_w_told_l17 nh nc fh fc (nI w) cw rc (nI i) br f = (r, br', f') ∧ r.toInt = kz_cl g (aF 3 w).toInt) ∧ ∀ (rc : KTR) told br vl sm f, ¬ fw (nI b + 1).toNatClampNeg ≤ nI i → ∃ t br' vl' sm' f', E_v_tells_l148 (nI w) fw (nI b) fe rc (nI i) told br vl sm f = rc (nI (i + 1)) t br' vl' sm' f' ∧ t.toInt = g) := by
  have h0 : E_w_head (nI i) 0 nh fh = nI v := (head_at (j := 0) rfl (by omega) (by omega) (by omega) hn2).trans (by rw [Nat.add_zero]; exact k2)
  have h4 : E_w_head (nI i) 4 nh fh = fh (5 * i + 4) := head_at (j := 4) rfl (by omega) (by omega) (by omega) hn2
  have m8 : (8 * nI i).toInt = 8 * (i : Int) := i_mul (show (8 : Int32).toInt = 8 from rfl) (nI_toInt (by omega)) (by omega)
  have b2 : (nI b + 2).toInt = (b : Int) + 2 := i_add (nI_toInt (by omega)) (show (2 : Int32).toInt = 2 from rfl) (by omega)
  have bi : nI b + 2 + 8 * nI i = nI (b + (2 + 8 * i)) := Int32.toInt_inj.mp (by rw [i_add b2 m8 (by omega), nI_toInt (by omega)]; omega)
  have x0 : fw (nI (b + (2 + 8 * i))).toNatClampNeg = nI v := by rw [kn_cl (by omega)]; exact k3
  have tel : ∀ (rc : KTR) told br vl sm f, ¬ fw (nI b + 1).toNatClampNeg ≤ nI i → E_v_tells_l148 (nI w) fw (nI b) fe rc (nI i) told br vl sm f = if nI v = nI w then (if (E_v_isSo (nI (b + (2 + 8 * i))) (nI b) br vl sm fw fe f).1 = 0 then rc (nI (i + 1)) told (E_v_isSo (nI (b + (2 + 8 * i))) (nI b) br vl sm fw fe f).2.1 (E_v_isSo (nI (b + (2 + 8 * i))) (nI b) br vl sm fw fe f).2.2.1 (E_v_isSo (nI (b + (2 + 8 * i))) (nI b) br vl sm fw fe f).2.2.2.1 (E_v_isSo (nI (b + (2 + 8 * i))) (nI b) br vl sm fw fe f).2.2.2.2 else if nI w = 3 then rc (nI (i + 1)) 1 (E_v_isSo (nI (b + (2 + 8 * i))) (nI b) br vl sm fw fe f).2.1 (E_v_isSo (nI (b + (2 + 8 * i))) (nI b) br vl sm fw fe f).2.2.1 (E_v_isSo (nI (b + (2 + 8 * i))) (nI b) br vl sm fw fe f).2.2.2.1 (E_v_isSo (nI (b + (2 + 8 * i))) (nI b) br vl sm fw fe f).2.2.2.2 else rc (nI (i + 1)) (E_v_isSo (nI (b + (2 + 8 * i))) (nI b) br vl sm fw fe f).2.2.2.1 (E_v_isSo (nI (b + (2 + 8 * i))) (nI b) br vl sm fw fe f).2.1 (E_v_isSo (nI (b + (2 + 8 * i))) (nI b) br vl sm fw fe f).2.2.1 (E_v_isSo (nI (b + (2 + 8 * i))) (nI b) br vl sm fw fe f).2.2.2.1 (E_v_isSo (nI (b + (2 + 8 * i))) (nI b) br vl sm fw fe f).2.2.2.2) else rc (nI (i + 1)) told br vl sm f := by
    intro rc told br vl sm f hq
    simp only [E_v_tells_l148, E_v_tells_j213, Lt, Lt2]
    rw [if_neg hq, bi, x0, kn_po (by omega)]
  have tol : ∀ (rc : KTC) br f, E_w_told_l17 nh nc fh fc (nI w) cw rc (nI i) br f = if nI v = nI w then (if fh (5 * i + 4) = -1 then E_w_told_j81 nh nc fh fc (nI w) cw (nI i) rc br f else if (E_w_run (fh (5 * i + 4)) br f 9 cw nc fc).1 = 0 then E_w_told_j136 (nI i) rc (E_w_run (fh (5 * i + 4)) br f 9 cw nc fc).2.1 (E_w_run (fh (5 * i + 4)) br f 9 cw nc fc).2.2 else if (E_w_run (fh (5 * i + 4)) br f 9 cw nc fc).2.1 = 0 then E_w_told_j81 nh nc fh fc (nI w) cw (nI i) rc (E_w_run (fh (5 * i + 4)) br f 9 cw nc fc).2.1 (E_w_run (fh (5 * i + 4)) br f 9 cw nc fc).2.2 else E_w_told_j136 (nI i) rc (E_w_run (fh (5 * i + 4)) br f 9 cw nc fc).2.1 (E_w_run (fh (5 * i + 4)) br f 9 cw nc fc).2.2) else E_w_told_j136 (nI i) rc br f := by
    intro rc br f
    simp only [E_w_told_l17, Lt, Lt2]
    rw [if_neg (kn_nl (by omega)), h0, h4]
  by_cases cv : v = w
  case neg =>
    have nv : ¬ nI v = nI w := kn_ne (by omega) (by omega) cv
    refine Or.inl ⟨fun rc br f => ⟨br, f, ?_⟩, fun rc told br vl sm f hq => ⟨br, vl, sm, f, ?_⟩⟩
    · rw [tol, if_neg nv]
    · rw [tel _ _ _ _ _ _ hq, if_neg nv]
  subst cv
  have x5 : fw (nI (b + (2 + 8 * i)) + 5).toNatClampNeg = ktx fw b (2 + 8 * i + 5) := by
    rw [at_k (k := 5) rfl (by omega), kn_cl (by omega)]; rfl
  have x6 : fw (nI (b + (2 + 8 * i)) + 6).toNatClampNeg = ktx fw b (2 + 8 * i + 6) := by
    rw [at_k (k := 6) rfl (by omega), kn_cl (by omega)]; rfl
  have iso : ∀ br vl sm f, E_v_isSo (nI (b + (2 + 8 * i))) (nI b) br vl sm fw fe f = if ktx fw b (2 + 8 * i + 6) ≤ ktx fw b (2 + 8 * i + 5) then E_v_isSo_j59 (nI (b + (2 + 8 * i))) (nI b) sm fw fe br vl f else if (E_v_reckonAll (ktx fw b (2 + 8 * i + 5)) (ktx fw b (2 + 8 * i + 6)) (nI b) br vl sm fw fe f).1 = 0 then (if lg_cmp (E_v_reckonAll (ktx fw b (2 + 8 * i + 5)) (ktx fw b (2 + 8 * i + 6)) (nI b) br vl sm fw fe f).2.1 0 = 0 then E_v_isSo_j57 sm (E_v_reckonAll (ktx fw b (2 + 8 * i + 5)) (ktx fw b (2 + 8 * i + 6)) (nI b) br vl sm fw fe f).1 (E_v_reckonAll (ktx fw b (2 + 8 * i + 5)) (ktx fw b (2 + 8 * i + 6)) (nI b) br vl sm fw fe f).2.1 (E_v_reckonAll (ktx fw b (2 + 8 * i + 5)) (ktx fw b (2 + 8 * i + 6)) (nI b) br vl sm fw fe f).2.2 else E_v_isSo_j59 (nI (b + (2 + 8 * i))) (nI b) sm fw fe (E_v_reckonAll (ktx fw b (2 + 8 * i + 5)) (ktx fw b (2 + 8 * i + 6)) (nI b) br vl sm fw fe f).1 (E_v_reckonAll (ktx fw b (2 + 8 * i + 5)) (ktx fw b (2 + 8 * i + 6)) (nI b) br vl sm fw fe f).2.1 (E_v_reckonAll (ktx fw b (2 + 8 * i + 5)) (ktx fw b (2 + 8 * i + 6)) (nI b) br vl sm fw fe f).2.2) else E_v_isSo_j57 sm (E_v_reckonAll (ktx fw b (2 + 8 * i + 5)) (ktx fw b (2 + 8 * i + 6)) (nI b) br vl sm fw fe f).1 (E_v_reckonAll (ktx fw b (2 + 8 * i + 5)) (ktx fw b (2 + 8 * i + 6)) (nI b) br vl sm fw fe f).2.1 (E_v_reckonAll (ktx fw b (2 + 8 * i + 5)) (ktx fw b (2 + 8 * i + 6)) (nI b) br vl sm fw fe f).2.2 := by
    intro br vl sm f
    simp only [E_v_isSo, Lt, Lt2]
    rw [x5, x6]
  have sumr := cl_sum (fh := fh) (cw := cw) hv hb hi hn hn2 hc k3 k5 henv
  -- what holds of the sum holds of the clause, where the test lets it
  have fin : ((∀ rc br f, ∃ br' f', E_w_told_l17 nh nc fh fc (nI v) cw rc (nI i) br f = E_w_told_j81 nh nc fh fc (nI v) cw (nI i) rc br' f') ∧ ∀ br vl sm f, ∃ br' vl' f', E_v_isSo (nI (b + (2 + 8 * i))) (nI b) br vl sm fw fe f = E_v_isSo_j59 (nI (b + (2 + 8 * i))) (nI b) sm fw fe br' vl' f') ∨ ((∀ rc br f, ∃ br' f', E_w_told_l17 nh nc fh fc (nI v) cw rc (nI i) br f = E_w_told_j136 (nI i) rc br' f') ∧ ∀ br vl sm f, ∃ br' vl' f', E_v_isSo (nI (b + (2 + 8 * i))) (nI b) br vl sm fw fe f = (0, br', vl', sm, f')) := by
    rcases k4 with ⟨q1, q2, _⟩ | ⟨a, e, p, q, m, q1, q2, q3, q4, q5, q6, q7, q8, q9⟩
    · refine Or.inl ⟨fun rc br f => ⟨br, f, ?_⟩, fun br vl sm f => ⟨br, vl, f, ?_⟩⟩
      · rw [tol, if_pos rfl, if_pos q1]
      · rw [iso, if_pos (by rw [q2]; exact ie_iff.mpr (Int.le_refl _))]
    · have n1 : ¬ nI a = -1 := fun h => by
        have := congrArg Int32.toInt h
        have z1 : (-1 : Int32).toInt = -1 := rfl
        have ha := q7.2.1
        have hb2 := q7.2.2.2.1
        rw [nI_toInt (by omega)] at this; omega
      have np : ¬ nI q ≤ nI p := fun h => by have := (kn_le (by omega) (by omega)).mp h; omega
      rw [q1] at tol
      rw [q2, q3] at iso
      rcases reck_at q7 q6 q8 q9 hc q5 hb henv with ⟨w1, w2⟩ | ⟨g, w0, w1, w2⟩
      · refine Or.inr ⟨fun rc br f => ?_, fun br vl sm f => ?_⟩
        · obtain ⟨f', z1⟩ := w1 br f
          rw [tol, if_pos rfl, if_neg n1, z1, if_pos rfl]; exact ⟨_, _, rfl⟩
        · obtain ⟨v2, f2, z2⟩ := w2 br vl sm f
          rw [iso, if_neg np, z2, if_neg (show ¬ (1 : Int32) = 0 by decide)]; exact ⟨_, _, _, rfl⟩
      · have z0 : (0 : Int32).toInt = 0 := rfl
        have y0 : (0 : Int64).toInt = 0 := rfl
        rcases w0 with w0 | w0
        · refine Or.inr ⟨fun rc br f => ?_, fun br vl sm f => ?_⟩
          · obtain ⟨r, f', z1, z3⟩ := w1 br f
            rw [tol, if_pos rfl, if_neg n1, z1, if_pos (Int32.toInt_inj.mp (by rw [z3, w0]; rfl))]; exact ⟨_, _, rfl⟩
          · obtain ⟨v2, f2, z2, z3⟩ := w2 br vl sm f
            rw [iso, if_neg np, z2, if_pos rfl, if_pos ((lg_cmp_eq _ _).mpr (Int64.toInt_inj.mp (by rw [z3, w0]; rfl)))]; exact ⟨_, _, _, rfl⟩
        · refine Or.inl ⟨fun rc br f => ?_, fun br vl sm f => ?_⟩
          · obtain ⟨r, f', z1, z3⟩ := w1 br f
            rw [tol, if_pos rfl, if_neg n1, z1, if_neg (fun h => by have h2 : r = 0 := h; rw [h2] at z3; omega), if_pos rfl]; exact ⟨_, _, rfl⟩
          · obtain ⟨v2, f2, z2, z3⟩ := w2 br vl sm f
            rw [iso, if_neg np, z2, if_pos rfl, if_neg (fun h => by have h3 : lg_cmp v2 0 = 0 := h; have h2 := congrArg Int64.toInt ((lg_cmp_eq _ _).mp h3); omega)]; exact ⟨_, _, _, rfl⟩
  rcases fin with ⟨f1, f2⟩ | ⟨f1, f2⟩
  · rcases sumr with ⟨s1, s2⟩ | ⟨g, s0, s1, s2⟩
    · refine Or.inl ⟨fun rc br f => ?_, fun rc told br vl sm f hq => ?_⟩
      · obtain ⟨br1, g1, e1⟩ := f1 rc br f
        obtain ⟨br2, g2, e2⟩ := s1 rc br1 g1
        exact ⟨br2, g2, e1.trans e2⟩
      · obtain ⟨br1, vl1, g1, e1⟩ := f2 br vl sm f
        obtain ⟨br2, vl2, sm2, g2, e2⟩ := s2 sm br1 vl1 g1
        rw [tel _ _ _ _ _ _ hq, if_pos rfl, e1, e2, if_pos rfl]
        exact ⟨_, _, _, _, rfl⟩
    · refine Or.inr ⟨g, s0, fun rc br f => ?_, fun rc told br vl sm f hq => ?_⟩
      · obtain ⟨br1, g1, e1⟩ := f1 rc br f
        obtain ⟨r, br2, g2, e2, e3⟩ := s1 rc br1 g1
        exact ⟨r, br2, g2, e1.trans e2, e3⟩
      · obtain ⟨br1, vl1, g1, e1⟩ := f2 br vl sm f
        obtain ⟨br2, vl2, sm2, g2, e2, e3⟩ := s2 sm br1 vl1 g1
        rw [tel _ _ _ _ _ _ hq, if_pos rfl, e1, e2, if_neg (show ¬ (1 : Int32) = 0 by decide)]
        by_cases c3 : v = 3
        · rw [if_pos (by rw [c3]; rfl)]
          exact ⟨_, _, _, _, _, rfl, (s0 c3).symm⟩
        · rw [if_neg (kn_nz (j := 3) rfl (by omega) c3)]
          exact ⟨_, _, _, _, _, rfl, e3.resolve_left c3⟩
  · refine Or.inl ⟨f1, fun rc told br vl sm f hq => ?_⟩
    obtain ⟨br1, vl1, g1, e1⟩ := f2 br vl sm f
    rw [tel _ _ _ _ _ _ hq, if_pos rfl, e1, if_pos rfl]
    exact ⟨_, _, _, _, rfl⟩
