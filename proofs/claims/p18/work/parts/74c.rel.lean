/-! house -/
theorem fact_at {x y : Int32} {f : Nat → Int32} (hx : 0 ≤ x.toInt ∧ x.toInt < 8) {k : Nat} (hy : y.toInt = (k : Int)) (hk : k < 7) : E_w_fact x y f = f (8 * k + x.toInt.toNat) := by
  unfold E_w_fact
  have z0 : (0 : Int32).toInt = 0 := rfl
  have z8 : (8 : Int32).toInt = 8 := rfl
  have z7 : (7 : Int32).toInt = 7 := rfl
  rw [if_neg (fun q => by have := il_iff.mp q; omega), if_neg (fun q => by have := ie_iff.mp q; omega), if_neg (fun q => by have := il_iff.mp q; omega), if_neg (fun q => by have := ie_iff.mp q; omega)]
  simp only [Lt]
  have m : (y * 8).toInt = y.toInt * 8 := i_mul (Eq.refl y.toInt) z8 (by omega)
  rw [cl_of (i_add m (Eq.refl x.toInt) (by omega))]
  congr 1
  omega
theorem put_at {x y z : Int32} {f : Nat → Int32} (hx : 0 ≤ x.toInt ∧ x.toInt < 8) {k : Nat} (hy : y.toInt = (k : Int)) (hk : k < 7) : E_w_put x y z f = upd f (8 * k + x.toInt.toNat) z := by
  have z0 : (0 : Int32).toInt = 0 := rfl
  have z8 : (8 : Int32).toInt = 8 := rfl
  have z7 : (7 : Int32).toInt = 7 := rfl
  have z6 : (6 : Int32).toInt = 6 := rfl
  simp only [E_w_put, Lt]
  rw [ifw_p (by omega), ifw_p (by omega)]
  have m : (y * 8).toInt = y.toInt * 8 := i_mul (Eq.refl y.toInt) z8 (by omega)
  rw [cl_of (i_add m (Eq.refl x.toInt) (by omega))]
  congr 1
  omega
theorem put2_at {x z : Int32} {f : Nat → Int32} (hx : 0 ≤ x.toInt ∧ x.toInt < 8) : E_w_put_2 x z f = upd f (16 + x.toInt.toNat) z := by
  have z0 : (0 : Int32).toInt = 0 := rfl
  have z7 : (7 : Int32).toInt = 7 := rfl
  simp only [E_w_put_2, Lt]
  rw [ifw_p (by omega), ifw_p (by decide), add_c (k := 16) rfl (by omega) (by omega)]
theorem diner {x n : Int32} {f : Nat → Int32} (hn : 0 ≤ n.toInt ∧ n.toInt ≤ 8) (z : Int32 → Int32) : ∀ (k : Nat) (v : Int32), 0 ≤ v.toInt ∧ v.toInt ≤ 8 → (9 - v.toInt).toNat < k → ((Lp (E_w_dinerOf_l2 x n f) z k v = -1 ∧ ∀ h : Nat, v.toInt ≤ (h : Int) → (h : Int) < n.toInt → f (24 + h) ≠ x) ∨ (Lp (E_w_dinerOf_l2 x n f) z k v ≠ -1 ∧ ∃ h : Nat, v.toInt ≤ (h : Int) ∧ (h : Int) < n.toInt ∧ f (24 + h) = x)) := by
  intro k
  induction k with
  | zero => intro v hv hk; exact absurd hk (Nat.not_lt_zero _)
  | succ k ih =>
    intro v hv hk
    rw [Lp_s]
    simp only [E_w_dinerOf_l2, Lt]
    by_cases c : n ≤ v
    · rw [if_pos c]
      have c2 := ie_iff.mp c
      exact Or.inl ⟨rfl, fun h h1 h2 => by omega⟩
    · rw [if_neg c]
      have c2 : v.toInt < n.toInt := by
        have : ¬ n.toInt ≤ v.toInt := fun q => c (ie_iff.mpr q)
        omega
      rw [fact_at (k := 3) (by omega) rfl (by omega)]
      by_cases e : f (8 * 3 + v.toInt.toNat) = x
      · rw [if_pos e]
        refine Or.inr ⟨fun q => ?_, v.toInt.toNat, by omega, by omega, e⟩
        have := congrArg Int32.toInt q
        have z1 : (-1 : Int32).toInt = -1 := rfl
        omega
      · rw [if_neg e]
        have hi := inc_o (a := v) (by omega)
        rcases ih (v + Int32.ofInt 1) (by omega) (by omega) with ⟨r1, r2⟩ | ⟨r1, h, h1, h2, h3⟩
        · refine Or.inl ⟨r1, fun h h1 h2 => ?_⟩
          by_cases q : (h : Int) = v.toInt
          · rw [show 24 + h = 8 * 3 + v.toInt.toNat by omega]; exact e
          · exact r2 h (by omega) h2
        · exact Or.inr ⟨r1, h, by omega, h2, h3⟩
theorem hl_in {x0 x1 x2 x3 x4 sta nu n : Int32} {fw frf : Nat → Int32} (hn : 0 ≤ n.toInt ∧ n.toInt ≤ 8) (z : Int32 → (Int32 × Int32 × Int32 × (Nat → Int32) × (Nat → Int32))) : ∀ (k : Nat) (v : Int32), 0 ≤ v.toInt ∧ v.toInt ≤ 8 → (9 - v.toInt).toNat < k →
    ((∀ h : Nat, v.toInt ≤ (h : Int) → (h : Int) < n.toInt → fw (51 + h) ≠ x3) → Lp (E_v_houseN_l84 x0 x1 x2 x3 x4 sta nu fw frf n) z k v = E_v_houseN_l84 x0 x1 x2 x3 x4 sta nu fw frf n z n) ∧
    ((∃ h : Nat, v.toInt ≤ (h : Int) ∧ (h : Int) < n.toInt ∧ fw (51 + h) = x3) → Lp (E_v_houseN_l84 x0 x1 x2 x3 x4 sta nu fw frf n) z k v = ((E_v_tell (-3) sta frf).1, (E_v_tell (-3) sta frf).2.1, nu, fw, (E_v_tell (-3) sta frf).2.2)) := by
  intro k
  induction k with
  | zero => intro v hv hk; exact absurd hk (Nat.not_lt_zero _)
  | succ k ih =>
    intro v hv hk
    rw [Lp_s]
    by_cases c : n ≤ v
    · have c2 := ie_iff.mp c
      refine ⟨fun _ => ?_, fun ⟨h, h1, h2, _⟩ => by omega⟩
      unfold E_v_houseN_l84
      rw [if_pos c, if_pos (show n ≤ n from ie_iff.mpr (Int.le_refl _))]
    · have c2 : v.toInt < n.toInt := by
        have : ¬ n.toInt ≤ v.toInt := fun q => c (ie_iff.mpr q)
        omega
      have hi := inc_o (a := v) (by omega)
      have st : E_v_houseN_l84 x0 x1 x2 x3 x4 sta nu fw frf n (Lp (E_v_houseN_l84 x0 x1 x2 x3 x4 sta nu fw frf n) z k) v = if fw (51 + v.toInt.toNat) = x3 then ((E_v_tell (-3) sta frf).1, (E_v_tell (-3) sta frf).2.1, nu, fw, (E_v_tell (-3) sta frf).2.2) else Lp (E_v_houseN_l84 x0 x1 x2 x3 x4 sta nu fw frf n) z k (v + Int32.ofInt 1) := by
        rw [E_v_houseN_l84.eq_def, if_neg c]
        simp only [Lt, Lt2]
        rw [add_c (k := 51) rfl (by omega) (by omega)]
      rw [st]
      have ih2 := ih (v + Int32.ofInt 1) (by omega) (by omega)
      refine ⟨fun hno => ?_, fun ⟨h, h1, h2, h3⟩ => ?_⟩
      · rw [if_neg (hno v.toInt.toNat (by omega) (by omega))]
        exact ih2.1 (fun h h1 h2 => hno h (by omega) h2)
      · by_cases e : fw (51 + v.toInt.toNat) = x3
        · rw [if_pos e]
        · rw [if_neg e]
          refine ih2.2 ⟨h, ?_, h2, h3⟩
          by_cases q : (h : Int) = v.toInt
          · exact absurd (by rw [show 51 + v.toInt.toNat = 51 + h by omega]; exact h3) e
          · omega
