section
/-! tokens: where blanks, letters, digits end; what a word, a number is worth -/
noncomputable def skp (f : Nat → Int32) (k v : Nat) : Nat := match k with
  | 0 => v
  | k + 1 => if f v = 32 then skp f k (v + 1) else v
theorem skp_le {f : Nat → Int32} : ∀ k v, v ≤ skp f k v ∧ skp f k v ≤ v + k := by
  intro k
  induction k with
  | zero => intro v; exact ⟨Nat.le_refl _, Nat.le_refl _⟩
  | succ k ih =>
    intro v
    show v ≤ (if f v = 32 then skp f k (v + 1) else v) ∧ (if f v = 32 then skp f k (v + 1) else v) ≤ v + (k + 1)
    split
    · have := ih (v + 1); omega
    · omega
noncomputable def lt_ (f : Nat → Int32) (v : Nat) : Prop := 97 ≤ (f v).toInt ∧ (f v).toInt ≤ 122
noncomputable def dg_ (f : Nat → Int32) (v : Nat) : Prop := 48 ≤ (f v).toInt ∧ (f v).toInt ≤ 57
noncomputable def lx (f : Nat → Int32) (k v : Nat) : Nat := match k with
  | 0 => v
  | k + 1 => if 97 ≤ (f v).toInt ∧ (f v).toInt ≤ 122 then lx f k (v + 1) else v
noncomputable def dx (f : Nat → Int32) (k v : Nat) : Nat := match k with
  | 0 => v
  | k + 1 => if 48 ≤ (f v).toInt ∧ (f v).toInt ≤ 57 then dx f k (v + 1) else v
theorem lx_le {f : Nat → Int32} : ∀ k v, v ≤ lx f k v ∧ lx f k v ≤ v + k := by
  intro k
  induction k with
  | zero => intro v; exact ⟨Nat.le_refl _, Nat.le_refl _⟩
  | succ k ih =>
    intro v
    show v ≤ (if 97 ≤ (f v).toInt ∧ (f v).toInt ≤ 122 then lx f k (v + 1) else v) ∧ (if 97 ≤ (f v).toInt ∧ (f v).toInt ≤ 122 then lx f k (v + 1) else v) ≤ v + (k + 1)
    split
    · have := ih (v + 1); omega
    · omega
theorem dx_le {f : Nat → Int32} : ∀ k v, v ≤ dx f k v ∧ dx f k v ≤ v + k := by
  intro k
  induction k with
  | zero => intro v; exact ⟨Nat.le_refl _, Nat.le_refl _⟩
  | succ k ih =>
    intro v
    show v ≤ (if 48 ≤ (f v).toInt ∧ (f v).toInt ≤ 57 then dx f k (v + 1) else v) ∧ (if 48 ≤ (f v).toInt ∧ (f v).toInt ≤ 57 then dx f k (v + 1) else v) ≤ v + (k + 1)
    split
    · have := ih (v + 1); omega
    · omega
/-- a number of k digits from p on, as the class holds it, as the reference does; a word's worth -/
noncomputable def cn (f : Nat → Int32) (p k : Nat) : Int := match k with
  | 0 => 0
  | k + 1 => min 1000000 (cn f p k * 10 + (f (p + k)).toInt - 48)
noncomputable def mn (f : Nat → Int32) (p k : Nat) : Int := match k with
  | 0 => 0
  | k + 1 => if 1000000 < mn f p k then mn f p k else mn f p k * 10 + (f (p + k)).toInt - 48
noncomputable def hsh (f : Nat → Int32) (p k : Nat) : Int := match k with
  | 0 => 0
  | k + 1 => if k < 10 then hsh f p k * 32 + (f (p + k)).toInt - 96 else -1
theorem cn_mn {f : Nat → Int32} {p : Nat} : ∀ k, (∀ j, j < k → dg_ f (p + j)) → (cn f p k = mn f p k ∧ 0 ≤ mn f p k ∧ mn f p k ≤ 1000000) ∨ (cn f p k = 1000000 ∧ 1000000 < mn f p k ∧ mn f p k ≤ 10000010) := by
  intro k
  induction k with
  | zero => intro _; exact Or.inl ⟨rfl, Int.le_refl _, (by show (0 : Int) ≤ 1000000; decide)⟩
  | succ k ih =>
    intro h
    have hd := h k (Nat.lt_succ_self k)
    unfold dg_ at hd
    have e1 : cn f p (k + 1) = min 1000000 (cn f p k * 10 + (f (p + k)).toInt - 48) := rfl
    have e2 : mn f p (k + 1) = if 1000000 < mn f p k then mn f p k else mn f p k * 10 + (f (p + k)).toInt - 48 := rfl
    rcases ih (fun j hj => h j (by omega)) with ⟨a, b, c⟩ | ⟨a, b, c⟩
    · rw [e1, e2, a, if_neg (by omega)]
      omega
    · rw [e1, e2, a, if_pos b]
      omega
/-! the class's step -/
theorem nI_at {v : Int32} (h : 0 ≤ v.toInt) : v = nI v.toInt.toNat := i_ofN (Eq.refl v.toInt) h
theorem inc_n {p : Nat} (h : p ≤ 1000000) : nI p + 1 = nI (p + 1) := by
  have a : (nI p).toInt = (p : Int) := nI_toInt (by omega)
  have b := inc_1 (a := nI p) (by omega)
  rw [nI_at (v := nI p + 1) (by omega), b, a]
  congr 1
theorem st_skip {ln : Int32} {f : Nat → Int32} {L : Nat} (hl : ln = nI L) (h4 : L ≤ 400) (z : Int32 → (Int32 × Int32 × Int32 × Int32)) : ∀ (k p : Nat), p ≤ L → 400 - p < k → Lp (E_w_step_l8 ln f) z k (nI p) = E_w_step_j46 ln f (nI (skp f (L - p) p)) := by
  have eL : ln.toInt = (L : Int) := by rw [hl]; exact nI_toInt (by omega)
  intro k
  induction k with
  | zero => intro p hp hk; exact absurd hk (Nat.not_lt_zero _)
  | succ k ih =>
    intro p hp hk
    have ep : (nI p).toInt = (p : Int) := nI_toInt (by omega)
    rw [Lp_s]
    simp only [E_w_step_l8, Lt]
    by_cases c : ln ≤ nI p
    · have c2 := ie_iff.mp c
      rw [if_pos c, show L - p = 0 by omega]
      rfl
    · have c2 : ¬ ln.toInt ≤ (nI p).toInt := fun q => c (ie_iff.mpr q)
      rw [if_neg c, cl_of ep, show (p : Int).toNat = p from rfl, show L - p = (L - (p + 1)) + 1 by omega]
      show _ = E_w_step_j46 ln f (nI (if f p = 32 then skp f (L - (p + 1)) (p + 1) else p))
      by_cases b : f p = 32
      · rw [if_pos b, if_pos b, inc_n (by omega)]
        exact ih (p + 1) (by omega) (by omega)
      · rw [if_neg b, if_neg b]
theorem st_word {ln x w : Int32} {f : Nat → Int32} {L : Nat} (hl : ln = nI L) (h4 : L ≤ 400) (z : Int32 → (Int32 × Int32 × Int32 × Int32)) : ∀ (k p : Nat), p ≤ L → 400 - p < k → Lp (E_w_step_l148a ln f w x) z k (nI p) = (w, nI (lx f (L - p) p), x, -1) := by
  have eL : ln.toInt = (L : Int) := by rw [hl]; exact nI_toInt (by omega)
  have z97 : (97 : Int32).toInt = 97 := rfl
  have z122 : (122 : Int32).toInt = 122 := rfl
  intro k
  induction k with
  | zero => intro p hp hk; exact absurd hk (Nat.not_lt_zero _)
  | succ k ih =>
    intro p hp hk
    have ep : (nI p).toInt = (p : Int) := nI_toInt (by omega)
    rw [Lp_s]
    simp only [E_w_step_l148a, E_w_step_j272a, Lt]
    by_cases c : ln ≤ nI p
    · have c2 := ie_iff.mp c
      rw [if_pos c, show L - p = 0 by omega]
      rfl
    · have c2 : ¬ ln.toInt ≤ (nI p).toInt := fun q => c (ie_iff.mpr q)
      rw [if_neg c, cl_of ep, show (p : Int).toNat = p from rfl, show L - p = (L - (p + 1)) + 1 by omega]
      show _ = (w, nI (if 97 ≤ (f p).toInt ∧ (f p).toInt ≤ 122 then lx f (L - (p + 1)) (p + 1) else p), x, -1)
      by_cases b : f p < 97
      · have b2 := il_iff.mp b
        rw [if_pos b, if_neg (by omega)]
      · have b2 : ¬ (f p).toInt < (97 : Int32).toInt := fun q => b (il_iff.mpr q)
        rw [if_neg b]
        by_cases b3 : 122 < f p
        · have b4 := il_iff.mp b3
          rw [if_pos b3, if_neg (by omega)]
        · have b4 : ¬ (122 : Int32).toInt < (f p).toInt := fun q => b3 (il_iff.mpr q)
          rw [if_neg b3, if_pos (by omega), inc_n (by omega)]
          exact ih (p + 1) (by omega) (by omega)
theorem st_num {ln x : Int32} {f : Nat → Int32} {L p0 : Nat} (hl : ln = nI L) (h4 : L ≤ 400) (z : Int32 → Int32 → (Int32 × Int32 × Int32 × Int32)) : ∀ (k p : Nat) (n : Int32), p0 < p → p ≤ L → 400 - p < k → n.toInt = cn f p0 (p - p0) → (∀ j, p0 ≤ j → j < p → dg_ f j) → ∃ m : Int32, Lp (E_w_step_l148 ln f (nI p0) x) z k (nI p) n = (nI p0, nI (dx f (L - p) p), x, m) ∧ m.toInt = cn f p0 (dx f (L - p) p - p0) := by
  have eL : ln.toInt = (L : Int) := by rw [hl]; exact nI_toInt (by omega)
  have z48 : (48 : Int32).toInt = 48 := rfl
  have z57 : (57 : Int32).toInt = 57 := rfl
  have z10 : (10 : Int32).toInt = 10 := rfl
  have zM : (1000000 : Int32).toInt = 1000000 := rfl
  have zm : (-1 : Int32).toInt = -1 := rfl
  intro k
  induction k with
  | zero => intro p n h0 hp hk; exact absurd hk (Nat.not_lt_zero _)
  | succ k ih =>
    intro p n h0 hp hk hn hd
    have ep : (nI p).toInt = (p : Int) := nI_toInt (by omega)
    have hb : 0 ≤ n.toInt ∧ n.toInt ≤ 1000000 := by
      rw [hn]
      rcases cn_mn (f := f) (p := p0) (p - p0) (fun j hj => hd (p0 + j) (by omega) (by omega)) with ⟨a, b, c⟩ | ⟨a, b, c⟩ <;> omega
    rw [Lp_s]
    simp only [E_w_step_l148, E_w_step_j272, E_w_step_j193, Lt]
    by_cases c : ln ≤ nI p
    · have c2 := ie_iff.mp c
      rw [if_pos c, show L - p = 0 by omega]
      exact ⟨n, rfl, hn⟩
    · have c2 : ¬ ln.toInt ≤ (nI p).toInt := fun q => c (ie_iff.mpr q)
      rw [if_neg c, if_neg (fun q => by have := congrArg Int32.toInt q; omega), cl_of ep, show (p : Int).toNat = p from rfl, show L - p = (L - (p + 1)) + 1 by omega]
      show ∃ m : Int32, _ = (nI p0, nI (if 48 ≤ (f p).toInt ∧ (f p).toInt ≤ 57 then dx f (L - (p + 1)) (p + 1) else p), x, m) ∧ m.toInt = cn f p0 ((if 48 ≤ (f p).toInt ∧ (f p).toInt ≤ 57 then dx f (L - (p + 1)) (p + 1) else p) - p0)
      by_cases b : f p < 48
      · have b2 := il_iff.mp b
        rw [if_pos b, if_neg (by omega)]
        exact ⟨n, rfl, hn⟩
      · have b2 : ¬ (f p).toInt < (48 : Int32).toInt := fun q => b (il_iff.mpr q)
        rw [if_neg b]
        by_cases b3 : 57 < f p
        · have b4 := il_iff.mp b3
          rw [if_pos b3, if_neg (by omega)]
          exact ⟨n, rfl, hn⟩
        · have b4 : ¬ (57 : Int32).toInt < (f p).toInt := fun q => b3 (il_iff.mpr q)
          rw [if_neg b3, if_pos (show 48 ≤ (f p).toInt ∧ (f p).toInt ≤ 57 by omega), inc_n (by omega)]
          have m1 : (n * 10).toInt = n.toInt * 10 := i_mul (Eq.refl _) z10 (by omega)
          have m2 : (n * 10 + f p).toInt = n.toInt * 10 + (f p).toInt := i_add m1 (Eq.refl _) (by omega)
          have m3 : (n * 10 + f p - 48).toInt = n.toInt * 10 + (f p).toInt - 48 := i_sub m2 z48 (by omega)
          refine ih (p + 1) _ (by omega) (by omega) (by omega) ?_ (fun j h1 h2 => ?_)
          · rw [show p + 1 - p0 = (p - p0) + 1 by omega]
            show _ = min 1000000 (cn f p0 (p - p0) * 10 + (f (p0 + (p - p0))).toInt - 48)
            rw [← hn, show p0 + (p - p0) = p by omega]
            rcases i_min (a := n * 10 + f p - 48) (b := 1000000) m3 zM with ⟨q1, q2⟩ | ⟨q1, q2⟩
            · have q3 : (if (n * 10 + f p - 48 : Int32) < 1000000 then (n * 10 + f p - 48 : Int32) else 1000000).toInt = n.toInt * 10 + (f p).toInt - 48 := by
                by_cases w : (n * 10 + f p - 48 : Int32) < 1000000
                · rw [if_pos w]; exact m3
                · rw [if_neg w]
                  have : ¬ (n * 10 + f p - 48 : Int32).toInt < (1000000 : Int32).toInt := fun q => w (il_iff.mpr q)
                  omega
              rw [q3]; omega
            · have w : ¬ (n * 10 + f p - 48 : Int32) < 1000000 := fun q => by have := il_iff.mp q; omega
              rw [if_neg w]
              omega
          · by_cases e : j = p
            · rw [e]; exact ⟨by omega, by omega⟩
            · exact hd j h1 (by omega)
/-! a token at p (p ≤ L the first byte that is no blank), as the class's step leaves it -/
noncomputable def CT (f : Nat → Int32) (L p : Nat) (q : Int32 × Int32 × Int32 × Int32) : Prop :=
  (p = L ∧ q = (nI L, nI L, -1, -1)) ∨
  (p < L ∧ lt_ f p ∧ q = (nI p, nI (lx f (L - (p + 1)) (p + 1)), f p, -1)) ∨
  (p < L ∧ dg_ f p ∧ ∃ m : Int32, q = (nI p, nI (dx f (L - (p + 1)) (p + 1)), f p, m) ∧ m.toInt = cn f p (dx f (L - (p + 1)) (p + 1) - p)) ∨
  (p < L ∧ ¬ lt_ f p ∧ ¬ dg_ f p ∧ q = (nI p, nI (p + 1), f p, -1))
theorem min_n {a b : Nat} (ha : a ≤ 1000) (hb : b ≤ 1000) : (if nI a < nI b then nI a else nI b) = nI (min a b) := by
  have e1 : (nI a).toInt = (a : Int) := nI_toInt (by omega)
  have e2 : (nI b).toInt = (b : Int) := nI_toInt (by omega)
  by_cases c : nI a < nI b
  · have c2 := il_iff.mp c
    rw [if_pos c, Nat.min_eq_left (by omega)]
  · have c2 : ¬ (nI a).toInt < (nI b).toInt := fun q => c (il_iff.mpr q)
    rw [if_neg c, Nat.min_eq_right (by omega)]
/-- a token that isn't a number or a word: the loop ends at once -/
theorem st_one {ln x w : Int32} {f : Nat → Int32} (z : Int32 → Int32 → (Int32 × Int32 × Int32 × Int32)) (k : Nat) (v : Int32) : Lp (E_w_step_l148 ln f w x) z (k + 1) v (-1) = (w, v, x, -1) := by
  rw [Lp_s]
  simp only [E_w_step_l148, E_w_step_j272, E_w_step_j193, Lt]
  by_cases c : ln ≤ v
  · rw [if_pos c]
  · rw [if_neg c, if_pos trivial]
theorem st_tok {ln : Int32} {f : Nat → Int32} {L p : Nat} (hl : ln = nI L) (h4 : L ≤ 400) (hp : p ≤ L) : CT f L p (E_w_step_j46 ln f (nI p)) := by
  have eL : ln.toInt = (L : Int) := by rw [hl]; exact nI_toInt (by omega)
  have ep : (nI p).toInt = (p : Int) := nI_toInt (by omega)
  have z48 : (48 : Int32).toInt = 48 := rfl
  have z57 : (57 : Int32).toInt = 57 := rfl
  have z97 : (97 : Int32).toInt = 97 := rfl
  have z122 : (122 : Int32).toInt = 122 := rfl
  simp only [E_w_step_j46, E_w_step_j129, Lt]
  rw [inc_n (by omega), hl, min_n (by omega) (by omega), ← hl]
  by_cases c : ln ≤ nI p
  · have c2 := ie_iff.mp c
    rw [if_pos c, st_one, show min (p + 1) L = L by omega, show p = L by omega]
    exact Or.inl ⟨rfl, rfl⟩
  · have c2 : ¬ ln.toInt ≤ (nI p).toInt := fun q => c (ie_iff.mpr q)
    rw [if_neg c, cl_of ep, show (p : Int).toNat = p from rfl, show min (p + 1) L = p + 1 by omega]
    have e1 : (nI (p + 1)).toInt = ((p + 1 : Nat) : Int) := nI_toInt (by omega)
    by_cases b : f p < 48
    · have b2 := il_iff.mp b
      rw [if_pos b, if_pos (show f p < 97 from il_iff.mpr (by omega)), st_one]
      exact Or.inr (Or.inr (Or.inr ⟨by omega, fun q => by unfold lt_ at q; omega, fun q => by unfold dg_ at q; omega, rfl⟩))
    · have b2 : ¬ (f p).toInt < (48 : Int32).toInt := fun q => b (il_iff.mpr q)
      rw [if_neg b]
      by_cases b3 : 57 < f p
      · have b4 := il_iff.mp b3
        rw [if_pos b3]
        by_cases b5 : f p < 97
        · have b6 := il_iff.mp b5
          rw [if_pos b5, st_one]
          exact Or.inr (Or.inr (Or.inr ⟨by omega, fun q => by unfold lt_ at q; omega, fun q => by unfold dg_ at q; omega, rfl⟩))
        · have b6 : ¬ (f p).toInt < (97 : Int32).toInt := fun q => b5 (il_iff.mpr q)
          rw [if_neg b5]
          by_cases b7 : 122 < f p
          · have b8 := il_iff.mp b7
            rw [if_pos b7, st_one]
            exact Or.inr (Or.inr (Or.inr ⟨by omega, fun q => by unfold lt_ at q; omega, fun q => by unfold dg_ at q; omega, rfl⟩))
          · have b8 : ¬ (122 : Int32).toInt < (f p).toInt := fun q => b7 (il_iff.mpr q)
            rw [if_neg b7]
            generalize hN : (400 - (nI (p + 1)).toInt : Int).toNat + 1 = N
            rw [st_word hl h4 _ N (p + 1) (by omega) (by omega)]
            exact Or.inr (Or.inl ⟨by omega, ⟨by omega, by omega⟩, rfl⟩)
      · have b4 : ¬ (57 : Int32).toInt < (f p).toInt := fun q => b3 (il_iff.mpr q)
        rw [if_neg b3, if_pos (show f p < 97 from il_iff.mpr (by omega))]
        generalize hN : (400 - (nI (p + 1)).toInt : Int).toNat + 1 = N
        have hd0 : dg_ f p := ⟨by omega, by omega⟩
        have m0 : (f p - 48).toInt = (f p).toInt - 48 := i_sub (Eq.refl _) z48 (by omega)
        obtain ⟨m, q1, q2⟩ := st_num (x := f p) hl h4 (fun _ _ => ((0, 0, 0, 0) : Int32 × Int32 × Int32 × Int32)) N (p + 1) (f p - 48) (Nat.lt_succ_self p) (by omega) (by omega) (by
          rw [m0, show p + 1 - p = 0 + 1 by omega]
          show _ = min 1000000 (0 * 10 + (f (p + 0)).toInt - 48)
          rw [Nat.add_zero]; omega) (fun j h1 h2 => by rw [show j = p by omega]; exact hd0)
        exact Or.inr (Or.inr (Or.inl ⟨by omega, hd0, m, q1, q2⟩))
theorem step_at {ln fr to fi nu : Int32} {f : Nat → Int32} {L p : Nat} (hl : ln = nI L) (h4 : L ≤ 400) (ht : to = nI p) (hp : p ≤ L) : CT f L (skp f (L - p) p) (E_w_step ln fr to fi nu f) := by
  rw [E_w_step.eq_def, ht]
  have ep : (nI p).toInt = (p : Int) := nI_toInt (by omega)
  generalize hN : (400 - (nI p).toInt : Int).toNat + 1 = N
  rw [st_skip hl h4 _ N p hp (by omega)]
  have := skp_le (f := f) (L - p) p
  exact st_tok hl h4 (by omega)
/-! the reference's next -/
noncomputable def MT (f : Nat → Int32) (L p : Nat) (q : Int32 × Int32 × Int32 × Int64) : Prop :=
  (p = L ∧ q = (nI L, nI L, 0, 0)) ∨
  (p < L ∧ lt_ f p ∧ ∃ w : Int64, q = (nI p, nI (lx f (L - (p + 1)) (p + 1)), 1, w) ∧ w.toInt = hsh f p (lx f (L - (p + 1)) (p + 1) - p)) ∨
  (p < L ∧ dg_ f p ∧ ∃ w : Int64, q = (nI p, nI (dx f (L - (p + 1)) (p + 1)), 2, w) ∧ w.toInt = mn f p (dx f (L - (p + 1)) (p + 1) - p)) ∨
  (p < L ∧ ¬ lt_ f p ∧ ¬ dg_ f p ∧ ∃ w : Int64, q = (nI p, nI (p + 1), 3, w) ∧ w.toInt = (f p).toInt)
theorem small_p {f : Nat → Int32} {p : Nat} (h : lt_ f p) : E_v_isSmall (f p) = 1 := by
  unfold E_v_isSmall
  unfold lt_ at h
  have z97 : (97 : Int32).toInt = 97 := rfl
  have z122 : (122 : Int32).toInt = 122 := rfl
  rw [if_neg (fun q => by have := il_iff.mp q; omega), if_neg (fun q => by have := il_iff.mp q; omega)]
theorem small_n {f : Nat → Int32} {p : Nat} (h : ¬ lt_ f p) : E_v_isSmall (f p) = 0 := by
  unfold E_v_isSmall
  unfold lt_ at h
  have z97 : (97 : Int32).toInt = 97 := rfl
  have z122 : (122 : Int32).toInt = 122 := rfl
  by_cases c : f p < 97
  · rw [if_pos c]
  · have c2 : ¬ (f p).toInt < (97 : Int32).toInt := fun q => c (il_iff.mpr q)
    rw [if_neg c, if_pos (il_iff.mpr (by omega))]
theorem digit_p {f : Nat → Int32} {p : Nat} (h : dg_ f p) : E_v_isDigit (f p) = 1 := by
  unfold E_v_isDigit
  unfold dg_ at h
  have z48 : (48 : Int32).toInt = 48 := rfl
  have z57 : (57 : Int32).toInt = 57 := rfl
  rw [if_neg (fun q => by have := il_iff.mp q; omega), if_neg (fun q => by have := il_iff.mp q; omega)]
theorem digit_n {f : Nat → Int32} {p : Nat} (h : ¬ dg_ f p) : E_v_isDigit (f p) = 0 := by
  unfold E_v_isDigit
  unfold dg_ at h
  have z48 : (48 : Int32).toInt = 48 := rfl
  have z57 : (57 : Int32).toInt = 57 := rfl
  by_cases c : f p < 48
  · rw [if_pos c]
  · have c2 : ¬ (f p).toInt < (48 : Int32).toInt := fun q => c (il_iff.mpr q)
    rw [if_neg c, if_pos (il_iff.mpr (by omega))]
theorem wide_at {x : Int32} : x.toInt64.toInt = x.toInt := Int32.toInt_toInt64 x
theorem hsh_b {f : Nat → Int32} {p : Nat} : ∀ k, (∀ j, j < k → lt_ f (p + j)) → (k ≤ 10 → 0 ≤ hsh f p k ∧ hsh f p k < ((32 ^ k : Nat) : Int)) ∧ (10 < k → hsh f p k = -1) := by
  intro k
  induction k with
  | zero => intro _; exact ⟨fun _ => ⟨Int.le_refl _, by show (0 : Int) < 1; decide⟩, fun h => absurd h (by omega)⟩
  | succ k ih =>
    intro h
    have hl := h k (Nat.lt_succ_self k)
    unfold lt_ at hl
    obtain ⟨i1, i2⟩ := ih (fun j hj => h j (by omega))
    have e : hsh f p (k + 1) = if k < 10 then hsh f p k * 32 + (f (p + k)).toInt - 96 else -1 := rfl
    refine ⟨fun hk => ?_, fun hk => ?_⟩
    · have j1 := i1 (by omega)
      rw [e, if_pos (by omega), Nat.pow_succ]
      omega
    · rw [e, if_neg (by omega)]
theorem nx_word {ta : Int32} {f : Nat → Int32} {L p0 : Nat} (hl : ta = nI L) (h4 : L ≤ 400) (z : Int32 → Int64 → (Int32 × Int32 × Int32 × Int64)) : ∀ (k p : Nat) (w : Int64), p0 < p → p ≤ L → L - p < k → w.toInt = hsh f p0 (p - p0) → (∀ j, p0 ≤ j → j < p → lt_ f j) → ∃ m : Int64, Lp (E_v_next_l149 ta f (nI p0)) z k (nI p) w = (nI p0, nI (lx f (L - p) p), 1, m) ∧ m.toInt = hsh f p0 (lx f (L - p) p - p0) := by
  have eL : ta.toInt = (L : Int) := by rw [hl]; exact nI_toInt (by omega)
  intro k
  induction k with
  | zero => intro p w h0 hp hk; exact absurd hk (Nat.not_lt_zero _)
  | succ k ih =>
    intro p w h0 hp hk hw hd
    have ep : (nI p).toInt = (p : Int) := nI_toInt (by omega)
    have e0 : (nI p0).toInt = (p0 : Int) := nI_toInt (by omega)
    have hb := hsh_b (f := f) (p := p0) (p - p0) (fun j hj => hd (p0 + j) (by omega) (by omega))
    rw [Lp_s]
    simp only [E_v_next_l149, Lt]
    by_cases c : ta ≤ nI p
    · have c2 := ie_iff.mp c
      rw [if_pos c, show L - p = 0 by omega]
      exact ⟨w, rfl, hw⟩
    · have c2 : ¬ ta.toInt ≤ (nI p).toInt := fun q => c (ie_iff.mpr q)
      rw [if_neg c, cl_of ep, show (p : Int).toNat = p from rfl, show L - p = (L - (p + 1)) + 1 by omega]
      show ∃ m : Int64, _ = (nI p0, nI (if 97 ≤ (f p).toInt ∧ (f p).toInt ≤ 122 then lx f (L - (p + 1)) (p + 1) else p), 1, m) ∧ m.toInt = hsh f p0 ((if 97 ≤ (f p).toInt ∧ (f p).toInt ≤ 122 then lx f (L - (p + 1)) (p + 1) else p) - p0)
      by_cases b : lt_ f p
      · rw [small_p b, if_pos rfl, if_pos (show 97 ≤ (f p).toInt ∧ (f p).toInt ≤ 122 from b)]
        have b2 := b
        unfold lt_ at b2
        have sb : (nI p - nI p0).toInt = (p : Int) - p0 := i_sub ep e0 (by omega)
        have hd2 : ∀ j, p0 ≤ j → j < p + 1 → lt_ f j := fun j h1 h2 => by
          by_cases e : j = p
          · rw [e]; exact b
          · exact hd j h1 (by omega)
        have up : hsh f p0 (p + 1 - p0) = if p - p0 < 10 then hsh f p0 (p - p0) * 32 + (f p).toInt - 96 else -1 := by
          rw [show p + 1 - p0 = (p - p0) + 1 by omega]
          show (if p - p0 < 10 then hsh f p0 (p - p0) * 32 + (f (p0 + (p - p0))).toInt - 96 else -1) = _
          rw [show p0 + (p - p0) = p by omega]
        have z10 : (10 : Int32).toInt = 10 := rfl
        by_cases t : 10 ≤ nI p - nI p0
        · have t2 := ie_iff.mp t
          rw [if_pos t, inc_n (by omega)]
          exact ih (p + 1) _ (by omega) (by omega) (by omega) (by rw [up, if_neg (by omega)]; rfl) hd2
        · have t2 : ¬ (10 : Int32).toInt ≤ (nI p - nI p0).toInt := fun q => t (ie_iff.mpr q)
          rw [if_neg t, inc_n (by omega)]
          have hh := hb.1 (by omega)
          have hP : 32 ^ (p - p0) ≤ 32 ^ 10 := Nat.pow_le_pow_right (by decide) (by omega)
          have hQ : (32 ^ 10 : Nat) = 1125899906842624 := by decide
          have m1 : (w * 32).toInt = w.toInt * 32 := l_mul (Eq.refl _) (show (32 : Int64).toInt = 32 from rfl) (by omega)
          have m2 : (w * 32 + (f p).toInt64).toInt = w.toInt * 32 + (f p).toInt := l_add m1 wide_at (by omega)
          have m3 : (w * 32 + (f p).toInt64 - 96).toInt = w.toInt * 32 + (f p).toInt - 96 := l_sub m2 (show (96 : Int64).toInt = 96 from rfl) (by omega)
          exact ih (p + 1) _ (by omega) (by omega) (by omega) (by rw [up, if_pos (by omega), m3, hw]) hd2
      · rw [small_n b, if_neg (by decide), if_neg (show ¬ (97 ≤ (f p).toInt ∧ (f p).toInt ≤ 122) from b)]
        exact ⟨w, rfl, hw⟩
theorem nx_num {ta : Int32} {f : Nat → Int32} {L p0 : Nat} (hl : ta = nI L) (h4 : L ≤ 400) (z : Int32 → Int64 → (Int32 × Int32 × Int32 × Int64)) : ∀ (k p : Nat) (w : Int64), p0 < p → p ≤ L → L - p < k → w.toInt = mn f p0 (p - p0) → (∀ j, p0 ≤ j → j < p → dg_ f j) → ∃ m : Int64, Lp (E_v_next_l243 ta f (nI p0)) z k (nI p) w = (nI p0, nI (dx f (L - p) p), 2, m) ∧ m.toInt = mn f p0 (dx f (L - p) p - p0) := by
  have eL : ta.toInt = (L : Int) := by rw [hl]; exact nI_toInt (by omega)
  have zM : (1000000 : Int64).toInt = 1000000 := rfl
  intro k
  induction k with
  | zero => intro p w h0 hp hk; exact absurd hk (Nat.not_lt_zero _)
  | succ k ih =>
    intro p w h0 hp hk hw hd
    have ep : (nI p).toInt = (p : Int) := nI_toInt (by omega)
    have hb : 0 ≤ w.toInt ∧ w.toInt ≤ 10000010 := by
      rw [hw]
      rcases cn_mn (f := f) (p := p0) (p - p0) (fun j hj => hd (p0 + j) (by omega) (by omega)) with ⟨a, b, c⟩ | ⟨a, b, c⟩ <;> omega
    rw [Lp_s]
    simp only [E_v_next_l243, Lt]
    by_cases c : ta ≤ nI p
    · have c2 := ie_iff.mp c
      rw [if_pos c, show L - p = 0 by omega]
      exact ⟨w, rfl, hw⟩
    · have c2 : ¬ ta.toInt ≤ (nI p).toInt := fun q => c (ie_iff.mpr q)
      rw [if_neg c, cl_of ep, show (p : Int).toNat = p from rfl, show L - p = (L - (p + 1)) + 1 by omega]
      show ∃ m : Int64, _ = (nI p0, nI (if 48 ≤ (f p).toInt ∧ (f p).toInt ≤ 57 then dx f (L - (p + 1)) (p + 1) else p), 2, m) ∧ m.toInt = mn f p0 ((if 48 ≤ (f p).toInt ∧ (f p).toInt ≤ 57 then dx f (L - (p + 1)) (p + 1) else p) - p0)
      by_cases b : dg_ f p
      · rw [digit_p b, if_pos rfl, if_pos (show 48 ≤ (f p).toInt ∧ (f p).toInt ≤ 57 from b), inc_n (by omega)]
        have b2 := b
        unfold dg_ at b2
        have hd2 : ∀ j, p0 ≤ j → j < p + 1 → dg_ f j := fun j h1 h2 => by
          by_cases e : j = p
          · rw [e]; exact b
          · exact hd j h1 (by omega)
        have up : mn f p0 (p + 1 - p0) = if 1000000 < mn f p0 (p - p0) then mn f p0 (p - p0) else mn f p0 (p - p0) * 10 + (f p).toInt - 48 := by
          rw [show p + 1 - p0 = (p - p0) + 1 by omega]
          show (if 1000000 < mn f p0 (p - p0) then mn f p0 (p - p0) else mn f p0 (p - p0) * 10 + (f (p0 + (p - p0))).toInt - 48) = _
          rw [show p0 + (p - p0) = p by omega]
        by_cases t : lg_cmp w 1000000 ≤ 0
        · have t2 := je_iff.mp ((lg_cmp_le _ _).mp t)
          rw [if_pos t]
          have m1 : (w * 10).toInt = w.toInt * 10 := l_mul (Eq.refl _) (show (10 : Int64).toInt = 10 from rfl) (by omega)
          have m2 : (w * 10 + (f p).toInt64).toInt = w.toInt * 10 + (f p).toInt := l_add m1 wide_at (by omega)
          have m3 : (w * 10 + (f p).toInt64 - 48).toInt = w.toInt * 10 + (f p).toInt - 48 := l_sub m2 (show (48 : Int64).toInt = 48 from rfl) (by omega)
          exact ih (p + 1) _ (by omega) (by omega) (by omega) (by rw [up, if_neg (by omega), m3, hw]) hd2
        · have t2 : ¬ w.toInt ≤ (1000000 : Int64).toInt := fun q => t ((lg_cmp_le _ _).mpr (je_iff.mpr q))
          rw [if_neg t]
          exact ih (p + 1) _ (by omega) (by omega) (by omega) (by rw [up, if_pos (by omega), hw]) hd2
      · rw [digit_n b, if_neg (by decide), if_neg (show ¬ (48 ≤ (f p).toInt ∧ (f p).toInt ≤ 57) from b)]
        exact ⟨w, rfl, hw⟩
theorem nx_body {ta : Int32} {f : Nat → Int32} {L p : Nat} (hl : ta = nI L) (h4 : L ≤ 400) (hp : p < L) (h32 : f p ≠ 32) (rec : Int32 → (Int32 × Int32 × Int32 × Int64)) : MT f L p (E_v_next_l8 ta f rec (nI p)) := by
  have eL : ta.toInt = (L : Int) := by rw [hl]; exact nI_toInt (by omega)
  have ep : (nI p).toInt = (p : Int) := nI_toInt (by omega)
  have e1 : (nI (p + 1)).toInt = ((p + 1 : Nat) : Int) := nI_toInt (by omega)
  have c : ¬ ta ≤ nI p := fun q => by have := ie_iff.mp q; omega
  have c2 : ¬ nI p = ta := fun q => by have := congrArg Int32.toInt q; omega
  rw [E_v_next_l8.eq_def, if_neg c]
  simp only [Lt_b]
  rw [cl_of ep, show (p : Int).toNat = p from rfl, if_neg h32, if_neg c2, inc_n (by omega)]
  by_cases b : lt_ f p
  · rw [small_p b, if_pos rfl, if_neg c, if_pos rfl]
    have sb : (nI p - nI p).toInt = (p : Int) - p := i_sub ep ep (by omega)
    have z10 : (10 : Int32).toInt = 10 := rfl
    rw [if_neg (fun q => by have := ie_iff.mp q; omega)]
    generalize hN : (ta.toInt - (nI (p + 1)).toInt : Int).toNat + 1 = N
    have m2 : (0 + (f p).toInt64).toInt = 0 + (f p).toInt := l_add (show (0 : Int64).toInt = 0 from rfl) wide_at (by unfold lt_ at b; omega)
    have m3 : (0 + (f p).toInt64 - 96).toInt = 0 + (f p).toInt - 96 := l_sub m2 (show (96 : Int64).toInt = 96 from rfl) (by unfold lt_ at b; omega)
    obtain ⟨m, q1, q2⟩ := nx_word hl h4 (fun _ _ => ((0, 0, 0, 0) : Int32 × Int32 × Int32 × Int64)) N (p + 1) (0 + (f p).toInt64 - 96) (Nat.lt_succ_self p) (by omega) (by omega) (by
      rw [m3, show p + 1 - p = 0 + 1 by omega]
      show _ = (if 0 < 10 then (0 : Int) * 32 + (f (p + 0)).toInt - 96 else -1)
      rw [if_pos (by decide), Nat.add_zero]; omega) (fun j h1 h2 => by rw [show j = p by omega]; exact b)
    exact Or.inr (Or.inl ⟨hp, b, m, q1, q2⟩)
  · rw [small_n b, if_neg (by decide)]
    by_cases d : dg_ f p
    · rw [digit_p d, if_pos rfl, if_neg c, if_pos rfl]
      generalize hN : (ta.toInt - (nI (p + 1)).toInt : Int).toNat + 1 = N
      have m2 : (0 + (f p).toInt64).toInt = 0 + (f p).toInt := l_add (show (0 : Int64).toInt = 0 from rfl) wide_at (by unfold dg_ at d; omega)
      have m3 : (0 + (f p).toInt64 - 48).toInt = 0 + (f p).toInt - 48 := l_sub m2 (show (48 : Int64).toInt = 48 from rfl) (by unfold dg_ at d; omega)
      obtain ⟨m, q1, q2⟩ := nx_num hl h4 (fun _ _ => ((0, 0, 0, 0) : Int32 × Int32 × Int32 × Int64)) N (p + 1) (0 + (f p).toInt64 - 48) (Nat.lt_succ_self p) (by omega) (by omega) (by
        rw [m3, show p + 1 - p = 0 + 1 by omega]
        show _ = (if (1000000 : Int) < 0 then (0 : Int) else 0 * 10 + (f (p + 0)).toInt - 48)
        rw [if_neg (by decide), Nat.add_zero]; omega) (fun j h1 h2 => by rw [show j = p by omega]; exact d)
      exact Or.inr (Or.inr (Or.inl ⟨hp, d, m, q1, q2⟩))
    · rw [digit_n d, if_neg (by decide)]
      exact Or.inr (Or.inr (Or.inr ⟨hp, b, d, _, rfl, wide_at⟩))
theorem nx_skip {ta : Int32} {f : Nat → Int32} {L : Nat} (hl : ta = nI L) (h4 : L ≤ 400) (z : Int32 → (Int32 × Int32 × Int32 × Int64)) : ∀ (k p : Nat), p ≤ L → L - p < k → MT f L (skp f (L - p) p) (Lp (E_v_next_l8 ta f) z k (nI p)) := by
  have eL : ta.toInt = (L : Int) := by rw [hl]; exact nI_toInt (by omega)
  intro k
  induction k with
  | zero => intro p hp hk; exact absurd hk (Nat.not_lt_zero _)
  | succ k ih =>
    intro p hp hk
    have ep : (nI p).toInt = (p : Int) := nI_toInt (by omega)
    rw [Lp_s]
    by_cases c : p = L
    · rw [c, show L - L = 0 by omega]
      have e : E_v_next_l8 ta f (Lp (E_v_next_l8 ta f) z k) (nI L) = (nI L, nI L, 0, 0) := by
        rw [E_v_next_l8.eq_def, if_pos (show ta ≤ nI L from ie_iff.mpr (by rw [hl]; exact Int.le_refl _)), if_pos hl.symm]
      rw [e]
      exact Or.inl ⟨rfl, rfl⟩
    · have e : skp f (L - p) p = if f p = 32 then skp f (L - (p + 1)) (p + 1) else p := by
        rw [show L - p = (L - (p + 1)) + 1 by omega]; rfl
      rw [e]
      by_cases b : f p = 32
      · rw [if_pos b]
        have e2 : E_v_next_l8 ta f (Lp (E_v_next_l8 ta f) z k) (nI p) = Lp (E_v_next_l8 ta f) z k (nI (p + 1)) := by
          rw [E_v_next_l8.eq_def, if_neg (fun q => by have := ie_iff.mp q; omega), Lt_b, cl_of ep, show (p : Int).toNat = p from rfl, if_pos b, Lt_b, inc_n (by omega)]
        rw [e2]
        exact ih (p + 1) (by omega) (by omega)
      · rw [if_neg b]
        exact nx_body hl h4 (by omega) b _
theorem next_at {ta fr to so : Int32} {wo : Int64} {f : Nat → Int32} {L p : Nat} (hl : ta = nI L) (h4 : L ≤ 400) (ht : to = nI p) (hp : p ≤ L) : MT f L (skp f (L - p) p) (E_v_next ta fr to so wo f) := by
  rw [E_v_next.eq_def, ht]
  have eL : ta.toInt = (L : Int) := by rw [hl]; exact nI_toInt (by omega)
  have ep : (nI p).toInt = (p : Int) := nI_toInt (by omega)
  generalize hN : (ta.toInt - (nI p).toInt : Int).toNat + 1 = N
  exact nx_skip hl h4 _ N p hp (by omega)
/-! both sides hold the same token -/
theorem CT.same {f g : Nat → Int32} {L p : Nat} (h : ∀ j, j < L → f j = g j) {q : Int32 × Int32 × Int32 × Int32} : CT f L p q → CT f L p q := id
/-- tape bytes f, both tokens: where it begins and ends; and what each side knows of it -/
noncomputable def TkR (f : Nat → Int32) (L : Nat) (c : Int32 × Int32 × Int32 × Int32) (m : Int32 × Int32 × Int32 × Int64) : Prop := ∃ p, p ≤ L ∧ CT f L p c ∧ MT f L p m
/-! find: which word of a list a token is -/
theorem sl_at : ∀ k, k < 13 → E_w_slen k = nI (sn k) := by decide +kernel
theorem ch_at : ∀ k, k < 13 → ∀ i, i < 48 → E_w_char k (nI i) = sf k i := by decide +kernel
/-- a token of n bytes from p on is the word of m signs from i on -/
noncomputable def tokw (fb : Nat → Int32) (p n k i m : Nat) : Prop := n = m ∧ ∀ j, j < m → fb (p + j) = sf k (i + j)
theorem fd_end {k i : Nat} {tf tt : Int32} {fb : Nat → Int32} (hk : k < 13) (h : sn k < i) (hi : i ≤ 100) (z : Int32 → Int32 → Int32 → Int32) (F : Nat) (s pl : Int32) : Lp (E_w_find_l7 k tf tt fb) z (F + 1) (nI i) s pl = -1 := by
  have := sn_le k
  rw [Lp_s, E_w_find_l7.eq_def, Lt_b, sl_at k hk, if_pos ((kn_lt (by omega) (by omega)).mpr h)]
theorem fd_bound {k i : Nat} {tf tt s : Int32} {fb : Nat → Int32} (hk : k < 13) (hi : i ≤ sn k) (he : i = sn k ∨ sf k i = 32) (z : Int32 → Int32 → Int32 → Int32) (F pl : Nat) (hpl : pl ≤ 100) : Lp (E_w_find_l7 k tf tt fb) z (F + 1) (nI i) s (nI pl) = if s ≤ 0 then Lp (E_w_find_l7 k tf tt fb) z F (nI (i + 1)) 0 (nI (pl + 1)) else if tf + s = tt then nI pl else Lp (E_w_find_l7 k tf tt fb) z F (nI (i + 1)) 0 (nI (pl + 1)) := by
  have := sn_le k
  have j108 : ∀ rc : Int32 → Int32 → Int32 → Int32, E_w_find_j108 (nI i) (nI pl) rc = rc (nI (i + 1)) 0 (nI (pl + 1)) := fun rc => by
    rw [E_w_find_j108.eq_def, Lt_b, Lt_b, kn_po (by omega), kn_po (by omega)]
  rw [Lp_s, E_w_find_l7.eq_def, Lt_b, sl_at k hk, if_neg (fun q => by have := (kn_lt (by omega) (by omega)).mp q; omega), Lt_b]
  have fin : (if s ≤ 0 then E_w_find_j108 (nI i) (nI pl) (Lp (E_w_find_l7 k tf tt fb) z F) else Lt (tf + s) (fun x => if x = tt then nI pl else E_w_find_j108 (nI i) (nI pl) (Lp (E_w_find_l7 k tf tt fb) z F))) = if s ≤ 0 then Lp (E_w_find_l7 k tf tt fb) z F (nI (i + 1)) 0 (nI (pl + 1)) else if tf + s = tt then nI pl else Lp (E_w_find_l7 k tf tt fb) z F (nI (i + 1)) 0 (nI (pl + 1)) := by
    rw [j108, Lt_b]
  rcases he with he | he
  · rw [if_pos ((kn_le (by omega) (by omega)).mpr (by omega))]
    exact fin
  · by_cases c : nI (sn k) ≤ nI i
    · rw [if_pos c]
      exact fin
    · have c2 : ¬ sn k ≤ i := fun q => c ((kn_le (by omega) (by omega)).mpr q)
      rw [if_neg c, Lt_b, ch_at k hk i (by omega), if_pos he]
      exact fin
theorem fd_mis {k i m : Nat} {tf tt : Int32} {fb : Nat → Int32} (hk : k < 13) (hi : i + m ≤ sn k) (hc : ∀ j, j < m → sf k (i + j) ≠ 32) (he : i + m = sn k ∨ sf k (i + m) = 32) (z : Int32 → Int32 → Int32 → Int32) (F pl : Nat) (hpl : pl ≤ 100) : ∀ d j, j + d = m → Lp (E_w_find_l7 k tf tt fb) z (F + d + 1) (nI (i + j)) (-1) (nI pl) = Lp (E_w_find_l7 k tf tt fb) z F (nI (i + m + 1)) 0 (nI (pl + 1)) := by
  have := sn_le k
  intro d
  induction d with
  | zero =>
    intro j hj
    rw [Nat.add_zero, fd_bound hk (by omega) (by rw [show i + j = i + m by omega]; exact he) z F pl hpl, if_pos (by decide), show i + j = i + m by omega]
  | succ d ih =>
    intro j hj
    rw [show F + (d + 1) + 1 = (F + d + 1) + 1 by omega, Lp_s, E_w_find_l7.eq_def, Lt_b, sl_at k hk, if_neg (fun q => by have := (kn_lt (by omega) (by omega)).mp q; omega), Lt_b, if_neg (fun q => by have := (kn_le (by omega) (by omega)).mp q; omega), Lt_b, ch_at k hk _ (by omega), if_neg (hc j (by omega)), if_pos (by decide), E_w_find_j84.eq_def, Lt_b, kn_po (by omega)]
    exact ih (j + 1) (by omega)
theorem fd_mat {k i m p n : Nat} {fb : Nat → Int32} (hk : k < 13) (hm : 1 ≤ m) (hi : i + m ≤ sn k) (hc : ∀ j, j < m → sf k (i + j) ≠ 32) (he : i + m = sn k ∨ sf k (i + m) = 32) (hp : p + n ≤ 400) (z : Int32 → Int32 → Int32 → Int32) (F pl : Nat) (hpl : pl ≤ 100) : ∀ d j, j + d = m → j ≤ n → (∀ q, q < j → fb (p + q) = sf k (i + q)) → (tokw fb p n k i m → Lp (E_w_find_l7 k (nI p) (nI (p + n)) fb) z (F + d + 1) (nI (i + j)) (nI j) (nI pl) = nI pl) ∧ (¬ tokw fb p n k i m → Lp (E_w_find_l7 k (nI p) (nI (p + n)) fb) z (F + d + 1) (nI (i + j)) (nI j) (nI pl) = Lp (E_w_find_l7 k (nI p) (nI (p + n)) fb) z F (nI (i + m + 1)) 0 (nI (pl + 1))) := by
  have := sn_le k
  intro d
  induction d with
  | zero =>
    intro j hj hn hq
    have e := fd_bound (s := nI j) (tf := nI p) (tt := nI (p + n)) (fb := fb) hk (show i + j ≤ sn k by omega) (by rw [show i + j = i + m by omega]; exact he) z F pl hpl
    rw [if_neg (kn_ngel (j := 0) rfl (by omega) (by omega)), show nI p + nI j = nI (p + j) from Int32.toInt_inj.mp (by rw [i_add (nI_toInt (by omega)) (nI_toInt (by omega)) (by omega), nI_toInt (by omega)]; omega)] at e
    rw [Nat.add_zero, e, show i + j = i + m by omega]
    refine ⟨fun t => ?_, fun t => ?_⟩
    · have t1 := t.1
      rw [if_pos (by rw [show p + j = p + n by omega])]
    · rw [if_neg (fun h => t ⟨by have := (kn_eq (by omega) (by omega)).mp h; omega, fun q h2 => hq q (by omega)⟩)]
  | succ d ih =>
    intro j hj hn hq
    have ea : nI p + nI j = nI (p + j) := Int32.toInt_inj.mp (by rw [i_add (nI_toInt (by omega)) (nI_toInt (by omega)) (by omega), nI_toInt (by omega)]; omega)
    have j84 : ∀ rc : Int32 → Int32 → Int32 → Int32, E_w_find_j84 (nI (i + j)) (nI pl) rc = rc (nI (i + j + 1)) (-1) (nI pl) := fun rc => by
      rw [E_w_find_j84.eq_def, Lt_b, kn_po (by omega)]
    rw [show F + (d + 1) + 1 = (F + d + 1) + 1 by omega, Lp_s, E_w_find_l7.eq_def, Lt_b, sl_at k hk, if_neg (fun q => by have := (kn_lt (by omega) (by omega)).mp q; omega), Lt_b, if_neg (fun q => by have := (kn_le (by omega) (by omega)).mp q; omega), Lt_b, ch_at k hk _ (by omega), if_neg (hc j (by omega)), if_neg (kn_nl (by omega)), Lt_b, ea, j84, Lt_b, Lt_b, kn_cl (a := p + j) (by omega), Lt_b, Lt_b, kn_po (a := i + j) (by omega), kn_p1 (a := j) (by omega)]
    have mis := fd_mis (tf := nI p) (tt := nI (p + n)) (fb := fb) hk hi hc he z F pl hpl d (j + 1) (by omega)
    by_cases c : nI (p + n) ≤ nI (p + j)
    · have c2 := (kn_le (by omega) (by omega)).mp c
      rw [if_pos c]
      exact ⟨fun t => by have := t.1; omega, fun _ => mis⟩
    · have c2 : ¬ p + n ≤ p + j := fun q => c ((kn_le (by omega) (by omega)).mpr q)
      rw [if_neg c]
      by_cases b : fb (p + j) = sf k (i + j)
      · rw [if_pos b]
        exact ih (j + 1) (by omega) (by omega) (fun q h => by
          by_cases e : q = j
          · rw [e]; exact b
          · exact hq q (by omega))
      · rw [if_neg b]
        exact ⟨fun t => absurd (t.2 j (by omega)) b, fun _ => mis⟩
/-- the words of a list: where they begin, how long they are -/
noncomputable def kwo (k j : Nat) : Nat := (match k with
  | 0 => [0, 6, 13, 19, 24]
  | 1 => [0, 6, 11, 15, 20]
  | 2 => [0, 3]
  | 3 => [0, 6]
  | 4 => [0, 3]
  | 5 => [0, 4]
  | 6 => [0, 3]
  | 7 => [0, 4]
  | 11 => [0, 6, 11, 18, 23, 28, 33, 37, 42, 48]
  | _ => [0, 5, 9, 15, 20, 24, 29, 34, 41] : List Nat).getD j 0
noncomputable def kwn (k : Nat) : Nat := match k with
  | 0 => 4
  | 1 => 4
  | 2 => 1
  | 3 => 1
  | 4 => 1
  | 5 => 1
  | 6 => 1
  | 7 => 1
  | 11 => 9
  | _ => 8
noncomputable def kwk (k : Nat) : Prop := k ≤ 7 ∨ k = 11 ∨ k = 12
noncomputable def kwl (k j : Nat) : Nat := kwo k (j + 1) - kwo k j - 1
theorem kw_a : ∀ k, k < 13 → (k ≤ 7 ∨ k = 11 ∨ k = 12) → kwo k 0 = 0 ∧ kwo k (kwn k) = sn k + 1 := by decide +kernel
theorem all_rng {n : Nat} {P : Nat → Bool} (h : (List.range n).all P = true) {k : Nat} (hk : k < n) : P k = true := List.all_eq_true.mp h k (List.mem_range.mpr hk)
noncomputable abbrev kwB (k j : Nat) : Prop := 1 ≤ kwl k j ∧ kwo k j + kwl k j + 1 = kwo k (j + 1) ∧ kwo k j + kwl k j ≤ sn k ∧ (kwo k j + kwl k j = sn k ∨ sf k (kwo k j + kwl k j) = 32) ∧ kwl k j ≤ 10
noncomputable abbrev kwC (k j i : Nat) : Prop := sf k (kwo k j + i) ≠ 32 ∧ 97 ≤ (sf k (kwo k j + i)).toInt ∧ (sf k (kwo k j + i)).toInt ≤ 122
theorem kw_b0 : (List.range 13).all (fun k => !(decide (k ≤ 7 ∨ k = 11 ∨ k = 12)) || (List.range (kwn k)).all (fun j => decide (1 ≤ kwl k j ∧ kwo k j + kwl k j + 1 = kwo k (j + 1) ∧ kwo k j + kwl k j ≤ sn k ∧ (kwo k j + kwl k j = sn k ∨ sf k (kwo k j + kwl k j) = 32) ∧ kwl k j ≤ 10))) = true := by decide +kernel
theorem kw_c0 : (List.range 13).all (fun k => !(decide (k ≤ 7 ∨ k = 11 ∨ k = 12)) || (List.range (kwn k)).all (fun j => (List.range (kwl k j)).all (fun i => decide (sf k (kwo k j + i) ≠ 32 ∧ 97 ≤ (sf k (kwo k j + i)).toInt ∧ (sf k (kwo k j + i)).toInt ≤ 122)))) = true := by decide +kernel
theorem or_rng {a : Prop} {h : Decidable a} {b : Bool} (ha : a) (h2 : (!(decide a) || b) = true) : b = true := by
  rw [decide_eq_true ha] at h2
  exact h2
theorem kw_b (k : Nat) (hk : k < 13) (j : Nat) (hj : j < kwn k) (h : k ≤ 7 ∨ k = 11 ∨ k = 12) : kwB k j := of_decide_eq_true (all_rng (or_rng h (all_rng kw_b0 hk)) hj)
theorem kw_c (k : Nat) (hk : k < 13) (j : Nat) (hj : j < kwn k) (i : Nat) (hi : i < kwl k j) (h : k ≤ 7 ∨ k = 11 ∨ k = 12) : kwC k j i := of_decide_eq_true (all_rng (all_rng (or_rng h (all_rng kw_c0 hk)) hj) hi)
theorem kw_ok : ∀ k, k < 13 → (k ≤ 7 ∨ k = 11 ∨ k = 12) → kwo k 0 = 0 ∧ kwo k (kwn k) = sn k + 1 ∧ ∀ j, j < kwn k → 1 ≤ kwl k j ∧ kwo k j + kwl k j + 1 = kwo k (j + 1) ∧ kwo k j + kwl k j ≤ sn k ∧ (∀ i, i < kwl k j → sf k (kwo k j + i) ≠ 32 ∧ 97 ≤ (sf k (kwo k j + i)).toInt ∧ (sf k (kwo k j + i)).toInt ≤ 122) ∧ (kwo k j + kwl k j = sn k ∨ sf k (kwo k j + kwl k j) = 32) ∧ kwl k j ≤ 10 := fun k hk hk2 =>
  ⟨(kw_a k hk hk2).1, (kw_a k hk hk2).2, fun j hj => ⟨(kw_b k hk j hj hk2).1, (kw_b k hk j hj hk2).2.1, (kw_b k hk j hj hk2).2.2.1, fun i hi => kw_c k hk j hj i hi hk2, (kw_b k hk j hj hk2).2.2.2.1, (kw_b k hk j hj hk2).2.2.2.2⟩⟩
theorem fd_all {k p n : Nat} {fb : Nat → Int32} (hk : k < 13) (hk2 : k ≤ 7 ∨ k = 11 ∨ k = 12) (hp : p + n ≤ 400) (z : Int32 → Int32 → Int32 → Int32) : ∀ d j F, j + d = kwn k → sn k + 2 ≤ F + kwo k j →
    (∃ i, j ≤ i ∧ i < kwn k ∧ tokw fb p n k (kwo k i) (kwl k i) ∧ Lp (E_w_find_l7 k (nI p) (nI (p + n)) fb) z F (nI (kwo k j)) 0 (nI j) = nI i) ∨ ((∀ i, j ≤ i → i < kwn k → ¬ tokw fb p n k (kwo k i) (kwl k i)) ∧ Lp (E_w_find_l7 k (nI p) (nI (p + n)) fb) z F (nI (kwo k j)) 0 (nI j) = -1) := by
  obtain ⟨w0, w1, w2⟩ := kw_ok k hk hk2
  have hs := sn_le k
  have hkn : kwn k ≤ 9 := by
    rcases hk2 with h | h | h
    · rcases (show k = 0 ∨ k = 1 ∨ k = 2 ∨ k = 3 ∨ k = 4 ∨ k = 5 ∨ k = 6 ∨ k = 7 by omega) with rfl | rfl | rfl | rfl | rfl | rfl | rfl | rfl <;> decide
    · rw [h]; decide
    · rw [h]; decide
  intro d
  induction d with
  | zero =>
    intro j F hj hF
    refine Or.inr ⟨fun i h1 h2 => by omega, ?_⟩
    rw [show j = kwn k by omega, w1]
    rw [show j = kwn k by omega, w1] at hF
    rw [show F = (F - 1) + 1 by omega]
    exact fd_end hk (by omega) (by omega) z _ _ _
  | succ d ih =>
    intro j F hj hF
    obtain ⟨a1, a2, a3, a4, a5, a6⟩ := w2 j (by omega)
    have m := fd_mat (fb := fb) (p := p) (n := n) hk a1 a3 (fun i hi => (a4 i hi).1) a5 hp z (F - kwl k j - 1) j (by omega) (kwl k j) 0 (by omega) (by omega) (fun q h => absurd h (Nat.not_lt_zero _))
    rw [show F - kwl k j - 1 + kwl k j + 1 = F by omega, Nat.add_zero, show nI 0 = 0 from rfl] at m
    by_cases t : tokw fb p n k (kwo k j) (kwl k j)
    · exact Or.inl ⟨j, Nat.le_refl _, by omega, t, m.1 t⟩
    · have e := m.2 t
      rw [a2] at e
      rcases ih (j + 1) (F - kwl k j - 1) (by omega) (by omega) with ⟨i, i1, i2, i3, i4⟩ | ⟨i1, i2⟩
      · exact Or.inl ⟨i, by omega, i2, i3, e.trans i4⟩
      · refine Or.inr ⟨fun i h1 h2 => ?_, e.trans i2⟩
        by_cases q : i = j
        · rw [q]; exact t
        · exact i1 i (by omega) h2
/-! a word's worth tells it -/
theorem hsh_ext {f g : Nat → Int32} {p q : Nat} : ∀ n, (∀ j, j < n → f (p + j) = g (q + j)) → hsh f p n = hsh g q n := by
  intro n
  induction n with
  | zero => intro _; rfl
  | succ n ih =>
    intro h
    show (if n < 10 then hsh f p n * 32 + (f (p + n)).toInt - 96 else -1) = (if n < 10 then hsh g q n * 32 + (g (q + n)).toInt - 96 else -1)
    rw [ih (fun j hj => h j (by omega)), h n (by omega)]
theorem hsh_inj {f g : Nat → Int32} {p q : Nat} : ∀ n m, n ≤ 10 → m ≤ 10 → (∀ j, j < n → lt_ f (p + j)) → (∀ j, j < m → lt_ g (q + j)) → hsh f p n = hsh g q m → n = m ∧ ∀ j, j < m → f (p + j) = g (q + j) := by
  intro n
  induction n with
  | zero =>
    intro m _ hm _ hg h
    cases m with
    | zero => exact ⟨rfl, fun j hj => absurd hj (Nat.not_lt_zero _)⟩
    | succ m =>
      have b := (hsh_b (f := g) (p := q) m (fun j hj => hg j (by omega))).1 (by omega)
      have l := hg m (by omega)
      unfold lt_ at l
      have e : (0 : Int) = if m < 10 then hsh g q m * 32 + (g (q + m)).toInt - 96 else -1 := h
      rw [if_pos (by omega)] at e
      omega
  | succ n ih =>
    intro m hn hm hf hg h
    have bn := (hsh_b (f := f) (p := p) n (fun j hj => hf j (by omega))).1 (by omega)
    have lf := hf n (by omega)
    unfold lt_ at lf
    have e : hsh f p n * 32 + (f (p + n)).toInt - 96 = hsh g q m := by
      have e1 : (if n < 10 then hsh f p n * 32 + (f (p + n)).toInt - 96 else -1) = hsh g q m := h
      rw [if_pos (by omega)] at e1; exact e1
    cases m with
    | zero =>
      have e2 : hsh f p n * 32 + (f (p + n)).toInt - 96 = 0 := e
      omega
    | succ m =>
      have bm := (hsh_b (f := g) (p := q) m (fun j hj => hg j (by omega))).1 (by omega)
      have lg := hg m (by omega)
      unfold lt_ at lg
      have e2 : hsh f p n * 32 + (f (p + n)).toInt - 96 = hsh g q m * 32 + (g (q + m)).toInt - 96 := by
        have e3 : hsh f p n * 32 + (f (p + n)).toInt - 96 = if m < 10 then hsh g q m * 32 + (g (q + m)).toInt - 96 else -1 := e
        rw [if_pos (by omega)] at e3; exact e3
      have key : hsh f p n = hsh g q m := by omega
      have kd : (f (p + n)).toInt = (g (q + m)).toInt := by omega
      obtain ⟨i1, i2⟩ := ih m (by omega) (by omega) (fun j hj => hf j (by omega)) (fun j hj => hg j (by omega)) key
      refine ⟨by omega, fun j hj => ?_⟩
      by_cases c : j = m
      · have k2 := Int32.toInt_inj.mp kd
        rw [i1] at k2
        rw [c]; exact k2
      · exact i2 j (by omega)
/-- a token of letters is a word of a list exactly if it is worth as much -/
theorem tokw_hsh {fb : Nat → Int32} {p n k i m : Nat} (hl : ∀ j, j < n → lt_ fb (p + j)) (hw : ∀ j, j < m → lt_ (sf k) (i + j)) (hm : m ≤ 10) : tokw fb p n k i m ↔ hsh fb p n = hsh (sf k) i m := by
  refine ⟨fun ⟨h1, h2⟩ => ?_, fun h => ?_⟩
  · rw [h1]; exact hsh_ext m h2
  · by_cases c : n ≤ 10
    · obtain ⟨q1, q2⟩ := hsh_inj n m c hm hl hw h
      exact ⟨q1, q2⟩
    · have b1 := (hsh_b (f := fb) (p := p) n hl).2 (by omega)
      have b2 := (hsh_b (f := sf k) (p := i) m hw).1 hm
      omega
/-! the same token on both sides -/
theorem skp_ext {f g : Nat → Int32} {L : Nat} (h : ∀ j, j < L → f j = g j) : ∀ k v, v + k ≤ L → skp f k v = skp g k v := by
  intro k
  induction k with
  | zero => intro v _; rfl
  | succ k ih =>
    intro v hv
    show (if f v = 32 then skp f k (v + 1) else v) = (if g v = 32 then skp g k (v + 1) else v)
    rw [h v (by omega), ih (v + 1) (by omega)]
theorem lx_ext {f g : Nat → Int32} {L : Nat} (h : ∀ j, j < L → f j = g j) : ∀ k v, v + k ≤ L → lx f k v = lx g k v := by
  intro k
  induction k with
  | zero => intro v _; rfl
  | succ k ih =>
    intro v hv
    show (if 97 ≤ (f v).toInt ∧ (f v).toInt ≤ 122 then lx f k (v + 1) else v) = (if 97 ≤ (g v).toInt ∧ (g v).toInt ≤ 122 then lx g k (v + 1) else v)
    rw [h v (by omega), ih (v + 1) (by omega)]
theorem dx_ext {f g : Nat → Int32} {L : Nat} (h : ∀ j, j < L → f j = g j) : ∀ k v, v + k ≤ L → dx f k v = dx g k v := by
  intro k
  induction k with
  | zero => intro v _; rfl
  | succ k ih =>
    intro v hv
    show (if 48 ≤ (f v).toInt ∧ (f v).toInt ≤ 57 then dx f k (v + 1) else v) = (if 48 ≤ (g v).toInt ∧ (g v).toInt ≤ 57 then dx g k (v + 1) else v)
    rw [h v (by omega), ih (v + 1) (by omega)]
theorem mn_ext {f g : Nat → Int32} {p : Nat} : ∀ n, (∀ j, j < n → f (p + j) = g (p + j)) → mn f p n = mn g p n := by
  intro n
  induction n with
  | zero => intro _; rfl
  | succ n ih =>
    intro h
    show (if 1000000 < mn f p n then mn f p n else mn f p n * 10 + (f (p + n)).toInt - 48) = (if 1000000 < mn g p n then mn g p n else mn g p n * 10 + (g (p + n)).toInt - 48)
    rw [ih (fun j hj => h j (by omega)), h n (by omega)]
theorem lx_all {f : Nat → Int32} : ∀ k v j, v ≤ j → j < lx f k v → lt_ f j := by
  intro k
  induction k with
  | zero => intro v j h1 h2; exact absurd h2 (Nat.not_lt.mpr h1)
  | succ k ih =>
    intro v j h1 h2
    have e : lx f (k + 1) v = if 97 ≤ (f v).toInt ∧ (f v).toInt ≤ 122 then lx f k (v + 1) else v := rfl
    rw [e] at h2
    by_cases c : 97 ≤ (f v).toInt ∧ (f v).toInt ≤ 122
    · rw [if_pos c] at h2
      by_cases d : j = v
      · rw [d]; exact c
      · exact ih (v + 1) j (by omega) h2
    · rw [if_neg c] at h2; omega
theorem dx_all {f : Nat → Int32} : ∀ k v j, v ≤ j → j < dx f k v → dg_ f j := by
  intro k
  induction k with
  | zero => intro v j h1 h2; exact absurd h2 (Nat.not_lt.mpr h1)
  | succ k ih =>
    intro v j h1 h2
    have e : dx f (k + 1) v = if 48 ≤ (f v).toInt ∧ (f v).toInt ≤ 57 then dx f k (v + 1) else v := rfl
    rw [e] at h2
    by_cases c : 48 ≤ (f v).toInt ∧ (f v).toInt ≤ 57
    · rw [if_pos c] at h2
      by_cases d : j = v
      · rw [d]; exact c
      · exact ih (v + 1) j (by omega) h2
    · rw [if_neg c] at h2; omega
theorem MT.same {f g : Nat → Int32} {L p : Nat} (h : ∀ j, j < L → f j = g j) {q : Int32 × Int32 × Int32 × Int64} (hm : MT f L p q) : MT g L p q := by
  have lt : ∀ j, j < L → (lt_ f j ↔ lt_ g j) := fun j hj => by unfold lt_; rw [h j hj]
  have dg : ∀ j, j < L → (dg_ f j ↔ dg_ g j) := fun j hj => by unfold dg_; rw [h j hj]
  rcases hm with ⟨a, b⟩ | ⟨a, b, w, c, d⟩ | ⟨a, b, w, c, d⟩ | ⟨a, b, b2, w, c, d⟩
  · exact Or.inl ⟨a, b⟩
  · have e := lx_ext h (L - (p + 1)) (p + 1) (by omega)
    have le := lx_le (f := g) (L - (p + 1)) (p + 1)
    refine Or.inr (Or.inl ⟨a, (lt p a).mp b, w, by rw [← e]; exact c, ?_⟩)
    rw [← e, d]
    rw [← e] at le
    exact hsh_ext _ (fun j hj => h _ (by omega))
  · have e := dx_ext h (L - (p + 1)) (p + 1) (by omega)
    have le := dx_le (f := g) (L - (p + 1)) (p + 1)
    refine Or.inr (Or.inr (Or.inl ⟨a, (dg p a).mp b, w, by rw [← e]; exact c, ?_⟩))
    rw [← e, d]
    rw [← e] at le
    exact mn_ext _ (fun j hj => h _ (by omega))
  · exact Or.inr (Or.inr (Or.inr ⟨a, fun q => b ((lt p a).mpr q), fun q => b2 ((dg p a).mpr q), w, c, by rw [d, h p a]⟩))
/-- the token at p: what both sides hold of it -/
noncomputable def TkP (f : Nat → Int32) (L p : Nat) (c : Int32 × Int32 × Int32 × Int32) (m : Int32 × Int32 × Int32 × Int64) : Prop := p ≤ L ∧ L ≤ 400 ∧ (∀ j, j < L → 0 ≤ (f j).toInt) ∧ CT f L p c ∧ MT f L p m
theorem TkP.froms {f : Nat → Int32} {L p : Nat} {tf tt ti tu fr to so : Int32} {wo : Int64} (h : TkP f L p (tf, tt, ti, tu) (fr, to, so, wo)) : tf = nI p ∧ fr = nI p ∧ ∃ e, tt = nI e ∧ to = nI e ∧ p ≤ e ∧ e ≤ L ∧ (p < L → p < e) := by
  obtain ⟨h1, h2, h3, hc, hm⟩ := h
  unfold CT at hc
  unfold MT at hm
  rcases hc with ⟨a, b⟩ | ⟨a, b, c⟩ | ⟨a, b, m, c, d⟩ | ⟨a, b, b2, c⟩
  · rcases hm with ⟨a', b'⟩ | ⟨a', b', w, c', d'⟩ | ⟨a', b', w, c', d'⟩ | ⟨a', b', b2', w, c', d'⟩
    · simp only [Prod.mk.injEq] at b b'
      exact ⟨b.1.trans (by rw [a]), b'.1.trans (by rw [a]), L, b.2.1, b'.2.1, h1, Nat.le_refl _, fun q => by omega⟩
    · omega
    · omega
    · omega
  · have le := lx_le (f := f) (L - (p + 1)) (p + 1)
    rcases hm with ⟨a', b'⟩ | ⟨a', b', w, c', d'⟩ | ⟨a', b', w, c', d'⟩ | ⟨a', b', b2', w, c', d'⟩
    · omega
    · simp only [Prod.mk.injEq] at c c'
      exact ⟨c.1, c'.1, _, c.2.1, c'.2.1, by omega, by omega, fun _ => by omega⟩
    · unfold lt_ at b; unfold dg_ at b'; omega
    · exact absurd b b'
  · have le := dx_le (f := f) (L - (p + 1)) (p + 1)
    rcases hm with ⟨a', b'⟩ | ⟨a', b', w, c', d'⟩ | ⟨a', b', w, c', d'⟩ | ⟨a', b', b2', w, c', d'⟩
    · omega
    · unfold lt_ at b'; unfold dg_ at b; omega
    · simp only [Prod.mk.injEq] at c c'
      exact ⟨c.1, c'.1, _, c.2.1, c'.2.1, by omega, by omega, fun _ => by omega⟩
    · exact absurd b b2'
  · rcases hm with ⟨a', b'⟩ | ⟨a', b', w, c', d'⟩ | ⟨a', b', w, c', d'⟩ | ⟨a', b', b2', w, c', d'⟩
    · omega
    · exact absurd b' b
    · exact absurd b' b2
    · simp only [Prod.mk.injEq] at c c'
      exact ⟨c.1, c'.1, p + 1, c.2.1, c'.2.1, by omega, by omega, fun _ => by omega⟩
/-- both go on to the next token -/
theorem TkP.next {f g : Nat → Int32} {L p : Nat} {tf tt ti tu fr to so : Int32} {wo : Int64} (h : TkP f L p (tf, tt, ti, tu) (fr, to, so, wo)) (hg : ∀ j, j < L → f j = g j) {a b c d a' b' c' : Int32} {d' : Int64} {fr2 fi2 nu2 fr3 so3 : Int32} {wo3 : Int64} (e1 : (a, b, c, d) = E_w_step (nI L) fr2 tt fi2 nu2 f) (e2 : (a', b', c', d') = E_v_next (nI L) fr3 to so3 wo3 g) : ∃ q, p ≤ q ∧ (p < L → p < q) ∧ TkP f L q (a, b, c, d) (a', b', c', d') := by
  obtain ⟨_, _, e, h1, h2, h3, h4, h5⟩ := h.froms
  obtain ⟨k1, k2, k3, _, _⟩ := h
  have s1 := step_at (ln := nI L) (fr := fr2) (fi := fi2) (nu := nu2) (f := f) rfl k2 h1 h4
  have s2 := next_at (ta := nI L) (fr := fr3) (so := so3) (wo := wo3) (f := g) rfl k2 h2 h4
  rw [← e1] at s1
  rw [← e2, ← skp_ext hg (L - e) e (by omega)] at s2
  have le := skp_le (f := f) (L - e) e
  exact ⟨_, by omega, fun q => by have := h5 q; omega, by omega, k2, k3, s1, s2.same (fun j hj => (hg j hj).symm)⟩
end
section
/-! what both sides find a token to be -/
/-- what a word of a list is worth -/
noncomputable def kwh (k j : Nat) : Int := hsh (sf k) (kwo k j) (kwl k j)
theorem kwh_i0 : (List.range 13).all (fun k => !(decide (k ≤ 7 ∨ k = 11 ∨ k = 12)) || (List.range (kwn k)).all (fun i => (List.range (kwn k)).all (fun j => decide (kwh k i = kwh k j → i = j)))) = true := by decide +kernel
theorem kwh_inj (k : Nat) (hk : k < 13) (h : k ≤ 7 ∨ k = 11 ∨ k = 12) (i : Nat) (hi : i < kwn k) (j : Nat) (hj : j < kwn k) : kwh k i = kwh k j → i = j := of_decide_eq_true (all_rng (all_rng (or_rng h (all_rng kwh_i0 hk)) hi) hj)
theorem tk_find {f : Nat → Int32} {L p k : Nat} {tf tt ti tu fr to so : Int32} {wo : Int64} (hk : k < 13) (hk2 : k ≤ 7 ∨ k = 11 ∨ k = 12) (h : TkP f L p (tf, tt, ti, tu) (fr, to, so, wo)) (ln : Int32) :
    (∃ i, i < kwn k ∧ p < L ∧ E_w_find k ln tf tt ti tu f = nI i ∧ ∀ j, j < kwn k → ((so = 1 ∧ wo.toInt = kwh k j) ↔ j = i)) ∨ (E_w_find k ln tf tt ti tu f = -1 ∧ ∀ j, j < kwn k → ¬ (so = 1 ∧ wo.toInt = kwh k j)) := by
  obtain ⟨e1, e2, e, e3, e4, e5, e6, e7⟩ := h.froms
  obtain ⟨w0, w1, w2⟩ := kw_ok k hk hk2
  have hs := sn_le k
  have fd := fd_all (p := p) (n := e - p) (fb := f) hk hk2 (by have := h.2.1; omega) (fun _ _ _ => ((0) : Int32)) (kwn k) 0 50 (by omega) (by omega)
  rw [show p + (e - p) = e by omega, w0, show nI 0 = 0 from rfl] at fd
  have ef : E_w_find k ln tf tt ti tu f = Lp (α := Int32 → Int32 → Int32 → (Int32)) (E_w_find_l7 k (nI p) (nI e) f) (fun _ _ _ => ((0) : Int32)) 50 0 0 0 := by
    rw [E_w_find.eq_def, e1, e3]; rfl
  rw [ef]
  -- a token of letters
  have key : ∀ j, j < kwn k → ((so = 1 ∧ wo.toInt = kwh k j) ↔ tokw f p (e - p) k (kwo k j) (kwl k j)) := by
    intro j hj
    obtain ⟨a1, a2, a3, a4, a5, a6⟩ := w2 j hj
    obtain ⟨k1, k2, k3, hc, hm⟩ := h
    have lw : ∀ i, i < kwl k j → lt_ (sf k) (kwo k j + i) := fun i hi => (a4 i hi).2
    have z1 : ∀ {x : Int32}, x = 1 → x.toInt = 1 := fun h => by rw [h]; rfl
    rcases hm with ⟨a, b⟩ | ⟨a, b, w, c, d⟩ | ⟨a, b, w, c, d⟩ | ⟨a, b, b2, w, c, d⟩
    · simp only [Prod.mk.injEq] at b
      refine ⟨fun q => ?_, fun q => ?_⟩
      · have := z1 q.1; rw [b.2.2.1] at this; exact absurd this (by decide)
      · have := q.1; omega
    · simp only [Prod.mk.injEq] at c
      obtain ⟨c1, c2, c3, c4⟩ := c
      have le := lx_le (f := f) (L - (p + 1)) (p + 1)
      have ee : e = lx f (L - (p + 1)) (p + 1) := by
        have q := e4.symm.trans c2
        exact (kn_eq (by omega) (by omega)).mp q
      have lt : ∀ i, i < e - p → lt_ f (p + i) := fun i hi => by
        by_cases c0 : i = 0
        · rw [c0]; exact b
        · exact lx_all (L - (p + 1)) (p + 1) (p + i) (by omega) (by rw [← ee]; omega)
      rw [tokw_hsh lt lw a6, c3, c4, d, ← ee]
      exact ⟨fun q => q.2, fun q => ⟨rfl, q⟩⟩
    · simp only [Prod.mk.injEq] at c
      refine ⟨fun q => ?_, fun q => ?_⟩
      · have := z1 q.1; rw [c.2.2.1] at this; exact absurd this (by decide)
      · have q0 := q.2 0 (by omega)
        have l0 := lw 0 (by omega)
        unfold lt_ at l0
        unfold dg_ at b
        rw [← q0, Nat.add_zero] at l0
        omega
    · simp only [Prod.mk.injEq] at c
      refine ⟨fun q => ?_, fun q => ?_⟩
      · have := z1 q.1; rw [c.2.2.1] at this; exact absurd this (by decide)
      · have q0 := q.2 0 (by omega)
        have l0 := lw 0 (by omega)
        unfold lt_ at l0
        unfold lt_ at b
        rw [← q0, Nat.add_zero] at l0
        omega
  rcases fd with ⟨i, _, i2, i3, i4⟩ | ⟨i1, i2⟩
  · have ki := (key i i2).mpr i3
    refine Or.inl ⟨i, i2, ?_, i4, fun j hj => ⟨fun q => ?_, fun q => by rw [q]; exact ki⟩⟩
    · have a1 := (w2 i i2).1
      have := i3.1
      omega
    · exact kwh_inj k hk hk2 j hj i i2 (q.2.symm.trans ki.2)
  · exact Or.inr ⟨i2, fun j hj q => i1 j (Nat.zero_le _) hj ((key j hj).mp q)⟩
theorem isWord_at {c : Int64} {so : Int32} {wo : Int64} : E_v_isWord c so wo = 1 ↔ so = 1 ∧ wo.toInt = c.toInt := by
  unfold E_v_isWord
  by_cases a : so = 1
  · rw [if_pos a]
    by_cases b : lg_cmp wo c = 0
    · have b2 := (lg_cmp_eq _ _).mp b
      rw [if_pos b]; exact ⟨fun _ => ⟨a, by rw [b2]⟩, fun _ => rfl⟩
    · rw [if_neg b]
      exact ⟨fun q => absurd q (by decide), fun q => absurd ((lg_cmp_eq _ _).mpr (Int64.toInt_inj.mp q.2)) b⟩
  · rw [if_neg a]
    exact ⟨fun q => absurd q (by decide), fun q => absurd q.1 a⟩
theorem isWord_01 {c : Int64} {so : Int32} {wo : Int64} : E_v_isWord c so wo = 0 ∨ E_v_isWord c so wo = 1 := by
  unfold E_v_isWord
  split
  · split
    · exact Or.inr rfl
    · exact Or.inl rfl
  · exact Or.inl rfl
/-- a list of one word -/
theorem tk_one {f : Nat → Int32} {L p k : Nat} {tf tt ti tu fr to so : Int32} {wo c : Int64} (hk : k < 13) (hk2 : k ≤ 7 ∨ k = 11 ∨ k = 12) (h1 : kwn k = 1) (hc : kwh k 0 = c.toInt) (h : TkP f L p (tf, tt, ti, tu) (fr, to, so, wo)) (ln : Int32) : (E_w_find k ln tf tt ti tu f = 0 ∧ E_v_isWord c so wo = 1 ∧ p < L) ∨ (E_w_find k ln tf tt ti tu f ≠ 0 ∧ E_v_isWord c so wo = 0) := by
  rcases tk_find hk hk2 h ln with ⟨i, i1, i2, i3, i4⟩ | ⟨i1, i2⟩
  · have i0 : i = 0 := by omega
    have q := (i4 0 (by omega)).mpr i0.symm
    rw [hc] at q
    exact Or.inl ⟨by rw [i3, i0]; rfl, isWord_at.mpr q, i2⟩
  · refine Or.inr ⟨by rw [i1]; decide, ?_⟩
    rcases isWord_01 (c := c) (so := so) (wo := wo) with q | q
    · exact q
    · exact absurd (by have := isWord_at.mp q; rw [← hc] at this; exact this) (i2 0 (by omega))
theorem isSign_01 {c so : Int32} {wo : Int64} : E_v_isSign c so wo = 0 ∨ E_v_isSign c so wo = 1 := by
  unfold E_v_isSign
  split
  · simp only [Lt]
    split
    · exact Or.inr rfl
    · exact Or.inl rfl
  · exact Or.inl rfl
/-- a sign -/
theorem tk_sign {f : Nat → Int32} {L p : Nat} {tf tt ti tu fr to so c : Int32} {wo : Int64} (hc : 0 ≤ c.toInt ∧ ¬ (97 ≤ c.toInt ∧ c.toInt ≤ 122) ∧ ¬ (48 ≤ c.toInt ∧ c.toInt ≤ 57)) (h : TkP f L p (tf, tt, ti, tu) (fr, to, so, wo)) : (ti = c ∧ E_v_isSign c so wo = 1 ∧ p < L) ∨ (ti ≠ c ∧ E_v_isSign c so wo = 0) := by
  have e3 : ∀ {x : Int32}, x ≠ 3 → E_v_isSign c x wo = 0 := fun hx => by unfold E_v_isSign; rw [if_neg hx]
  obtain ⟨h1, h2, h3, hq, hm⟩ := h
  unfold CT at hq
  unfold MT at hm
  rcases hq with ⟨a, b⟩ | ⟨a, b, q⟩ | ⟨a, b, m, q, d⟩ | ⟨a, b, b2, q⟩
  · simp only [Prod.mk.injEq] at b
    refine Or.inr ⟨fun q => ?_, ?_⟩
    · have := b.2.2.1
      rw [q] at this
      rw [this] at hc
      exact absurd hc.1 (by decide)
    · rcases hm with ⟨a', b'⟩ | ⟨a', _⟩ | ⟨a', _⟩ | ⟨a', _⟩
      · simp only [Prod.mk.injEq] at b'
        exact e3 (by rw [b'.2.2.1]; decide)
      · omega
      · omega
      · omega
  · simp only [Prod.mk.injEq] at q
    refine Or.inr ⟨fun z => ?_, ?_⟩
    · unfold lt_ at b
      rw [← q.2.2.1, z] at b
      exact hc.2.1 b
    · rcases hm with ⟨a', b'⟩ | ⟨a', b', w, c', d'⟩ | ⟨a', b', w, c', d'⟩ | ⟨a', b', b2', w, c', d'⟩
      · omega
      · simp only [Prod.mk.injEq] at c'
        exact e3 (by rw [c'.2.2.1]; decide)
      · simp only [Prod.mk.injEq] at c'
        exact e3 (by rw [c'.2.2.1]; decide)
      · exact absurd b b'
  · simp only [Prod.mk.injEq] at q
    refine Or.inr ⟨fun z => ?_, ?_⟩
    · unfold dg_ at b
      rw [← q.2.2.1, z] at b
      exact hc.2.2 b
    · rcases hm with ⟨a', b'⟩ | ⟨a', b', w, c', d'⟩ | ⟨a', b', w, c', d'⟩ | ⟨a', b', b2', w, c', d'⟩
      · omega
      · simp only [Prod.mk.injEq] at c'
        exact e3 (by rw [c'.2.2.1]; decide)
      · simp only [Prod.mk.injEq] at c'
        exact e3 (by rw [c'.2.2.1]; decide)
      · exact absurd b b2'
  · simp only [Prod.mk.injEq] at q
    rcases hm with ⟨a', b'⟩ | ⟨a', b', w, c', d'⟩ | ⟨a', b', w, c', d'⟩ | ⟨a', b', b2', w, c', d'⟩
    · omega
    · exact absurd b' b
    · exact absurd b' b2
    · simp only [Prod.mk.injEq] at c'
      have st : E_v_isSign c so wo = if lg_cmp wo c.toInt64 = 0 then 1 else 0 := by
        unfold E_v_isSign
        rw [if_pos c'.2.2.1, Lt_b]
      have wq : wo.toInt = ti.toInt := by rw [c'.2.2.2, d', q.2.2.1]
      by_cases z : ti = c
      · refine Or.inl ⟨z, ?_, a⟩
        rw [st, if_pos ((lg_cmp_eq _ _).mpr (Int64.toInt_inj.mp (by rw [wq, z, wide_at])))]
      · refine Or.inr ⟨z, ?_⟩
        rw [st, if_neg (fun y => z (Int32.toInt_inj.mp (by have := congrArg Int64.toInt ((lg_cmp_eq _ _).mp y); rw [wq, wide_at] at this; exact this)))]
/-- the end -/
theorem tk_end {f : Nat → Int32} {L p : Nat} {tf tt ti tu fr to so : Int32} {wo : Int64} (h : TkP f L p (tf, tt, ti, tu) (fr, to, so, wo)) : (p = L ∧ ti = -1 ∧ so = 0) ∨ (p < L ∧ ti ≠ -1 ∧ so ≠ 0) := by
  obtain ⟨h1, h2, h3, hq, hm⟩ := h
  unfold CT at hq
  unfold MT at hm
  by_cases c : p = L
  · rcases hq with ⟨a, b⟩ | ⟨a, _⟩ | ⟨a, _⟩ | ⟨a, _⟩
    · rcases hm with ⟨a', b'⟩ | ⟨a', _⟩ | ⟨a', _⟩ | ⟨a', _⟩
      · simp only [Prod.mk.injEq] at b b'
        exact Or.inl ⟨c, b.2.2.1, b'.2.2.1⟩
      · omega
      · omega
      · omega
    · omega
    · omega
    · omega
  · have hp : p < L := by omega
    have fp := h3 p hp
    have t : ti = f p := by
      rcases hq with ⟨a, b⟩ | ⟨a, b, q⟩ | ⟨a, b, m, q, d⟩ | ⟨a, b, b2, q⟩
      · omega
      · simp only [Prod.mk.injEq] at q; exact q.2.2.1
      · simp only [Prod.mk.injEq] at q; exact q.2.2.1
      · simp only [Prod.mk.injEq] at q; exact q.2.2.1
    refine Or.inr ⟨hp, fun q => ?_, ?_⟩
    · rw [← t, q] at fp; exact absurd fp (by decide)
    · rcases hm with ⟨a', b'⟩ | ⟨a', b', w, c', d'⟩ | ⟨a', b', w, c', d'⟩ | ⟨a', b', b2', w, c', d'⟩
      · omega
      · simp only [Prod.mk.injEq] at c'; rw [c'.2.2.1]; decide
      · simp only [Prod.mk.injEq] at c'; rw [c'.2.2.1]; decide
      · simp only [Prod.mk.injEq] at c'; rw [c'.2.2.1]; decide
/-- a number -/
theorem tk_num {f : Nat → Int32} {L p : Nat} {tf tt ti tu fr to so : Int32} {wo : Int64} (h : TkP f L p (tf, tt, ti, tu) (fr, to, so, wo)) : (p < L ∧ so = 2 ∧ 48 ≤ ti.toInt ∧ ti.toInt ≤ 57 ∧ 0 ≤ tu.toInt ∧ ((tu.toInt = wo.toInt ∧ wo.toInt ≤ 1000000) ∨ (tu.toInt = 1000000 ∧ 1000000 < wo.toInt ∧ wo.toInt ≤ 10000010))) ∨ (so ≠ 2 ∧ tu = -1) := by
  obtain ⟨h1, h2, h3, hq, hm⟩ := h
  unfold CT at hq
  unfold MT at hm
  rcases hm with ⟨a', b'⟩ | ⟨a', b', w, c', d'⟩ | ⟨a', b', w, c', d'⟩ | ⟨a', b', b2', w, c', d'⟩
  · simp only [Prod.mk.injEq] at b'
    rcases hq with ⟨a, b⟩ | ⟨a, _⟩ | ⟨a, _⟩ | ⟨a, _⟩
    · simp only [Prod.mk.injEq] at b
      exact Or.inr ⟨by rw [b'.2.2.1]; decide, b.2.2.2⟩
    · omega
    · omega
    · omega
  · simp only [Prod.mk.injEq] at c'
    rcases hq with ⟨a, b⟩ | ⟨a, b, q⟩ | ⟨a, b, m, q, d⟩ | ⟨a, b, b2, q⟩
    · omega
    · simp only [Prod.mk.injEq] at q
      exact Or.inr ⟨by rw [c'.2.2.1]; decide, q.2.2.2⟩
    · unfold lt_ at b'; unfold dg_ at b; omega
    · exact absurd b' b
  · simp only [Prod.mk.injEq] at c'
    rcases hq with ⟨a, b⟩ | ⟨a, b, q⟩ | ⟨a, b, m, q, d⟩ | ⟨a, b, b2, q⟩
    · omega
    · unfold lt_ at b; unfold dg_ at b'; omega
    · simp only [Prod.mk.injEq] at q
      have le := dx_le (f := f) (L - (p + 1)) (p + 1)
      have dd : ∀ j, j < dx f (L - (p + 1)) (p + 1) - p → dg_ f (p + j) := fun i hi => by
        by_cases c0 : i = 0
        · rw [c0]; exact b
        · exact dx_all (L - (p + 1)) (p + 1) (p + i) (by omega) (by omega)
      have cm := cn_mn (f := f) (p := p) (dx f (L - (p + 1)) (p + 1) - p) dd
      rw [← d, ← d', ← q.2.2.2, ← c'.2.2.2] at cm
      unfold dg_ at b
      rw [← q.2.2.1] at b
      refine Or.inl ⟨a, c'.2.2.1, b.1, b.2, ?_⟩
      rcases cm with ⟨m1, m2, m3⟩ | ⟨m1, m2, m3⟩
      · exact ⟨by omega, Or.inl ⟨m1, m3⟩⟩
      · exact ⟨by omega, Or.inr ⟨m1, m2, m3⟩⟩
    · exact absurd b' b2
  · simp only [Prod.mk.injEq] at c'
    rcases hq with ⟨a, b⟩ | ⟨a, b, q⟩ | ⟨a, b, m, q, d⟩ | ⟨a, b, b2, q⟩
    · omega
    · exact absurd b b'
    · exact absurd b b2'
    · simp only [Prod.mk.injEq] at q
      exact Or.inr ⟨by rw [c'.2.2.1]; decide, q.2.2.2⟩
end
section
/-! a whole law, on both sides -/
theorem told_loop {b nc nh w n : Nat} {fh fc fw cw : Nat → Int32} {fe : Nat → Int64} (hw : w < 4) (hb : b ≤ 100000) (hn : n ≤ 12) (hn1 : 5 * n ≤ nh) (hn2 : nh < 1000000) (hc : nc ≤ 1000000) (h1 : ktx fw b 1 = nI n) (hk : ∀ i, i < n → ∃ v : Nat, v < 4 ∧ fh (5 * i) = nI v ∧ ktx fw b (2 + 8 * i) = nI v ∧ KTest fc (ktx fw b) nc (fh (5 * i + 4)) (ktx fw b (2 + 8 * i + 5)) (ktx fw b (2 + 8 * i + 6)) ∧ (v = 3 ∨ KSum fc (ktx fw b) nc (fh (5 * i + 2)) (ktx fw b (2 + 8 * i + 3)) (ktx fw b (2 + 8 * i + 4)))) (henv : KEnv 0 (fun w => cw w.toNatClampNeg) (fun w => 0 ≤ w.toInt ∧ w.toInt < ((9 : Nat) : Int)) (fun o a => if o = 0 then a.toInt64 else fe o.toNatClampNeg)) (z : KTC) (y : KTR) : ∀ i, i ≤ n →
    ((∀ F br f, ∃ br' f', Lp (E_w_told_l17 nh nc fh fc (nI w) cw) z (F + i + 1) (nI i - 1) br f = (aF 2 w, br', f')) ∧ ∀ F told br vl sm f, ∃ br' vl' sm' f', Lp (E_v_tells_l148 (nI w) fw (nI b) fe) y (F + i) 0 told br vl sm f = Lp (E_v_tells_l148 (nI w) fw (nI b) fe) y F (nI i) told br' vl' sm' f') ∨
    (∃ g : Int, (w = 3 → g = 1) ∧ (∀ F br f, ∃ r br' f', Lp (E_w_told_l17 nh nc fh fc (nI w) cw) z (F + i + 1) (nI i - 1) br f = (r, br', f') ∧ r.toInt = kz_cl g (aF 3 w).toInt) ∧ ∀ F told br vl sm f, ∃ t br' vl' sm' f', Lp (E_v_tells_l148 (nI w) fw (nI b) fe) y (F + i) 0 told br vl sm f = Lp (E_v_tells_l148 (nI w) fw (nI b) fe) y F (nI i) t br' vl' sm' f' ∧ t.toInt = g) := by
  have s1 : fw (nI b + 1).toNatClampNeg = nI n := by
    rw [kn_p1 (by omega), kn_cl (by omega)]; exact h1
  intro i
  induction i with
  | zero =>
    intro _
    refine Or.inl ⟨fun F br f => ⟨br, f, ?_⟩, fun F told br vl sm f => ⟨br, vl, sm, f, rfl⟩⟩
    rw [Nat.add_zero, Lp_s, E_w_told_l17.eq_def, if_pos (show nI 0 - 1 < 0 by decide), Lt_b, kn_cl (by omega)]
  | succ i ih =>
    intro hi
    obtain ⟨v, k1, k2, k3, k4, k5⟩ := hk i (by omega)
    have ix : nI (i + 1) - 1 = nI i := by rw [kn_m1 (by omega) (by omega)]; rfl
    have jx : ∀ rc br f, E_w_told_j136 (nI i) rc br f = rc (nI i - 1) br f := fun rc br f => by
      rw [E_w_told_j136.eq_def, Lt_b, kn_ms (by omega)]
    have nle : ¬ fw (nI b + 1).toNatClampNeg ≤ nI i := by
      rw [s1]; exact fun q => by have := (kn_le (by omega) (by omega)).mp q; omega
    rcases cl_both (fh := fh) (cw := cw) k1 hw hb (show i < 12 by omega) (show 5 * i + 5 ≤ nh by omega) hn2 hc k2 k3 k4 k5 henv with ⟨c1, c2⟩ | ⟨g, c0, c1, c2⟩
    · rcases ih (by omega) with ⟨d1, d2⟩ | ⟨g, d0, d1, d2⟩
      · refine Or.inl ⟨fun F br f => ?_, fun F told br vl sm f => ?_⟩
        · obtain ⟨br1, f1, e1⟩ := c1 (Lp (E_w_told_l17 nh nc fh fc (nI w) cw) z (F + (i + 1))) br f
          obtain ⟨br2, f2, e2⟩ := d1 F br1 f1
          exact ⟨br2, f2, by rw [Lp_s, ix, e1, jx, ← e2]; rfl⟩
        · obtain ⟨br1, vl1, sm1, f1, e1⟩ := d2 (F + 1) told br vl sm f
          obtain ⟨br2, vl2, sm2, f2, e2⟩ := c2 (Lp (E_v_tells_l148 (nI w) fw (nI b) fe) y F) told br1 vl1 sm1 f1 nle
          exact ⟨br2, vl2, sm2, f2, by rw [show F + (i + 1) = F + 1 + i by omega, e1, Lp_s, e2]⟩
      · refine Or.inr ⟨g, d0, fun F br f => ?_, fun F told br vl sm f => ?_⟩
        · obtain ⟨br1, f1, e1⟩ := c1 (Lp (E_w_told_l17 nh nc fh fc (nI w) cw) z (F + (i + 1))) br f
          obtain ⟨r, br2, f2, e2, e3⟩ := d1 F br1 f1
          exact ⟨r, br2, f2, by rw [Lp_s, ix, e1, jx, ← e2]; rfl, e3⟩
        · obtain ⟨t, br1, vl1, sm1, f1, e1, e3⟩ := d2 (F + 1) told br vl sm f
          obtain ⟨br2, vl2, sm2, f2, e2⟩ := c2 (Lp (E_v_tells_l148 (nI w) fw (nI b) fe) y F) t br1 vl1 sm1 f1 nle
          exact ⟨t, br2, vl2, sm2, f2, by rw [show F + (i + 1) = F + 1 + i by omega, e1, Lp_s, e2], e3⟩
    · have back : ∀ F told br vl sm f, ∃ t br' vl' sm' f', Lp (E_v_tells_l148 (nI w) fw (nI b) fe) y (F + 1 + i) 0 told br vl sm f = Lp (E_v_tells_l148 (nI w) fw (nI b) fe) y (F + 1) (nI i) t br' vl' sm' f' := by
        intro F told br vl sm f
        rcases ih (by omega) with ⟨d1, d2⟩ | ⟨g, d0, d1, d2⟩
        · obtain ⟨br1, vl1, sm1, f1, e1⟩ := d2 (F + 1) told br vl sm f
          exact ⟨_, _, _, _, _, e1⟩
        · obtain ⟨t, br1, vl1, sm1, f1, e1, _⟩ := d2 (F + 1) told br vl sm f
          exact ⟨_, _, _, _, _, e1⟩
      refine Or.inr ⟨g, c0, fun F br f => ?_, fun F told br vl sm f => ?_⟩
      · obtain ⟨r, br1, f1, e1, e3⟩ := c1 (Lp (E_w_told_l17 nh nc fh fc (nI w) cw) z (F + (i + 1))) br f
        exact ⟨r, br1, f1, by rw [Lp_s, ix, e1], e3⟩
      · obtain ⟨t, br1, vl1, sm1, f1, e1⟩ := back F told br vl sm f
        obtain ⟨t2, br2, vl2, sm2, f2, e2, e3⟩ := c2 (Lp (E_v_tells_l148 (nI w) fw (nI b) fe) y F) t br1 vl1 sm1 f1 nle
        exact ⟨t2, br2, vl2, sm2, f2, by rw [show F + (i + 1) = F + 1 + i by omega, e1, Lp_s, e2], e3⟩
/-- the words that a law is asked with, on both sides -/
noncomputable def KWd (cw : Nat → Int32) (fe : Nat → Int64) : Prop := ∀ j, j < 9 → (fe (j + 1)).toInt = (cw j).toInt ∧ -1000000000 ≤ (cw j).toInt ∧ (cw j).toInt ≤ 1000000000
theorem KWd.env {cw : Nat → Int32} {fe : Nat → Int64} (h : KWd cw fe) : KEnv 0 (fun w => cw w.toNatClampNeg) (fun w => 0 ≤ w.toInt ∧ w.toInt < ((9 : Nat) : Int)) (fun o a => if o = 0 then a.toInt64 else fe o.toNatClampNeg) := by
  refine ⟨fun a => ?_, fun w op a hk => ?_⟩
  · show (if (0 : Int32) = 0 then a.toInt64 else fe (0 : Int32).toNatClampNeg).toInt = a.toInt
    rw [if_pos rfl]; exact wide_at
  · unfold KL at hk
    rw [if_pos rfl] at hk
    obtain ⟨j, h1, rfl, rfl⟩ := hk
    have q := h j h1
    show (0 ≤ (nI j).toInt ∧ (nI j).toInt < ((9 : Nat) : Int)) ∧ (if nI (j + 1) = 0 then a.toInt64 else fe (nI (j + 1)).toNatClampNeg).toInt = (cw (nI j).toNatClampNeg).toInt ∧ _ ≤ (cw (nI j).toNatClampNeg).toInt ∧ (cw (nI j).toNatClampNeg).toInt ≤ _
    rw [if_neg (kn_nz (j := 0) rfl (by omega) (by omega)), kn_cl (by omega), kn_cl (by omega), nI_toInt (by omega)]
    exact ⟨by omega, q⟩
/-- THE LAW TELLS THE SAME: a class's law c, the reference's text at b -/
theorem told_at {c : LC} {fw cw : Nat → Int32} {fe : Nat → Int64} {b w : Nat} (hL : KLaw c (ktx fw b)) (hw : w < 4) (hb : b ≤ 100000) (hwd : KWd cw fe) (y : KTR) :
    ((∀ br fs, ∃ br' f', E_w_told c.1 c.2.1 c.2.2.1 c.2.2.2.1 c.2.2.2.2.1 (nI w) br fs cw = (aF 2 w, br', f')) ∧ ∀ told br vl sm f, ∃ br' vl' sm' f', Lp (E_v_tells_l148 (nI w) fw (nI b) fe) y 14 0 told br vl sm f = (told, nI b, br', vl', sm', fe, f')) ∨
    (∃ g : Int, (w = 3 → g = 1) ∧ (∀ br fs, ∃ r br' f', E_w_told c.1 c.2.1 c.2.2.1 c.2.2.2.1 c.2.2.2.2.1 (nI w) br fs cw = (r, br', f') ∧ r.toInt = kz_cl g (aF 3 w).toInt) ∧ ∀ told br vl sm f, ∃ t br' vl' sm' f', Lp (E_v_tells_l148 (nI w) fw (nI b) fe) y 14 0 told br vl sm f = (t, nI b, br', vl', sm', fe, f') ∧ t.toInt = g) := by
  obtain ⟨n, h1, h2, h3, h4, h5, h6, h7⟩ := hL
  have stop : ∀ F t br vl sm f, Lp (E_v_tells_l148 (nI w) fw (nI b) fe) y (F + 1) (nI n) t br vl sm f = (t, nI b, br, vl, sm, fe, f) := by
    intro F t br vl sm f
    rw [Lp_s]
    simp only [E_v_tells_l148, Lt]
    rw [if_pos (by rw [kn_p1 (by omega), kn_cl (by omega), show fw (b + 1) = nI n from h3]; exact ie_iff.mpr (Int.le_refl _))]
  have fu : ((nI n - 1).toInt + 1 : Int).toNat + 1 = 0 + n + 1 := by
    rw [i_sub (nI_toInt (by omega)) (show (1 : Int32).toInt = 1 from rfl) (by omega)]; omega
  rcases told_loop hw hb h1 h4 h5 h6 h3 h7 hwd.env (fun _ _ _ => ((0, 0, fun _ => 0) : Int32 × Int32 × (Nat → Int32))) y n (Nat.le_refl _) with ⟨d1, d2⟩ | ⟨g, d0, d1, d2⟩
  · refine Or.inl ⟨fun br fs => ?_, fun told br vl sm f => ?_⟩
    · obtain ⟨br1, f1, e1⟩ := d1 0 br fs
      refine ⟨br1, f1, ?_⟩
      rw [E_w_told.eq_def, Lt_b, h2, fu]; exact e1
    · obtain ⟨br1, vl1, sm1, f1, e1⟩ := d2 (14 - n) told br vl sm f
      refine ⟨br1, vl1, sm1, f1, ?_⟩
      rw [show 14 = 14 - n + n by omega, e1, show 14 - n = 13 - n + 1 by omega, stop]
  · refine Or.inr ⟨g, d0, fun br fs => ?_, fun told br vl sm f => ?_⟩
    · obtain ⟨r, br1, f1, e1, e2⟩ := d1 0 br fs
      refine ⟨r, br1, f1, ?_, e2⟩
      rw [E_w_told.eq_def, Lt_b, h2, fu]; exact e1
    · obtain ⟨t, br1, vl1, sm1, f1, e1, e2⟩ := d2 (14 - n) told br vl sm f
      refine ⟨t, br1, vl1, sm1, f1, ?_, e2⟩
      rw [show 14 = 14 - n + n by omega, e1, show 14 - n = 13 - n + 1 by omega, stop]
end
section
/-! the reference's pile -/
noncomputable def kbd (o : Nat) : Nat := if 31 ≤ o then 0 else if o = 30 then 1 else if o = 29 then 2 else if o = 28 then 3 else if 25 ≤ o then 4 else if 22 ≤ o then 6 else 5
theorem Lt_q {α β : Type} {e : α} {f : α → β} : Lt e f = f e := Eq.trans Lt_b (Eq.refl (f e))
theorem binds_at {o : Nat} (ho : o < 1000) : E_v_binds (nI o) = nI (kbd o) := by
  unfold E_v_binds kbd
  by_cases c : 31 ≤ o
  · rw [if_neg (kn_nltl (j := 31) rfl (by omega) c), if_pos c]; rfl
  rw [if_pos (kn_ltl (j := 31) rfl (by omega) (by omega)), if_neg c]
  by_cases c1 : o = 30
  · rw [if_pos (by rw [c1]; rfl), if_pos c1]; rfl
  rw [if_neg (kn_nz (j := 30) rfl (by omega) c1), if_neg c1]
  by_cases c2 : o = 29
  · rw [if_pos (by rw [c2]; rfl), if_pos c2]; rfl
  rw [if_neg (kn_nz (j := 29) rfl (by omega) c2), if_neg c2]
  by_cases c3 : o = 28
  · rw [if_pos (by rw [c3]; rfl), if_pos c3]; rfl
  rw [if_neg (kn_nz (j := 28) rfl (by omega) c3), if_neg c3]
  by_cases c4 : 25 ≤ o
  · rw [if_neg (kn_nltl (j := 25) rfl (by omega) c4), if_pos c4]; rfl
  rw [if_pos (kn_ltl (j := 25) rfl (by omega) (by omega)), if_neg c4]
  by_cases c5 : 22 ≤ o
  · rw [if_neg (kn_nltl (j := 22) rfl (by omega) c5), if_pos c5]; rfl
  rw [if_pos (kn_ltl (j := 22) rfl (by omega) (by omega)), if_neg c5]; rfl
/-- settle(l), from a pile of pi operators -/
noncomputable def kst (l nc pi : Nat) (fo fa fp fq : Nat → Int32) : Int32 × Int32 × (Nat → Int32) × (Nat → Int32) := Lp (α := Int32 → Int32 → (Nat → Int32) → (Nat → Int32) → (Int32 × Int32 × (Nat → Int32) × (Nat → Int32))) (E_v_settle_l0 (nI l) fp fq) (fun _ _ _ _ => ((0, 0, fun _ => 0, fun _ => 0) : Int32 × Int32 × (Nat → Int32) × (Nat → Int32))) (pi + 1) (nI nc) (nI pi) fo fa
theorem settle_at {go ga fo fa fp fq : Nat → Int32} {l nc pi : Nat} (hp : pi < 2147483648) : E_v_settle go ga (nI l) (nI nc) (nI pi) fo fa fp fq = kst l nc pi fo fa fp fq := by
  rw [E_v_settle.eq_def, nI_toInt hp]; rfl
theorem kst_0 {l nc : Nat} {fo fa fp fq : Nat → Int32} : kst l nc 0 fo fa fp fq = (nI nc, nI 0, fo, fa) := by
  unfold kst
  rw [Lp_s, E_v_settle_l0.eq_def, if_pos (show nI 0 ≤ 0 by decide)]
theorem kst_stop {l nc pi o : Nat} {fo fa fp fq : Nat → Int32} (hp : pi < 1000) (ho : o < 1000) (hl : l < 1000) (h : fp pi = nI o) (hb : kbd o < l) : kst l nc (pi + 1) fo fa fp fq = (nI nc, nI (pi + 1), fo, fa) := by
  unfold kst
  rw [Lp_s, E_v_settle_l0.eq_def, if_neg (kn_ngel (j := 0) rfl (by omega) (by omega))]
  simp only [Lt_q]
  have hk : kbd o ≤ 6 := by unfold kbd; (repeat' split) <;> omega
  rw [kn_m1 (by omega) (by omega), kn_cl (by omega), show pi + 1 - 1 = pi by omega, h, binds_at ho, if_pos ((kn_lt (by omega) (by omega)).mpr hb)]
theorem kst_go {l nc pi o : Nat} {fo fa fp fq : Nat → Int32} (hp : pi < 1000) (hn : nc < 1000) (ho : o < 1000) (hl : l < 1000) (h : fp pi = nI o) (hb : l ≤ kbd o) (h29 : o ≠ 29) (h30 : o ≠ 30) : kst l nc (pi + 1) fo fa fp fq = kst l (nc + 1) pi (upd fo nc (nI o)) (upd fa nc 0) fp fq := by
  unfold kst
  have hk : kbd o ≤ 6 := by unfold kbd; (repeat' split) <;> omega
  rw [Lp_s, E_v_settle_l0.eq_def, if_neg (kn_ngel (j := 0) rfl (by omega) (by omega))]
  simp only [Lt_b, Lt2_b, E_v_emit]
  rw [kn_m1 (by omega) (by omega), kn_cl (by omega), show pi + 1 - 1 = pi by omega, h, binds_at ho, if_neg (fun q => by have := (kn_lt (by omega) (by omega)).mp q; omega), if_neg (kn_nz (j := 29) rfl (by omega) h29), if_neg (kn_nz (j := 30) rfl (by omega) h30), kn_cl (by omega), kn_p1 (by omega)]
theorem kst_land {l nc pi o c : Nat} {fo fa fp fq : Nat → Int32} (hp : pi < 1000) (ho : o = 29 ∨ o = 30) (hl : l ≤ kbd o) (h : fp pi = nI o) (hq : fq pi = nI c) (hc : c < 1000) : kst l nc (pi + 1) fo fa fp fq = kst l nc pi fo (upd fa c (nI nc)) fp fq := by
  unfold kst
  have hk : kbd o ≤ 6 := by unfold kbd; (repeat' split) <;> omega
  rw [Lp_s, E_v_settle_l0.eq_def, if_neg (kn_ngel (j := 0) rfl (by omega) (by omega))]
  simp only [Lt_b, Lt2_b]
  rw [kn_m1 (by omega) (by omega), kn_cl (by omega), show pi + 1 - 1 = pi by omega, h, hq, binds_at (by omega), if_neg (fun q => by have := (kn_lt (by omega) (by omega)).mp q; omega), kn_cl (by omega)]
  rcases ho with e | e
  · rw [if_pos (by rw [e]; rfl)]
  · rw [if_neg (kn_nz (j := 29) rfl (by omega) (by omega)), if_pos (by rw [e]; rfl)]
/-- what waits between two heights of the pile: settling to a level up to K first does that -/
noncomputable def KP (K nc pi : Nat) (fo fa : Nat → Int32) (nc' pi' : Nat) (fo' fa' fp fq : Nat → Int32) : Prop := ∀ l, l ≤ K → kst l nc pi fo fa fp fq = kst l nc' pi' fo' fa' fp fq
theorem KP.rfl {K nc pi : Nat} {fo fa fp fq : Nat → Int32} : KP K nc pi fo fa nc pi fo fa fp fq := fun _ _ => Eq.refl _
theorem KP.trans {K nc pi nc2 pi2 nc3 pi3 : Nat} {fo fa fo2 fa2 fo3 fa3 fp fq : Nat → Int32} (h : KP K nc pi fo fa nc2 pi2 fo2 fa2 fp fq) (h2 : KP K nc2 pi2 fo2 fa2 nc3 pi3 fo3 fa3 fp fq) : KP K nc pi fo fa nc3 pi3 fo3 fa3 fp fq := fun l hl => (h l hl).trans (h2 l hl)
theorem KP.low {K K' nc pi nc2 pi2 : Nat} {fo fa fo2 fa2 fp fq : Nat → Int32} (h : KP K nc pi fo fa nc2 pi2 fo2 fa2 fp fq) (hk : K' ≤ K) : KP K' nc pi fo fa nc2 pi2 fo2 fa2 fp fq := fun l hl => h l (Nat.le_trans hl hk)
theorem KP.emit {K nc pi o : Nat} {fo fa fp fq : Nat → Int32} (hp : pi < 900) (hn : nc < 1000) (ho : o < 29) (h : fp pi = nI o) (hb : K ≤ kbd o) : KP K nc (pi + 1) fo fa (nc + 1) pi (upd fo nc (nI o)) (upd fa nc 0) fp fq := fun l hl => by
  have hk : kbd o ≤ 6 := by unfold kbd; (repeat' split) <;> omega
  exact kst_go (by omega) hn (by omega) (by omega) h (Nat.le_trans hl hb) (by omega) (by omega)
theorem KP.land {K nc pi o c : Nat} {fo fa fp fq : Nat → Int32} (hp : pi < 1000) (ho : o = 29 ∨ o = 30) (hb : K ≤ kbd o) (h : fp pi = nI o) (hq : fq pi = nI c) (hc : c < 1000) : KP K nc (pi + 1) fo fa nc pi fo (upd fa c (nI nc)) fp fq := fun l hl => kst_land hp ho (Nat.le_trans hl hb) h hq hc
/-! inner, isCompared -/
theorem inner_in {fp : Nat → Int32} {pi : Nat} (hp : pi ≤ 400) (z : Int32 → Int32 → Int32) : ∀ (d v F : Nat) (r : Int32), v + d = pi → (∀ j, v ≤ j → j < pi → ∃ o : Nat, o < 31 ∧ fp j = nI o) → Lp (E_v_inner_l4 (nI pi) fp) z (F + d + 1) (nI v) r = r := by
  intro d
  induction d with
  | zero =>
    intro v F r hv _
    rw [Lp_s, E_v_inner_l4.eq_def, if_pos ((kn_le (by omega) (by omega)).mpr (by omega))]
  | succ d ih =>
    intro v F r hv h
    obtain ⟨o, o1, o2⟩ := h v (Nat.le_refl _) (by omega)
    rw [show F + (d + 1) + 1 = (F + d + 1) + 1 by omega, Lp_s, E_v_inner_l4.eq_def, if_neg (fun q => by have := (kn_le (by omega) (by omega)).mp q; omega)]
    simp only [Lt_q]
    rw [kn_cl (by omega), o2, if_pos (kn_ltl (j := 31) rfl (by omega) o1), kn_po (by omega)]
    exact ih (v + 1) F r (by omega) (fun j h1 h2 => h j (by omega) h2)
/-- inner() goes by what lies below, when no bracket lies above -/
theorem inner_none {fp : Nat → Int32} {pi : Nat} (hp : pi ≤ 400) (h : ∀ j, j < pi → ∃ o : Nat, o < 31 ∧ fp j = nI o) : E_v_inner (nI pi) fp = -1 := by
  rw [E_v_inner.eq_def]
  have := inner_in (fp := fp) hp (fun _ _ => ((0) : Int32)) pi 0 (401 - pi) (-1) (by omega) (fun j _ hj => h j hj)
  rw [show 401 - pi + pi + 1 = (401 - (0 : Int32).toInt : Int).toNat + 1 by rw [show (0 : Int32).toInt = 0 from rfl]; omega] at this
  exact this
theorem inner_top {fp : Nat → Int32} {pi q b : Nat} (hp : pi ≤ 400) (hq : q < pi) (hb : 31 ≤ b ∧ b < 1000) (hf : fp q = nI b) (h : ∀ j, q < j → j < pi → ∃ o : Nat, o < 31 ∧ fp j = nI o) : E_v_inner (nI pi) fp = nI b := by
  have gen : ∀ (d v F : Nat) (r : Int32), v + d = q → Lp (E_v_inner_l4 (nI pi) fp) (fun _ _ => ((0) : Int32)) (F + d + (pi - q) + 1) (nI v) r = nI b := by
    intro d
    induction d with
    | zero =>
      intro v F r hv
      rw [show v = q by omega, show F + 0 + (pi - q) + 1 = (F + (pi - (q + 1)) + 1) + 1 by omega, Lp_s, E_v_inner_l4.eq_def, if_neg (fun w => by have := (kn_le (by omega) (by omega)).mp w; omega)]
      simp only [Lt_q]
      rw [kn_cl (by omega), hf, if_neg (kn_nltl (j := 31) rfl (by omega) hb.1), kn_po (by omega)]
      exact inner_in hp _ (pi - (q + 1)) (q + 1) F (nI b) (by omega) (fun j h1 h2 => h j (by omega) h2)
    | succ d ih =>
      intro v F r hv
      rw [show F + (d + 1) + (pi - q) + 1 = (F + d + (pi - q) + 1) + 1 by omega, Lp_s, E_v_inner_l4.eq_def, if_neg (fun w => by have := (kn_le (by omega) (by omega)).mp w; omega)]
      simp only [Lt_q]
      rw [kn_po (by omega)]
      by_cases c : fp (nI v).toNatClampNeg < 31
      · rw [if_pos c]; exact ih (v + 1) F _ (by omega)
      · rw [if_neg c]; exact ih (v + 1) F _ (by omega)
  rw [E_v_inner.eq_def]
  have := gen q 0 (401 - pi) (-1) (by omega)
  rw [show 401 - pi + q + (pi - q) + 1 = (401 - (0 : Int32).toInt : Int).toNat + 1 by rw [show (0 : Int32).toInt = 0 from rfl]; omega] at this
  exact this
theorem in_lit {o a b : Nat} {lo hi : Int64} (ha : lo.toInt = (a : Int)) (hb : hi.toInt = (b : Int)) (ho : o < 1000) : E_v_in (nI o).toInt64 lo hi = if a ≤ o ∧ o ≤ b then 1 else 0 := by
  by_cases c : a ≤ o ∧ o ≤ b
  · rw [if_pos c, in_p (by rw [nI_toInt (by omega)]; omega)]
  · rw [if_neg c, in_n (by rw [nI_toInt (by omega)]; omega)]
/-- isCompared() looks below what waits of a sum -/
theorem isc_at {fp : Nat → Int32} {pi q : Nat} (hp : pi ≤ 400) (hq : q ≤ pi) (h : ∀ j, q ≤ j → j < pi → ∃ o : Nat, 20 ≤ o ∧ o ≤ 24 ∧ fp j = nI o) : (q = 0 → E_v_isCompared (nI pi) fp = 0) ∧ (∀ (r o : Nat), q = r + 1 → o < 1000 → fp r = nI o → ¬ (20 ≤ o ∧ o ≤ 24) → E_v_isCompared (nI pi) fp = if 25 ≤ o ∧ o ≤ 27 then 1 else 0) := by
  have zz : (nI 0 - 1 : Int32) = -1 := by decide
  have fin0 : ∀ (z : Int32 → Int32) F, Lp (E_v_isCompared_l7 fp) z (F + 1) (nI 0 - 1) = 0 := by
    intro z F
    rw [Lp_s, zz, E_v_isCompared_l7.eq_def, if_pos (by decide), E_v_isCompared_j36.eq_def, if_pos (by decide)]
    rfl
  have fin1 : ∀ (z : Int32 → Int32) F (r o : Nat), r < 1000 → o < 1000 → fp r = nI o → ¬ (20 ≤ o ∧ o ≤ 24) → Lp (E_v_isCompared_l7 fp) z (F + 1) (nI (r + 1) - 1) = if 25 ≤ o ∧ o ≤ 27 then 1 else 0 := by
    intro z F r o hr ho hf hn
    rw [Lp_s, kn_m1 (by omega) (by omega), show r + 1 - 1 = r by omega, E_v_isCompared_l7.eq_def, if_neg (kn_nl (by omega))]
    simp only [Lt_q]
    rw [kn_cl (by omega), hf, in_lit (a := 20) (b := 24) rfl rfl ho, if_neg hn, if_neg (by decide), E_v_isCompared_j36.eq_def, if_neg (kn_nl (by omega))]
    simp only [Lt_q]
    rw [kn_cl (by omega), hf, in_lit (a := 25) (b := 27) rfl rfl ho]
    by_cases c : 25 ≤ o ∧ o ≤ 27
    · rw [if_pos c, if_pos rfl]
    · rw [if_neg c, if_neg (by decide)]; rfl
  have down : ∀ (z : Int32 → Int32) (d F : Nat), q + d ≤ pi → Lp (E_v_isCompared_l7 fp) z (F + d + 1) (nI (q + d) - 1) = Lp (E_v_isCompared_l7 fp) z (F + 1) (nI q - 1) := by
    intro z d
    induction d with
    | zero => intro F _; rfl
    | succ d ih =>
      intro F hd
      obtain ⟨o, o1, o2, o3⟩ := h (q + d) (by omega) (by omega)
      rw [show F + (d + 1) + 1 = (F + d + 1) + 1 by omega, Lp_s, kn_m1 (by omega) (by omega), show q + (d + 1) - 1 = q + d by omega, E_v_isCompared_l7.eq_def, if_neg (kn_nl (by omega))]
      simp only [Lt_q]
      rw [kn_cl (by omega), o3, in_lit (a := 20) (b := 24) rfl rfl (by omega), if_pos (show 20 ≤ o ∧ o ≤ 24 from ⟨o1, o2⟩), if_pos rfl]
      rw [kn_ms (by omega)]
      exact ih F (by omega)
  have st : E_v_isCompared (nI pi) fp = Lp (E_v_isCompared_l7 fp) (fun _ => ((0) : Int32)) (q + 2) (nI q - 1) := by
    rw [E_v_isCompared.eq_def, Lt_b]
    have e1 : (nI pi - 1).toInt = (pi : Int) - 1 := i_sub (nI_toInt (by omega)) (show (1 : Int32).toInt = 1 from rfl) (by omega)
    rw [e1, show ((pi : Int) - 1 - (-2) : Int).toNat + 1 = (q + 1) + (pi - q) + 1 by omega]
    have := down (fun _ => ((0) : Int32)) (pi - q) (q + 1) (by omega)
    rw [show q + (pi - q) = pi by omega] at this
    exact this
  rw [st]
  refine ⟨fun e => ?_, fun r o e ho hf hn => ?_⟩
  · rw [e]; exact fin0 _ 1
  · rw [e]; exact fin1 _ (r + 1 + 1) r o (by omega) ho hf hn
end
section
/-! the reference's reading, a step each -/
theorem must_1 {ta fr to so fau : Int32} {wo : Int64} {ft : Nat → Int32} : E_v_must 1 ta fr to so wo fau 0 ft = ((E_v_next ta fr to so wo ft).1, (E_v_next ta fr to so wo ft).2.1, (E_v_next ta fr to so wo ft).2.2.1, (E_v_next ta fr to so wo ft).2.2.2, fau, 0) := by
  rw [E_v_must.eq_def, if_pos rfl, if_neg (by decide), if_pos rfl]
  rfl
theorem must_0 {ta fr to so fau : Int32} {wo : Int64} {ft : Nat → Int32} : E_v_must 0 ta fr to so wo fau 0 ft = (fr, to, so, wo, fr, 1) := by
  rw [E_v_must.eq_def, if_pos rfl, if_pos rfl]
theorem open_p {go ga ft fo fa fp fq : Nat → Int32} {x ta fr to so fau nc nl opn : Int32} {wo : Int64} {pi : Nat} (hp : pi < 1000) (ho : opn.toInt < 8) (h0 : 0 ≤ opn.toInt) : E_v_openBracket go ga x ta fr to so wo fau 0 nc nl (nI pi) opn ft fo fa fp fq = ((E_v_next ta fr to so wo ft).1, (E_v_next ta fr to so wo ft).2.1, (E_v_next ta fr to so wo ft).2.2.1, (E_v_next ta fr to so wo ft).2.2.2, fau, 0, nI (pi + 1), opn + 1, upd fp pi x, upd fq pi 0) := by
  rw [E_v_openBracket.eq_def, if_neg (fun q => by have := ie_iff.mp q; have z : (8 : Int32).toInt = 8 := rfl; omega), must_1]
  simp only [Lt, Lt2, E_v_push]
  rw [if_pos (by trivial), kn_cl (by omega), kn_p1 (by omega)]
theorem open_n {go ga ft fo fa fp fq : Nat → Int32} {x ta fr to so fau nc nl pi opn : Int32} {wo : Int64} (ho : 8 ≤ opn.toInt) : E_v_openBracket go ga x ta fr to so wo fau 0 nc nl pi opn ft fo fa fp fq = (fr, to, so, wo, fr, 1, pi, opn, fp, fq) := by
  rw [E_v_openBracket.eq_def, if_pos (ie_iff.mpr (by have z : (8 : Int32).toInt = 8 := rfl; omega)), must_0]
  simp only [Lt, Lt2]
  rw [if_neg (by decide)]
theorem leaf_p {go ga ft fo fa fp fq : Nat → Int32} {y z ta fr to so fau pi opn : Int32} {wo : Int64} {nc nl : Nat} (hn : nc < 1000) (hl : nl < 50) : E_v_leaf go ga 1 y z ta fr to so wo fau 0 (nI nc) (nI nl) pi opn ft fo fa fp fq = ((E_v_next ta fr to so wo ft).1, (E_v_next ta fr to so wo ft).2.1, (E_v_next ta fr to so wo ft).2.2.1, (E_v_next ta fr to so wo ft).2.2.2, fau, 0, nI (nc + 1), nI (nl + 1), upd fo nc y, upd fa nc z) := by
  rw [E_v_leaf.eq_def, if_neg (by decide), if_neg (kn_nlel (j := 50) rfl (by omega) hl), must_1]
  simp only [Lt, Lt2, E_v_emit]
  rw [if_pos (by trivial), kn_cl (a := nc) (by omega), kn_p1 (a := nc) (by omega), kn_p1 (a := nl) (by omega)]
theorem leaf_n {go ga ft fo fa fp fq : Nat → Int32} {x y z ta fr to so fau nc nl pi opn : Int32} {wo : Int64} (h : x = 0 ∨ (x = 1 ∧ 50 ≤ nl.toInt)) : E_v_leaf go ga x y z ta fr to so wo fau 0 nc nl pi opn ft fo fa fp fq = (fr, to, so, wo, fr, 1, nc, nl, fo, fa) := by
  rw [E_v_leaf.eq_def]
  rcases h with h | ⟨h, h2⟩
  · rw [if_pos h, must_0]
    simp only [Lt, Lt2]
    rw [if_neg (by decide)]
  · rw [if_neg (by rw [h]; decide), if_pos (ie_iff.mpr (by have z : (50 : Int32).toInt = 50 := rfl; omega)), must_0]
    simp only [Lt, Lt2]
    rw [if_neg (by decide)]
/-! which word it is -/
theorem pa_in {so : Int32} {wo : Int64} {wd : Nat → Int64} {N : Nat} (hN : N ≤ 9) (z : Int32 → Int32 → Int32) (B : (Int32 → Int32 → Int32) → Int32 → Int32 → Int32) (hB : ∀ rc (v : Nat) r, v < 1000 → B rc (nI v) r = if N ≤ v then r else if E_v_isWord (wd v) so wo = 1 then rc (nI (v + 1)) (nI (v + 1)) else rc (nI (v + 1)) r) : ∀ (d v : Nat) (F : Nat) (r : Int32), v + d = N → ((∀ j, v ≤ j → j < N → E_v_isWord (wd j) so wo = 0) → Lp B z (F + d + 1) (nI v) r = r) ∧ (∀ i, v ≤ i → i < N → E_v_isWord (wd i) so wo = 1 → (∀ j, v ≤ j → j < N → j ≠ i → E_v_isWord (wd j) so wo = 0) → Lp B z (F + d + 1) (nI v) r = nI (i + 1)) := by
  intro d
  induction d with
  | zero =>
    intro v F r hv
    refine ⟨fun _ => ?_, fun i h1 h2 => by omega⟩
    rw [Lp_s, hB _ _ _ (by omega), if_pos (by omega)]
  | succ d ih =>
    intro v F r hv
    have e : Lp B z (F + (d + 1) + 1) (nI v) r = if E_v_isWord (wd v) so wo = 1 then Lp B z (F + d + 1) (nI (v + 1)) (nI (v + 1)) else Lp B z (F + d + 1) (nI (v + 1)) r := by
      rw [show F + (d + 1) + 1 = (F + d + 1) + 1 by omega, Lp_s, hB _ _ _ (by omega), if_neg (by omega)]
    rw [e]
    refine ⟨fun h => ?_, fun i h1 h2 h3 h4 => ?_⟩
    · rw [h v (Nat.le_refl _) (by omega), if_neg (by decide)]
      exact (ih (v + 1) F r (by omega)).1 (fun j h1 h2 => h j (by omega) h2)
    · by_cases c : i = v
      · rw [← c, h3, if_pos rfl]
        exact (ih (i + 1) F (nI (i + 1)) (by omega)).1 (fun j h5 h6 => h4 j (by omega) h6 (by omega))
      · rw [h4 v (Nat.le_refl _) (by omega) (fun q => c q.symm), if_neg (by decide)]
        exact (ih (v + 1) F r (by omega)).2 i (by omega) h2 h3 (fun j h5 h6 h7 => h4 j (by omega) h6 h7)
theorem partAt_b {so : Int32} {wo : Int64} {wd : Nat → Int64} (rc : Int32 → Int32 → Int32) (v : Nat) (r : Int32) (hv : v < 1000) : E_v_partAt_l4 so wo wd rc (nI v) r = if 9 ≤ v then r else if E_v_isWord (wd v) so wo = 1 then rc (nI (v + 1)) (nI (v + 1)) else rc (nI (v + 1)) r := by
  simp only [E_v_partAt_l4, Lt]
  rw [kn_cl (by omega), kn_p1 (by omega), kn_po (by omega)]
  by_cases c : 9 ≤ v
  · rw [if_pos c, if_pos (kn_lel (j := 9) rfl (by omega) c)]
  · rw [if_neg c, if_neg (kn_nlel (j := 9) rfl (by omega) (by omega))]
theorem orderAt_b {so : Int32} {wo : Int64} {wd : Nat → Int64} (rc : Int32 → Int32 → Int32) (v : Nat) (r : Int32) (hv : v < 1000) : E_v_orderPartAt_l4 so wo wd rc (nI v) r = if 8 ≤ v then r else if E_v_isWord (wd v) so wo = 1 then rc (nI (v + 1)) (nI (v + 1)) else rc (nI (v + 1)) r := by
  simp only [E_v_orderPartAt_l4, Lt]
  rw [kn_cl (by omega), kn_p1 (by omega), kn_po (by omega)]
  by_cases c : 8 ≤ v
  · rw [if_pos c, if_pos (kn_lel (j := 8) rfl (by omega) c)]
  · rw [if_neg c, if_neg (kn_nlel (j := 8) rfl (by omega) (by omega))]
/-- the tables of words -/
noncomputable def KWt (wd we : Nat → Int64) : Prop := (∀ j, j < 9 → (wd j).toInt = kwh 11 j) ∧ ∀ j, j < 8 → (we j).toInt = kwh 12 j
/-- the word of a law that a token is, on both sides -/
theorem tk_lawword {f : Nat → Int32} {L p : Nat} {tf tt ti tu fr to so : Int32} {wo : Int64} {wd : Nat → Int64} (hw : ∀ j, j < 9 → (wd j).toInt = kwh 11 j) (h : TkP f L p (tf, tt, ti, tu) (fr, to, so, wo)) (ln : Int32) : (∃ i, i < 9 ∧ p < L ∧ so = 1 ∧ E_w_find 11 ln tf tt ti tu f = nI i ∧ E_v_partAt so wo wd = nI (i + 1)) ∨ (E_w_find 11 ln tf tt ti tu f = -1 ∧ E_v_partAt so wo wd = -1) := by
  have pt := pa_in (so := so) (wo := wo) (wd := wd) (N := 9) (by omega) (fun _ _ => ((0) : Int32)) (E_v_partAt_l4 so wo wd) (fun rc v r hv => partAt_b rc v r hv) 9 0 1 (-1) (by omega)
  have e : E_v_partAt so wo wd = Lp (α := Int32 → Int32 → (Int32)) (E_v_partAt_l4 so wo wd) (fun _ _ => ((0) : Int32)) (1 + 9 + 1) (nI 0) (-1) := by
    rw [E_v_partAt.eq_def]; rfl
  rw [e]
  rcases tk_find (k := 11) (by omega) (by omega) h ln with ⟨i, i1, i2, i3, i4⟩ | ⟨i1, i2⟩
  · have i1 : i < 9 := i1
    have wi := (i4 i i1).mpr rfl
    refine Or.inl ⟨i, i1, i2, wi.1, i3, pt.2 i (by omega) i1 (isWord_at.mpr (by rw [hw i i1]; exact wi)) (fun j _ hj hn => ?_)⟩
    rcases isWord_01 (c := wd j) (so := so) (wo := wo) with q | q
    · exact q
    · have q2 := isWord_at.mp q
      rw [hw j hj] at q2
      exact absurd ((i4 j hj).mp q2) hn
  · refine Or.inr ⟨i1, pt.1 (fun j _ hj => ?_)⟩
    rcases isWord_01 (c := wd j) (so := so) (wo := wo) with q | q
    · exact q
    · have q2 := isWord_at.mp q
      rw [hw j hj] at q2
      exact absurd q2 (i2 j hj)
theorem tk_ordword {f : Nat → Int32} {L p : Nat} {tf tt ti tu fr to so : Int32} {wo : Int64} {wd : Nat → Int64} (hw : ∀ j, j < 8 → (wd j).toInt = kwh 12 j) (h : TkP f L p (tf, tt, ti, tu) (fr, to, so, wo)) (ln : Int32) : (∃ i, i < 8 ∧ p < L ∧ so = 1 ∧ E_w_find 12 ln tf tt ti tu f = nI i ∧ E_v_orderPartAt so wo wd = nI (i + 1)) ∨ (E_w_find 12 ln tf tt ti tu f = -1 ∧ E_v_orderPartAt so wo wd = -1) := by
  have pt := pa_in (so := so) (wo := wo) (wd := wd) (N := 8) (by omega) (fun _ _ => ((0) : Int32)) (E_v_orderPartAt_l4 so wo wd) (fun rc v r hv => orderAt_b rc v r hv) 8 0 1 (-1) (by omega)
  have e : E_v_orderPartAt so wo wd = Lp (α := Int32 → Int32 → (Int32)) (E_v_orderPartAt_l4 so wo wd) (fun _ _ => ((0) : Int32)) (1 + 8 + 1) (nI 0) (-1) := by
    rw [E_v_orderPartAt.eq_def]; rfl
  rw [e]
  rcases tk_find (k := 12) (by omega) (by omega) h ln with ⟨i, i1, i2, i3, i4⟩ | ⟨i1, i2⟩
  · have i1 : i < 8 := i1
    have wi := (i4 i i1).mpr rfl
    refine Or.inl ⟨i, i1, i2, wi.1, i3, pt.2 i (by omega) i1 (isWord_at.mpr (by rw [hw i i1]; exact wi)) (fun j _ hj hn => ?_)⟩
    rcases isWord_01 (c := wd j) (so := so) (wo := wo) with q | q
    · exact q
    · have q2 := isWord_at.mp q
      rw [hw j hj] at q2
      exact absurd ((i4 j hj).mp q2) hn
  · refine Or.inr ⟨i1, pt.1 (fun j _ hj => ?_)⟩
    rcases isWord_01 (c := wd j) (so := so) (wo := wo) with q | q
    · exact q
    · have q2 := isWord_at.mp q
      rw [hw j hj] at q2
      exact absurd q2 (i2 j hj)
end
section
/-! readPart, by what the token is -/
theorem rp_open {go ga ft fo fa fp fq : Nat → Int32} {wd we : Nat → Int64} {ta fr to so fau od nc nl : Int32} {wo : Int64} {pi d : Nat} (hs : E_v_isSign 91 so wo = 1) (hp : pi < 1000) (hd : d < 8) : E_v_readPart go ga ta fr to so wo fau 0 od nc nl (nI pi) (nI d) ft fo fa fp fq wd we = (1, (E_v_next ta fr to so wo ft).1, (E_v_next ta fr to so wo ft).2.1, (E_v_next ta fr to so wo ft).2.2.1, (E_v_next ta fr to so wo ft).2.2.2, fau, 0, nc, nl, nI (pi + 1), nI (d + 1), fo, fa, upd fp pi (nI 32), upd fq pi 0) := by
  rw [E_v_readPart.eq_def, Lt_b, if_pos hs, open_p hp (by rw [nI_toInt (by omega)]; omega) (by rw [nI_toInt (by omega)]; omega)]
  simp only [Lt2]
  rw [kn_p1 (by omega)]
  rfl
theorem rp_open_n {go ga ft fo fa fp fq : Nat → Int32} {wd we : Nat → Int64} {ta fr to so fau od nc nl pi : Int32} {wo : Int64} {d : Nat} (hs : E_v_isSign 91 so wo = 1) (hd : 8 ≤ d) (hd2 : d < 1000) : ∃ a b c e h1 h2 h3 h4, E_v_readPart go ga ta fr to so wo fau 0 od nc nl pi (nI d) ft fo fa fp fq wd we = (1, fr, to, so, wo, fr, 1, a, b, c, e, h1, h2, h3, h4) := by
  rw [E_v_readPart.eq_def, Lt_b, if_pos hs, open_n (by rw [nI_toInt (by omega)]; omega)]
  simp only [Lt2]
  exact ⟨_, _, _, _, _, _, _, _, rfl⟩
/-- no part can begin with it -/
theorem rp_none {go ga ft fo fa fp fq : Nat → Int32} {wd we : Nat → Int64} {ta fr to so fau od nc nl pi opn : Int32} {wo : Int64} (hs : E_v_isSign 91 so wo = 0) (hp : (if od = 0 then E_v_partAt so wo wd else E_v_orderPartAt so wo we) = -1) (hn : so ≠ 2 ∨ 1000 < wo.toInt) : ∃ a b c e h1 h2 h3 h4, E_v_readPart go ga ta fr to so wo fau 0 od nc nl pi opn ft fo fa fp fq wd we = (3, fr, to, so, wo, fr, 1, a, b, c, e, h1, h2, h3, h4) := by
  have z : (1000 : Int64).toInt = 1000 := rfl
  have j59 : ∃ a b c e h1 h2 h3 h4, E_v_readPart_j59 go ga ta fr to so wo fau 0 od nc nl pi opn ft fo fa fp fq (-1) = (3, fr, to, so, wo, fr, 1, a, b, c, e, h1, h2, h3, h4) := by
    rw [E_v_readPart_j59.eq_def, if_pos rfl, if_pos rfl, leaf_n (Or.inl rfl)]
    simp only [Lt2]
    by_cases c : od = 0
    · rw [if_pos c]; exact ⟨_, _, _, _, _, _, _, _, rfl⟩
    · rw [if_neg c, if_pos (by decide)]; exact ⟨_, _, _, _, _, _, _, _, rfl⟩
  rw [E_v_readPart.eq_def, Lt_b, if_neg (by rw [hs]; decide)]
  by_cases c : od = 0
  · rw [if_pos c] at hp
    rw [if_pos c, Lt_b, hp]
    by_cases s2 : so = 2
    · rw [if_pos s2, if_pos ((lg_cmp_gt _ _).mpr (jl_iff.mpr (by have := hn.resolve_left (fun q => q s2); omega)))]
      exact j59
    · rw [if_neg s2]; exact j59
  · rw [if_neg c] at hp
    rw [if_neg c, Lt_b, hp]
    by_cases s2 : so = 2
    · rw [if_pos s2, if_pos ((lg_cmp_gt _ _).mpr (jl_iff.mpr (by have := hn.resolve_left (fun q => q s2); omega)))]
      exact j59
    · rw [if_neg s2]; exact j59
/-- a number -/
theorem rp_num {go ga ft fo fa fp fq : Nat → Int32} {wd we : Nat → Int64} {ta fr to so fau od pi opn : Int32} {wo : Int64} {nc nl : Nat} (hs : E_v_isSign 91 so wo = 0) (hp : (if od = 0 then E_v_partAt so wo wd else E_v_orderPartAt so wo we) = -1) (h2 : so = 2) (hw : wo.toInt ≤ 1000) (hc : nc < 1000) (hl : nl < 50) : E_v_readPart go ga ta fr to so wo fau 0 od (nI nc) (nI nl) pi opn ft fo fa fp fq wd we = (3, (E_v_next ta fr to so wo ft).1, (E_v_next ta fr to so wo ft).2.1, (E_v_next ta fr to so wo ft).2.2.1, (E_v_next ta fr to so wo ft).2.2.2, fau, 0, nI (nc + 1), nI (nl + 1), pi, opn, upd fo nc 0, upd fa nc wo.toInt32, fp, fq) := by
  have z : (1000 : Int64).toInt = 1000 := rfl
  have n3 : ¬ 0 < lg_cmp wo 1000 := fun q => by have := jl_iff.mp ((lg_cmp_gt _ _).mp q); omega
  rw [E_v_readPart.eq_def, Lt_b, if_neg (by rw [hs]; decide)]
  by_cases c : od = 0
  · rw [if_pos c] at hp
    rw [if_pos c, Lt_b, hp, if_pos h2, if_neg n3, if_pos rfl, if_pos rfl, Lt_b, leaf_p hc hl]
    simp only [Lt2]
    rw [if_pos c]
  · rw [if_neg c] at hp
    rw [if_neg c, Lt_b, hp, if_pos h2, if_neg n3, if_pos rfl, if_pos rfl, Lt_b, leaf_p hc hl]
    simp only [Lt2]
    rw [if_neg c, if_pos (by decide)]
/-- too many parts -/
theorem rp_full {go ga ft fo fa fp fq : Nat → Int32} {wd we : Nat → Int64} {ta fr to so fau od nc pi opn : Int32} {wo : Int64} {nl : Nat} (hs : E_v_isSign 91 so wo = 0) (ho : od = 0 ∨ od = 1) (hp : (if od = 0 then E_v_partAt so wo wd else E_v_orderPartAt so wo we) = -1 ∨ (so = 1 ∧ ∃ i : Nat, i < 10 ∧ (if od = 0 then E_v_partAt so wo wd else E_v_orderPartAt so wo we) = nI (i + 1))) (hl : 50 ≤ nl) (hl2 : nl < 1000) : ∃ a b c e h1 h2 h3 h4, E_v_readPart go ga ta fr to so wo fau 0 od nc (nI nl) pi opn ft fo fa fp fq wd we = (3, fr, to, so, wo, fr, 1, a, b, c, e, h1, h2, h3, h4) := by
  have lf : ∀ y z, E_v_leaf go ga 1 y z ta fr to so wo fau 0 nc (nI nl) pi opn ft fo fa fp fq = (fr, to, so, wo, fr, 1, nc, nI nl, fo, fa) := fun y z => leaf_n (Or.inr ⟨rfl, by rw [nI_toInt (by omega)]; omega⟩)
  have l0 : E_v_leaf go ga 0 0 0 ta fr to so wo fau 0 nc (nI nl) pi opn ft fo fa fp fq = (fr, to, so, wo, fr, 1, nc, nI nl, fo, fa) := leaf_n (Or.inl rfl)
  have j59 : ∀ v : Int32, (v = -1 ∨ ∃ i : Nat, i < 10 ∧ v = nI (i + 1)) → ∃ a b c e h1 h2 h3 h4, E_v_readPart_j59 go ga ta fr to so wo fau 0 od nc (nI nl) pi opn ft fo fa fp fq v = (3, fr, to, so, wo, fr, 1, a, b, c, e, h1, h2, h3, h4) := by
    intro v hv
    rw [E_v_readPart_j59.eq_def]
    rcases hv with hv | ⟨i, i1, hv⟩
    · rw [if_pos hv, if_pos hv, l0]
      simp only [Lt2]
      by_cases c : od = 0
      · rw [if_pos c]; exact ⟨_, _, _, _, _, _, _, _, rfl⟩
      · rw [if_neg c, if_pos (by rw [hv]; decide)]; exact ⟨_, _, _, _, _, _, _, _, rfl⟩
    · have n1 : ¬ v = -1 := fun q => by
        have := congrArg Int32.toInt (hv.symm.trans q)
        rw [nI_toInt (by omega)] at this
        have z1 : (-1 : Int32).toInt = -1 := rfl
        omega
      rw [if_neg n1, if_neg n1, lf]
      simp only [Lt2]
      by_cases c : od = 0
      · rw [if_pos c]; exact ⟨_, _, _, _, _, _, _, _, rfl⟩
      · rw [if_neg c]
        by_cases d : v < 6
        · rw [if_pos d]; exact ⟨_, _, _, _, _, _, _, _, rfl⟩
        · rw [if_neg d, if_neg (by decide)]; exact ⟨_, _, _, _, _, _, _, _, rfl⟩
  have nm : ∀ v : Int32, (v = -1 ∨ (so = 1 ∧ ∃ i : Nat, i < 10 ∧ v = nI (i + 1))) → ∀ (A B : Int32 × Int32 × Int32 × Int32 × Int64 × Int32 × Int32 × Int32 × Int32 × Int32 × Int32 × (Nat → Int32) × (Nat → Int32) × (Nat → Int32) × (Nat → Int32)), (v = -1 → ∃ a b c e h1 h2 h3 h4, A = (3, fr, to, so, wo, fr, 1, a, b, c, e, h1, h2, h3, h4)) → ∃ a b c e h1 h2 h3 h4, (if so = 2 then (if 0 < lg_cmp wo 1000 then E_v_readPart_j59 go ga ta fr to so wo fau 0 od nc (nI nl) pi opn ft fo fa fp fq v else (if v = -1 then A else B)) else E_v_readPart_j59 go ga ta fr to so wo fau 0 od nc (nI nl) pi opn ft fo fa fp fq v) = (3, fr, to, so, wo, fr, 1, a, b, c, e, h1, h2, h3, h4) := by
    intro v hv A B hA
    by_cases s2 : so = 2
    · have v1 : v = -1 := hv.resolve_right (fun q => absurd (q.1.symm.trans s2) (by decide))
      rw [if_pos s2]
      by_cases g : 0 < lg_cmp wo 1000
      · rw [if_pos g]; exact j59 v (Or.inl v1)
      · rw [if_neg g, if_pos v1]; exact hA v1
    · rw [if_neg s2]; exact j59 v (hv.imp id (fun q => q.2))
  rw [E_v_readPart.eq_def, Lt_b, if_neg (by rw [hs]; decide)]
  by_cases c : od = 0
  · rw [if_pos c] at hp
    rw [if_pos c, Lt_b]
    refine nm _ hp _ _ (fun hv => ?_)
    rw [if_pos hv, Lt_b, lf]
    simp only [Lt2]
    rw [if_pos c]; exact ⟨_, _, _, _, _, _, _, _, rfl⟩
  · rw [if_neg c] at hp
    rw [if_neg c, Lt_b]
    refine nm _ hp _ _ (fun hv => ?_)
    rw [if_pos hv, Lt_b, lf]
    simp only [Lt2]
    rw [if_neg c, if_pos (by rw [hv]; decide)]; exact ⟨_, _, _, _, _, _, _, _, rfl⟩
/-- a word (of orders: one that nothing stands behind) -/
theorem rp_word {go ga ft fo fa fp fq : Nat → Int32} {wd we : Nat → Int64} {ta fr to so fau od pi opn : Int32} {wo : Int64} {nc nl i : Nat} (hs : E_v_isSign 91 so wo = 0) (hi : i < 10) (hp : (if od = 0 then E_v_partAt so wo wd else E_v_orderPartAt so wo we) = nI (i + 1)) (h1 : so = 1) (h5 : od = 0 ∨ i < 5) (hc : nc < 1000) (hl : nl < 50) : E_v_readPart go ga ta fr to so wo fau 0 od (nI nc) (nI nl) pi opn ft fo fa fp fq wd we = (3, (E_v_next ta fr to so wo ft).1, (E_v_next ta fr to so wo ft).2.1, (E_v_next ta fr to so wo ft).2.2.1, (E_v_next ta fr to so wo ft).2.2.2, fau, 0, nI (nc + 1), nI (nl + 1), pi, opn, upd fo nc (nI (i + 1)), upd fa nc 0, fp, fq) := by
  have n1 : ¬ nI (i + 1) = -1 := fun q => by
    have := congrArg Int32.toInt q
    rw [nI_toInt (by omega)] at this
    have z1 : (-1 : Int32).toInt = -1 := rfl
    omega
  have n2 : ¬ so = 2 := fun q => absurd (h1.symm.trans q) (by decide)
  rw [E_v_readPart.eq_def, Lt_b, if_neg (by rw [hs]; decide)]
  by_cases c : od = 0
  · rw [if_pos c] at hp
    rw [if_pos c, Lt_b, hp, if_neg n2, E_v_readPart_j59.eq_def, if_neg n1, if_neg n1, leaf_p hc hl]
    simp only [Lt2]
    rw [if_pos c]
  · rw [if_neg c] at hp
    rw [if_neg c, Lt_b, hp, if_neg n2, E_v_readPart_j59.eq_def, if_neg n1, if_neg n1, leaf_p hc hl]
    simp only [Lt2]
    rw [if_neg c, if_pos (kn_ltl (j := 6) rfl (by omega) (by have := h5.resolve_left c; omega))]
theorem number_p {ta fr to so fau : Int32} {wo y z : Int64} {ft : Nat → Int32} (h2 : so = 2) (hi : E_v_in wo y z = 1) : E_v_number y z ta fr to so wo fau 0 ft = (wo.toInt32, (E_v_next ta fr to so wo ft).1, (E_v_next ta fr to so wo ft).2.1, (E_v_next ta fr to so wo ft).2.2.1, (E_v_next ta fr to so wo ft).2.2.2, fau, 0) := by
  rw [E_v_number.eq_def, Lt_b, if_pos h2, Lt_b, if_pos hi, must_1]
  rfl
theorem number_n {ta fr to so fau : Int32} {wo y z : Int64} {ft : Nat → Int32} (h : so ≠ 2 ∨ E_v_in wo y z ≠ 1) : E_v_number y z ta fr to so wo fau 0 ft = (wo.toInt32, fr, to, so, wo, fr, 1) := by
  rw [E_v_number.eq_def, Lt_b]
  by_cases c : so = 2
  · rw [if_pos c, Lt_b, if_neg (h.resolve_left (fun q => q c)), must_0]
    rfl
  · rw [if_neg c, must_0]
    rfl
/-- a word of orders that a number stands behind -/
theorem rp_tell {go ga ft fo fa fp fq : Nat → Int32} {wd we : Nat → Int64} {ta fr to so fau od pi opn : Int32} {wo : Int64} {nc nl i : Nat} (hs : E_v_isSign 91 so wo = 0) (hi : i < 8) (hp : E_v_orderPartAt so wo we = nI (i + 1)) (ho : od = 1) (h1 : so = 1) (h5 : 5 ≤ i) (hc : nc < 1000) (hl : nl < 50) : E_v_readPart go ga ta fr to so wo fau 0 od (nI nc) (nI nl) pi opn ft fo fa fp fq wd we = (3, (E_v_number 0 (if i = 7 then 6 else 7) ta (E_v_next ta fr to so wo ft).1 (E_v_next ta fr to so wo ft).2.1 (E_v_next ta fr to so wo ft).2.2.1 (E_v_next ta fr to so wo ft).2.2.2 fau 0 ft).2.1, (E_v_number 0 (if i = 7 then 6 else 7) ta (E_v_next ta fr to so wo ft).1 (E_v_next ta fr to so wo ft).2.1 (E_v_next ta fr to so wo ft).2.2.1 (E_v_next ta fr to so wo ft).2.2.2 fau 0 ft).2.2.1, (E_v_number 0 (if i = 7 then 6 else 7) ta (E_v_next ta fr to so wo ft).1 (E_v_next ta fr to so wo ft).2.1 (E_v_next ta fr to so wo ft).2.2.1 (E_v_next ta fr to so wo ft).2.2.2 fau 0 ft).2.2.2.1, (E_v_number 0 (if i = 7 then 6 else 7) ta (E_v_next ta fr to so wo ft).1 (E_v_next ta fr to so wo ft).2.1 (E_v_next ta fr to so wo ft).2.2.1 (E_v_next ta fr to so wo ft).2.2.2 fau 0 ft).2.2.2.2.1, (E_v_number 0 (if i = 7 then 6 else 7) ta (E_v_next ta fr to so wo ft).1 (E_v_next ta fr to so wo ft).2.1 (E_v_next ta fr to so wo ft).2.2.1 (E_v_next ta fr to so wo ft).2.2.2 fau 0 ft).2.2.2.2.2.1, (E_v_number 0 (if i = 7 then 6 else 7) ta (E_v_next ta fr to so wo ft).1 (E_v_next ta fr to so wo ft).2.1 (E_v_next ta fr to so wo ft).2.2.1 (E_v_next ta fr to so wo ft).2.2.2 fau 0 ft).2.2.2.2.2.2, nI (nc + 1), nI (nl + 1), pi, opn, upd fo nc (nI (i + 1)), upd (upd fa nc 0) nc (E_v_number 0 (if i = 7 then 6 else 7) ta (E_v_next ta fr to so wo ft).1 (E_v_next ta fr to so wo ft).2.1 (E_v_next ta fr to so wo ft).2.2.1 (E_v_next ta fr to so wo ft).2.2.2 fau 0 ft).1, fp, fq) := by
  have n1 : ¬ nI (i + 1) = -1 := fun q => by
    have := congrArg Int32.toInt q
    rw [nI_toInt (by omega)] at this
    have z1 : (-1 : Int32).toInt = -1 := rfl
    omega
  have n2 : ¬ so = 2 := fun q => absurd (h1.symm.trans q) (by decide)
  have o1 : ¬ od = 0 := by rw [ho]; decide
  rw [E_v_readPart.eq_def, Lt_b, if_neg (by rw [hs]; decide), if_neg o1, Lt_b, hp, if_neg n2, E_v_readPart_j59.eq_def, if_neg n1, if_neg n1, leaf_p hc hl]
  simp only [Lt2, Lt]
  rw [if_neg o1, if_neg (kn_nltl (j := 6) rfl (by omega) (by omega)), if_pos (by trivial), kn_m1 (by omega) (by omega), kn_cl (by omega), show nc + 1 - 1 = nc by omega]
  by_cases e : i = 7
  · rw [if_pos (by rw [e]; rfl), if_pos e]
  · rw [if_neg (kn_nz (j := 8) rfl (by omega) (by omega)), if_neg e]
end
