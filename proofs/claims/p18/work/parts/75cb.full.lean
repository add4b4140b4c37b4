/-! a whole law, on both sides -/
theorem told_loop {b nc nh w n : Nat} {fh fc fw cw : Nat → Int32} {fe : Nat → Int64} (hw : w < 4) (hb : b ≤ 100000) (hn : n ≤ 12) (hn1 : 5 * n ≤ nh) (hn2 : nh < 1000000) (hc : nc ≤ 1000000) (h1 : ktx fw b 1 = nI n) (hk : ∀ i, i < n → ∃ v : Nat, v < 4 ∧ fh (5 * i) = nI v ∧ ktx fw b (2 + 8 * i) = nI v ∧ KTest fc (ktx fw b) nc (fh (5 * i + 4)) (ktx fw b (2 + 8 * i + 5)) (ktx fw b (2 + 8 * i + 6)) ∧ (v = 3 ∨ KSum fc (ktx fw b) nc (fh (5 * i + 2)) (ktx fw b (2 + 8 * i + 3)) (ktx fw b (2 + 8 * i + 4)))) (henv : KEnv 0 (fun w => cw w.toNatClampNeg) (fun w => 0 ≤ w.toInt ∧ w.toInt < ((9 : Nat) : Int)) (fun o a => if o = 0 then a.toInt64 else fe o.toNatClampNeg)) (z : KTC) (y : KTR) : ∀ i, i ≤ n →
    ((∀ F br f, ∃ br' f', Lp (E_w_told_l17 nh nc fh fc (nI w) cw) z (F + i + 1) (nI i - 1) br f = (aF 2 w, br', f')) ∧ ∀ F told br vl sm f, ∃ br' vl' sm' f', Lp (E_v_tells_l148 (nI w) fw (nI b) fe) y (F + i) 0 told br vl sm f = Lp (E_v_tells_l148 (nI w) fw (nI b) fe) y F (nI i) told br' vl' sm' f') ∨
    (∃ g : Int, (w = 3 → g = 1) ∧ (∀ F br f, ∃ r br' f', Lp (E_w_told_l17 nh nc fh fc (nI w) cw) z (F + i + 1) (nI i - 1) br f = (r, br', f') ∧ r.toInt = kz_cl g (aF 3 w).toInt) ∧ ∀ F told br vl sm f, ∃ t br' vl' sm' f', Lp (E_v_tells_l148 (nI w) fw (nI b) fe) y (F + i) 0 told br vl sm f = Lp (E_v_tells_l148 (nI w) fw (nI b) fe) y F (nI i) t br' vl' sm' f' ∧ t.toInt = g) := by
  have s1 : fw (nI b + 1).toNatClampNeg = nI n := by
    rw [kn_p1 (by omega), kn_cl (by omega)]; exact h1
  intro i
  induction i with
  | zero =>
    intro _
    refine Or.inl ⟨fun F br f => ⟨br, f, ?_⟩, fun F told br vl sm f => ⟨br, vl, sm, f, rfl⟩⟩
    rw [Nat.add_zero, Lp_s, E_w_told_l17.eq_def, if_pos (show nI 0 - 1 < 0 by decide), Lt_b, kn_cl (by omega)]
  | succ i ih =>
    intro hi
    obtain ⟨v, k1, k2, k3, k4, k5⟩ := hk i (by omega)
    have ix : nI (i + 1) - 1 = nI i := by rw [kn_m1 (by omega) (by omega)]; rfl
    have jx : ∀ rc br f, E_w_told_j136 (nI i) rc br f = rc (nI i - 1) br f := fun rc br f => by
      rw [E_w_told_j136.eq_def, Lt_b, kn_ms (by omega)]
    have nle : ¬ fw (nI b + 1).toNatClampNeg ≤ nI i := by
      rw [s1]; exact fun q => by have := (kn_le (by omega) (by omega)).mp q; omega
    rcases cl_both (fh := fh) (cw := cw) k1 hw hb (show i < 12 by omega) (show 5 * i + 5 ≤ nh by omega) hn2 hc k2 k3 k4 k5 henv with ⟨c1, c2⟩ | ⟨g, c0, c1, c2⟩
    · rcases ih (by omega) with ⟨d1, d2⟩ | ⟨g, d0, d1, d2⟩
      · refine Or.inl ⟨fun F br f => ?_, fun F told br vl sm f => ?_⟩
        · obtain ⟨br1, f1, e1⟩ := c1 (Lp (E_w_told_l17 nh nc fh fc (nI w) cw) z (F + (i + 1))) br f
          obtain ⟨br2, f2, e2⟩ := d1 F br1 f1
          exact ⟨br2, f2, by rw [Lp_s, ix, e1, jx, ← e2]; rfl⟩
        · obtain ⟨br1, vl1, sm1, f1, e1⟩ := d2 (F + 1) told br vl sm f
          obtain ⟨br2, vl2, sm2, f2, e2⟩ := c2 (Lp (E_v_tells_l148 (nI w) fw (nI b) fe) y F) told br1 vl1 sm1 f1 nle
          exact ⟨br2, vl2, sm2, f2, by rw [show F + (i + 1) = F + 1 + i by omega, e1, Lp_s, e2]⟩
      · refine Or.inr ⟨g, d0, fun F br f => ?_, fun F told br vl sm f => ?_⟩
        · obtain ⟨br1, f1, e1⟩ := c1 (Lp (E_w_told_l17 nh nc fh fc (nI w) cw) z (F + (i + 1))) br f
          obtain ⟨r, br2, f2, e2, e3⟩ := d1 F br1 f1
          exact ⟨r, br2, f2, by rw [Lp_s, ix, e1, jx, ← e2]; rfl, e3⟩
        · obtain ⟨t, br1, vl1, sm1, f1, e1, e3⟩ := d2 (F + 1) told br vl sm f
          obtain ⟨br2, vl2, sm2, f2, e2⟩ := c2 (Lp (E_v_tells_l148 (nI w) fw (nI b) fe) y F) t br1 vl1 sm1 f1 nle
          exact ⟨t, br2, vl2, sm2, f2, by rw [show F + (i + 1) = F + 1 + i by omega, e1, Lp_s, e2], e3⟩
    · have back : ∀ F told br vl sm f, ∃ t br' vl' sm' f', Lp (E_v_tells_l148 (nI w) fw (nI b) fe) y (F + 1 + i) 0 told br vl sm f = Lp (E_v_tells_l148 (nI w) fw (nI b) fe) y (F + 1) (nI i) t br' vl' sm' f' := by
        intro F told br vl sm f
        rcases ih (by omega) with ⟨d1, d2⟩ | ⟨g, d0, d1, d2⟩
        · obtain ⟨br1, vl1, sm1, f1, e1⟩ := d2 (F + 1) told br vl sm f
          exact ⟨_, _, _, _, _, e1⟩
        · obtain ⟨t, br1, vl1, sm1, f1, e1, _⟩ := d2 (F + 1) told br vl sm f
          exact ⟨_, _, _, _, _, e1⟩
      refine Or.inr ⟨g, c0, fun F br f => ?_, fun F told br vl sm f => ?_⟩
      · obtain ⟨r, br1, f1, e1, e3⟩ := c1 (Lp (E_w_told_l17 nh nc fh fc (nI w) cw) z (F + (i + 1))) br f
        exact ⟨r, br1, f1, by rw [Lp_s, ix, e1], e3⟩
      · obtain ⟨t, br1, vl1, sm1, f1, e1⟩ := back F told br vl sm f
        obtain ⟨t2, br2, vl2, sm2, f2, e2, e3⟩ := c2 (Lp (E_v_tells_l148 (nI w) fw (nI b) fe) y F) t br1 vl1 sm1 f1 nle
        exact ⟨t2, br2, vl2, sm2, f2, by rw [show F + (i + 1) = F + 1 + i by omega, e1, Lp_s, e2], e3⟩
/-- the words that a law is asked with, on both sides -/
noncomputable def KWd (cw : Nat → Int32) (fe : Nat → Int64) : Prop := ∀ j, j < 9 → (fe (j + 1)).toInt = (cw j).toInt ∧ -1000000000 ≤ (cw j).toInt ∧ (cw j).toInt ≤ 1000000000
theorem KWd.env {cw : Nat → Int32} {fe : Nat → Int64} (h : KWd cw fe) : KEnv 0 (fun w => cw w.toNatClampNeg) (fun w => 0 ≤ w.toInt ∧ w.toInt < ((9 : Nat) : Int)) (fun o a => if o = 0 then a.toInt64 else fe o.toNatClampNeg) := by
  refine ⟨fun a => ?_, fun w op a hk => ?_⟩
  · show (if (0 : Int32) = 0 then a.toInt64 else fe (0 : Int32).toNatClampNeg).toInt = a.toInt
    rw [if_pos rfl]; exact wide_at
  · unfold KL at hk
    rw [if_pos rfl] at hk
    obtain ⟨j, h1, rfl, rfl⟩ := hk
    have q := h j h1
    show (0 ≤ (nI j).toInt ∧ (nI j).toInt < ((9 : Nat) : Int)) ∧ (if nI (j + 1) = 0 then a.toInt64 else fe (nI (j + 1)).toNatClampNeg).toInt = (cw (nI j).toNatClampNeg).toInt ∧ _ ≤ (cw (nI j).toNatClampNeg).toInt ∧ (cw (nI j).toNatClampNeg).toInt ≤ _
    rw [if_neg (kn_nz (j := 0) rfl (by omega) (by omega)), kn_cl (by omega), kn_cl (by omega), nI_toInt (by omega)]
    exact ⟨by omega, q⟩
/-- THE LAW TELLS THE SAME: a class's law c, the reference's text at b -/
theorem told_at {c : LC} {fw cw : Nat → Int32} {fe : Nat → Int64} {b w : Nat} (hL : KLaw c (ktx fw b)) (hw : w < 4) (hb : b ≤ 100000) (hwd : KWd cw fe) (y : KTR) :
    ((∀ br fs, ∃ br' f', E_w_told c.1 c.2.1 c.2.2.1 c.2.2.2.1 c.2.2.2.2.1 (nI w) br fs cw = (aF 2 w, br', f')) ∧ ∀ told br vl sm f, ∃ br' vl' sm' f', Lp (E_v_tells_l148 (nI w) fw (nI b) fe) y 14 0 told br vl sm f = (told, nI b, br', vl', sm', fe, f')) ∨
    (∃ g : Int, (w = 3 → g = 1) ∧ (∀ br fs, ∃ r br' f', E_w_told c.1 c.2.1 c.2.2.1 c.2.2.2.1 c.2.2.2.2.1 (nI w) br fs cw = (r, br', f') ∧ r.toInt = kz_cl g (aF 3 w).toInt) ∧ ∀ told br vl sm f, ∃ t br' vl' sm' f', Lp (E_v_tells_l148 (nI w) fw (nI b) fe) y 14 0 told br vl sm f = (t, nI b, br', vl', sm', fe, f') ∧ t.toInt = g) := by
  obtain ⟨n, h1, h2, h3, h4, h5, h6, h7⟩ := hL
  have stop : ∀ F t br vl sm f, Lp (E_v_tells_l148 (nI w) fw (nI b) fe) y (F + 1) (nI n) t br vl sm f = (t, nI b, br, vl, sm, fe, f) := by
    intro F t br vl sm f
    rw [Lp_s]
    simp only [E_v_tells_l148, Lt]
    rw [if_pos (by rw [kn_p1 (by omega), kn_cl (by omega), show fw (b + 1) = nI n from h3]; exact ie_iff.mpr (Int.le_refl _))]
  have fu : ((nI n - 1).toInt + 1 : Int).toNat + 1 = 0 + n + 1 := by
    rw [i_sub (nI_toInt (by omega)) (show (1 : Int32).toInt = 1 from rfl) (by omega)]; omega
  rcases told_loop hw hb h1 h4 h5 h6 h3 h7 hwd.env (fun _ _ _ => ((0, 0, fun _ => 0) : Int32 × Int32 × (Nat → Int32))) y n (Nat.le_refl _) with ⟨d1, d2⟩ | ⟨g, d0, d1, d2⟩
  · refine Or.inl ⟨fun br fs => ?_, fun told br vl sm f => ?_⟩
    · obtain ⟨br1, f1, e1⟩ := d1 0 br fs
      refine ⟨br1, f1, ?_⟩
      rw [E_w_told.eq_def, Lt_b, h2, fu]; exact e1
    · obtain ⟨br1, vl1, sm1, f1, e1⟩ := d2 (14 - n) told br vl sm f
      refine ⟨br1, vl1, sm1, f1, ?_⟩
      rw [show 14 = 14 - n + n by omega, e1, show 14 - n = 13 - n + 1 by omega, stop]
  · refine Or.inr ⟨g, d0, fun br fs => ?_, fun told br vl sm f => ?_⟩
    · obtain ⟨r, br1, f1, e1, e2⟩ := d1 0 br fs
      refine ⟨r, br1, f1, ?_, e2⟩
      rw [E_w_told.eq_def, Lt_b, h2, fu]; exact e1
    · obtain ⟨t, br1, vl1, sm1, f1, e1, e2⟩ := d2 (14 - n) told br vl sm f
      refine ⟨t, br1, vl1, sm1, f1, ?_, e2⟩
      rw [show 14 = 14 - n + n by omega, e1, show 14 - n = 13 - n + 1 by omega, stop]
