/-! what both sides find a token to be -/
/-- what a word of a list is worth -/
noncomputable def kwh (k j : Nat) : Int := hsh (sf k) (kwo k j) (kwl k j)
theorem kwh_i0 : (List.range 13).all (fun k => !(decide (k ≤ 7 ∨ k = 11 ∨ k = 12)) || (List.range (kwn k)).all (fun i => (List.range (kwn k)).all (fun j => decide (kwh k i = kwh k j → i = j)))) = true := by decide +kernel
theorem kwh_inj (k : Nat) (hk : k < 13) (h : k ≤ 7 ∨ k = 11 ∨ k = 12) (i : Nat) (hi : i < kwn k) (j : Nat) (hj : j < kwn k) : kwh k i = kwh k j → i = j := of_decide_eq_true (all_rng (all_rng (or_rng h (all_rng kwh_i0 hk)) hi) hj)
theorem tk_find {f : Nat → Int32} {L p k : Nat} {tf tt ti tu fr to so : Int32} {wo : Int64} (hk : k < 13) (hk2 : k ≤ 7 ∨ k = 11 ∨ k = 12) (h : TkP f L p (tf, tt, ti, tu) (fr, to, so, wo)) (ln : Int32) :
    (∃ i, i < kwn k ∧ p < L ∧ E_w_find k ln tf tt ti tu f = nI i ∧ ∀ j, j < kwn k → ((so = 1 ∧ wo.toInt = kwh k j) ↔ j = i)) ∨ (E_w_find k ln tf tt ti tu f = -1 ∧ ∀ j, j < kwn k → ¬ (so = 1 ∧ wo.toInt = kwh k j)) := by
  obtain ⟨e1, e2, e, e3, e4, e5, e6, e7⟩ := h.froms
  obtain ⟨w0, w1, w2⟩ := kw_ok k hk hk2
  have hs := sn_le k
  have fd := fd_all (p := p) (n := e - p) (fb := f) hk hk2 (by have := h.2.1; omega) (fun _ _ _ => ((0) : Int32)) (kwn k) 0 50 (by omega) (by omega)
  rw [show p + (e - p) = e by omega, w0, show nI 0 = 0 from rfl] at fd
  have ef : E_w_find k ln tf tt ti tu f = Lp (α := Int32 → Int32 → Int32 → (Int32)) (E_w_find_l7 k (nI p) (nI e) f) (fun _ _ _ => ((0) : Int32)) 50 0 0 0 := by
    rw [E_w_find.eq_def, e1, e3]; rfl
  rw [ef]
  -- a token of letters
  have key : ∀ j, j < kwn k → ((so = 1 ∧ wo.toInt = kwh k j) ↔ tokw f p (e - p) k (kwo k j) (kwl k j)) := by
    intro j hj
    obtain ⟨a1, a2, a3, a4, a5, a6⟩ := w2 j hj
    obtain ⟨k1, k2, k3, hc, hm⟩ := h
    have lw : ∀ i, i < kwl k j → lt_ (sf k) (kwo k j + i) := fun i hi => (a4 i hi).2
    have z1 : ∀ {x : Int32}, x = 1 → x.toInt = 1 := fun h => by rw [h]; rfl
    rcases hm with ⟨a, b⟩ | ⟨a, b, w, c, d⟩ | ⟨a, b, w, c, d⟩ | ⟨a, b, b2, w, c, d⟩
    · simp only [Prod.mk.injEq] at b
      refine ⟨fun q => ?_, fun q => ?_⟩
      · have := z1 q.1; rw [b.2.2.1] at this; exact absurd this (by decide)
      · have := q.1; omega
    · simp only [Prod.mk.injEq] at c
      obtain ⟨c1, c2, c3, c4⟩ := c
      have le := lx_le (f := f) (L - (p + 1)) (p + 1)
      have ee : e = lx f (L - (p + 1)) (p + 1) := by
        have q := e4.symm.trans c2
        exact (kn_eq (by omega) (by omega)).mp q
      have lt : ∀ i, i < e - p → lt_ f (p + i) := fun i hi => by
        by_cases c0 : i = 0
        · rw [c0]; exact b
        · exact lx_all (L - (p + 1)) (p + 1) (p + i) (by omega) (by rw [← ee]; omega)
      rw [tokw_hsh lt lw a6, c3, c4, d, ← ee]
      exact ⟨fun q => q.2, fun q => ⟨rfl, q⟩⟩
    · simp only [Prod.mk.injEq] at c
      refine ⟨fun q => ?_, fun q => ?_⟩
      · have := z1 q.1; rw [c.2.2.1] at this; exact absurd this (by decide)
      · have q0 := q.2 0 (by omega)
        have l0 := lw 0 (by omega)
        unfold lt_ at l0
        unfold dg_ at b
        rw [← q0, Nat.add_zero] at l0
        omega
    · simp only [Prod.mk.injEq] at c
      refine ⟨fun q => ?_, fun q => ?_⟩
      · have := z1 q.1; rw [c.2.2.1] at this; exact absurd this (by decide)
      · have q0 := q.2 0 (by omega)
        have l0 := lw 0 (by omega)
        unfold lt_ at l0
        unfold lt_ at b
        rw [← q0, Nat.add_zero] at l0
        omega
  rcases fd with ⟨i, _, i2, i3, i4⟩ | ⟨i1, i2⟩
  · have ki := (key i i2).mpr i3
    refine Or.inl ⟨i, i2, ?_, i4, fun j hj => ⟨fun q => ?_, fun q => by rw [q]; exact ki⟩⟩
    · have a1 := (w2 i i2).1
      have := i3.1
      omega
    · exact kwh_inj k hk hk2 j hj i i2 (q.2.symm.trans ki.2)
  · exact Or.inr ⟨i2, fun j hj q => i1 j (Nat.zero_le _) hj ((key j hj).mp q)⟩
theorem isWord_at {c : Int64} {so : Int32} {wo : Int64} : E_v_isWord c so wo = 1 ↔ so = 1 ∧ wo.toInt = c.toInt := by
  unfold E_v_isWord
  by_cases a : so = 1
  · rw [if_pos a]
    by_cases b : lg_cmp wo c = 0
    · have b2 := (lg_cmp_eq _ _).mp b
      rw [if_pos b]; exact ⟨fun _ => ⟨a, by rw [b2]⟩, fun _ => rfl⟩
    · rw [if_neg b]
      exact ⟨fun q => absurd q (by decide), fun q => absurd ((lg_cmp_eq _ _).mpr (Int64.toInt_inj.mp q.2)) b⟩
  · rw [if_neg a]
    exact ⟨fun q => absurd q (by decide), fun q => absurd q.1 a⟩
theorem isWord_01 {c : Int64} {so : Int32} {wo : Int64} : E_v_isWord c so wo = 0 ∨ E_v_isWord c so wo = 1 := by
  unfold E_v_isWord
  split
  · split
    · exact Or.inr rfl
    · exact Or.inl rfl
  · exact Or.inl rfl
/-- a list of one word -/
theorem tk_one {f : Nat → Int32} {L p k : Nat} {tf tt ti tu fr to so : Int32} {wo c : Int64} (hk : k < 13) (hk2 : k ≤ 7 ∨ k = 11 ∨ k = 12) (h1 : kwn k = 1) (hc : kwh k 0 = c.toInt) (h : TkP f L p (tf, tt, ti, tu) (fr, to, so, wo)) (ln : Int32) : (E_w_find k ln tf tt ti tu f = 0 ∧ E_v_isWord c so wo = 1 ∧ p < L) ∨ (E_w_find k ln tf tt ti tu f ≠ 0 ∧ E_v_isWord c so wo = 0) := by
  rcases tk_find hk hk2 h ln with ⟨i, i1, i2, i3, i4⟩ | ⟨i1, i2⟩
  · have i0 : i = 0 := by omega
    have q := (i4 0 (by omega)).mpr i0.symm
    rw [hc] at q
    exact Or.inl ⟨by rw [i3, i0]; rfl, isWord_at.mpr q, i2⟩
  · refine Or.inr ⟨by rw [i1]; decide, ?_⟩
    rcases isWord_01 (c := c) (so := so) (wo := wo) with q | q
    · exact q
    · exact absurd (by have := isWord_at.mp q; rw [← hc] at this; exact this) (i2 0 (by omega))
theorem isSign_01 {c so : Int32} {wo : Int64} : E_v_isSign c so wo = 0 ∨ E_v_isSign c so wo = 1 := by
  unfold E_v_isSign
  split
  · simp only [Lt]
    split
    · exact Or.inr rfl
    · exact Or.inl rfl
  · exact Or.inl rfl
/-- a sign -/
theorem tk_sign {f : Nat → Int32} {L p : Nat} {tf tt ti tu fr to so c : Int32} {wo : Int64} (hc : 0 ≤ c.toInt ∧ ¬ (97 ≤ c.toInt ∧ c.toInt ≤ 122) ∧ ¬ (48 ≤ c.toInt ∧ c.toInt ≤ 57)) (h : TkP f L p (tf, tt, ti, tu) (fr, to, so, wo)) : (ti = c ∧ E_v_isSign c so wo = 1 ∧ p < L) ∨ (ti ≠ c ∧ E_v_isSign c so wo = 0) := by
  have e3 : ∀ {x : Int32}, x ≠ 3 → E_v_isSign c x wo = 0 := fun hx => by unfold E_v_isSign; rw [if_neg hx]
  obtain ⟨h1, h2, h3, hq, hm⟩ := h
  unfold CT at hq
  unfold MT at hm
  rcases hq with ⟨a, b⟩ | ⟨a, b, q⟩ | ⟨a, b, m, q, d⟩ | ⟨a, b, b2, q⟩
  · simp only [Prod.mk.injEq] at b
    refine Or.inr ⟨fun q => ?_, ?_⟩
    · have := b.2.2.1
      rw [q] at this
      rw [this] at hc
      exact absurd hc.1 (by decide)
    · rcases hm with ⟨a', b'⟩ | ⟨a', _⟩ | ⟨a', _⟩ | ⟨a', _⟩
      · simp only [Prod.mk.injEq] at b'
        exact e3 (by rw [b'.2.2.1]; decide)
      · omega
      · omega
      · omega
  · simp only [Prod.mk.injEq] at q
    refine Or.inr ⟨fun z => ?_, ?_⟩
    · unfold lt_ at b
      rw [← q.2.2.1, z] at b
      exact hc.2.1 b
    · rcases hm with ⟨a', b'⟩ | ⟨a', b', w, c', d'⟩ | ⟨a', b', w, c', d'⟩ | ⟨a', b', b2', w, c', d'⟩
      · omega
      · simp only [Prod.mk.injEq] at c'
        exact e3 (by rw [c'.2.2.1]; decide)
      · simp only [Prod.mk.injEq] at c'
        exact e3 (by rw [c'.2.2.1]; decide)
      · exact absurd b b'
  · simp only [Prod.mk.injEq] at q
    refine Or.inr ⟨fun z => ?_, ?_⟩
    · unfold dg_ at b
      rw [← q.2.2.1, z] at b
      exact hc.2.2 b
    · rcases hm with ⟨a', b'⟩ | ⟨a', b', w, c', d'⟩ | ⟨a', b', w, c', d'⟩ | ⟨a', b', b2', w, c', d'⟩
      · omega
      · simp only [Prod.mk.injEq] at c'
        exact e3 (by rw [c'.2.2.1]; decide)
      · simp only [Prod.mk.injEq] at c'
        exact e3 (by rw [c'.2.2.1]; decide)
      · exact absurd b b2'
  · simp only [Prod.mk.injEq] at q
    rcases hm with ⟨a', b'⟩ | ⟨a', b', w, c', d'⟩ | ⟨a', b', w, c', d'⟩ | ⟨a', b', b2', w, c', d'⟩
    · omega
    · exact absurd b' b
    · exact absurd b' b2
    · simp only [Prod.mk.injEq] at c'
      have st : E_v_isSign c so wo = if lg_cmp wo c.toInt64 = 0 then 1 else 0 := by
        unfold E_v_isSign
        rw [if_pos c'.2.2.1, Lt_b]
      have wq : wo.toInt = ti.toInt := by rw [c'.2.2.2, d', q.2.2.1]
      by_cases z : ti = c
      · refine Or.inl ⟨z, ?_, a⟩
        rw [st, if_pos ((lg_cmp_eq _ _).mpr (Int64.toInt_inj.mp (by rw [wq, z, wide_at])))]
      · refine Or.inr ⟨z, ?_⟩
        rw [st, if_neg (fun y => z (Int32.toInt_inj.mp (by have := congrArg Int64.toInt ((lg_cmp_eq _ _).mp y); rw [wq, wide_at] at this; exact this)))]
/-- the end -/
theorem tk_end {f : Nat → Int32} {L p : Nat} {tf tt ti tu fr to so : Int32} {wo : Int64} (h : TkP f L p (tf, tt, ti, tu) (fr, to, so, wo)) : (p = L ∧ ti = -1 ∧ so = 0) ∨ (p < L ∧ ti ≠ -1 ∧ so ≠ 0) := by
  obtain ⟨h1, h2, h3, hq, hm⟩ := h
  unfold CT at hq
  unfold MT at hm
  by_cases c : p = L
  · rcases hq with ⟨a, b⟩ | ⟨a, _⟩ | ⟨a, _⟩ | ⟨a, _⟩
    · rcases hm with ⟨a', b'⟩ | ⟨a', _⟩ | ⟨a', _⟩ | ⟨a', _⟩
      · simp only [Prod.mk.injEq] at b b'
        exact Or.inl ⟨c, b.2.2.1, b'.2.2.1⟩
      · omega
      · omega
      · omega
    · omega
    · omega
    · omega
  · have hp : p < L := by omega
    have fp := h3 p hp
    have t : ti = f p := by
      rcases hq with ⟨a, b⟩ | ⟨a, b, q⟩ | ⟨a, b, m, q, d⟩ | ⟨a, b, b2, q⟩
      · omega
      · simp only [Prod.mk.injEq] at q; exact q.2.2.1
      · simp only [Prod.mk.injEq] at q; exact q.2.2.1
      · simp only [Prod.mk.injEq] at q; exact q.2.2.1
    refine Or.inr ⟨hp, fun q => ?_, ?_⟩
    · rw [← t, q] at fp; exact absurd fp (by decide)
    · rcases hm with ⟨a', b'⟩ | ⟨a', b', w, c', d'⟩ | ⟨a', b', w, c', d'⟩ | ⟨a', b', b2', w, c', d'⟩
      · omega
      · simp only [Prod.mk.injEq] at c'; rw [c'.2.2.1]; decide
      · simp only [Prod.mk.injEq] at c'; rw [c'.2.2.1]; decide
      · simp only [Prod.mk.injEq] at c'; rw [c'.2.2.1]; decide
/-- a number -/
theorem tk_num {f : Nat → Int32} {L p : Nat} {tf tt ti tu fr to so : Int32} {wo : Int64} (h : TkP f L p (tf, tt, ti, tu) (fr, to, so, wo)) : (p < L ∧ so = 2 ∧ 48 ≤ ti.toInt ∧ ti.toInt ≤ 57 ∧ 0 ≤ tu.toInt ∧ ((tu.toInt = wo.toInt ∧ wo.toInt ≤ 1000000) ∨ (tu.toInt = 1000000 ∧ 1000000 < wo.toInt ∧ wo.toInt ≤ 10000010))) ∨ (so ≠ 2 ∧ tu = -1) := by
  obtain ⟨h1, h2, h3, hq, hm⟩ := h
  unfold CT at hq
  unfold MT at hm
  rcases hm with ⟨a', b'⟩ | ⟨a', b', w, c', d'⟩ | ⟨a', b', w, c', d'⟩ | ⟨a', b', b2', w, c', d'⟩
  · simp only [Prod.mk.injEq] at b'
    rcases hq with ⟨a, b⟩ | ⟨a, _⟩ | ⟨a, _⟩ | ⟨a, _⟩
    · simp only [Prod.mk.injEq] at b
      exact Or.inr ⟨by rw [b'.2.2.1]; decide, b.2.2.2⟩
    · omega
    · omega
    · omega
  · simp only [Prod.mk.injEq] at c'
    rcases hq with ⟨a, b⟩ | ⟨a, b, q⟩ | ⟨a, b, m, q, d⟩ | ⟨a, b, b2, q⟩
    · omega
    · simp only [Prod.mk.injEq] at q
      exact Or.inr ⟨by rw [c'.2.2.1]; decide, q.2.2.2⟩
    · unfold lt_ at b'; unfold dg_ at b; omega
    · exact absurd b' b
  · simp only [Prod.mk.injEq] at c'
    rcases hq with ⟨a, b⟩ | ⟨a, b, q⟩ | ⟨a, b, m, q, d⟩ | ⟨a, b, b2, q⟩
    · omega
    · unfold lt_ at b; unfold dg_ at b'; omega
    · simp only [Prod.mk.injEq] at q
      have le := dx_le (f := f) (L - (p + 1)) (p + 1)
      have dd : ∀ j, j < dx f (L - (p + 1)) (p + 1) - p → dg_ f (p + j) := fun i hi => by
        by_cases c0 : i = 0
        · rw [c0]; exact b
        · exact dx_all (L - (p + 1)) (p + 1) (p + i) (by omega) (by omega)
      have cm := cn_mn (f := f) (p := p) (dx f (L - (p + 1)) (p + 1) - p) dd
      rw [← d, ← d', ← q.2.2.2, ← c'.2.2.2] at cm
      unfold dg_ at b
      rw [← q.2.2.1] at b
      refine Or.inl ⟨a, c'.2.2.1, b.1, b.2, ?_⟩
      rcases cm with ⟨m1, m2, m3⟩ | ⟨m1, m2, m3⟩
      · exact ⟨by omega, Or.inl ⟨m1, m3⟩⟩
      · exact ⟨by omega, Or.inr ⟨m1, m2, m3⟩⟩
    · exact absurd b' b2
  · simp only [Prod.mk.injEq] at c'
    rcases hq with ⟨a, b⟩ | ⟨a, b, q⟩ | ⟨a, b, m, q, d⟩ | ⟨a, b, b2, q⟩
    · omega
    · exact absurd b b'
    · exact absurd b b2'
    · simp only [Prod.mk.injEq] at q
      exact Or.inr ⟨by rw [c'.2.2.1]; decide, q.2.2.2⟩
/-! a whole law, on both sides -/
theorem told_loop {b nc nh w n : Nat} {fh fc fw cw : Nat → Int32} {fe : Nat → Int64} (hw : w < 4) (hb : b ≤ 100000) (hn : n ≤ 12) (hn1 : 5 * n ≤ nh) (hn2 : nh < 1000000) (hc : nc ≤ 1000000) (h1 : ktx fw b 1 = nI n) (hk : ∀ i, i < n → ∃ v : Nat, v < 4 ∧ fh (5 * i) = nI v ∧ ktx fw b (2 + 8 * i) = nI v ∧ KTest fc (ktx fw b) nc (fh (5 * i + 4)) (ktx fw b (2 + 8 * i + 5)) (ktx fw b (2 + 8 * i + 6)) ∧ (v = 3 ∨ KSum fc (ktx fw b) nc (fh (5 * i + 2)) (ktx fw b (2 + 8 * i + 3)) (ktx fw b (2 + 8 * i + 4)))) (henv : KEnv 0 (fun w => cw w.toNatClampNeg) (fun w => 0 ≤ w.toInt ∧ w.toInt < ((9 : Nat) : Int)) (fun o a => if o = 0 then a.toInt64 else fe o.toNatClampNeg)) (z : KTC) (y : KTR) : ∀ i, i ≤ n →
    ((∀ F br f, ∃ br' f', Lp (E_w_told_l17 nh nc fh fc (nI w) cw) z (F + i + 1) (nI i - 1) br f = (aF 2 w, br', f')) ∧ ∀ F told br vl sm f, ∃ br' vl' sm' f', Lp (E_v_tells_l148 (nI w) fw (nI b) fe) y (F + i) 0 told br vl sm f = Lp (E_v_tells_l148 (nI w) fw (nI b) fe) y F (nI i) told br' vl' sm' f') ∨
    (∃ g : Int, (w = 3 → g = 1) ∧ (∀ F br f, ∃ r br' f', Lp (E_w_told_l17 nh nc fh fc (nI w) cw) z (F + i + 1) (nI i - 1) br f = (r, br', f') ∧ r.toInt = kz_cl g (aF 3 w).toInt) ∧ ∀ F told br vl sm f, ∃ t br' vl' sm' f', Lp (E_v_tells_l148 (nI w) fw (nI b) fe) y (F + i) 0 told br vl sm f = Lp (E_v_tells_l148 (nI w) fw (nI b) fe) y F (nI i) t br' vl' sm' f' ∧ t.toInt = g) := by
  have s1 : fw (nI b + 1).toNatClampNeg = nI n := by
    rw [kn_p1 (by omega), kn_cl (by omega)]; exact h1
  intro i
  induction i with
  | zero =>
    intro _
    refine Or.inl ⟨fun F br f => ⟨br, f, ?_⟩, fun F told br vl sm f => ⟨br, vl, sm, f, rfl⟩⟩
    rw [Nat.add_zero, Lp_s, E_w_told_l17.eq_def, if_pos (show nI 0 - 1 < 0 by decide), Lt_b, kn_cl (by omega)]
  | succ i ih =>
    intro hi
    obtain ⟨v, k1, k2, k3, k4, k5⟩ := hk i (by omega)
    have ix : nI (i + 1) - 1 = nI i := by rw [kn_m1 (by omega) (by omega)]; rfl
    have jx : ∀ rc br f, E_w_told_j136 (nI i) rc br f = rc (nI i - 1) br f := fun rc br f => by
      rw [E_w_told_j136.eq_def, Lt_b, kn_ms (by omega)]
    have nle : ¬ fw (nI b + 1).toNatClampNeg ≤ nI i := by
      rw [s1]; exact fun q => by have := (kn_le (by omega) (by omega)).mp q; omega
    rcases cl_both (fh := fh) (cw := cw) k1 hw hb (show i < 12 by omega) (show 5 * i + 5 ≤ nh by omega) hn2 hc k2 k3 k4 k5 henv with ⟨c1, c2⟩ | ⟨g, c0, c1, c2⟩
    · rcases ih (by omega) with ⟨d1, d2⟩ | ⟨g, d0, d1, d2⟩
      · refine Or.inl ⟨fun F br f => ?_, fun F told br vl sm f => ?_⟩
        · obtain ⟨br1, f1, e1⟩ := c1 (Lp (E_w_told_l17 nh nc fh fc (nI w) cw) z (F + (i + 1))) br f
          obtain ⟨br2, f2, e2⟩ := d1 F br1 f1
          exact ⟨br2, f2, by rw [Lp_s, ix, e1, jx, ← e2]; rfl⟩
        · obtain ⟨br1, vl1, sm1, f1, e1⟩ := d2 (F + 1) told br vl sm f
          obtain ⟨br2, vl2, sm2, f2, e2⟩ := c2 (Lp (E_v_tells_l148 (nI w) fw (nI b) fe) y F) told br1 vl1 sm1 f1 nle
          exact ⟨br2, vl2, sm2, f2, by rw [show F + (i + 1) = F + 1 + i by omega, e1, Lp_s, e2]⟩
      · refine Or.inr ⟨g, d0, fun F br f => ?_, fun F told br vl sm f => ?_⟩
        · obtain ⟨br1, f1, e1⟩ := c1 (Lp (E_w_told_l17 nh nc fh fc (nI w) cw) z (F + (i + 1))) br f
          obtain ⟨r, br2, f2, e2, e3⟩ := d1 F br1 f1
          exact ⟨r, br2, f2, by rw [Lp_s, ix, e1, jx, ← e2]; rfl, e3⟩
        · obtain ⟨t, br1, vl1, sm1, f1, e1, e3⟩ := d2 (F + 1) told br vl sm f
          obtain ⟨br2, vl2, sm2, f2, e2⟩ := c2 (Lp (E_v_tells_l148 (nI w) fw (nI b) fe) y F) t br1 vl1 sm1 f1 nle
          exact ⟨t, br2, vl2, sm2, f2, by rw [show F + (i + 1) = F + 1 + i by omega, e1, Lp_s, e2], e3⟩
    · have back : ∀ F told br vl sm f, ∃ t br' vl' sm' f', Lp (E_v_tells_l148 (nI w) fw (nI b) fe) y (F + 1 + i) 0 told br vl sm f = Lp (E_v_tells_l148 (nI w) fw (nI b) fe) y (F + 1) (nI i) t br' vl' sm' f' := by
        intro F told br vl sm f
        rcases ih (by omega) with ⟨d1, d2⟩ | ⟨g, d0, d1, d2⟩
        · obtain ⟨br1, vl1, sm1, f1, e1⟩ := d2 (F + 1) told br vl sm f
          exact ⟨_, _, _, _, _, e1⟩
        · obtain ⟨t, br1, vl1, sm1, f1, e1, _⟩ := d2 (F + 1) told br vl sm f
          exact ⟨_, _, _, _, _, e1⟩
      refine Or.inr ⟨g, c0, fun F br f => ?_, fun F told br vl sm f => ?_⟩
      · obtain ⟨r, br1, f1, e1, e3⟩ := c1 (Lp (E_w_told_l17 nh nc fh fc (nI w) cw) z (F + (i + 1))) br f
        exact ⟨r, br1, f1, by rw [Lp_s, ix, e1], e3⟩
      · obtain ⟨t, br1, vl1, sm1, f1, e1⟩ := back F told br vl sm f
        obtain ⟨t2, br2, vl2, sm2, f2, e2, e3⟩ := c2 (Lp (E_v_tells_l148 (nI w) fw (nI b) fe) y F) t br1 vl1 sm1 f1 nle
        exact ⟨t2, br2, vl2, sm2, f2, by rw [show F + (i + 1) = F + 1 + i by omega, e1, Lp_s, e2], e3⟩
/-- the words that a law is asked with, on both sides -/
noncomputable def KWd (cw : Nat → Int32) (fe : Nat → Int64) : Prop := ∀ j, j < 9 → (fe (j + 1)).toInt = (cw j).toInt ∧ -1000000000 ≤ (cw j).toInt ∧ (cw j).toInt ≤ 1000000000
theorem KWd.env {cw : Nat → Int32} {fe : Nat → Int64} (h : KWd cw fe) : KEnv 0 (fun w => cw w.toNatClampNeg) (fun w => 0 ≤ w.toInt ∧ w.toInt < ((9 : Nat) : Int)) (fun o a => if o = 0 then a.toInt64 else fe o.toNatClampNeg) := by
  refine ⟨fun a => ?_, fun w op a hk => ?_⟩
  · show (if (0 : Int32) = 0 then a.toInt64 else fe (0 : Int32).toNatClampNeg).toInt = a.toInt
    rw [if_pos rfl]; exact wide_at
  · unfold KL at hk
    rw [if_pos rfl] at hk
    obtain ⟨j, h1, rfl, rfl⟩ := hk
    have q := h j h1
    show (0 ≤ (nI j).toInt ∧ (nI j).toInt < ((9 : Nat) : Int)) ∧ (if nI (j + 1) = 0 then a.toInt64 else fe (nI (j + 1)).toNatClampNeg).toInt = (cw (nI j).toNatClampNeg).toInt ∧ _ ≤ (cw (nI j).toNatClampNeg).toInt ∧ (cw (nI j).toNatClampNeg).toInt ≤ _
    rw [if_neg (kn_nz (j := 0) rfl (by omega) (by omega)), kn_cl (by omega), kn_cl (by omega), nI_toInt (by omega)]
    exact ⟨by omega, q⟩
/-- THE LAW TELLS THE SAME: a class's law c, the reference's text at b -/
theorem told_at {c : LC} {fw cw : Nat → Int32} {fe : Nat → Int64} {b w : Nat} (hL : KLaw c (ktx fw b)) (hw : w < 4) (hb : b ≤ 100000) (hwd : KWd cw fe) (y : KTR) :
    ((∀ br fs, ∃ br' f', E_w_told c.1 c.2.1 c.2.2.1 c.2.2.2.1 c.2.2.2.2.1 (nI w) br fs cw = (aF 2 w, br', f')) ∧ ∀ told br vl sm f, ∃ br' vl' sm' f', Lp (E_v_tells_l148 (nI w) fw (nI b) fe) y 14 0 told br vl sm f = (told, nI b, br', vl', sm', fe, f')) ∨
    (∃ g : Int, (w = 3 → g = 1) ∧ (∀ br fs, ∃ r br' f', E_w_told c.1 c.2.1 c.2.2.1 c.2.2.2.1 c.2.2.2.2.1 (nI w) br fs cw = (r, br', f') ∧ r.toInt = kz_cl g (aF 3 w).toInt) ∧ ∀ told br vl sm f, ∃ t br' vl' sm' f', Lp (E_v_tells_l148 (nI w) fw (nI b) fe) y 14 0 told br vl sm f = (t, nI b, br', vl', sm', fe, f') ∧ t.toInt = g) := by
  obtain ⟨n, h1, h2, h3, h4, h5, h6, h7⟩ := hL
  have stop : ∀ F t br vl sm f, Lp (E_v_tells_l148 (nI w) fw (nI b) fe) y (F + 1) (nI n) t br vl sm f = (t, nI b, br, vl, sm, fe, f) := by
    intro F t br vl sm f
    rw [Lp_s]
    simp only [E_v_tells_l148, Lt]
    rw [if_pos (by rw [kn_p1 (by omega), kn_cl (by omega), show fw (b + 1) = nI n from h3]; exact ie_iff.mpr (Int.le_refl _))]
  have fu : ((nI n - 1).toInt + 1 : Int).toNat + 1 = 0 + n + 1 := by
    rw [i_sub (nI_toInt (by omega)) (show (1 : Int32).toInt = 1 from rfl) (by omega)]; omega
  rcases told_loop hw hb h1 h4 h5 h6 h3 h7 hwd.env (fun _ _ _ => ((0, 0, fun _ => 0) : Int32 × Int32 × (Nat → Int32))) y n (Nat.le_refl _) with ⟨d1, d2⟩ | ⟨g, d0, d1, d2⟩
  · refine Or.inl ⟨fun br fs => ?_, fun told br vl sm f => ?_⟩
    · obtain ⟨br1, f1, e1⟩ := d1 0 br fs
      refine ⟨br1, f1, ?_⟩
      rw [E_w_told.eq_def, Lt_b, h2, fu]; exact e1
    · obtain ⟨br1, vl1, sm1, f1, e1⟩ := d2 (14 - n) told br vl sm f
      refine ⟨br1, vl1, sm1, f1, ?_⟩
      rw [show 14 = 14 - n + n by omega, e1, show 14 - n = 13 - n + 1 by omega, stop]
  · refine Or.inr ⟨g, d0, fun br fs => ?_, fun told br vl sm f => ?_⟩
    · obtain ⟨r, br1, f1, e1, e2⟩ := d1 0 br fs
      refine ⟨r, br1, f1, ?_, e2⟩
      rw [E_w_told.eq_def, Lt_b, h2, fu]; exact e1
    · obtain ⟨t, br1, vl1, sm1, f1, e1, e2⟩ := d2 (14 - n) told br vl sm f
      refine ⟨t, br1, vl1, sm1, f1, ?_, e2⟩
      rw [show 14 = 14 - n + n by omega, e1, show 14 - n = 13 - n + 1 by omega, stop]
/-! the reference's pile -/
noncomputable def kbd (o : Nat) : Nat := if 31 ≤ o then 0 else if o = 30 then 1 else if o = 29 then 2 else if o = 28 then 3 else if 25 ≤ o then 4 else if 22 ≤ o then 6 else 5
theorem binds_at {o : Nat} (ho : o < 1000) : E_v_binds (nI o) = nI (kbd o) := by
  unfold E_v_binds kbd
  by_cases c : 31 ≤ o
  · rw [if_neg (kn_nltl (j := 31) rfl (by omega) c), if_pos c]; rfl
  rw [if_pos (kn_ltl (j := 31) rfl (by omega) (by omega)), if_neg c]
  by_cases c1 : o = 30
  · rw [if_pos (by rw [c1]; rfl), if_pos c1]; rfl
  rw [if_neg (kn_nz (j := 30) rfl (by omega) c1), if_neg c1]
  by_cases c2 : o = 29
  · rw [if_pos (by rw [c2]; rfl), if_pos c2]; rfl
  rw [if_neg (kn_nz (j := 29) rfl (by omega) c2), if_neg c2]
  by_cases c3 : o = 28
  · rw [if_pos (by rw [c3]; rfl), if_pos c3]; rfl
  rw [if_neg (kn_nz (j := 28) rfl (by omega) c3), if_neg c3]
  by_cases c4 : 25 ≤ o
  · rw [if_neg (kn_nltl (j := 25) rfl (by omega) c4), if_pos c4]; rfl
  rw [if_pos (kn_ltl (j := 25) rfl (by omega) (by omega)), if_neg c4]
  by_cases c5 : 22 ≤ o
  · rw [if_neg (kn_nltl (j := 22) rfl (by omega) c5), if_pos c5]; rfl
  rw [if_pos (kn_ltl (j := 22) rfl (by omega) (by omega)), if_neg c5]; rfl
/-- settle(l), from a pile of pi operators -/
noncomputable def kst (l nc pi : Nat) (fo fa fp fq : Nat → Int32) : Int32 × Int32 × (Nat → Int32) × (Nat → Int32) := Lp (α := Int32 → Int32 → (Nat → Int32) → (Nat → Int32) → (Int32 × Int32 × (Nat → Int32) × (Nat → Int32))) (E_v_settle_l0 (nI l) fp fq) (fun _ _ _ _ => ((0, 0, fun _ => 0, fun _ => 0) : Int32 × Int32 × (Nat → Int32) × (Nat → Int32))) (pi + 1) (nI nc) (nI pi) fo fa
theorem settle_at {go ga fo fa fp fq : Nat → Int32} {l nc pi : Nat} (hp : pi < 2147483648) : E_v_settle go ga (nI l) (nI nc) (nI pi) fo fa fp fq = kst l nc pi fo fa fp fq := by
  rw [E_v_settle.eq_def, nI_toInt hp]; rfl
theorem kst_0 {l nc : Nat} {fo fa fp fq : Nat → Int32} : kst l nc 0 fo fa fp fq = (nI nc, nI 0, fo, fa) := by
  unfold kst
  rw [Lp_s, E_v_settle_l0.eq_def, if_pos (show nI 0 ≤ 0 by decide)]
theorem kst_stop {l nc pi o : Nat} {fo fa fp fq : Nat → Int32} (hp : pi < 1000) (ho : o < 1000) (hl : l < 1000) (h : fp pi = nI o) (hb : kbd o < l) : kst l nc (pi + 1) fo fa fp fq = (nI nc, nI (pi + 1), fo, fa) := by
  unfold kst
  rw [Lp_s, E_v_settle_l0.eq_def, if_neg (kn_ngel (j := 0) rfl (by omega) (by omega))]
  simp only [Lt_b]
  have hk : kbd o ≤ 6 := by unfold kbd; (repeat' split) <;> omega
  rw [kn_m1 (by omega) (by omega), kn_cl (by omega), show pi + 1 - 1 = pi by omega, h, binds_at ho, if_pos ((kn_lt (by omega) (by omega)).mpr hb)]
theorem kst_go {l nc pi o : Nat} {fo fa fp fq : Nat → Int32} (hp : pi < 1000) (hn : nc < 1000) (ho : o < 1000) (hl : l < 1000) (h : fp pi = nI o) (hb : l ≤ kbd o) (h29 : o ≠ 29) (h30 : o ≠ 30) : kst l nc (pi + 1) fo fa fp fq = kst l (nc + 1) pi (upd fo nc (nI o)) (upd fa nc 0) fp fq := by
  unfold kst
  have hk : kbd o ≤ 6 := by unfold kbd; (repeat' split) <;> omega
  rw [Lp_s, E_v_settle_l0.eq_def, if_neg (kn_ngel (j := 0) rfl (by omega) (by omega))]
  simp only [Lt_b, Lt2_b, E_v_emit]
  rw [kn_m1 (by omega) (by omega), kn_cl (by omega), show pi + 1 - 1 = pi by omega, h, binds_at ho, if_neg (fun q => by have := (kn_lt (by omega) (by omega)).mp q; omega), if_neg (kn_nz (j := 29) rfl (by omega) h29), if_neg (kn_nz (j := 30) rfl (by omega) h30), kn_cl (by omega), kn_p1 (by omega)]
theorem kst_land {l nc pi o c : Nat} {fo fa fp fq : Nat → Int32} (hp : pi < 1000) (ho : o = 29 ∨ o = 30) (hl : l ≤ kbd o) (h : fp pi = nI o) (hq : fq pi = nI c) (hc : c < 1000) : kst l nc (pi + 1) fo fa fp fq = kst l nc pi fo (upd fa c (nI nc)) fp fq := by
  unfold kst
  have hk : kbd o ≤ 6 := by unfold kbd; (repeat' split) <;> omega
  rw [Lp_s, E_v_settle_l0.eq_def, if_neg (kn_ngel (j := 0) rfl (by omega) (by omega))]
  simp only [Lt_b, Lt2_b]
  rw [kn_m1 (by omega) (by omega), kn_cl (by omega), show pi + 1 - 1 = pi by omega, h, hq, binds_at (by omega), if_neg (fun q => by have := (kn_lt (by omega) (by omega)).mp q; omega), kn_cl (by omega)]
  rcases ho with e | e
  · rw [if_pos (by rw [e]; rfl)]
  · rw [if_neg (kn_nz (j := 29) rfl (by omega) (by omega)), if_pos (by rw [e]; rfl)]
/-- what waits between two heights of the pile: settling to a level up to K first does that -/
noncomputable def KP (K nc pi : Nat) (fo fa : Nat → Int32) (nc' pi' : Nat) (fo' fa' fp fq : Nat → Int32) : Prop := ∀ l, l ≤ K → kst l nc pi fo fa fp fq = kst l nc' pi' fo' fa' fp fq
theorem KP.rfl {K nc pi : Nat} {fo fa fp fq : Nat → Int32} : KP K nc pi fo fa nc pi fo fa fp fq := fun _ _ => Eq.refl _
theorem KP.trans {K nc pi nc2 pi2 nc3 pi3 : Nat} {fo fa fo2 fa2 fo3 fa3 fp fq : Nat → Int32} (h : KP K nc pi fo fa nc2 pi2 fo2 fa2 fp fq) (h2 : KP K nc2 pi2 fo2 fa2 nc3 pi3 fo3 fa3 fp fq) : KP K nc pi fo fa nc3 pi3 fo3 fa3 fp fq := fun l hl => (h l hl).trans (h2 l hl)
theorem KP.low {K K' nc pi nc2 pi2 : Nat} {fo fa fo2 fa2 fp fq : Nat → Int32} (h : KP K nc pi fo fa nc2 pi2 fo2 fa2 fp fq) (hk : K' ≤ K) : KP K' nc pi fo fa nc2 pi2 fo2 fa2 fp fq := fun l hl => h l (Nat.le_trans hl hk)
theorem KP.emit {K nc pi o : Nat} {fo fa fp fq : Nat → Int32} (hp : pi < 900) (hn : nc < 1000) (ho : o < 29) (h : fp pi = nI o) (hb : K ≤ kbd o) : KP K nc (pi + 1) fo fa (nc + 1) pi (upd fo nc (nI o)) (upd fa nc 0) fp fq := fun l hl => by
  have hk : kbd o ≤ 6 := by unfold kbd; (repeat' split) <;> omega
  exact kst_go (by omega) hn (by omega) (by omega) h (Nat.le_trans hl hb) (by omega) (by omega)
theorem KP.land {K nc pi o c : Nat} {fo fa fp fq : Nat → Int32} (hp : pi < 1000) (ho : o = 29 ∨ o = 30) (hb : K ≤ kbd o) (h : fp pi = nI o) (hq : fq pi = nI c) (hc : c < 1000) : KP K nc (pi + 1) fo fa nc pi fo (upd fa c (nI nc)) fp fq := fun l hl => kst_land hp ho (Nat.le_trans hl hb) h hq hc
/-! inner, isCompared -/
theorem inner_in {fp : Nat → Int32} {pi : Nat} (hp : pi ≤ 400) (z : Int32 → Int32 → Int32) : ∀ (d v F : Nat) (r : Int32), v + d = pi → (∀ j, v ≤ j → j < pi → ∃ o : Nat, o < 31 ∧ fp j = nI o) → Lp (E_v_inner_l4 (nI pi) fp) z (F + d + 1) (nI v) r = r := by
  intro d
  induction d with
  | zero =>
    intro v F r hv _
    rw [Lp_s, E_v_inner_l4.eq_def, if_pos ((kn_le (by omega) (by omega)).mpr (by omega))]
  | succ d ih =>
    intro v F r hv h
    obtain ⟨o, o1, o2⟩ := h v (Nat.le_refl _) (by omega)
    rw [show F + (d + 1) + 1 = (F + d + 1) + 1 by omega, Lp_s, E_v_inner_l4.eq_def, if_neg (fun q => by have := (kn_le (by omega) (by omega)).mp q; omega)]
    simp only [Lt_b]
    rw [kn_cl (by omega), o2, if_pos (kn_ltl (j := 31) rfl (by omega) o1), kn_po (by omega)]
    exact ih (v + 1) F r (by omega) (fun j h1 h2 => h j (by omega) h2)
/-- inner() goes by what lies below, when no bracket lies above -/
theorem inner_none {fp : Nat → Int32} {pi : Nat} (hp : pi ≤ 400) (h : ∀ j, j < pi → ∃ o : Nat, o < 31 ∧ fp j = nI o) : E_v_inner (nI pi) fp = -1 := by
  rw [E_v_inner.eq_def]
  have := inner_in (fp := fp) hp (fun _ _ => ((0) : Int32)) pi 0 (401 - pi) (-1) (by omega) (fun j _ hj => h j hj)
  rw [show 401 - pi + pi + 1 = (401 - (0 : Int32).toInt : Int).toNat + 1 by rw [show (0 : Int32).toInt = 0 from rfl]; omega] at this
  exact this
theorem inner_top {fp : Nat → Int32} {pi q b : Nat} (hp : pi ≤ 400) (hq : q < pi) (hb : 31 ≤ b ∧ b < 1000) (hf : fp q = nI b) (h : ∀ j, q < j → j < pi → ∃ o : Nat, o < 31 ∧ fp j = nI o) : E_v_inner (nI pi) fp = nI b := by
  have gen : ∀ (d v F : Nat) (r : Int32), v + d = q → Lp (E_v_inner_l4 (nI pi) fp) (fun _ _ => ((0) : Int32)) (F + d + (pi - q) + 1) (nI v) r = nI b := by
    intro d
    induction d with
    | zero =>
      intro v F r hv
      rw [show v = q by omega, show F + 0 + (pi - q) + 1 = (F + (pi - (q + 1)) + 1) + 1 by omega, Lp_s, E_v_inner_l4.eq_def, if_neg (fun w => by have := (kn_le (by omega) (by omega)).mp w; omega)]
      simp only [Lt_b]
      rw [kn_cl (by omega), hf, if_neg (kn_nltl (j := 31) rfl (by omega) hb.1), kn_po (by omega)]
      exact inner_in hp _ (pi - (q + 1)) (q + 1) F (nI b) (by omega) (fun j h1 h2 => h j (by omega) h2)
    | succ d ih =>
      intro v F r hv
      rw [show F + (d + 1) + (pi - q) + 1 = (F + d + (pi - q) + 1) + 1 by omega, Lp_s, E_v_inner_l4.eq_def, if_neg (fun w => by have := (kn_le (by omega) (by omega)).mp w; omega)]
      simp only [Lt_b]
      rw [kn_po (by omega)]
      by_cases c : fp (nI v).toNatClampNeg < 31
      · rw [if_pos c]; exact ih (v + 1) F _ (by omega)
      · rw [if_neg c]; exact ih (v + 1) F _ (by omega)
  rw [E_v_inner.eq_def]
  have := gen q 0 (401 - pi) (-1) (by omega)
  rw [show 401 - pi + q + (pi - q) + 1 = (401 - (0 : Int32).toInt : Int).toNat + 1 by rw [show (0 : Int32).toInt = 0 from rfl]; omega] at this
  exact this
theorem in_lit {o a b : Nat} {lo hi : Int64} (ha : lo.toInt = (a : Int)) (hb : hi.toInt = (b : Int)) (ho : o < 1000) : E_v_in (nI o).toInt64 lo hi = if a ≤ o ∧ o ≤ b then 1 else 0 := by
  by_cases c : a ≤ o ∧ o ≤ b
  · rw [if_pos c, in_p (by rw [nI_toInt (by omega)]; omega)]
  · rw [if_neg c, in_n (by rw [nI_toInt (by omega)]; omega)]
/-- isCompared() looks below what waits of a sum -/
theorem isc_at {fp : Nat → Int32} {pi q : Nat} (hp : pi ≤ 400) (hq : q ≤ pi) (h : ∀ j, q ≤ j → j < pi → ∃ o : Nat, 20 ≤ o ∧ o ≤ 24 ∧ fp j = nI o) : (q = 0 → E_v_isCompared (nI pi) fp = 0) ∧ (∀ (r o : Nat), q = r + 1 → o < 1000 → fp r = nI o → ¬ (20 ≤ o ∧ o ≤ 24) → E_v_isCompared (nI pi) fp = if 25 ≤ o ∧ o ≤ 27 then 1 else 0) := by
  have zz : (nI 0 - 1 : Int32) = -1 := by decide
  have fin0 : ∀ (z : Int32 → Int32) F, Lp (E_v_isCompared_l7 fp) z (F + 1) (nI 0 - 1) = 0 := by
    intro z F
    rw [Lp_s, zz, E_v_isCompared_l7.eq_def, if_pos (by decide), E_v_isCompared_j36.eq_def, if_pos (by decide)]
    rfl
  have fin1 : ∀ (z : Int32 → Int32) F (r o : Nat), r < 1000 → o < 1000 → fp r = nI o → ¬ (20 ≤ o ∧ o ≤ 24) → Lp (E_v_isCompared_l7 fp) z (F + 1) (nI (r + 1) - 1) = if 25 ≤ o ∧ o ≤ 27 then 1 else 0 := by
    intro z F r o hr ho hf hn
    rw [Lp_s, kn_m1 (by omega) (by omega), show r + 1 - 1 = r by omega, E_v_isCompared_l7.eq_def, if_neg (kn_nl (by omega))]
    simp only [Lt_b]
    rw [kn_cl (by omega), hf, in_lit (a := 20) (b := 24) rfl rfl ho, if_neg hn, if_neg (by decide), E_v_isCompared_j36.eq_def, if_neg (kn_nl (by omega))]
    simp only [Lt_b]
    rw [kn_cl (by omega), hf, in_lit (a := 25) (b := 27) rfl rfl ho]
    by_cases c : 25 ≤ o ∧ o ≤ 27
    · rw [if_pos c, if_pos rfl]
    · rw [if_neg c, if_neg (by decide)]; rfl
  have down : ∀ (z : Int32 → Int32) (d F : Nat), q + d ≤ pi → Lp (E_v_isCompared_l7 fp) z (F + d + 1) (nI (q + d) - 1) = Lp (E_v_isCompared_l7 fp) z (F + 1) (nI q - 1) := by
    intro z d
    induction d with
    | zero => intro F _; rfl
    | succ d ih =>
      intro F hd
      obtain ⟨o, o1, o2, o3⟩ := h (q + d) (by omega) (by omega)
      rw [show F + (d + 1) + 1 = (F + d + 1) + 1 by omega, Lp_s, kn_m1 (by omega) (by omega), show q + (d + 1) - 1 = q + d by omega, E_v_isCompared_l7.eq_def, if_neg (kn_nl (by omega))]
      simp only [Lt_b]
      rw [kn_cl (by omega), o3, in_lit (a := 20) (b := 24) rfl rfl (by omega), if_pos (show 20 ≤ o ∧ o ≤ 24 from ⟨o1, o2⟩), if_pos rfl]
      rw [kn_ms (by omega)]
      exact ih F (by omega)
  have st : E_v_isCompared (nI pi) fp = Lp (E_v_isCompared_l7 fp) (fun _ => ((0) : Int32)) (q + 2) (nI q - 1) := by
    rw [E_v_isCompared.eq_def, Lt_b]
    have e1 : (nI pi - 1).toInt = (pi : Int) - 1 := i_sub (nI_toInt (by omega)) (show (1 : Int32).toInt = 1 from rfl) (by omega)
    rw [e1, show ((pi : Int) - 1 - (-2) : Int).toNat + 1 = (q + 1) + (pi - q) + 1 by omega]
    have := down (fun _ => ((0) : Int32)) (pi - q) (q + 1) (by omega)
    rw [show q + (pi - q) = pi by omega] at this
    exact this
  rw [st]
  refine ⟨fun e => ?_, fun r o e ho hf hn => ?_⟩
  · rw [e]; exact fin0 _ 1
  · rw [e]; exact fin1 _ (r + 1 + 1) r o (by omega) ho hf hn
/-! the reference's reading, a step each -/
theorem must_1 {ta fr to so fau : Int32} {wo : Int64} {ft : Nat → Int32} : E_v_must 1 ta fr to so wo fau 0 ft = ((E_v_next ta fr to so wo ft).1, (E_v_next ta fr to so wo ft).2.1, (E_v_next ta fr to so wo ft).2.2.1, (E_v_next ta fr to so wo ft).2.2.2, fau, 0) := by
  rw [E_v_must.eq_def, if_pos rfl, if_neg (by decide), if_pos rfl]
  rfl
theorem must_0 {ta fr to so fau : Int32} {wo : Int64} {ft : Nat → Int32} : E_v_must 0 ta fr to so wo fau 0 ft = (fr, to, so, wo, fr, 1) := by
  rw [E_v_must.eq_def, if_pos rfl, if_pos rfl]
theorem open_p {go ga ft fo fa fp fq : Nat → Int32} {x ta fr to so fau nc nl opn : Int32} {wo : Int64} {pi : Nat} (hp : pi < 1000) (ho : opn.toInt < 8) (h0 : 0 ≤ opn.toInt) : E_v_openBracket go ga x ta fr to so wo fau 0 nc nl (nI pi) opn ft fo fa fp fq = ((E_v_next ta fr to so wo ft).1, (E_v_next ta fr to so wo ft).2.1, (E_v_next ta fr to so wo ft).2.2.1, (E_v_next ta fr to so wo ft).2.2.2, fau, 0, nI (pi + 1), opn + 1, upd fp pi x, upd fq pi 0) := by
  rw [E_v_openBracket.eq_def, if_neg (fun q => by have := ie_iff.mp q; have z : (8 : Int32).toInt = 8 := rfl; omega), must_1]
  simp only [Lt, Lt2, E_v_push]
  rw [if_pos (by trivial), kn_cl (by omega), kn_p1 (by omega)]
theorem open_n {go ga ft fo fa fp fq : Nat → Int32} {x ta fr to so fau nc nl pi opn : Int32} {wo : Int64} (ho : 8 ≤ opn.toInt) : E_v_openBracket go ga x ta fr to so wo fau 0 nc nl pi opn ft fo fa fp fq = (fr, to, so, wo, fr, 1, pi, opn, fp, fq) := by
  rw [E_v_openBracket.eq_def, if_pos (ie_iff.mpr (by have z : (8 : Int32).toInt = 8 := rfl; omega)), must_0]
  simp only [Lt, Lt2]
  rw [if_neg (by decide)]
theorem leaf_p {go ga ft fo fa fp fq : Nat → Int32} {y z ta fr to so fau pi opn : Int32} {wo : Int64} {nc nl : Nat} (hn : nc < 1000) (hl : nl < 50) : E_v_leaf go ga 1 y z ta fr to so wo fau 0 (nI nc) (nI nl) pi opn ft fo fa fp fq = ((E_v_next ta fr to so wo ft).1, (E_v_next ta fr to so wo ft).2.1, (E_v_next ta fr to so wo ft).2.2.1, (E_v_next ta fr to so wo ft).2.2.2, fau, 0, nI (nc + 1), nI (nl + 1), upd fo nc y, upd fa nc z) := by
  rw [E_v_leaf.eq_def, if_neg (by decide), if_neg (kn_nlel (j := 50) rfl (by omega) hl), must_1]
  simp only [Lt, Lt2, E_v_emit]
  rw [if_pos (by trivial), kn_cl (a := nc) (by omega), kn_p1 (a := nc) (by omega), kn_p1 (a := nl) (by omega)]
theorem leaf_n {go ga ft fo fa fp fq : Nat → Int32} {x y z ta fr to so fau nc nl pi opn : Int32} {wo : Int64} (h : x = 0 ∨ (x = 1 ∧ 50 ≤ nl.toInt)) : E_v_leaf go ga x y z ta fr to so wo fau 0 nc nl pi opn ft fo fa fp fq = (fr, to, so, wo, fr, 1, nc, nl, fo, fa) := by
  rw [E_v_leaf.eq_def]
  rcases h with h | ⟨h, h2⟩
  · rw [if_pos h, must_0]
    simp only [Lt, Lt2]
    rw [if_neg (by decide)]
  · rw [if_neg (by rw [h]; decide), if_pos (ie_iff.mpr (by have z : (50 : Int32).toInt = 50 := rfl; omega)), must_0]
    simp only [Lt, Lt2]
    rw [if_neg (by decide)]
/-! which word it is -/
theorem pa_in {so : Int32} {wo : Int64} {wd : Nat → Int64} {N : Nat} (hN : N ≤ 9) (z : Int32 → Int32 → Int32) (B : (Int32 → Int32 → Int32) → Int32 → Int32 → Int32) (hB : ∀ rc (v : Nat) r, v < 1000 → B rc (nI v) r = if N ≤ v then r else if E_v_isWord (wd v) so wo = 1 then rc (nI (v + 1)) (nI (v + 1)) else rc (nI (v + 1)) r) : ∀ (d v : Nat) (F : Nat) (r : Int32), v + d = N → ((∀ j, v ≤ j → j < N → E_v_isWord (wd j) so wo = 0) → Lp B z (F + d + 1) (nI v) r = r) ∧ (∀ i, v ≤ i → i < N → E_v_isWord (wd i) so wo = 1 → (∀ j, v ≤ j → j < N → j ≠ i → E_v_isWord (wd j) so wo = 0) → Lp B z (F + d + 1) (nI v) r = nI (i + 1)) := by
  intro d
  induction d with
  | zero =>
    intro v F r hv
    refine ⟨fun _ => ?_, fun i h1 h2 => by omega⟩
    rw [Lp_s, hB _ _ _ (by omega), if_pos (by omega)]
  | succ d ih =>
    intro v F r hv
    have e : Lp B z (F + (d + 1) + 1) (nI v) r = if E_v_isWord (wd v) so wo = 1 then Lp B z (F + d + 1) (nI (v + 1)) (nI (v + 1)) else Lp B z (F + d + 1) (nI (v + 1)) r := by
      rw [show F + (d + 1) + 1 = (F + d + 1) + 1 by omega, Lp_s, hB _ _ _ (by omega), if_neg (by omega)]
    rw [e]
    refine ⟨fun h => ?_, fun i h1 h2 h3 h4 => ?_⟩
    · rw [h v (Nat.le_refl _) (by omega), if_neg (by decide)]
      exact (ih (v + 1) F r (by omega)).1 (fun j h1 h2 => h j (by omega) h2)
    · by_cases c : i = v
      · rw [← c, h3, if_pos rfl]
        exact (ih (i + 1) F (nI (i + 1)) (by omega)).1 (fun j h5 h6 => h4 j (by omega) h6 (by omega))
      · rw [h4 v (Nat.le_refl _) (by omega) (fun q => c q.symm), if_neg (by decide)]
        exact (ih (v + 1) F r (by omega)).2 i (by omega) h2 h3 (fun j h5 h6 h7 => h4 j (by omega) h6 h7)
theorem partAt_b {so : Int32} {wo : Int64} {wd : Nat → Int64} (rc : Int32 → Int32 → Int32) (v : Nat) (r : Int32) (hv : v < 1000) : E_v_partAt_l4 so wo wd rc (nI v) r = if 9 ≤ v then r else if E_v_isWord (wd v) so wo = 1 then rc (nI (v + 1)) (nI (v + 1)) else rc (nI (v + 1)) r := by
  simp only [E_v_partAt_l4, Lt]
  rw [kn_cl (by omega), kn_p1 (by omega), kn_po (by omega)]
  by_cases c : 9 ≤ v
  · rw [if_pos c, if_pos (kn_lel (j := 9) rfl (by omega) c)]
  · rw [if_neg c, if_neg (kn_nlel (j := 9) rfl (by omega) (by omega))]
theorem orderAt_b {so : Int32} {wo : Int64} {wd : Nat → Int64} (rc : Int32 → Int32 → Int32) (v : Nat) (r : Int32) (hv : v < 1000) : E_v_orderPartAt_l4 so wo wd rc (nI v) r = if 8 ≤ v then r else if E_v_isWord (wd v) so wo = 1 then rc (nI (v + 1)) (nI (v + 1)) else rc (nI (v + 1)) r := by
  simp only [E_v_orderPartAt_l4, Lt]
  rw [kn_cl (by omega), kn_p1 (by omega), kn_po (by omega)]
  by_cases c : 8 ≤ v
  · rw [if_pos c, if_pos (kn_lel (j := 8) rfl (by omega) c)]
  · rw [if_neg c, if_neg (kn_nlel (j := 8) rfl (by omega) (by omega))]
/-- the tables of words -/
noncomputable def KWt (wd we : Nat → Int64) : Prop := (∀ j, j < 9 → (wd j).toInt = kwh 11 j) ∧ ∀ j, j < 8 → (we j).toInt = kwh 12 j
/-- the word of a law that a token is, on both sides -/
theorem tk_lawword {f : Nat → Int32} {L p : Nat} {tf tt ti tu fr to so : Int32} {wo : Int64} {wd : Nat → Int64} (hw : ∀ j, j < 9 → (wd j).toInt = kwh 11 j) (h : TkP f L p (tf, tt, ti, tu) (fr, to, so, wo)) (ln : Int32) : (∃ i, i < 9 ∧ p < L ∧ so = 1 ∧ E_w_find 11 ln tf tt ti tu f = nI i ∧ E_v_partAt so wo wd = nI (i + 1)) ∨ (E_w_find 11 ln tf tt ti tu f = -1 ∧ E_v_partAt so wo wd = -1) := by
  have pt := pa_in (so := so) (wo := wo) (wd := wd) (N := 9) (by omega) (fun _ _ => ((0) : Int32)) (E_v_partAt_l4 so wo wd) (fun rc v r hv => partAt_b rc v r hv) 9 0 1 (-1) (by omega)
  have e : E_v_partAt so wo wd = Lp (α := Int32 → Int32 → (Int32)) (E_v_partAt_l4 so wo wd) (fun _ _ => ((0) : Int32)) (1 + 9 + 1) (nI 0) (-1) := by
    rw [E_v_partAt.eq_def]; rfl
  rw [e]
  rcases tk_find (k := 11) (by omega) (by omega) h ln with ⟨i, i1, i2, i3, i4⟩ | ⟨i1, i2⟩
  · have i1 : i < 9 := i1
    have wi := (i4 i i1).mpr rfl
    refine Or.inl ⟨i, i1, i2, wi.1, i3, pt.2 i (by omega) i1 (isWord_at.mpr (by rw [hw i i1]; exact wi)) (fun j _ hj hn => ?_)⟩
    rcases isWord_01 (c := wd j) (so := so) (wo := wo) with q | q
    · exact q
    · have q2 := isWord_at.mp q
      rw [hw j hj] at q2
      exact absurd ((i4 j hj).mp q2) hn
  · refine Or.inr ⟨i1, pt.1 (fun j _ hj => ?_)⟩
    rcases isWord_01 (c := wd j) (so := so) (wo := wo) with q | q
    · exact q
    · have q2 := isWord_at.mp q
      rw [hw j hj] at q2
      exact absurd q2 (i2 j hj)
theorem tk_ordword {f : Nat → Int32} {L p : Nat} {tf tt ti tu fr to so : Int32} {wo : Int64} {wd : Nat → Int64} (hw : ∀ j, j < 8 → (wd j).toInt = kwh 12 j) (h : TkP f L p (tf, tt, ti, tu) (fr, to, so, wo)) (ln : Int32) : (∃ i, i < 8 ∧ p < L ∧ so = 1 ∧ E_w_find 12 ln tf tt ti tu f = nI i ∧ E_v_orderPartAt so wo wd = nI (i + 1)) ∨ (E_w_find 12 ln tf tt ti tu f = -1 ∧ E_v_orderPartAt so wo wd = -1) := by
  have pt := pa_in (so := so) (wo := wo) (wd := wd) (N := 8) (by omega) (fun _ _ => ((0) : Int32)) (E_v_orderPartAt_l4 so wo wd) (fun rc v r hv => orderAt_b rc v r hv) 8 0 1 (-1) (by omega)
  have e : E_v_orderPartAt so wo wd = Lp (α := Int32 → Int32 → (Int32)) (E_v_orderPartAt_l4 so wo wd) (fun _ _ => ((0) : Int32)) (1 + 8 + 1) (nI 0) (-1) := by
    rw [E_v_orderPartAt.eq_def]; rfl
  rw [e]
  rcases tk_find (k := 12) (by omega) (by omega) h ln with ⟨i, i1, i2, i3, i4⟩ | ⟨i1, i2⟩
  · have i1 : i < 8 := i1
    have wi := (i4 i i1).mpr rfl
    refine Or.inl ⟨i, i1, i2, wi.1, i3, pt.2 i (by omega) i1 (isWord_at.mpr (by rw [hw i i1]; exact wi)) (fun j _ hj hn => ?_)⟩
    rcases isWord_01 (c := wd j) (so := so) (wo := wo) with q | q
    · exact q
    · have q2 := isWord_at.mp q
      rw [hw j hj] at q2
      exact absurd ((i4 j hj).mp q2) hn
  · refine Or.inr ⟨i1, pt.1 (fun j _ hj => ?_)⟩
    rcases isWord_01 (c := wd j) (so := so) (wo := wo) with q | q
    · exact q
    · have q2 := isWord_at.mp q
      rw [hw j hj] at q2
      exact absurd q2 (i2 j hj)
/-! readPart, by what the token is -/
theorem rp_open {go ga ft fo fa fp fq : Nat → Int32} {wd we : Nat → Int64} {ta fr to so fau od nc nl : Int32} {wo : Int64} {pi d : Nat} (hs : E_v_isSign 91 so wo = 1) (hp : pi < 1000) (hd : d < 8) : E_v_readPart go ga ta fr to so wo fau 0 od nc nl (nI pi) (nI d) ft fo fa fp fq wd we = (1, (E_v_next ta fr to so wo ft).1, (E_v_next ta fr to so wo ft).2.1, (E_v_next ta fr to so wo ft).2.2.1, (E_v_next ta fr to so wo ft).2.2.2, fau, 0, nc, nl, nI (pi + 1), nI (d + 1), fo, fa, upd fp pi (nI 32), upd fq pi 0) := by
  rw [E_v_readPart.eq_def, Lt_b, if_pos hs, open_p hp (by rw [nI_toInt (by omega)]; omega) (by rw [nI_toInt (by omega)]; omega)]
  simp only [Lt2]
  rw [kn_p1 (by omega)]
  rfl
theorem rp_open_n {go ga ft fo fa fp fq : Nat → Int32} {wd we : Nat → Int64} {ta fr to so fau od nc nl pi : Int32} {wo : Int64} {d : Nat} (hs : E_v_isSign 91 so wo = 1) (hd : 8 ≤ d) (hd2 : d < 1000) : ∃ a b c e h1 h2 h3 h4, E_v_readPart go ga ta fr to so wo fau 0 od nc nl pi (nI d) ft fo fa fp fq wd we = (1, fr, to, so, wo, fr, 1, a, b, c, e, h1, h2, h3, h4) := by
  rw [E_v_readPart.eq_def, Lt_b, if_pos hs, open_n (by rw [nI_toInt (by omega)]; omega)]
  simp only [Lt2]
  exact ⟨_, _, _, _, _, _, _, _, rfl⟩
/-- no part can begin with it -/
theorem rp_none {go ga ft fo fa fp fq : Nat → Int32} {wd we : Nat → Int64} {ta fr to so fau od nc nl pi opn : Int32} {wo : Int64} (hs : E_v_isSign 91 so wo = 0) (hp : (if od = 0 then E_v_partAt so wo wd else E_v_orderPartAt so wo we) = -1) (hn : so ≠ 2 ∨ 1000 < wo.toInt) : ∃ a b c e h1 h2 h3 h4, E_v_readPart go ga ta fr to so wo fau 0 od nc nl pi opn ft fo fa fp fq wd we = (3, fr, to, so, wo, fr, 1, a, b, c, e, h1, h2, h3, h4) := by
  have z : (1000 : Int64).toInt = 1000 := rfl
  have j59 : ∃ a b c e h1 h2 h3 h4, E_v_readPart_j59 go ga ta fr to so wo fau 0 od nc nl pi opn ft fo fa fp fq (-1) = (3, fr, to, so, wo, fr, 1, a, b, c, e, h1, h2, h3, h4) := by
    rw [E_v_readPart_j59.eq_def, if_pos rfl, if_pos rfl, leaf_n (Or.inl rfl)]
    simp only [Lt2]
    by_cases c : od = 0
    · rw [if_pos c]; exact ⟨_, _, _, _, _, _, _, _, rfl⟩
    · rw [if_neg c, if_pos (by decide)]; exact ⟨_, _, _, _, _, _, _, _, rfl⟩
  rw [E_v_readPart.eq_def, Lt_b, if_neg (by rw [hs]; decide)]
  by_cases c : od = 0
  · rw [if_pos c] at hp
    rw [if_pos c, Lt_b, hp]
    by_cases s2 : so = 2
    · rw [if_pos s2, if_pos ((lg_cmp_gt _ _).mpr (jl_iff.mpr (by have := hn.resolve_left (fun q => q s2); omega)))]
      exact j59
    · rw [if_neg s2]; exact j59
  · rw [if_neg c] at hp
    rw [if_neg c, Lt_b, hp]
    by_cases s2 : so = 2
    · rw [if_pos s2, if_pos ((lg_cmp_gt _ _).mpr (jl_iff.mpr (by have := hn.resolve_left (fun q => q s2); omega)))]
      exact j59
    · rw [if_neg s2]; exact j59
/-- a number -/
theorem rp_num {go ga ft fo fa fp fq : Nat → Int32} {wd we : Nat → Int64} {ta fr to so fau od pi opn : Int32} {wo : Int64} {nc nl : Nat} (hs : E_v_isSign 91 so wo = 0) (hp : (if od = 0 then E_v_partAt so wo wd else E_v_orderPartAt so wo we) = -1) (h2 : so = 2) (hw : wo.toInt ≤ 1000) (hc : nc < 1000) (hl : nl < 50) : E_v_readPart go ga ta fr to so wo fau 0 od (nI nc) (nI nl) pi opn ft fo fa fp fq wd we = (3, (E_v_next ta fr to so wo ft).1, (E_v_next ta fr to so wo ft).2.1, (E_v_next ta fr to so wo ft).2.2.1, (E_v_next ta fr to so wo ft).2.2.2, fau, 0, nI (nc + 1), nI (nl + 1), pi, opn, upd fo nc 0, upd fa nc wo.toInt32, fp, fq) := by
  have z : (1000 : Int64).toInt = 1000 := rfl
  have n3 : ¬ 0 < lg_cmp wo 1000 := fun q => by have := jl_iff.mp ((lg_cmp_gt _ _).mp q); omega
  rw [E_v_readPart.eq_def, Lt_b, if_neg (by rw [hs]; decide)]
  by_cases c : od = 0
  · rw [if_pos c] at hp
    rw [if_pos c, Lt_b, hp, if_pos h2, if_neg n3, if_pos rfl, if_pos rfl, Lt_b, leaf_p hc hl]
    simp only [Lt2]
    rw [if_pos c]
  · rw [if_neg c] at hp
    rw [if_neg c, Lt_b, hp, if_pos h2, if_neg n3, if_pos rfl, if_pos rfl, Lt_b, leaf_p hc hl]
    simp only [Lt2]
    rw [if_neg c, if_pos (by decide)]
/-- too many parts -/
theorem rp_full {go ga ft fo fa fp fq : Nat → Int32} {wd we : Nat → Int64} {ta fr to so fau od nc pi opn : Int32} {wo : Int64} {nl : Nat} (hs : E_v_isSign 91 so wo = 0) (ho : od = 0 ∨ od = 1) (hp : (if od = 0 then E_v_partAt so wo wd else E_v_orderPartAt so wo we) = -1 ∨ (so = 1 ∧ ∃ i : Nat, i < 10 ∧ (if od = 0 then E_v_partAt so wo wd else E_v_orderPartAt so wo we) = nI (i + 1))) (hl : 50 ≤ nl) (hl2 : nl < 1000) : ∃ a b c e h1 h2 h3 h4, E_v_readPart go ga ta fr to so wo fau 0 od nc (nI nl) pi opn ft fo fa fp fq wd we = (3, fr, to, so, wo, fr, 1, a, b, c, e, h1, h2, h3, h4) := by
  have lf : ∀ y z, E_v_leaf go ga 1 y z ta fr to so wo fau 0 nc (nI nl) pi opn ft fo fa fp fq = (fr, to, so, wo, fr, 1, nc, nI nl, fo, fa) := fun y z => leaf_n (Or.inr ⟨rfl, by rw [nI_toInt (by omega)]; omega⟩)
  have l0 : E_v_leaf go ga 0 0 0 ta fr to so wo fau 0 nc (nI nl) pi opn ft fo fa fp fq = (fr, to, so, wo, fr, 1, nc, nI nl, fo, fa) := leaf_n (Or.inl rfl)
  have j59 : ∀ v : Int32, (v = -1 ∨ ∃ i : Nat, i < 10 ∧ v = nI (i + 1)) → ∃ a b c e h1 h2 h3 h4, E_v_readPart_j59 go ga ta fr to so wo fau 0 od nc (nI nl) pi opn ft fo fa fp fq v = (3, fr, to, so, wo, fr, 1, a, b, c, e, h1, h2, h3, h4) := by
    intro v hv
    rw [E_v_readPart_j59.eq_def]
    rcases hv with hv | ⟨i, i1, hv⟩
    · rw [if_pos hv, if_pos hv, l0]
      simp only [Lt2]
      by_cases c : od = 0
      · rw [if_pos c]; exact ⟨_, _, _, _, _, _, _, _, rfl⟩
      · rw [if_neg c, if_pos (by rw [hv]; decide)]; exact ⟨_, _, _, _, _, _, _, _, rfl⟩
    · have n1 : ¬ v = -1 := fun q => by
        have := congrArg Int32.toInt (hv.symm.trans q)
        rw [nI_toInt (by omega)] at this
        have z1 : (-1 : Int32).toInt = -1 := rfl
        omega
      rw [if_neg n1, if_neg n1, lf]
      simp only [Lt2]
      by_cases c : od = 0
      · rw [if_pos c]; exact ⟨_, _, _, _, _, _, _, _, rfl⟩
      · rw [if_neg c]
        by_cases d : v < 6
        · rw [if_pos d]; exact ⟨_, _, _, _, _, _, _, _, rfl⟩
        · rw [if_neg d, if_neg (by decide)]; exact ⟨_, _, _, _, _, _, _, _, rfl⟩
  have nm : ∀ v : Int32, (v = -1 ∨ (so = 1 ∧ ∃ i : Nat, i < 10 ∧ v = nI (i + 1))) → ∀ (A B : Int32 × Int32 × Int32 × Int32 × Int64 × Int32 × Int32 × Int32 × Int32 × Int32 × Int32 × (Nat → Int32) × (Nat → Int32) × (Nat → Int32) × (Nat → Int32)), (v = -1 → ∃ a b c e h1 h2 h3 h4, A = (3, fr, to, so, wo, fr, 1, a, b, c, e, h1, h2, h3, h4)) → ∃ a b c e h1 h2 h3 h4, (if so = 2 then (if 0 < lg_cmp wo 1000 then E_v_readPart_j59 go ga ta fr to so wo fau 0 od nc (nI nl) pi opn ft fo fa fp fq v else (if v = -1 then A else B)) else E_v_readPart_j59 go ga ta fr to so wo fau 0 od nc (nI nl) pi opn ft fo fa fp fq v) = (3, fr, to, so, wo, fr, 1, a, b, c, e, h1, h2, h3, h4) := by
    intro v hv A B hA
    by_cases s2 : so = 2
    · have v1 : v = -1 := hv.resolve_right (fun q => absurd (q.1.symm.trans s2) (by decide))
      rw [if_pos s2]
      by_cases g : 0 < lg_cmp wo 1000
      · rw [if_pos g]; exact j59 v (Or.inl v1)
      · rw [if_neg g, if_pos v1]; exact hA v1
    · rw [if_neg s2]; exact j59 v (hv.imp id (fun q => q.2))
  rw [E_v_readPart.eq_def, Lt_b, if_neg (by rw [hs]; decide)]
  by_cases c : od = 0
  · rw [if_pos c] at hp
    rw [if_pos c, Lt_b]
    refine nm _ hp _ _ (fun hv => ?_)
    rw [if_pos hv, Lt_b, lf]
    simp only [Lt2]
    rw [if_pos c]; exact ⟨_, _, _, _, _, _, _, _, rfl⟩
  · rw [if_neg c] at hp
    rw [if_neg c, Lt_b]
    refine nm _ hp _ _ (fun hv => ?_)
    rw [if_pos hv, Lt_b, lf]
    simp only [Lt2]
    rw [if_neg c, if_pos (by rw [hv]; decide)]; exact ⟨_, _, _, _, _, _, _, _, rfl⟩
/-- a word (of orders: one that nothing stands behind) -/
theorem rp_word {go ga ft fo fa fp fq : Nat → Int32} {wd we : Nat → Int64} {ta fr to so fau od pi opn : Int32} {wo : Int64} {nc nl i : Nat} (hs : E_v_isSign 91 so wo = 0) (hi : i < 10) (hp : (if od = 0 then E_v_partAt so wo wd else E_v_orderPartAt so wo we) = nI (i + 1)) (h1 : so = 1) (h5 : od = 0 ∨ i < 5) (hc : nc < 1000) (hl : nl < 50) : E_v_readPart go ga ta fr to so wo fau 0 od (nI nc) (nI nl) pi opn ft fo fa fp fq wd we = (3, (E_v_next ta fr to so wo ft).1, (E_v_next ta fr to so wo ft).2.1, (E_v_next ta fr to so wo ft).2.2.1, (E_v_next ta fr to so wo ft).2.2.2, fau, 0, nI (nc + 1), nI (nl + 1), pi, opn, upd fo nc (nI (i + 1)), upd fa nc 0, fp, fq) := by
  have n1 : ¬ nI (i + 1) = -1 := fun q => by
    have := congrArg Int32.toInt q
    rw [nI_toInt (by omega)] at this
    have z1 : (-1 : Int32).toInt = -1 := rfl
    omega
  have n2 : ¬ so = 2 := fun q => absurd (h1.symm.trans q) (by decide)
  rw [E_v_readPart.eq_def, Lt_b, if_neg (by rw [hs]; decide)]
  by_cases c : od = 0
  · rw [if_pos c] at hp
    rw [if_pos c, Lt_b, hp, if_neg n2, E_v_readPart_j59.eq_def, if_neg n1, if_neg n1, leaf_p hc hl]
    simp only [Lt2]
    rw [if_pos c]
  · rw [if_neg c] at hp
    rw [if_neg c, Lt_b, hp, if_neg n2, E_v_readPart_j59.eq_def, if_neg n1, if_neg n1, leaf_p hc hl]
    simp only [Lt2]
    rw [if_neg c, if_pos (kn_ltl (j := 6) rfl (by omega) (by have := h5.resolve_left c; omega))]
theorem number_p {ta fr to so fau : Int32} {wo y z : Int64} {ft : Nat → Int32} (h2 : so = 2) (hi : E_v_in wo y z = 1) : E_v_number y z ta fr to so wo fau 0 ft = (wo.toInt32, (E_v_next ta fr to so wo ft).1, (E_v_next ta fr to so wo ft).2.1, (E_v_next ta fr to so wo ft).2.2.1, (E_v_next ta fr to so wo ft).2.2.2, fau, 0) := by
  rw [E_v_number.eq_def, Lt_b, if_pos h2, Lt_b, if_pos hi, must_1]
  rfl
theorem number_n {ta fr to so fau : Int32} {wo y z : Int64} {ft : Nat → Int32} (h : so ≠ 2 ∨ E_v_in wo y z ≠ 1) : E_v_number y z ta fr to so wo fau 0 ft = (wo.toInt32, fr, to, so, wo, fr, 1) := by
  rw [E_v_number.eq_def, Lt_b]
  by_cases c : so = 2
  · rw [if_pos c, Lt_b, if_neg (h.resolve_left (fun q => q c)), must_0]
    rfl
  · rw [if_neg c, must_0]
    rfl
/-- a word of orders that a number stands behind -/
theorem rp_tell {go ga ft fo fa fp fq : Nat → Int32} {wd we : Nat → Int64} {ta fr to so fau od pi opn : Int32} {wo : Int64} {nc nl i : Nat} (hs : E_v_isSign 91 so wo = 0) (hi : i < 8) (hp : E_v_orderPartAt so wo we = nI (i + 1)) (ho : od = 1) (h1 : so = 1) (h5 : 5 ≤ i) (hc : nc < 1000) (hl : nl < 50) : E_v_readPart go ga ta fr to so wo fau 0 od (nI nc) (nI nl) pi opn ft fo fa fp fq wd we = (3, (E_v_number 0 (if i = 7 then 6 else 7) ta (E_v_next ta fr to so wo ft).1 (E_v_next ta fr to so wo ft).2.1 (E_v_next ta fr to so wo ft).2.2.1 (E_v_next ta fr to so wo ft).2.2.2 fau 0 ft).2.1, (E_v_number 0 (if i = 7 then 6 else 7) ta (E_v_next ta fr to so wo ft).1 (E_v_next ta fr to so wo ft).2.1 (E_v_next ta fr to so wo ft).2.2.1 (E_v_next ta fr to so wo ft).2.2.2 fau 0 ft).2.2.1, (E_v_number 0 (if i = 7 then 6 else 7) ta (E_v_next ta fr to so wo ft).1 (E_v_next ta fr to so wo ft).2.1 (E_v_next ta fr to so wo ft).2.2.1 (E_v_next ta fr to so wo ft).2.2.2 fau 0 ft).2.2.2.1, (E_v_number 0 (if i = 7 then 6 else 7) ta (E_v_next ta fr to so wo ft).1 (E_v_next ta fr to so wo ft).2.1 (E_v_next ta fr to so wo ft).2.2.1 (E_v_next ta fr to so wo ft).2.2.2 fau 0 ft).2.2.2.2.1, (E_v_number 0 (if i = 7 then 6 else 7) ta (E_v_next ta fr to so wo ft).1 (E_v_next ta fr to so wo ft).2.1 (E_v_next ta fr to so wo ft).2.2.1 (E_v_next ta fr to so wo ft).2.2.2 fau 0 ft).2.2.2.2.2.1, (E_v_number 0 (if i = 7 then 6 else 7) ta (E_v_next ta fr to so wo ft).1 (E_v_next ta fr to so wo ft).2.1 (E_v_next ta fr to so wo ft).2.2.1 (E_v_next ta fr to so wo ft).2.2.2 fau 0 ft).2.2.2.2.2.2, nI (nc + 1), nI (nl + 1), pi, opn, upd fo nc (nI (i + 1)), upd (upd fa nc 0) nc (E_v_number 0 (if i = 7 then 6 else 7) ta (E_v_next ta fr to so wo ft).1 (E_v_next ta fr to so wo ft).2.1 (E_v_next ta fr to so wo ft).2.2.1 (E_v_next ta fr to so wo ft).2.2.2 fau 0 ft).1, fp, fq) := by
  have n1 : ¬ nI (i + 1) = -1 := fun q => by
    have := congrArg Int32.toInt q
    rw [nI_toInt (by omega)] at this
    have z1 : (-1 : Int32).toInt = -1 := rfl
    omega
  have n2 : ¬ so = 2 := fun q => absurd (h1.symm.trans q) (by decide)
  have o1 : ¬ od = 0 := by rw [ho]; decide
  rw [E_v_readPart.eq_def, Lt_b, if_neg (by rw [hs]; decide), if_neg o1, Lt_b, hp, if_neg n2, E_v_readPart_j59.eq_def, if_neg n1, if_neg n1, leaf_p hc hl]
  simp only [Lt2, Lt]
  rw [if_neg o1, if_neg (kn_nltl (j := 6) rfl (by omega) (by omega)), if_pos (by trivial), kn_m1 (by omega) (by omega), kn_cl (by omega), show nc + 1 - 1 = nc by omega]
  by_cases e : i = 7
  · rw [if_pos (by rw [e]; rfl), if_pos e]
  · rw [if_neg (kn_nz (j := 8) rfl (by omega) (by omega)), if_neg e]
/-! the reference's loop of reading -/
noncomputable abbrev KF_ : Type := Nat → Int32
noncomputable abbrev KR14 : Type := Int32 × Int32 × Int32 × Int64 × Int32 × Int32 × Int32 × Int32 × Int32 × Int32 × (Nat → Int32) × (Nat → Int32) × (Nat → Int32) × (Nat → Int32)
noncomputable abbrev KRd : Type := Int32 → Int32 → Int32 → Int32 → Int64 → Int32 → Int32 → Int32 → Int32 → Int32 → Int32 → (Nat → Int32) → (Nat → Int32) → (Nat → Int32) → (Nat → Int32) → KR14
noncomputable abbrev KT4 : Type := Int32 × Int32 × Int32 × Int32
noncomputable abbrev KM4 : Type := Int32 × Int32 × Int32 × Int64
/-- what is told once for a text: bytes (class, reference), length, which language, tables, whether a test is read -/
noncomputable abbrev KC_ : Type := KF_ × KF_ × Nat × Nat × (Nat → Int64) × (Nat → Int64) × Int32 × KF_ × KF_
noncomputable def kod (o : Nat) : Int32 := if o = 0 then 0 else 1
noncomputable def klw (o : Nat) : Int32 := if o = 0 then 1 else 0
noncomputable def KCok (C : KC_) : Prop := C.2.2.1 ≤ 400 ∧ (∀ j, j < C.2.2.1 → C.1 j = C.2.1 j) ∧ C.2.2.2.1 ≤ 1 ∧ KWt C.2.2.2.2.1 C.2.2.2.2.2.1
noncomputable def kL (C : KC_) (F : Nat) : KRd := Lp (α := KRd) (E_v_readExpression_l20 C.2.2.2.2.2.2.1 (nI C.2.2.1) (kod C.2.2.2.1) C.2.1 C.2.2.2.2.2.2.2.1 C.2.2.2.2.2.2.2.2 C.2.2.2.2.1 C.2.2.2.2.2.1) (fun _ _ _ _ _ _ _ _ _ _ _ _ _ _ _ => ((0, 0, 0, 0, 0, 0, 0, 0, 0, 0, fun _ => 0, fun _ => 0, fun _ => 0, fun _ => 0) : KR14)) F
theorem kL_part {C : KC_} {F : Nat} {fr to so fau nc nl pi opn : Int32} {wo : Int64} {fo fa fp fq : Nat → Int32} {r : Int32 × Int32 × Int32 × Int32 × Int64 × Int32 × Int32 × Int32 × Int32 × Int32 × Int32 × (Nat → Int32) × (Nat → Int32) × (Nat → Int32) × (Nat → Int32)} (h : E_v_readPart C.2.2.2.2.2.2.2.1 C.2.2.2.2.2.2.2.2 (nI C.2.2.1) fr to so wo fau 0 (kod C.2.2.2.1) nc nl pi opn C.2.1 fo fa fp fq C.2.2.2.2.1 C.2.2.2.2.2.1 = r) : kL C (F + 1) 1 fr to so wo fau 0 nc nl pi opn fo fa fp fq = kL C F r.1 r.2.1 r.2.2.1 r.2.2.2.1 r.2.2.2.2.1 r.2.2.2.2.2.1 r.2.2.2.2.2.2.1 r.2.2.2.2.2.2.2.1 r.2.2.2.2.2.2.2.2.1 r.2.2.2.2.2.2.2.2.2.1 r.2.2.2.2.2.2.2.2.2.2.1 r.2.2.2.2.2.2.2.2.2.2.2.1 r.2.2.2.2.2.2.2.2.2.2.2.2.1 r.2.2.2.2.2.2.2.2.2.2.2.2.2.1 r.2.2.2.2.2.2.2.2.2.2.2.2.2.2 := by
  unfold kL
  rw [Lp_s, E_v_readExpression_l20.eq_def, if_pos rfl, if_neg (by decide), if_neg (by decide), if_pos rfl, h]
  rfl
theorem kL_plain {C : KC_} {F : Nat} {fr to so fau nc nl pi opn : Int32} {wo : Int64} {fo fa fp fq : Nat → Int32} {r : Int32 × Int32 × Int32 × Int32 × Int64 × Int32 × Int32 × Int32 × Int32 × Int32 × Int32 × (Nat → Int32) × (Nat → Int32) × (Nat → Int32) × (Nat → Int32)} (h : E_v_readPlain C.2.2.2.2.2.2.2.1 C.2.2.2.2.2.2.2.2 (nI C.2.2.1) fr to so wo fau 0 (kod C.2.2.2.1) nc nl pi opn C.2.1 fo fa fp fq C.2.2.2.2.1 C.2.2.2.2.2.1 = r) : kL C (F + 1) 0 fr to so wo fau 0 nc nl pi opn fo fa fp fq = kL C F r.1 r.2.1 r.2.2.1 r.2.2.2.1 r.2.2.2.2.1 r.2.2.2.2.2.1 r.2.2.2.2.2.2.1 r.2.2.2.2.2.2.2.1 r.2.2.2.2.2.2.2.2.1 r.2.2.2.2.2.2.2.2.2.1 r.2.2.2.2.2.2.2.2.2.2.1 r.2.2.2.2.2.2.2.2.2.2.2.1 r.2.2.2.2.2.2.2.2.2.2.2.2.1 r.2.2.2.2.2.2.2.2.2.2.2.2.2.1 r.2.2.2.2.2.2.2.2.2.2.2.2.2.2 := by
  unfold kL
  rw [Lp_s, E_v_readExpression_l20.eq_def, if_pos rfl, if_neg (by decide), if_pos rfl, h]
  rfl
theorem kL_sum {C : KC_} {F : Nat} {fr to so fau nc nl pi opn : Int32} {wo : Int64} {fo fa fp fq : Nat → Int32} {r : Int32 × Int32 × Int32 × Int32 × Int64 × Int32 × Int32 × Int32 × Int32 × Int32 × (Nat → Int32) × (Nat → Int32) × (Nat → Int32) × (Nat → Int32)} (h : E_v_behindSum C.2.2.2.2.2.2.2.1 C.2.2.2.2.2.2.2.2 C.2.2.2.2.2.2.1 (nI C.2.2.1) fr to so wo fau 0 nc nl pi opn C.2.1 fo fa fp fq = r) : kL C (F + 1) 3 fr to so wo fau 0 nc nl pi opn fo fa fp fq = kL C F r.1 r.2.1 r.2.2.1 r.2.2.2.1 r.2.2.2.2.1 r.2.2.2.2.2.1 r.2.2.2.2.2.2.1 r.2.2.2.2.2.2.2.1 nl r.2.2.2.2.2.2.2.2.1 r.2.2.2.2.2.2.2.2.2.1 r.2.2.2.2.2.2.2.2.2.2.1 r.2.2.2.2.2.2.2.2.2.2.2.1 r.2.2.2.2.2.2.2.2.2.2.2.2.1 r.2.2.2.2.2.2.2.2.2.2.2.2.2 := by
  unfold kL
  rw [Lp_s, E_v_readExpression_l20.eq_def, if_pos rfl, if_neg (by decide), if_neg (by decide), if_neg (by decide), if_pos rfl, h]
  rfl
theorem kL_test {C : KC_} {F : Nat} {fr to so fau nc nl pi opn : Int32} {wo : Int64} {fo fa fp fq : Nat → Int32} {r : Int32 × Int32 × Int32 × Int32 × Int64 × Int32 × Int32 × Int32 × Int32 × Int32 × (Nat → Int32) × (Nat → Int32) × (Nat → Int32) × (Nat → Int32)} (h : E_v_behindTest C.2.2.2.2.2.2.2.1 C.2.2.2.2.2.2.2.2 (nI C.2.2.1) fr to so wo fau 0 nc nl pi opn C.2.1 fo fa fp fq = r) : kL C (F + 1) 2 fr to so wo fau 0 nc nl pi opn fo fa fp fq = kL C F r.1 r.2.1 r.2.2.1 r.2.2.2.1 r.2.2.2.2.1 r.2.2.2.2.2.1 r.2.2.2.2.2.2.1 r.2.2.2.2.2.2.2.1 nl r.2.2.2.2.2.2.2.2.1 r.2.2.2.2.2.2.2.2.2.1 r.2.2.2.2.2.2.2.2.2.2.1 r.2.2.2.2.2.2.2.2.2.2.2.1 r.2.2.2.2.2.2.2.2.2.2.2.2.1 r.2.2.2.2.2.2.2.2.2.2.2.2.2 := by
  unfold kL
  rw [Lp_s, E_v_readExpression_l20.eq_def, if_pos rfl, if_neg (by decide), if_neg (by decide), if_neg (by decide), if_neg (by decide), h]
  rfl
theorem kL_bad {C : KC_} {F : Nat} {t fr to so fau nc nl pi opn : Int32} {wo : Int64} {fo fa fp fq : Nat → Int32} : ∃ r : KR14, kL C (F + 1) t fr to so wo fau 1 nc nl pi opn fo fa fp fq = r ∧ r.2.2.2.2.1 = fau ∧ r.2.2.2.2.2.1 = 1 := by
  refine ⟨_, rfl, ?_, ?_⟩
  · unfold kL
    rw [Lp_s, E_v_readExpression_l20.eq_def, if_neg (by decide)]
    rfl
  · unfold kL
    rw [Lp_s, E_v_readExpression_l20.eq_def, if_neg (by decide)]
    rfl
/-- how far it is to the end at most -/
noncomputable def mz (p t : Nat) : Nat := 8 * (401 - p) + 4 + t
/-- from here the reference ends with a fault at q -/
noncomputable def KBad (C : KC_) (tn : Int32) (t p : Nat) (m : KM4) (fau : Int32) (nc nl pi d : Nat) (fo fa fp fq : Nat → Int32) (q : Nat) : Prop := ∀ F, mz p t < F → ∃ r : KR14, kL C F tn m.1 m.2.1 m.2.2.1 m.2.2.2 fau 0 (nI nc) (nI nl) (nI pi) (nI d) fo fa fp fq = r ∧ r.2.2.2.2.1 = nI q ∧ r.2.2.2.2.2.1 = 1
/-- from here the reference comes there -/
noncomputable def KGo (C : KC_) (fau : Int32) (tn : Int32) (t p : Nat) (m : KM4) (nc nl pi d : Nat) (fo fa fp fq : Nat → Int32) (tn' : Int32) (t' p' : Nat) (m' : KM4) (nc' nl' pi' d' : Nat) (fo' fa' fp' fq' : Nat → Int32) : Prop := ∀ F, mz p t < F → ∃ F', mz p' t' < F' ∧ kL C F tn m.1 m.2.1 m.2.2.1 m.2.2.2 fau 0 (nI nc) (nI nl) (nI pi) (nI d) fo fa fp fq = kL C F' tn' m'.1 m'.2.1 m'.2.2.1 m'.2.2.2 fau 0 (nI nc') (nI nl') (nI pi') (nI d') fo' fa' fp' fq'
theorem KGo.trans {C : KC_} {fau tn tn2 tn3 : Int32} {t p t2 p2 t3 p3 nc nl pi d nc2 nl2 pi2 d2 nc3 nl3 pi3 d3 : Nat} {m m2 m3 : KM4} {fo fa fp fq fo2 fa2 fp2 fq2 fo3 fa3 fp3 fq3 : Nat → Int32} (h : KGo C fau tn t p m nc nl pi d fo fa fp fq tn2 t2 p2 m2 nc2 nl2 pi2 d2 fo2 fa2 fp2 fq2) (h2 : KGo C fau tn2 t2 p2 m2 nc2 nl2 pi2 d2 fo2 fa2 fp2 fq2 tn3 t3 p3 m3 nc3 nl3 pi3 d3 fo3 fa3 fp3 fq3) : KGo C fau tn t p m nc nl pi d fo fa fp fq tn3 t3 p3 m3 nc3 nl3 pi3 d3 fo3 fa3 fp3 fq3 := fun F hF => by
  obtain ⟨F2, a1, a2⟩ := h F hF
  obtain ⟨F3, b1, b2⟩ := h2 F2 a1
  exact ⟨F3, b1, a2.trans b2⟩
theorem KGo.bad {C : KC_} {fau tn tn2 : Int32} {t p t2 p2 nc nl pi d nc2 nl2 pi2 d2 q : Nat} {m m2 : KM4} {fo fa fp fq fo2 fa2 fp2 fq2 : Nat → Int32} (h : KGo C fau tn t p m nc nl pi d fo fa fp fq tn2 t2 p2 m2 nc2 nl2 pi2 d2 fo2 fa2 fp2 fq2) (h2 : KBad C tn2 t2 p2 m2 fau nc2 nl2 pi2 d2 fo2 fa2 fp2 fq2 q) : KBad C tn t p m fau nc nl pi d fo fa fp fq q := fun F hF => by
  obtain ⟨F2, a1, a2⟩ := h F hF
  rw [a2]
  exact h2 F2 a1
/-- one step -/
theorem KGo.one {C : KC_} {fau tn tn2 : Int32} {t p t2 p2 nc nl pi d nc2 nl2 pi2 d2 : Nat} {m m2 : KM4} {fo fa fp fq fo2 fa2 fp2 fq2 : Nat → Int32} (hm : mz p2 t2 < mz p t) (h : ∀ F, kL C (F + 1) tn m.1 m.2.1 m.2.2.1 m.2.2.2 fau 0 (nI nc) (nI nl) (nI pi) (nI d) fo fa fp fq = kL C F tn2 m2.1 m2.2.1 m2.2.2.1 m2.2.2.2 fau 0 (nI nc2) (nI nl2) (nI pi2) (nI d2) fo2 fa2 fp2 fq2) : KGo C fau tn t p m nc nl pi d fo fa fp fq tn2 t2 p2 m2 nc2 nl2 pi2 d2 fo2 fa2 fp2 fq2 := fun F hF => ⟨F - 1, by omega, by
  have := h (F - 1)
  rw [show F - 1 + 1 = F by omega] at this
  exact this⟩
theorem KBad.one {C : KC_} {fau tn : Int32} {t p nc nl pi d q : Nat} {m : KM4} {fo fa fp fq : Nat → Int32} (h : ∀ F, ∃ t2 a b c e n1 n2 n3 n4 h1 h2 h3 h4, kL C (F + 1) tn m.1 m.2.1 m.2.2.1 m.2.2.2 fau 0 (nI nc) (nI nl) (nI pi) (nI d) fo fa fp fq = kL C F t2 a b c e (nI q) 1 n1 n2 n3 n4 h1 h2 h3 h4) : KBad C tn t p m fau nc nl pi d fo fa fp fq q := fun F hF => by
  obtain ⟨t2, a, b, c, e, n1, n2, n3, n4, h1, h2, h3, h4, k⟩ := h (F - 1)
  have hz : 4 ≤ mz p t := by unfold mz; omega
  rw [show F - 1 + 1 = F by omega] at k
  rw [k, show F - 1 = F - 2 + 1 by omega]
  exact kL_bad
/-! the class's reading, a part, a sum, a test: what comes of it -/
noncomputable abbrev KW8 : Type := Int32 × Int32 × Int32 × Int32 × Int32 × Int32 × Int32 × (Nat → Int32)
noncomputable abbrev KWf : Type := Int32 → Int32 → Int32 → Int32 → Int32 → Int32 → Int32 → Int32 → (Nat → Int32) → Int32 → (Nat → Int32) → KW8
/-- a piece was read on both sides: the class's code from us on, the reference's from nc on tell the same -/
noncomputable def KRead (C : KC_) (P : Int → Prop) (K : Nat) (fau tn0 : Int32) (tn : Int32) (t d p : Nat) (m : KM4) (us nl nc pi w : Nat) (fc fo fa fp fq : Nat → Int32) (lo hi : Nat) (r : KW8) : Prop :=
  ∃ (p' : Nat) (c' : KT4) (m' : KM4) (us' nl' n1 pi1 n2 : Nat) (fc' fo1 fa1 fp1 fq1 fo2 fa2 : Nat → Int32),
    r = (1, nI nl', c'.1, c'.2.1, c'.2.2.1, c'.2.2.2, nI us', fc') ∧ p < p' ∧ TkP C.1 C.2.2.1 p' c' m' ∧
    KGo C fau tn0 3 p m nc nl pi d fo fa fp fq tn t p' m' n1 nl' pi1 d fo1 fa1 fp1 fq1 ∧
    (pi ≤ pi1 ∧ pi1 ≤ p' ∧ (∀ j, j < pi → fp1 j = fp j ∧ fq1 j = fq j) ∧ ∀ j, pi ≤ j → j < pi1 → ∃ o : Nat, lo ≤ o ∧ o ≤ hi ∧ fp1 j = nI o) ∧
    KP K n1 pi1 fo1 fa1 n2 pi fo2 fa2 fp1 fq1 ∧
    ((∀ j, j < us → fc' j = fc j) ∧ ∀ j, j < nc → fo2 j = fo j ∧ fa2 j = fa j) ∧
    (us ≤ us' ∧ nc ≤ n2 ∧ nl ≤ nl' ∧ nl' ≤ 50 ∧ us' + 2 * w ≤ 2 * p' ∧ n2 + w ≤ p' ∧ n1 ≤ p') ∧
    SE C.2.2.2.1 P 1 (nl' - nl) fc' us us' fo2 fa2 nc n2
/-- no piece: both sides hold the same fault -/
noncomputable def KNot (C : KC_) (fau tn0 : Int32) (d p : Nat) (m : KM4) (nl nc pi : Nat) (fo fa fp fq : Nat → Int32) (r : KW8) : Prop := r.1 = 0 ∧ ∃ q : Nat, r.2.2.1 = nI q ∧ KBad C tn0 3 p m fau nc nl pi d fo fa fp fq q
/-- a part: nothing of it waits -/
noncomputable def KPrt (C : KC_) (P : Int → Prop) (fau tn0 : Int32) (tn : Int32) (t d p : Nat) (m : KM4) (us nl nc pi w : Nat) (fc fo fa fp fq : Nat → Int32) (r : KW8) : Prop :=
  ∃ (p' : Nat) (c' : KT4) (m' : KM4) (us' nl' n1 : Nat) (fc' fo1 fa1 fp1 fq1 : Nat → Int32),
    r = (1, nI nl', c'.1, c'.2.1, c'.2.2.1, c'.2.2.2, nI us', fc') ∧ p < p' ∧ TkP C.1 C.2.2.1 p' c' m' ∧
    KGo C fau tn0 3 p m nc nl pi d fo fa fp fq tn t p' m' n1 nl' pi d fo1 fa1 fp1 fq1 ∧
    pi ≤ p' ∧ (∀ j, j < pi → fp1 j = fp j ∧ fq1 j = fq j) ∧ (∀ j, j < us → fc' j = fc j) ∧ (∀ j, j < nc → fo1 j = fo j ∧ fa1 j = fa j) ∧
    (us ≤ us' ∧ nc ≤ n1 ∧ nl ≤ nl' ∧ nl' ≤ 50 ∧ us' + 2 * w ≤ 2 * p' ∧ n1 + w ≤ p' ∧ n1 ≤ p') ∧
    SE C.2.2.2.1 P 1 (nl' - nl) fc' us us' fo1 fa1 nc n1
noncomputable def SimPart (C : KC_) (Ep : KWf) (d : Nat) : Prop := ∀ (fau : Int32) (p : Nat) (c : KT4) (m : KM4) (us nl nc pi w : Nat) (fc fo fa fp fq : Nat → Int32), TkP C.1 C.2.2.1 p c m → us + 2 * w ≤ 2 * p → nc + w ≤ p → pi ≤ p → nl ≤ 50 → d ≤ 8 →
  KNot C fau 1 d p m nl nc pi fo fa fp fq (Ep (nI d) (klw C.2.2.2.1) (nI nl) (nI C.2.2.1) c.1 c.2.1 c.2.2.1 c.2.2.2 C.1 (nI us) fc) ∨
  KPrt C KA_ fau 1 3 2 d p m us nl nc pi w fc fo fa fp fq (Ep (nI d) (klw C.2.2.2.1) (nI nl) (nI C.2.2.1) c.1 c.2.1 c.2.2.1 c.2.2.2 C.1 (nI us) fc)
/-- signs that a sum goes on with -/
noncomputable def KSg (ti : Int32) : Prop := ti = 42 ∨ ti = 47 ∨ ti = 37 ∨ ti = 43 ∨ ti = 45
/-- what lies below is no operator of sums -/
noncomputable def KTop (fp : Nat → Int32) (pi : Nat) : Prop := pi = 0 ∨ ∃ o : Nat, 25 ≤ o ∧ o ≤ 32 ∧ fp (pi - 1) = nI o
noncomputable def SimSum (C : KC_) (Es : KWf) (d : Nat) : Prop := ∀ (fau : Int32) (p : Nat) (c : KT4) (m : KM4) (us nl nc pi w : Nat) (fc fo fa fp fq : Nat → Int32), TkP C.1 C.2.2.1 p c m → us + 2 * w ≤ 2 * p → nc + w ≤ p → pi ≤ p → nl ≤ 50 → d ≤ 8 → KTop fp pi →
  KNot C fau 1 d p m nl nc pi fo fa fp fq (Es (nI d) (klw C.2.2.2.1) (nI nl) (nI C.2.2.1) c.1 c.2.1 c.2.2.1 c.2.2.2 C.1 (nI us) fc) ∨
  (KRead C KA_ 5 fau 1 3 2 d p m us nl nc pi w fc fo fa fp fq 20 24 (Es (nI d) (klw C.2.2.2.1) (nI nl) (nI C.2.2.1) c.1 c.2.1 c.2.2.1 c.2.2.2 C.1 (nI us) fc) ∧ ¬ KSg (Es (nI d) (klw C.2.2.2.1) (nI nl) (nI C.2.2.1) c.1 c.2.1 c.2.2.1 c.2.2.2 C.1 (nI us) fc).2.2.2.2.1)
/-! a part -/
theorem emit_at {us : Nat} {x y : Int32} {fc : Nat → Int32} (h : us + 1 < 800) : E_w_emit x y (nI us) fc = (nI us, nI (us + 2), upd (upd fc us x) (us + 1) y) := by
  simp only [E_w_emit, Lt]
  rw [kn_p1 (by omega), kn_p2 (by omega), if_pos (kn_ltl (j := 800) rfl (by omega) h), kn_cl (by omega), kn_cl (by omega), kn_m2 (by omega) (by omega), show us + 2 - 2 = us by omega]
theorem mz_lt {p p' t t' : Nat} (h : p < p') (hp : p' ≤ 400) (ht : t' ≤ 3) : mz p' t' < mz p t := by unfold mz; omega
/-- the token that comes next, on both sides -/
theorem tk_next {C : KC_} (hC : KCok C) {p : Nat} {c : KT4} {m : KM4} (h : TkP C.1 C.2.2.1 p c m) : ∃ q, p ≤ q ∧ (p < C.2.2.1 → p < q) ∧ TkP C.1 C.2.2.1 q (E_w_step (nI C.2.2.1) c.1 c.2.1 c.2.2.1 c.2.2.2 C.1) (E_v_next (nI C.2.2.1) m.1 m.2.1 m.2.2.1 m.2.2.2 C.2.1) :=
  TkP.next (fr2 := c.1) (fi2 := c.2.2.1) (nu2 := c.2.2.2) (fr3 := m.1) (so3 := m.2.2.1) (wo3 := m.2.2.2) (tf := c.1) (tt := c.2.1) (ti := c.2.2.1) (tu := c.2.2.2) (fr := m.1) (to := m.2.1) (so := m.2.2.1) (wo := m.2.2.2) h hC.2.1 (a := (E_w_step (nI C.2.2.1) c.1 c.2.1 c.2.2.1 c.2.2.2 C.1).1) (b := (E_w_step (nI C.2.2.1) c.1 c.2.1 c.2.2.1 c.2.2.2 C.1).2.1) (c := (E_w_step (nI C.2.2.1) c.1 c.2.1 c.2.2.1 c.2.2.2 C.1).2.2.1) (d := (E_w_step (nI C.2.2.1) c.1 c.2.1 c.2.2.1 c.2.2.2 C.1).2.2.2) (a' := (E_v_next (nI C.2.2.1) m.1 m.2.1 m.2.2.1 m.2.2.2 C.2.1).1) (b' := (E_v_next (nI C.2.2.1) m.1 m.2.1 m.2.2.1 m.2.2.2 C.2.1).2.1) (c' := (E_v_next (nI C.2.2.1) m.1 m.2.1 m.2.2.1 m.2.2.2 C.2.1).2.2.1) (d' := (E_v_next (nI C.2.2.1) m.1 m.2.1 m.2.2.1 m.2.2.2 C.2.1).2.2.2) rfl rfl
theorem kod_0 {o : Nat} (h : o ≤ 1) : (o = 0 ∧ kod o = 0 ∧ klw o = 1) ∨ (o = 1 ∧ kod o = 1 ∧ klw o = 0) := by
  unfold kod klw
  by_cases c : o = 0
  · rw [if_pos c, if_pos c]; exact Or.inl ⟨c, rfl, rfl⟩
  · rw [if_neg c, if_neg c]; exact Or.inr ⟨by omega, rfl, rfl⟩
/-- the word that a token is in the language that is read -/
theorem tk_word {C : KC_} (hC : KCok C) {p : Nat} {c : KT4} {m : KM4} (h : TkP C.1 C.2.2.1 p c m) : (∃ i, i < 9 ∧ (C.2.2.2.1 = 1 → i < 8) ∧ p < C.2.2.1 ∧ m.2.2.1 = 1 ∧ E_w_find (if klw C.2.2.2.1 = 0 then 12 else 11) (nI C.2.2.1) c.1 c.2.1 c.2.2.1 c.2.2.2 C.1 = nI i ∧ (if kod C.2.2.2.1 = 0 then E_v_partAt m.2.2.1 m.2.2.2 C.2.2.2.2.1 else E_v_orderPartAt m.2.2.1 m.2.2.2 C.2.2.2.2.2.1) = nI (i + 1)) ∨ (E_w_find (if klw C.2.2.2.1 = 0 then 12 else 11) (nI C.2.2.1) c.1 c.2.1 c.2.2.1 c.2.2.2 C.1 = -1 ∧ (if kod C.2.2.2.1 = 0 then E_v_partAt m.2.2.1 m.2.2.2 C.2.2.2.2.1 else E_v_orderPartAt m.2.2.1 m.2.2.2 C.2.2.2.2.2.1) = -1) := by
  obtain ⟨_, _, h3, h4, h5⟩ := hC
  rcases kod_0 h3 with ⟨o1, o2, o3⟩ | ⟨o1, o2, o3⟩
  · rw [o2, o3, if_neg (by decide), if_pos rfl]
    rcases tk_lawword (tf := c.1) (tt := c.2.1) (ti := c.2.2.1) (tu := c.2.2.2) (fr := m.1) (to := m.2.1) (so := m.2.2.1) (wo := m.2.2.2) h4 h (nI C.2.2.1) with ⟨i, i1, i2, i3, i4, i5⟩ | q
    · exact Or.inl ⟨i, i1, fun q => by omega, i2, i3, i4, i5⟩
    · exact Or.inr q
  · rw [o2, o3, if_pos rfl, if_neg (by decide)]
    rcases tk_ordword (tf := c.1) (tt := c.2.1) (ti := c.2.2.1) (tu := c.2.2.2) (fr := m.1) (to := m.2.1) (so := m.2.2.1) (wo := m.2.2.2) h5 h (nI C.2.2.1) with ⟨i, i1, i2, i3, i4, i5⟩ | q
    · exact Or.inl ⟨i, by omega, fun _ => i1, i2, i3, i4, i5⟩
    · exact Or.inr q
theorem aF67 : ∀ i, i < 3 → aF 6 i = nI (5 + 8 * i) ∧ aF 7 i = if i = 2 then nI 6 else nI 7 := by decide
theorem z32 {c : Int32} {x : Int} (h : c.toInt = x) (hz : x < 0) : c < 0 := il_iff.mpr (by have z : (0 : Int32).toInt = 0 := rfl; omega)
/-- a leaf of the code: one word, or number, on both sides -/
theorem leaf_go {C : KC_} {fau : Int32} {p p' d nc nl pi : Nat} {m m' : KM4} {fo fa fp fq : Nat → Int32} {y z : Int32} (hp : p < p') (hp2 : p' ≤ 400) (h : E_v_readPart C.2.2.2.2.2.2.2.1 C.2.2.2.2.2.2.2.2 (nI C.2.2.1) m.1 m.2.1 m.2.2.1 m.2.2.2 fau 0 (kod C.2.2.2.1) (nI nc) (nI nl) (nI pi) (nI d) C.2.1 fo fa fp fq C.2.2.2.2.1 C.2.2.2.2.2.1 = (3, m'.1, m'.2.1, m'.2.2.1, m'.2.2.2, fau, 0, nI (nc + 1), nI (nl + 1), nI pi, nI d, upd fo nc y, upd fa nc z, fp, fq)) : KGo C fau 1 3 p m nc nl pi d fo fa fp fq 3 2 p' m' (nc + 1) (nl + 1) pi d (upd fo nc y) (upd fa nc z) fp fq :=
  KGo.one (mz_lt hp hp2 (by omega)) (fun F => by rw [kL_part h])
theorem leaf_read {C : KC_} {fau : Int32} {p p' d nc nl pi us w : Nat} {c' : KT4} {m m' : KM4} {fc fo fa fp fq : Nat → Int32} {x1 x2 y z : Int32} (hp : p < p') (hT : TkP C.1 C.2.2.1 p' c' m') (hus : us + 2 * w ≤ 2 * p) (hnc : nc + w ≤ p) (hpi : pi ≤ p) (hnl : nl < 50) (h : E_v_readPart C.2.2.2.2.2.2.2.1 C.2.2.2.2.2.2.2.2 (nI C.2.2.1) m.1 m.2.1 m.2.2.1 m.2.2.2 fau 0 (kod C.2.2.2.1) (nI nc) (nI nl) (nI pi) (nI d) C.2.1 fo fa fp fq C.2.2.2.2.1 C.2.2.2.2.2.1 = (3, m'.1, m'.2.1, m'.2.2.1, m'.2.2.2, fau, 0, nI (nc + 1), nI (nl + 1), nI pi, nI d, upd fo nc y, upd fa nc z, fp, fq)) (hs : SE C.2.2.2.1 KA_ 1 1 (upd (upd fc us x1) (us + 1) x2) us (us + 2) (upd fo nc y) (upd fa nc z) nc (nc + 1)) : KPrt C KA_ fau 1 3 2 d p m us nl nc pi w fc fo fa fp fq (1, nI (nl + 1), c'.1, c'.2.1, c'.2.2.1, c'.2.2.2, nI (us + 2), upd (upd fc us x1) (us + 1) x2) := by
  have hL := hT.2.1
  have hpL := hT.1
  refine ⟨p', c', m', us + 2, nl + 1, nc + 1, _, _, _, fp, fq, rfl, hp, hT, leaf_go hp (by omega) h, by omega, fun _ _ => ⟨rfl, rfl⟩, fun j hj => ?_, fun j hj => ?_, ⟨by omega, by omega, by omega, by omega, by omega, by omega, by omega⟩, ?_⟩
  · rw [upd_n (by omega), upd_n (by omega)]
  · exact ⟨upd_n (by omega), upd_n (by omega)⟩
  · rw [show nl + 1 - nl = 1 by omega]; exact hs
/-- A PART IS READ ALIKE -/
theorem sim_part {C : KC_} (hC : KCok C) {Es : KWf} {d : Nat} (hS : d < 8 → SimSum C Es (d + 1)) : SimPart C (fun d lw pa ln tf tt ti tu fb us fc => E_w_part Es d lw pa ln tf tt ti tu fb us fc) d := by
  intro fau p c m us nl nc pi w fc fo fa fp fq hT hus hnc hpi hnl hd
  show KNot C fau 1 d p m nl nc pi fo fa fp fq (E_w_part Es (nI d) (klw C.2.2.2.1) (nI nl) (nI C.2.2.1) c.1 c.2.1 c.2.2.1 c.2.2.2 C.1 (nI us) fc) ∨ KPrt C KA_ fau 1 3 2 d p m us nl nc pi w fc fo fa fp fq (E_w_part Es (nI d) (klw C.2.2.2.1) (nI nl) (nI C.2.2.1) c.1 c.2.1 c.2.2.1 c.2.2.2 C.1 (nI us) fc)
  have hL := hT.2.1
  have hpL := hT.1
  have fr := TkP.froms (tf := c.1) (tt := c.2.1) (ti := c.2.2.1) (tu := c.2.2.2) (fr := m.1) (to := m.2.1) (so := m.2.2.1) (wo := m.2.2.2) hT
  obtain ⟨q, q1, q2, hQ⟩ := tk_next hC hT
  have hqL := hQ.1
  rw [E_w_part.eq_def]
  rcases tk_sign (c := 91) (tf := c.1) (tt := c.2.1) (ti := c.2.2.1) (tu := c.2.2.2) (fr := m.1) (to := m.2.1) (so := m.2.2.1) (wo := m.2.2.2) (by decide) hT with ⟨s1, s2, s3⟩ | ⟨s1, s2⟩
  · -- "["
    rw [if_pos s1]
    by_cases cd : d < 8
    case neg =>
      rw [if_neg (kn_nltl (j := 8) rfl (by omega) (by omega))]
      obtain ⟨a, b, e, g, h1, h2, h3, h4, hr⟩ := rp_open_n (go := C.2.2.2.2.2.2.2.1) (ga := C.2.2.2.2.2.2.2.2) (ft := C.2.1) (fo := fo) (fa := fa) (fp := fp) (fq := fq) (wd := C.2.2.2.2.1) (we := C.2.2.2.2.2.1) (ta := nI C.2.2.1) (fr := m.1) (to := m.2.1) (fau := fau) (od := kod C.2.2.2.1) (nc := nI nc) (nl := nI nl) (pi := nI pi) s2 (show 8 ≤ d by omega) (by omega)
      exact Or.inl ⟨rfl, p, fr.1, KBad.one (fun F => ⟨_, _, _, _, _, _, _, _, _, _, _, _, _, by rw [kL_part hr, fr.2.1]⟩)⟩
    rw [if_pos (kn_ltl (j := 8) rfl (by omega) cd)]
    have qp : p < q := q2 s3
    have ho := rp_open (go := C.2.2.2.2.2.2.2.1) (ga := C.2.2.2.2.2.2.2.2) (ft := C.2.1) (fo := fo) (fa := fa) (fp := fp) (fq := fq) (wd := C.2.2.2.2.1) (we := C.2.2.2.2.2.1) (ta := nI C.2.2.1) (fr := m.1) (to := m.2.1) (fau := fau) (od := kod C.2.2.2.1) (nc := nI nc) (nl := nI nl) s2 (show pi < 1000 by omega) cd
    have g1 : KGo C fau 1 3 p m nc nl pi d fo fa fp fq 1 3 q (E_v_next (nI C.2.2.1) m.1 m.2.1 m.2.2.1 m.2.2.2 C.2.1) nc nl (pi + 1) (d + 1) fo fa (upd fp pi (nI 32)) (upd fq pi 0) :=
      KGo.one (mz_lt qp (by omega) (by omega)) (fun F => by rw [kL_part ho])
    have ss := hS cd fau q _ _ us nl nc (pi + 1) w fc fo fa (upd fp pi (nI 32)) (upd fq pi 0) hQ (by omega) (by omega) (by omega) hnl (by omega) (Or.inr ⟨32, by omega, by omega, by rw [show pi + 1 - 1 = pi by omega, upd_s]⟩)
    simp only [Lt2, Lt]
    rw [kn_p1 (by omega)]
    generalize hR : Es (nI (d + 1)) (klw C.2.2.2.1) (nI nl) (nI C.2.2.1) (E_w_step (nI C.2.2.1) c.1 c.2.1 c.2.2.1 c.2.2.2 C.1).1 (E_w_step (nI C.2.2.1) c.1 c.2.1 c.2.2.1 c.2.2.2 C.1).2.1 (E_w_step (nI C.2.2.1) c.1 c.2.1 c.2.2.1 c.2.2.2 C.1).2.2.1 (E_w_step (nI C.2.2.1) c.1 c.2.1 c.2.2.1 c.2.2.2 C.1).2.2.2 C.1 (nI us) fc = R at ss ⊢
    rcases ss with ⟨n1, q', n2, n3⟩ | ⟨⟨p', c', m', us', nl', k1, pi1, k2, fc', fo1, fa1, fp1, fq1, fo2, fa2, e1, e2, e3, e4, e5, e6, e7, e8, e9⟩, nsg⟩
    · rw [if_pos n1]
      exact Or.inl ⟨rfl, q', n2, g1.bad n3⟩
    · subst e1
      rw [if_neg (show ¬ (1 : Int32) = 0 by decide)]
      have fr' := TkP.froms (tf := c'.1) (tt := c'.2.1) (ti := c'.2.2.1) (tu := c'.2.2.2) (fr := m'.1) (to := m'.2.1) (so := m'.2.2.1) (wo := m'.2.2.2) e3
      have hL' := e3.1
      have nsg : ¬ KSg c'.2.2.1 := nsg
      have sg : ∀ z : Int32, (z = 42 ∨ z = 47 ∨ z = 37 ∨ z = 43 ∨ z = 45) → E_v_isSign z m'.2.2.1 m'.2.2.2 = 0 := by
        intro z hz
        have hc : 0 ≤ z.toInt ∧ ¬ (97 ≤ z.toInt ∧ z.toInt ≤ 122) ∧ ¬ (48 ≤ z.toInt ∧ z.toInt ≤ 57) := by
          rcases hz with rfl | rfl | rfl | rfl | rfl <;> decide
        rcases tk_sign (c := z) (tf := c'.1) (tt := c'.2.1) (ti := c'.2.2.1) (tu := c'.2.2.2) (fr := m'.1) (to := m'.2.1) (so := m'.2.2.1) (wo := m'.2.2.2) hc e3 with ⟨t1, _⟩ | ⟨_, t2⟩
        · exact absurd (by rw [← t1] at hz; exact hz) nsg
        · exact t2
      have f32 : fp1 pi = nI 32 := by rw [(e5.2.2.1 pi (by omega)).1, upd_s]
      have inn : E_v_inner (nI pi1) fp1 = nI 32 := inner_top (by have := e5.2.1; omega) (by have := e5.1; omega) ⟨by omega, by omega⟩ f32 (fun j h1 h2 => by
        obtain ⟨o, o1, o2, o3⟩ := e5.2.2.2 j (by omega) h2
        exact ⟨o, by omega, o3⟩)
      obtain ⟨r, r1, r2, hR2⟩ := tk_next hC e3
      rcases tk_sign (c := 93) (tf := c'.1) (tt := c'.2.1) (ti := c'.2.2.1) (tu := c'.2.2.2) (fr := m'.1) (to := m'.2.1) (so := m'.2.2.1) (wo := m'.2.2.2) (by decide) e3 with ⟨t1, t2, t3⟩ | ⟨t1, t2⟩
      · rw [if_pos t1]
        have st : E_v_settle C.2.2.2.2.2.2.2.1 C.2.2.2.2.2.2.2.2 5 (nI k1) (nI pi1) fo1 fa1 fp1 fq1 = (nI k2, nI (pi + 1), fo2, fa2) := by
          rw [show (5 : Int32) = nI 5 from rfl, settle_at (by have := e5.2.1; omega), e6 5 (Nat.le_refl _)]
          exact kst_stop (o := 32) (by omega) (by omega) (by omega) f32 (by decide)
        have bs : E_v_behindSum C.2.2.2.2.2.2.2.1 C.2.2.2.2.2.2.2.2 C.2.2.2.2.2.2.1 (nI C.2.2.1) m'.1 m'.2.1 m'.2.2.1 m'.2.2.2 fau 0 (nI k1) (nI nl') (nI pi1) (nI (d + 1)) C.2.1 fo1 fa1 fp1 fq1 = (3, (E_v_next (nI C.2.2.1) m'.1 m'.2.1 m'.2.2.1 m'.2.2.2 C.2.1).1, (E_v_next (nI C.2.2.1) m'.1 m'.2.1 m'.2.2.1 m'.2.2.2 C.2.1).2.1, (E_v_next (nI C.2.2.1) m'.1 m'.2.1 m'.2.2.1 m'.2.2.2 C.2.1).2.2.1, (E_v_next (nI C.2.2.1) m'.1 m'.2.1 m'.2.2.1 m'.2.2.2 C.2.1).2.2.2, fau, 0, nI k2, nI pi, nI d, fo2, fa2, fp1, fq1) := by
          rw [E_v_behindSum.eq_def, Lt_b, if_neg (by rw [sg 43 (by decide)]; decide), Lt_b, if_neg (by rw [sg 45 (by decide)]; decide), Lt_b, if_neg (by rw [sg 42 (by decide)]; decide), Lt_b, if_neg (by rw [sg 47 (by decide)]; decide), Lt_b, if_neg (by rw [sg 37 (by decide)]; decide), Lt_b, if_pos (show E_v_inner (nI pi1) fp1 = 32 from inn), Lt_b, if_pos t2, must_1]
          simp only [Lt2, Lt]
          rw [if_pos (by trivial), st, kn_m1 (a := pi + 1) (by omega) (by omega), kn_m1 (a := d + 1) (by omega) (by omega)]
          rfl
        have g2 : KGo C fau 3 2 p' m' k1 nl' pi1 (d + 1) fo1 fa1 fp1 fq1 3 2 r (E_v_next (nI C.2.2.1) m'.1 m'.2.1 m'.2.2.1 m'.2.2.2 C.2.1) k2 nl' pi d fo2 fa2 fp1 fq1 :=
          KGo.one (mz_lt (r2 t3) (by have := hR2.1; omega) (by omega)) (fun F => by rw [kL_sum bs])
        have rp := r2 t3
        refine Or.inr ⟨r, _, _, us', nl', k2, fc', fo2, fa2, fp1, fq1, rfl, by omega, hR2, (g1.trans e4).trans g2, by omega, fun j hj => ?_, e7.1, e7.2, ⟨e8.1, e8.2.1, e8.2.2.1, e8.2.2.2.1, by omega, by omega, by omega⟩, e9⟩
        have := e5.2.2.1 j (by omega)
        rw [upd_n (by omega), upd_n (by omega)] at this
        exact this
      · rw [if_neg t1]
        have bs : ∃ a b e g h1 h2 h3, E_v_behindSum C.2.2.2.2.2.2.2.1 C.2.2.2.2.2.2.2.2 C.2.2.2.2.2.2.1 (nI C.2.2.1) m'.1 m'.2.1 m'.2.2.1 m'.2.2.2 fau 0 (nI k1) (nI nl') (nI pi1) (nI (d + 1)) C.2.1 fo1 fa1 fp1 fq1 = (3, m'.1, m'.2.1, m'.2.2.1, m'.2.2.2, m'.1, 1, a, b, e, g, h1, h2, h3) := by
          rw [E_v_behindSum.eq_def, Lt_b, if_neg (by rw [sg 43 (by decide)]; decide), Lt_b, if_neg (by rw [sg 45 (by decide)]; decide), Lt_b, if_neg (by rw [sg 42 (by decide)]; decide), Lt_b, if_neg (by rw [sg 47 (by decide)]; decide), Lt_b, if_neg (by rw [sg 37 (by decide)]; decide), Lt_b, if_pos (show E_v_inner (nI pi1) fp1 = 32 from inn), Lt_b, if_neg (by rw [t2]; decide), must_0]
          simp only [Lt2, Lt]
          rw [if_neg (by decide)]
          exact ⟨_, _, _, _, _, _, _, rfl⟩
        obtain ⟨a, b, e, g, h1, h2, h3, hb⟩ := bs
        refine Or.inl ⟨rfl, p', fr'.1, (g1.trans e4).bad (KBad.one (fun F => ⟨_, _, _, _, _, _, _, _, _, _, _, _, _, by rw [kL_sum hb, fr'.2.1]⟩))⟩
  · -- no bracket
    rw [if_neg s1]
    have wd := tk_word hC hT
    have od01 := kod_0 hC.2.2.1
    have od01' : kod C.2.2.2.1 = 0 ∨ kod C.2.2.2.1 = 1 := by rcases od01 with h | h; exact Or.inl h.2.1; exact Or.inr h.2.1
    by_cases cl : 50 ≤ nl
    · rw [if_pos (kn_lel (j := 50) rfl (by omega) cl)]
      obtain ⟨a, b, e, g, h1, h2, h3, h4, hr⟩ := rp_full (go := C.2.2.2.2.2.2.2.1) (ga := C.2.2.2.2.2.2.2.2) (ft := C.2.1) (fo := fo) (fa := fa) (fp := fp) (fq := fq) (wd := C.2.2.2.2.1) (we := C.2.2.2.2.2.1) (ta := nI C.2.2.1) (fr := m.1) (to := m.2.1) (fau := fau) (od := kod C.2.2.2.1) (nc := nI nc) (pi := nI pi) (opn := nI d) s2 od01' (by rcases wd with ⟨i, i1, _, _, i4, _, i6⟩ | ⟨_, i6⟩; exact Or.inr ⟨i4, i, by omega, i6⟩; exact Or.inl i6) cl (by omega)
      exact Or.inl ⟨rfl, p, fr.1, KBad.one (fun F => ⟨_, _, _, _, _, _, _, _, _, _, _, _, _, by rw [kL_part hr, fr.2.1]⟩)⟩
    rw [if_neg (kn_nlel (j := 50) rfl (by omega) (by omega))]
    have none : (if kod C.2.2.2.1 = 0 then E_v_partAt m.2.2.1 m.2.2.2 C.2.2.2.2.1 else E_v_orderPartAt m.2.2.1 m.2.2.2 C.2.2.2.2.2.1) = -1 → (m.2.2.1 ≠ 2 ∨ 1000 < m.2.2.2.toInt) → ∀ r : KW8, r.1 = 0 → r.2.2.1 = c.1 → KNot C fau 1 d p m nl nc pi fo fa fp fq r := by
      intro hn h2 r r1 r2
      obtain ⟨a, b, e, g, h1, h2, h3, h4, hr⟩ := rp_none (go := C.2.2.2.2.2.2.2.1) (ga := C.2.2.2.2.2.2.2.2) (ft := C.2.1) (fo := fo) (fa := fa) (fp := fp) (fq := fq) (ta := nI C.2.2.1) (fr := m.1) (to := m.2.1) (fau := fau) (nc := nI nc) (nl := nI nl) (pi := nI pi) (opn := nI d) s2 hn h2
      exact ⟨r1, p, r2.trans fr.1, KBad.one (fun F => ⟨_, _, _, _, _, _, _, _, _, _, _, _, _, by rw [kL_part hr, fr.2.1]⟩)⟩
    have z1 : (1000 : Int32).toInt = 1000 := rfl
    have zm : (-1 : Int32).toInt = -1 := rfl
    rcases tk_num (tf := c.1) (tt := c.2.1) (ti := c.2.2.1) (tu := c.2.2.2) (fr := m.1) (to := m.2.1) (so := m.2.2.1) (wo := m.2.2.2) hT with ⟨n0, n1, _, _, n4, n5⟩ | ⟨n1, n2⟩
    · have hn : (if kod C.2.2.2.1 = 0 then E_v_partAt m.2.2.1 m.2.2.2 C.2.2.2.2.1 else E_v_orderPartAt m.2.2.1 m.2.2.2 C.2.2.2.2.2.1) = -1 := by
        rcases wd with ⟨i, _, _, _, i4, _, _⟩ | ⟨_, i6⟩
        · exact absurd (i4.symm.trans n1) (by decide)
        · exact i6
      by_cases ct : c.2.2.2 ≤ 1000
      · have ct2 := ie_iff.mp ct
        rw [if_pos ct, Lt_b, if_neg (fun h => by rw [h] at n4; omega), emit_at (by omega)]
        simp only [Lt2]
        rw [kn_p1 (by omega)]
        have wv : m.2.2.2.toInt = c.2.2.2.toInt := by omega
        have wt : m.2.2.2.toInt32 = c.2.2.2 := Int32.toInt_inj.mp (by rw [l_nar (Eq.refl m.2.2.2.toInt) (by omega)]; exact wv)
        have hr := rp_num (go := C.2.2.2.2.2.2.2.1) (ga := C.2.2.2.2.2.2.2.2) (ft := C.2.1) (fo := fo) (fa := fa) (fp := fp) (fq := fq) (ta := nI C.2.2.1) (fr := m.1) (to := m.2.1) (fau := fau) (pi := nI pi) (opn := nI d) (nc := nc) (nl := nl) s2 hn n1 (by omega) (by omega) (by omega)
        rw [wt] at hr
        refine Or.inr (leaf_read (q2 n0) hQ hus hnc hpi (by omega) hr ?_)
        refine SE.num (by omega) (by omega) ?_ upd_s ?_ ?_
        · rw [upd_n (by omega), upd_s]
        · rw [upd_s, upd_s]
        · rw [upd_s]; omega
      · have ct2 : ¬ c.2.2.2.toInt ≤ (1000 : Int32).toInt := fun q => ct (ie_iff.mpr q)
        rw [if_neg ct]
        exact Or.inl (none hn (Or.inr (by omega)) _ rfl rfl)
    · rw [if_pos (show c.2.2.2 ≤ 1000 by rw [n2]; decide), Lt_b, if_pos n2]
      have pre : ∀ {z : Int32}, klw C.2.2.2.1 = z → klw C.2.2.2.1 = z := fun h => h
      rcases od01 with ⟨o1, o2, o3⟩ | ⟨o1, o2, o3⟩
      · -- a law
        rw [o3, if_neg (by decide)] at wd ⊢
        rw [Lt_b]
        rcases wd with ⟨i, i1, _, i3, i4, i5, i6⟩ | ⟨i5, i6⟩
        · have i9 : ¬ nI i = -1 := fun h => by have := congrArg Int32.toInt h; rw [nI_toInt (by omega)] at this; omega
          rw [i5, if_neg i9]
          simp only [Lt2]
          rw [if_neg (by decide), E_w_part_j241.eq_def, emit_at (by omega)]
          simp only [Lt2]
          rw [kn_p1 (by omega)]
          have hr := rp_word (go := C.2.2.2.2.2.2.2.1) (ga := C.2.2.2.2.2.2.2.2) (ft := C.2.1) (fo := fo) (fa := fa) (fp := fp) (fq := fq) (ta := nI C.2.2.1) (fr := m.1) (to := m.2.1) (fau := fau) (pi := nI pi) (opn := nI d) (nc := nc) (nl := nl) s2 (show i < 10 by omega) i6 i4 (Or.inl o2) (by omega) (by omega)
          refine Or.inr (leaf_read (q2 i3) hQ hus hnc hpi (by omega) hr ?_)
          refine SE.word (by omega) (by omega) (by rw [upd_n (by omega), upd_s]) ?_
          rw [upd_s, upd_s]
          unfold KL
          rw [if_pos o1]
          exact ⟨i, i1, rfl, rfl⟩
        · rw [i5, if_pos rfl]
          exact Or.inl (none i6 (Or.inl n1) _ rfl rfl)
      · -- orders
        rw [o3, if_pos rfl] at wd ⊢
        rw [Lt_b]
        rcases wd with ⟨i, i1, i1', i3, i4, i5, i6⟩ | ⟨i5, i6⟩
        case inr =>
          rw [i5, if_pos rfl]
          exact Or.inl (none i6 (Or.inl n1) _ rfl rfl)
        have i8 : i < 8 := i1' o1
        have i9 : ¬ nI i = -1 := fun h => by have := congrArg Int32.toInt h; rw [nI_toInt (by omega)] at this; omega
        rw [i5, if_neg i9]
        simp only [Lt2, Lt]
        rw [if_pos (by trivial)]
        have x5 : (nI i - 5).toInt = (i : Int) - 5 := i_sub (nI_toInt (by omega)) (show (5 : Int32).toInt = 5 from rfl) (by omega)
        by_cases c5 : i < 5
        · rw [if_pos (z32 x5 (by omega)), E_w_part_j241.eq_def, emit_at (by omega)]
          simp only [Lt2]
          rw [kn_p1 (by omega)]
          have hr := rp_word (go := C.2.2.2.2.2.2.2.1) (ga := C.2.2.2.2.2.2.2.2) (ft := C.2.1) (fo := fo) (fa := fa) (fp := fp) (fq := fq) (ta := nI C.2.2.1) (fr := m.1) (to := m.2.1) (fau := fau) (pi := nI pi) (opn := nI d) (nc := nc) (nl := nl) s2 (show i < 10 by omega) i6 i4 (Or.inr c5) (by omega) (by omega)
          refine Or.inr (leaf_read (q2 i3) hQ hus hnc hpi (by omega) hr ?_)
          refine SE.word (by omega) (by omega) (by rw [upd_n (by omega), upd_s]) ?_
          rw [upd_s, upd_s]
          unfold KL
          rw [if_neg (by omega)]
          exact Or.inl ⟨i, c5, rfl, rfl⟩
        · have x5n : nI i - 5 = nI (i - 5) := Int32.toInt_inj.mp (by rw [x5, nI_toInt (by omega)]; omega)
          rw [x5n, if_neg (kn_nl (by omega)), if_neg (kn_nlel (j := 3) rfl (by omega) (by omega)), kn_cl (by omega)]
          rw [if_neg (by rw [o2]; decide)] at i6
          obtain ⟨a6, a7⟩ := aF67 (i - 5) (by omega)
          have hr := rp_tell (go := C.2.2.2.2.2.2.2.1) (ga := C.2.2.2.2.2.2.2.2) (ft := C.2.1) (fo := fo) (fa := fa) (fp := fp) (fq := fq) (wd := C.2.2.2.2.1) (ta := nI C.2.2.1) (fr := m.1) (to := m.2.1) (fau := fau) (pi := nI pi) (opn := nI d) (nc := nc) (nl := nl) s2 i8 i6 o2 i4 (by omega) (by omega) (by omega)
          have qp := q2 i3
          generalize hc1 : E_w_step (nI C.2.2.1) c.1 c.2.1 c.2.2.1 c.2.2.2 C.1 = c1 at hQ ⊢
          generalize hm1 : E_v_next (nI C.2.2.1) m.1 m.2.1 m.2.2.1 m.2.2.2 C.2.1 = m1 at hQ hr
          obtain ⟨s, s3, s4, hS2⟩ := tk_next hC hQ
          have fr1 := TkP.froms (tf := c1.1) (tt := c1.2.1) (ti := c1.2.2.1) (tu := c1.2.2.2) (fr := m1.1) (to := m1.2.1) (so := m1.2.2.1) (wo := m1.2.2.2) hQ
          have lim : aF 7 (i - 5) = nI (if i = 7 then 6 else 7) := by
            rw [a7]
            by_cases e : i = 7
            · rw [if_pos (by omega), if_pos e]
            · rw [if_neg (by omega), if_neg e]
          have limL : ((if i = 7 then 6 else 7 : Int64)).toInt = ((if i = 7 then 6 else 7 : Nat) : Int) := by
            by_cases e : i = 7
            · rw [if_pos e, if_pos e]; rfl
            · rw [if_neg e, if_neg e]; rfl
          have lt7 : (if i = 7 then 6 else 7 : Nat) ≤ 7 := by split <;> omega
          have zL : (0 : Int64).toInt = 0 := rfl
          have inq : E_v_in m1.2.2.2 0 (if i = 7 then 6 else 7) = 1 ↔ 0 ≤ m1.2.2.2.toInt ∧ m1.2.2.2.toInt ≤ ((if i = 7 then 6 else 7 : Nat) : Int) := by
            unfold E_v_in
            by_cases c0 : lg_cmp m1.2.2.2 0 < 0
            · have c1 := jl_iff.mp ((lg_cmp_lt _ _).mp c0)
              rw [if_pos c0]; exact ⟨fun h => absurd h (by decide), fun h => by omega⟩
            · have c1 : ¬ m1.2.2.2.toInt < (0 : Int64).toInt := fun h => c0 ((lg_cmp_lt _ _).mpr (jl_iff.mpr h))
              rw [if_neg c0]
              by_cases d0 : 0 < lg_cmp m1.2.2.2 (if i = 7 then 6 else 7)
              · have d1 := jl_iff.mp ((lg_cmp_gt _ _).mp d0)
                rw [if_pos d0]; exact ⟨fun h => absurd h (by decide), fun h => by omega⟩
              · have d1 : ¬ (if i = 7 then 6 else 7 : Int64).toInt < m1.2.2.2.toInt := fun h => d0 ((lg_cmp_gt _ _).mpr (jl_iff.mpr h))
                rw [if_neg d0]; exact ⟨fun _ => by omega, fun _ => rfl⟩
          have bad : (m1.2.2.1 ≠ 2 ∨ E_v_in m1.2.2.2 0 (if i = 7 then 6 else 7) ≠ 1) → ∀ r : KW8, r.1 = 0 → r.2.2.1 = c1.1 → KNot C fau 1 d p m nl nc pi fo fa fp fq r := by
            intro hb r r1 r2
            rw [number_n hb] at hr
            exact ⟨r1, q, r2.trans fr1.1, KBad.one (fun F => ⟨_, _, _, _, _, _, _, _, _, _, _, _, _, by rw [kL_part hr, fr1.2.1]⟩)⟩
          rcases tk_num (tf := c1.1) (tt := c1.2.1) (ti := c1.2.2.1) (tu := c1.2.2.2) (fr := m1.1) (to := m1.2.1) (so := m1.2.2.1) (wo := m1.2.2.2) hQ with ⟨n0, n1, _, _, n4, n5⟩ | ⟨n1, n2⟩
          case inr =>
            rw [if_pos (show c1.2.2.2 < 0 by rw [n2]; decide)]
            exact Or.inl (bad (Or.inl n1) _ rfl rfl)
          rw [if_neg (fun h => by have := il_iff.mp h; have z : (0 : Int32).toInt = 0 := rfl; omega), lim]
          by_cases cm : c1.2.2.2 ≤ nI (if i = 7 then 6 else 7)
          · have cm2 := ie_iff.mp cm
            rw [nI_toInt (by omega)] at cm2
            have wv : m1.2.2.2.toInt = c1.2.2.2.toInt := by omega
            have wt : m1.2.2.2.toInt32 = c1.2.2.2 := Int32.toInt_inj.mp (by rw [l_nar (Eq.refl m1.2.2.2.toInt) (by omega)]; exact wv)
            rw [if_pos cm]
            rw [number_p n1 (inq.mpr (by omega)), wt] at hr
            rw [E_w_part_j241.eq_def, emit_at (by omega)]
            simp only [Lt2]
            rw [kn_p1 (by omega)]
            have sp := s4 n0
            have u2 : upd (upd fa nc 0) nc c1.2.2.2 = upd fa nc c1.2.2.2 := by
              funext j
              by_cases e : j = nc
              · rw [upd_e e, upd_e e]
              · rw [upd_n e, upd_n e, upd_n e]
            refine Or.inr (leaf_read (y := nI (i + 1)) (z := c1.2.2.2) (show p < s by omega) hS2 hus hnc hpi (by omega) (by rw [← u2]; exact hr) ?_)
            · refine SE.word (by omega) (by omega) (by rw [upd_n (by omega), upd_s]) ?_
              rw [upd_s, upd_s, upd_s, a6]
              obtain ⟨h, hh, hz⟩ : ∃ h : Nat, c1.2.2.2 = nI h ∧ (h : Int) = c1.2.2.2.toInt := ⟨c1.2.2.2.toInt.toNat, i_ofN rfl n4, by omega⟩
              have hb : h ≤ (if i = 7 then 6 else 7 : Nat) := by omega
              have ad : nI (5 + 8 * (i - 5)) + nI h = nI (5 + 8 * (i - 5) + h) := Int32.toInt_inj.mp (by rw [i_add (nI_toInt (by omega)) (nI_toInt (by omega)) (by omega), nI_toInt (by omega)]; omega)
              rw [hh, ad]
              unfold KL
              rw [if_neg (by omega)]
              rcases (show i = 5 ∨ i = 6 ∨ i = 7 by omega) with rfl | rfl | rfl
              · exact Or.inr (Or.inl ⟨h, by have : h ≤ 7 := hb; omega, rfl, rfl, rfl⟩)
              · exact Or.inr (Or.inr (Or.inl ⟨h, by have : h ≤ 7 := hb; omega, rfl, rfl, rfl⟩))
              · exact Or.inr (Or.inr (Or.inr ⟨h, by have : h ≤ 6 := hb; omega, rfl, rfl, rfl⟩))
          · have cm2 : ¬ c1.2.2.2.toInt ≤ (nI (if i = 7 then 6 else 7)).toInt := fun h => cm (ie_iff.mpr h)
            rw [nI_toInt (by omega)] at cm2
            rw [if_neg cm]
            exact Or.inl (bad (Or.inr (fun h => by have := inq.mp h; omega)) _ rfl rfl)
/-! operators -/
theorem op_in {k n x0 : Nat} {tf tt ti tu ln : Int32} {fb : Nat → Int32} (hk : k < 13) (hn : sn k = n) (hx : x0 ≤ 100) (z : Int32 → (Int32 × Int32 × Int32 × Int32 × Int32)) : ∀ (d v F : Nat), v + d = n →
    (∃ i, v ≤ i ∧ i < n ∧ ti = sf k i ∧ (∀ j, v ≤ j → j < i → ti ≠ sf k j) ∧ Lp (E_w_operator_l2 k (nI x0) ln tf tt ti tu fb) z (F + d + 1) (nI v) = (nI (x0 + i), E_w_step ln tf tt ti tu fb)) ∨ ((∀ j, v ≤ j → j < n → ti ≠ sf k j) ∧ Lp (E_w_operator_l2 k (nI x0) ln tf tt ti tu fb) z (F + d + 1) (nI v) = (-1, tf, tt, ti, tu)) := by
  have h47 := sn_le k
  intro d
  induction d with
  | zero =>
    intro v F hv
    refine Or.inr ⟨fun j h1 h2 => by omega, ?_⟩
    rw [Lp_s, E_w_operator_l2.eq_def, Lt_b, sl_at k hk, if_pos ((kn_le (by omega) (by omega)).mpr (by omega))]
  | succ d ih =>
    intro v F hv
    have e : Lp (E_w_operator_l2 k (nI x0) ln tf tt ti tu fb) z (F + (d + 1) + 1) (nI v) = if ti = sf k v then (nI (x0 + v), E_w_step ln tf tt ti tu fb) else Lp (E_w_operator_l2 k (nI x0) ln tf tt ti tu fb) z (F + d + 1) (nI (v + 1)) := by
      have ha : nI x0 + nI v = nI (x0 + v) := Int32.toInt_inj.mp (by rw [i_add (nI_toInt (by omega)) (nI_toInt (by omega)) (by omega), nI_toInt (by omega)]; omega)
      rw [show F + (d + 1) + 1 = (F + d + 1) + 1 by omega, Lp_s, E_w_operator_l2.eq_def, Lt_b, sl_at k hk, if_neg (fun q => by have := (kn_le (by omega) (by omega)).mp q; omega), Lt_b, ch_at k hk v (by omega)]
      by_cases c : ti = sf k v
      · rw [if_pos c, if_pos c, Lt2_b, Lt2_b, Lt2_b, Lt_b, ha]
      · rw [if_neg c, if_neg c, Lt_b, kn_po (by omega)]
    rw [e]
    by_cases c : ti = sf k v
    · exact Or.inl ⟨v, Nat.le_refl _, by omega, c, fun j h1 h2 => by omega, by rw [if_pos c]⟩
    · rw [if_neg c]
      rcases ih (v + 1) F (by omega) with ⟨i, i1, i2, i3, i4, i5⟩ | ⟨i1, i2⟩
      · exact Or.inl ⟨i, by omega, i2, i3, fun j h1 h2 => by
          by_cases q : j = v
          · rw [q]; exact c
          · exact i4 j (by omega) h2, i5⟩
      · exact Or.inr ⟨fun j h1 h2 => by
          by_cases q : j = v
          · rw [q]; exact c
          · exact i1 j (by omega) h2, i2⟩
theorem op_at {k n x0 : Nat} {lw pa tf tt ti tu ln : Int32} {fb : Nat → Int32} (hk : k < 13) (hn : sn k = n) (hx : x0 ≤ 100) : (∃ i, i < n ∧ ti = sf k i ∧ E_w_operator k (nI x0) lw pa ln tf tt ti tu fb = (nI (x0 + i), E_w_step ln tf tt ti tu fb)) ∨ ((∀ j, j < n → ti ≠ sf k j) ∧ E_w_operator k (nI x0) lw pa ln tf tt ti tu fb = (-1, tf, tt, ti, tu)) := by
  have h47 := sn_le k
  have e : E_w_operator k (nI x0) lw pa ln tf tt ti tu fb = Lp (α := Int32 → (Int32 × Int32 × Int32 × Int32 × Int32)) (E_w_operator_l2 k (nI x0) ln tf tt ti tu fb) (fun _ => ((0, 0, 0, 0, 0) : Int32 × Int32 × Int32 × Int32 × Int32)) ((48 - n) + n + 1) (nI 0) := by
    rw [E_w_operator.eq_def, show 48 - n + n + 1 = (48 - (0 : Int32).toInt : Int).toNat + 1 by rw [show (0 : Int32).toInt = 0 from rfl]; omega]; rfl
  rw [e]
  rcases op_in (x0 := x0) (tf := tf) (tt := tt) (ti := ti) (tu := tu) (ln := ln) (fb := fb) hk hn hx (fun _ => ((0, 0, 0, 0, 0) : Int32 × Int32 × Int32 × Int32 × Int32)) n 0 (48 - n) (by omega) with ⟨i, _, i2, i3, _, i5⟩ | ⟨i1, i2⟩
  · exact Or.inl ⟨i, i2, i3, i5⟩
  · exact Or.inr ⟨fun j hj => i1 j (Nat.zero_le _) hj, i2⟩
/-- the sign of an operator of sums -/
noncomputable def kch (o : Nat) : Int32 := match o with
  | 20 => 43
  | 21 => 45
  | 22 => 42
  | 23 => 47
  | _ => 37
theorem kch_ok : ∀ o, 20 ≤ o → o ≤ 24 → 0 ≤ (kch o).toInt ∧ ¬ (97 ≤ (kch o).toInt ∧ (kch o).toInt ≤ 122) ∧ ¬ (48 ≤ (kch o).toInt ∧ (kch o).toInt ≤ 57) := by
  intro o h1 h2
  rcases (show o = 20 ∨ o = 21 ∨ o = 22 ∨ o = 23 ∨ o = 24 by omega) with rfl | rfl | rfl | rfl | rfl <;> decide
/-- behind a sum: an operator of sums -/
theorem bs_op {go ga ft fo fa fp fq fo' fa' : Nat → Int32} {x ta fr to so fau nl opn : Int32} {wo : Int64} {o nc pi nc' pi' : Nat} (ho : 20 ≤ o ∧ o ≤ 24) (hs : ∀ u, 20 ≤ u → u ≤ 24 → E_v_isSign (kch u) so wo = if u = o then 1 else 0) (hp : pi < 1000) (hp' : pi' < 1000) (hk : kst (kbd o) nc pi fo fa fp fq = (nI nc', nI pi', fo', fa')) : E_v_behindSum go ga x ta fr to so wo fau 0 (nI nc) nl (nI pi) opn ft fo fa fp fq = (1, (E_v_next ta fr to so wo ft).1, (E_v_next ta fr to so wo ft).2.1, (E_v_next ta fr to so wo ft).2.2.1, (E_v_next ta fr to so wo ft).2.2.2, fau, 0, nI nc', nI (pi' + 1), opn, fo', fa', upd fp pi' (nI o), upd fq pi' 0) := by
  have s0 : E_v_isSign 43 so wo = if 20 = o then 1 else 0 := hs 20 (by omega) (by omega)
  have s1 : E_v_isSign 45 so wo = if 21 = o then 1 else 0 := hs 21 (by omega) (by omega)
  have s2 : E_v_isSign 42 so wo = if 22 = o then 1 else 0 := hs 22 (by omega) (by omega)
  have s3 : E_v_isSign 47 so wo = if 23 = o then 1 else 0 := hs 23 (by omega) (by omega)
  have s4 : E_v_isSign 37 so wo = if 24 = o then 1 else 0 := hs 24 (by omega) (by omega)
  have b0 : E_v_binds 20 = nI 5 := binds_at (o := 20) (by omega)
  have b1 : E_v_binds 21 = nI 5 := binds_at (o := 21) (by omega)
  have b2 : E_v_binds 22 = nI 6 := binds_at (o := 22) (by omega)
  have b3 : E_v_binds 23 = nI 6 := binds_at (o := 23) (by omega)
  have b4 : E_v_binds 24 = nI 6 := binds_at (o := 24) (by omega)
  have stl : E_v_settle go ga (nI (kbd o)) (nI nc) (nI pi) fo fa fp fq = (nI nc', nI pi', fo', fa') := (settle_at (by omega)).trans hk
  rw [E_v_behindSum.eq_def, Lt_b, s0]
  rcases (show o = 20 ∨ o = 21 ∨ o = 22 ∨ o = 23 ∨ o = 24 by omega) with rfl | rfl | rfl | rfl | rfl
  · rw [if_pos (by decide), Lt_b, b0, show E_v_settle go ga (nI 5) (nI nc) (nI pi) fo fa fp fq = _ from stl]
    simp only [Lt2, Lt, E_v_push]
    rw [kn_cl (by omega), kn_p1 (by omega)]
    rfl
  · rw [if_neg (by decide), Lt_b, s1, if_pos (by decide), Lt_b, b1, show E_v_settle go ga (nI 5) (nI nc) (nI pi) fo fa fp fq = _ from stl]
    simp only [Lt2, Lt, E_v_push]
    rw [kn_cl (by omega), kn_p1 (by omega)]
    rfl
  · rw [if_neg (by decide), Lt_b, s1, if_neg (by decide), Lt_b, s2, if_pos (by decide), Lt_b, b2, show E_v_settle go ga (nI 6) (nI nc) (nI pi) fo fa fp fq = _ from stl]
    simp only [Lt2, Lt, E_v_push]
    rw [kn_cl (by omega), kn_p1 (by omega)]
    rfl
  · rw [if_neg (by decide), Lt_b, s1, if_neg (by decide), Lt_b, s2, if_neg (by decide), Lt_b, s3, if_pos (by decide), Lt_b, b3, show E_v_settle go ga (nI 6) (nI nc) (nI pi) fo fa fp fq = _ from stl]
    simp only [Lt2, Lt, E_v_push]
    rw [kn_cl (by omega), kn_p1 (by omega)]
    rfl
  · rw [if_neg (by decide), Lt_b, s1, if_neg (by decide), Lt_b, s2, if_neg (by decide), Lt_b, s3, if_neg (by decide), Lt_b, s4, if_pos (by decide), Lt_b, b4, show E_v_settle go ga (nI 6) (nI nc) (nI pi) fo fa fp fq = _ from stl]
    simp only [Lt2, Lt, E_v_push]
    rw [kn_cl (by omega), kn_p1 (by omega)]
    rfl
/-- what the token is of the operators of sums, on both sides -/
theorem tk_op {C : KC_} {p : Nat} {c : KT4} {m : KM4} (h : TkP C.1 C.2.2.1 p c m) : (∃ o, 20 ≤ o ∧ o ≤ 24 ∧ c.2.2.1 = kch o ∧ p < C.2.2.1 ∧ ∀ u, 20 ≤ u → u ≤ 24 → E_v_isSign (kch u) m.2.2.1 m.2.2.2 = if u = o then 1 else 0) ∨ ((∀ u, 20 ≤ u → u ≤ 24 → c.2.2.1 ≠ kch u) ∧ ∀ u, 20 ≤ u → u ≤ 24 → E_v_isSign (kch u) m.2.2.1 m.2.2.2 = 0) := by
  have inj : ∀ u, 20 ≤ u → u ≤ 24 → ∀ v, 20 ≤ v → v ≤ 24 → kch u = kch v → u = v := by
    intro u h1 h2 v h3 h4
    rcases (show u = 20 ∨ u = 21 ∨ u = 22 ∨ u = 23 ∨ u = 24 by omega) with rfl | rfl | rfl | rfl | rfl <;> rcases (show v = 20 ∨ v = 21 ∨ v = 22 ∨ v = 23 ∨ v = 24 by omega) with rfl | rfl | rfl | rfl | rfl <;> decide
  have sg := fun u (h1 : 20 ≤ u) (h2 : u ≤ 24) => tk_sign (c := kch u) (tf := c.1) (tt := c.2.1) (ti := c.2.2.1) (tu := c.2.2.2) (fr := m.1) (to := m.2.1) (so := m.2.2.1) (wo := m.2.2.2) (kch_ok u h1 h2) h
  by_cases q : ∃ o, 20 ≤ o ∧ o ≤ 24 ∧ c.2.2.1 = kch o
  · obtain ⟨o, o1, o2, o3⟩ := q
    have pl : p < C.2.2.1 := by
      rcases sg o o1 o2 with ⟨_, _, s3⟩ | ⟨s1, _⟩
      · exact s3
      · exact absurd o3 s1
    refine Or.inl ⟨o, o1, o2, o3, pl, fun u h1 h2 => ?_⟩
    rcases sg u h1 h2 with ⟨s1, s2, _⟩ | ⟨s1, s2⟩
    · rw [if_pos (inj u h1 h2 o o1 o2 (s1.symm.trans o3))]; exact s2
    · rw [if_neg (fun e => s1 (by rw [e]; exact o3))]; exact s2
  · refine Or.inr ⟨fun u h1 h2 e => q ⟨u, h1, h2, e⟩, fun u h1 h2 => ?_⟩
    rcases sg u h1 h2 with ⟨s1, _, _⟩ | ⟨_, s2⟩
    · exact absurd ⟨u, h1, h2, s1⟩ q
    · exact s2
/-! a sum -/
theorem op9_p {lw pa tf tt ti tu ln : Int32} {fb : Nat → Int32} {o : Nat} (h1 : 22 ≤ o) (h2 : o ≤ 24) (h : ti = kch o) : E_w_operator 9 5 lw pa ln tf tt ti tu fb = (nI (o - 17), E_w_step ln tf tt ti tu fb) := by
  have e : ∀ o, 22 ≤ o → o ≤ 24 → ∀ i, i < 3 → kch o = sf 9 i → i = o - 22 := by
    intro o h1 h2
    rcases (show o = 22 ∨ o = 23 ∨ o = 24 by omega) with rfl | rfl | rfl <;> decide
  have e2 : ∀ o, 22 ≤ o → o ≤ 24 → kch o = sf 9 (o - 22) := by
    intro o h1 h2
    rcases (show o = 22 ∨ o = 23 ∨ o = 24 by omega) with rfl | rfl | rfl <;> decide
  rw [show (5 : Int32) = nI 5 from rfl]
  rcases op_at (k := 9) (n := 3) (x0 := 5) (lw := lw) (pa := pa) (tf := tf) (tt := tt) (ti := ti) (tu := tu) (ln := ln) (fb := fb) (by omega) rfl (by omega) with ⟨i, i1, i2, i3⟩ | ⟨i1, _⟩
  · have := e o h1 h2 i i1 (h.symm.trans i2)
    rw [i3, show 5 + i = o - 17 by omega]
  · exact absurd (h.trans (e2 o h1 h2)) (i1 (o - 22) (by omega))
theorem op9_n {lw pa tf tt ti tu ln : Int32} {fb : Nat → Int32} (h : ∀ u, 22 ≤ u → u ≤ 24 → ti ≠ kch u) : E_w_operator 9 5 lw pa ln tf tt ti tu fb = (-1, tf, tt, ti, tu) := by
  rw [show (5 : Int32) = nI 5 from rfl]
  rcases op_at (k := 9) (n := 3) (x0 := 5) (lw := lw) (pa := pa) (tf := tf) (tt := tt) (ti := ti) (tu := tu) (ln := ln) (fb := fb) (by omega) rfl (by omega) with ⟨i, i1, i2, _⟩ | ⟨_, i2⟩
  · have e : ∀ i, i < 3 → sf 9 i = kch (22 + i) := by decide
    exact absurd (i2.trans (e i i1)) (h (22 + i) (by omega) (by omega))
  · exact i2
theorem op10_p {lw pa tf tt ti tu ln : Int32} {fb : Nat → Int32} {o : Nat} (h1 : 20 ≤ o) (h2 : o ≤ 21) (h : ti = kch o) : E_w_operator 10 3 lw pa ln tf tt ti tu fb = (nI (o - 17), E_w_step ln tf tt ti tu fb) := by
  have e : ∀ o, 20 ≤ o → o ≤ 21 → ∀ i, i < 2 → kch o = sf 10 i → i = o - 20 := by
    intro o h1 h2
    rcases (show o = 20 ∨ o = 21 by omega) with rfl | rfl <;> decide
  have e2 : ∀ o, 20 ≤ o → o ≤ 21 → kch o = sf 10 (o - 20) := by
    intro o h1 h2
    rcases (show o = 20 ∨ o = 21 by omega) with rfl | rfl <;> decide
  rw [show (3 : Int32) = nI 3 from rfl]
  rcases op_at (k := 10) (n := 2) (x0 := 3) (lw := lw) (pa := pa) (tf := tf) (tt := tt) (ti := ti) (tu := tu) (ln := ln) (fb := fb) (by omega) rfl (by omega) with ⟨i, i1, i2, i3⟩ | ⟨i1, _⟩
  · have := e o h1 h2 i i1 (h.symm.trans i2)
    rw [i3, show 3 + i = o - 17 by omega]
  · exact absurd (h.trans (e2 o h1 h2)) (i1 (o - 20) (by omega))
theorem op10_n {lw pa tf tt ti tu ln : Int32} {fb : Nat → Int32} (h : ∀ u, 20 ≤ u → u ≤ 21 → ti ≠ kch u) : E_w_operator 10 3 lw pa ln tf tt ti tu fb = (-1, tf, tt, ti, tu) := by
  rw [show (3 : Int32) = nI 3 from rfl]
  rcases op_at (k := 10) (n := 2) (x0 := 3) (lw := lw) (pa := pa) (tf := tf) (tt := tt) (ti := ti) (tu := tu) (ln := ln) (fb := fb) (by omega) rfl (by omega) with ⟨i, i1, i2, _⟩ | ⟨_, i2⟩
  · have e : ∀ i, i < 2 → sf 10 i = kch (20 + i) := by decide
    exact absurd (i2.trans (e i i1)) (h (20 + i) (by omega) (by omega))
  · exact i2
/-- an operator that waits: 0 none -/
noncomputable def kz_v (t : Nat) : Int32 := if t = 0 then -1 else nI t
noncomputable def kb1 (t : Nat) : Nat := if t = 0 then 0 else 1
theorem kz_v0 : kz_v 0 = -1 := rfl
theorem kz_vp {t : Nat} (h : t ≠ 0) : kz_v t = nI t := if_neg h
theorem kz_vn {t : Nat} (h : t ≠ 0) (ht : t < 100) : ¬ kz_v t = -1 := by
  rw [kz_vp h]
  intro q
  have := congrArg Int32.toInt q
  rw [nI_toInt (by omega)] at this
  have z1 : (-1 : Int32).toInt = -1 := rfl
  omega
theorem kb1_0 : kb1 0 = 0 := rfl
theorem kb1_p {t : Nat} (h : t ≠ 0) : kb1 t = 1 := if_neg h
/-- one operator that waits, or none: the class emits it, the reference is to -/
theorem wait_one {od k m us us0 nc nc0 pi t w p K : Nat} {fc fo fa fp fq : Nat → Int32} (hse : SE od KA_ (kb1 t + k + 1) m fc us0 us fo fa nc0 nc) (ht : t ≠ 0 → 3 ≤ t ∧ t ≤ 7 ∧ K ≤ kbd (t + 17) ∧ fp pi = nI (t + 17)) (hus : us + 2 * (w + kb1 t) ≤ 2 * p) (hnc : nc + (w + kb1 t) ≤ p) (hpi : pi ≤ p) (hp : p ≤ 400) :
    ∃ (us1 nc1 : Nat) (fc1 fo1 fa1 : Nat → Int32), (∀ {β : Type} (A : Int32 → (Nat → Int32) → β), (if kz_v t = -1 then A (nI us) fc else A (E_w_emit (kz_v t) 0 (nI us) fc).2.1 (E_w_emit (kz_v t) 0 (nI us) fc).2.2) = A (nI us1) fc1) ∧ KP K nc (pi + kb1 t) fo fa nc1 pi fo1 fa1 fp fq ∧ SE od KA_ (k + 1) m fc1 us0 us1 fo1 fa1 nc0 nc1 ∧ us ≤ us1 ∧ nc ≤ nc1 ∧ us1 + 2 * w ≤ 2 * p ∧ nc1 + w ≤ p ∧ (∀ j, j < us → fc1 j = fc j) ∧ (∀ j, j < nc → fo1 j = fo j ∧ fa1 j = fa j) := by
  by_cases c : t = 0
  · subst c
    refine ⟨us, nc, fc, fo, fa, fun A => if_pos rfl, ?_, ?_, Nat.le_refl _, Nat.le_refl _, by rw [kb1_0] at hus; omega, by rw [kb1_0] at hnc; omega, fun _ _ => rfl, fun _ _ => ⟨rfl, rfl⟩⟩
    · rw [kb1_0, Nat.add_zero]; exact KP.rfl
    · rw [kb1_0, Nat.zero_add] at hse; exact hse
  · obtain ⟨t1, t2, t3, t4⟩ := ht c
    rw [kb1_p c] at hse hus hnc ⊢
    have em := emit_at (us := us) (x := nI t) (y := 0) (fc := fc) (by omega)
    refine ⟨us + 2, nc + 1, upd (upd fc us (nI t)) (us + 1) 0, upd fo nc (nI (t + 17)), upd fa nc 0, fun A => ?_, ?_, ?_, by omega, by omega, by omega, by omega, fun j hj => ?_, fun j hj => ⟨upd_n (by omega), upd_n (by omega)⟩⟩
    · rw [if_neg (kz_vn c (by omega)), kz_vp c, em]
    · exact KP.emit (by omega) (by omega) (by omega) t4 t3
    · refine SE.bin (P := KA_) (o := t) (k := k) ?_ ⟨by omega, by omega⟩ ?_ ?_ (by omega) (by omega) (fun _ _ _ _ => trivial)
      · rw [show k + 2 = 1 + k + 1 by omega]
        exact hse.ext (fun j h1 h2 => by rw [upd_n (by omega), upd_n (by omega)]) (fun j h1 h2 => ⟨upd_n (by omega), upd_n (by omega)⟩)
      · rw [upd_n (by omega), upd_s]
      · rw [upd_s]
    · rw [upd_n (by omega), upd_n (by omega)]
noncomputable def SHd (C : KC_) (us0 nl0 nc0 pi0 w : Nat) (fc0 fo0 fa0 fp0 fq0 : Nat → Int32) (p us nl nc pi ter fac : Nat) (fc fo fa fp fq : Nat → Int32) : Prop :=
  pi = pi0 + kb1 ter + kb1 fac ∧ (ter ≠ 0 → 3 ≤ ter ∧ ter ≤ 4 ∧ fp pi0 = nI (ter + 17)) ∧ (fac ≠ 0 → 5 ≤ fac ∧ fac ≤ 7 ∧ fp (pi0 + kb1 ter) = nI (fac + 17)) ∧ (∀ j, j < pi0 → fp j = fp0 j ∧ fq j = fq0 j) ∧ (∀ j, j < us0 → fc j = fc0 j) ∧ (∀ j, j < nc0 → fo j = fo0 j ∧ fa j = fa0 j) ∧
  (us0 ≤ us ∧ nc0 ≤ nc ∧ nl0 ≤ nl ∧ nl ≤ 50 ∧ us + 2 * (w + kb1 ter + kb1 fac) ≤ 2 * p ∧ nc + (w + kb1 ter + kb1 fac) ≤ p ∧ pi ≤ p) ∧
  ((ter = 0 ∧ fac = 0 ∧ us = us0 ∧ nc = nc0 ∧ nl = nl0) ∨ (1 ≤ kb1 ter + kb1 fac ∧ SE C.2.2.2.1 KA_ (kb1 ter + kb1 fac) (nl - nl0) fc us0 us fo fa nc0 nc))
theorem sum_loop {C : KC_} (hC : KCok C) {Es : KWf} {d : Nat} (hP : SimPart C (fun d lw pa ln tf tt ti tu fb us fc => E_w_part Es d lw pa ln tf tt ti tu fb us fc) d) (hd : d ≤ 8) {fau : Int32} {p0 us0 nl0 nc0 pi0 w : Nat} {m0 : KM4} {fc0 fo0 fa0 fp0 fq0 : Nat → Int32} (htop : KTop fp0 pi0) (z : Int32 → Int32 → Int32 → Int32 → Int32 → Int32 → Int32 → Int32 → Int32 → (Nat → Int32) → KW8) : ∀ (n p : Nat) (c : KT4) (m : KM4) (us nl nc pi ter fac i : Nat) (fc fo fa fp fq : Nat → Int32), 401 - p ≤ n → p0 ≤ p → i ≤ p → TkP C.1 C.2.2.1 p c m → KGo C fau 1 3 p0 m0 nc0 nl0 pi0 d fo0 fa0 fp0 fq0 1 3 p m nc nl pi d fo fa fp fq → SHd C us0 nl0 nc0 pi0 w fc0 fo0 fa0 fp0 fq0 p us nl nc pi ter fac fc fo fa fp fq →
    ∀ R : KW8, Lp (E_w_sum_l7 Es (nI d) (klw C.2.2.2.1) (nI C.2.2.1) C.1) z (403 - i) (nI i) (kz_v ter) (kz_v fac) (nI nl) c.1 c.2.1 c.2.2.1 c.2.2.2 (nI us) fc = R →
    KNot C fau 1 d p0 m0 nl0 nc0 pi0 fo0 fa0 fp0 fq0 R ∨ (KRead C KA_ 5 fau 1 3 2 d p0 m0 us0 nl0 nc0 pi0 w fc0 fo0 fa0 fp0 fq0 20 24 R ∧ ¬ KSg R.2.2.2.2.1) := by
  intro n
  induction n with
  | zero => intro p c m us nl nc pi ter fac i fc fo fa fp fq hn _ _ hT; have := hT.1; have := hT.2.1; omega
  | succ n ih =>
    intro p c m us nl nc pi ter fac i fc fo fa fp fq hn hp0 hi hT hgo hS R hR
    have hL := hT.2.1
    have hpL := hT.1
    obtain ⟨b1, b2, b3, b4, b5, b6, b7, b8⟩ := hS
    have kt : kb1 ter ≤ 1 := by unfold kb1; split <;> omega
    have kf : kb1 fac ≤ 1 := by unfold kb1; split <;> omega
    have pt := hP fau p c m us nl nc pi (w + kb1 ter + kb1 fac) fc fo fa fp fq hT (by omega) (by omega) (by omega) (by omega) hd
    have pt : KNot C fau 1 d p m nl nc pi fo fa fp fq (E_w_part Es (nI d) (klw C.2.2.2.1) (nI nl) (nI C.2.2.1) c.1 c.2.1 c.2.2.1 c.2.2.2 C.1 (nI us) fc) ∨ KPrt C KA_ fau 1 3 2 d p m us nl nc pi (w + kb1 ter + kb1 fac) fc fo fa fp fq (E_w_part Es (nI d) (klw C.2.2.2.1) (nI nl) (nI C.2.2.1) c.1 c.2.1 c.2.2.1 c.2.2.2 C.1 (nI us) fc) := pt
    rw [show 403 - i = (402 - i) + 1 by omega, Lp_s, E_w_sum_l7.eq_def, if_neg (kn_nltl' (by omega) (by omega))] at hR
    rcases pt with ⟨k1, q, k2, k3⟩ | ⟨p1, c1, m1, us1, nl1, n1, fc1, fo1, fa1, fp1, fq1, e1, e2, e3, e4, e5, e6, e7, e8, e9, e10⟩
    · simp only [Lt2] at hR
      rw [if_pos k1] at hR
      rw [← hR]
      exact Or.inl ⟨rfl, q, k2, hgo.bad k3⟩
    rw [e1] at hR
    simp only [Lt2] at hR
    rw [if_neg (by decide)] at hR
    have hL1 := e3.1
    -- the code so far
    have se1 : SE C.2.2.2.1 KA_ (kb1 ter + kb1 fac + 1) (nl1 - nl0) fc1 us0 us1 fo1 fa1 nc0 n1 := by
      rcases b8 with ⟨x1, x2, x3, x4, x5⟩ | ⟨x1, x2⟩
      · rw [x1, x2, ← x3, ← x4, ← x5]; exact e10
      · have := (x2.ext (fc' := fc1) (op' := fo1) (ar' := fa1) (fun j _ h2 => e7 j h2) (fun j _ h2 => e8 j h2)).app e10 (Nat.le_refl 1)
        rw [show nl - nl0 + (nl1 - nl) = nl1 - nl0 by omega] at this
        exact this
    have top1 : KTop fp1 pi0 := by
      rcases htop with h | ⟨o, o1, o2, o3⟩
      · exact Or.inl h
      · by_cases h : pi0 = 0
        · exact Or.inl h
        · exact Or.inr ⟨o, o1, o2, by rw [(e6 (pi0 - 1) (by omega)).1, (b4 (pi0 - 1) (by omega)).1]; exact o3⟩
    have tf1 : ter ≠ 0 → fp1 pi0 = nI (ter + 17) := fun h => by
      have := kb1_p h
      rw [(e6 pi0 (by omega)).1]; exact (b2 h).2.2
    have ff1 : fac ≠ 0 → fp1 (pi0 + kb1 ter) = nI (fac + 17) := fun h => by
      have := kb1_p h
      rw [(e6 (pi0 + kb1 ter) (by omega)).1]; exact (b3 h).2.2
    have kbf : ∀ f, 5 ≤ f → f ≤ 7 → kbd (f + 17) = 6 := by intro f h1 h2; rcases (show f = 5 ∨ f = 6 ∨ f = 7 by omega) with rfl | rfl | rfl <;> rfl
    have kbt : ∀ f, 3 ≤ f → f ≤ 4 → kbd (f + 17) = 5 := by intro f h1 h2; rcases (show f = 3 ∨ f = 4 by omega) with rfl | rfl <;> rfl
    obtain ⟨usA, nA, fcA, foA, faA, a1, a2, a3, a4, a5, a6, a7, a8, a9⟩ := wait_one (k := kb1 ter) (pi := pi0 + kb1 ter) (w := w + kb1 ter) (p := p1) (K := 6) (fp := fp1) (fq := fq1) (t := fac) (by rw [show kb1 fac + kb1 ter + 1 = kb1 ter + kb1 fac + 1 by omega]; exact se1) (fun h => ⟨by have := b3 h; omega, (b3 h).2.1, by rw [kbf fac (b3 h).1 (b3 h).2.1]; exact Nat.le_refl _, ff1 h⟩) (by omega) (by omega) (by omega) (by omega)
    have aa := a1 (fun u f => E_w_sum_j40 (klw C.2.2.2.1) (nI C.2.2.1) C.1 (nI i) (kz_v ter) (Lp (E_w_sum_l7 Es (nI d) (klw C.2.2.2.1) (nI C.2.2.1) C.1) z (402 - i)) (nI nl1) c1.1 c1.2.1 c1.2.2.1 c1.2.2.2 u f)
    rw [show (if kz_v fac = -1 then _ else _) = _ from aa] at hR
    rw [← b1] at a2
    simp only [E_w_sum_j40, Lt2] at hR
    have below : ∀ l, 5 ≤ l → l ≤ 6 → ∀ (nx px : Nat) (fo fa : Nat → Int32), px = pi0 → kst l nx px fo fa fp1 fq1 = (nI nx, nI px, fo, fa) := by
      intro l l1 l2 nx px fo fa hx
      rcases top1 with h | ⟨o, o1, o2, o3⟩
      · rw [hx, h]; exact kst_0
      · by_cases h : pi0 = 0
        · rw [hx, h]; exact kst_0
        · rw [hx, show pi0 = (pi0 - 1) + 1 by omega]
          exact kst_stop (o := o) (by omega) (by omega) (by omega) o3 (by unfold kbd; (repeat' split) <;> omega)
    have fr1 := TkP.froms (tf := c1.1) (tt := c1.2.1) (ti := c1.2.2.1) (tu := c1.2.2.2) (fr := m1.1) (to := m1.2.1) (so := m1.2.2.1) (wo := m1.2.2.2) e3
    obtain ⟨q, q1, q2, hQ⟩ := tk_next hC e3
    have hq := hQ.1
    -- behind the factor
    have hterB := fun (hx : ∀ u, 22 ≤ u → u ≤ 24 → c1.2.2.1 ≠ kch u) => wait_one (k := 0) (pi := pi0) (w := w) (p := p1) (K := 5) (fp := fp1) (fq := fq1) (t := ter) a3 (fun h => ⟨(b2 h).1, by have := (b2 h).2.1; omega, by rw [kbt ter (b2 h).1 (b2 h).2.1]; exact Nat.le_refl _, tf1 h⟩) (by omega) (by omega) (by omega) (by omega)
    rcases tk_op e3 with ⟨o, o1, o2, o3, o4, o5⟩ | ⟨o1, o2⟩
    · have qp : p1 < q := q2 o4
      by_cases c22 : 22 ≤ o
      · -- * / %
        rw [op9_p c22 o2 o3] at hR
        simp only [] at hR
        rw [if_neg (fun h => by have := congrArg Int32.toInt h; rw [nI_toInt (by omega)] at this; have z1 : (-1 : Int32).toInt = -1 := rfl; omega)] at hR
        simp only [E_w_sum_j86, Lt] at hR
        rw [kn_po (by omega)] at hR
        have kk : kst (kbd o) n1 pi fo1 fa1 fp1 fq1 = (nI nA, nI (pi0 + kb1 ter), foA, faA) := by
          rw [show kbd o = 6 by rcases (show o = 22 ∨ o = 23 ∨ o = 24 by omega) with rfl | rfl | rfl <;> rfl, a2 6 (Nat.le_refl _)]
          by_cases ct : ter = 0
          · rw [ct, kb1_0, Nat.add_zero]; exact below 6 (by omega) (by omega) _ _ _ _ rfl
          · rw [kb1_p ct]
            exact kst_stop (o := ter + 17) (by omega) (by have := (b2 ct).2.1; omega) (by omega) (tf1 ct) (by rw [kbt ter (b2 ct).1 (b2 ct).2.1]; omega)
        have bs := bs_op (go := C.2.2.2.2.2.2.2.1) (ga := C.2.2.2.2.2.2.2.2) (ft := C.2.1) (x := C.2.2.2.2.2.2.1) (ta := nI C.2.2.1) (fr := m1.1) (to := m1.2.1) (fau := fau) (nl := nI nl1) (opn := nI d) ⟨o1, o2⟩ o5 (show pi < 1000 by omega) (show pi0 + kb1 ter < 1000 by omega) kk
        have g2 : KGo C fau 3 2 p1 m1 n1 nl1 pi d fo1 fa1 fp1 fq1 1 3 q (E_v_next (nI C.2.2.1) m1.1 m1.2.1 m1.2.2.1 m1.2.2.2 C.2.1) nA nl1 (pi0 + kb1 ter + 1) d foA faA (upd fp1 (pi0 + kb1 ter) (nI o)) (upd fq1 (pi0 + kb1 ter) 0) :=
          KGo.one (mz_lt qp (by omega) (by omega)) (fun F => by rw [kL_sum bs])
        rw [show nI (o - 17) = kz_v (o - 17) from (kz_vp (by omega)).symm, show 402 - i = 403 - (i + 1) by omega] at hR
        refine ih q _ _ usA nl1 nA (pi0 + kb1 ter + 1) ter (o - 17) (i + 1) fcA foA faA _ _ (by omega) (by omega) (by omega) hQ ((hgo.trans e4).trans g2) ⟨?_, fun h => ?_, fun h => ?_, fun j hj => ?_, fun j hj => ?_, fun j hj => ?_, ?_, Or.inr ⟨?_, ?_⟩⟩ R hR
        · rw [kb1_p (show o - 17 ≠ 0 by omega)]
        · have := kb1_p h
          rw [upd_n (by omega)]; exact ⟨(b2 h).1, (b2 h).2.1, tf1 h⟩
        · rw [upd_s, show o - 17 + 17 = o by omega]; exact ⟨by omega, by omega, rfl⟩
        · rw [upd_n (by omega), upd_n (by omega)]
          exact ⟨(e6 j (by omega)).1.trans (b4 j hj).1, (e6 j (by omega)).2.trans (b4 j hj).2⟩
        · rw [a8 j (by omega), e7 j (by omega)]; exact b5 j hj
        · exact ⟨(a9 j (by omega)).1.trans ((e8 j (by omega)).1.trans (b6 j hj).1), (a9 j (by omega)).2.trans ((e8 j (by omega)).2.trans (b6 j hj).2)⟩
        · rw [kb1_p (show o - 17 ≠ 0 by omega)]; omega
        · rw [kb1_p (show o - 17 ≠ 0 by omega)]; omega
        · rw [kb1_p (show o - 17 ≠ 0 by omega)]; exact a3
      · -- + -
        have o21 : o ≤ 21 := by omega
        have inj : ∀ u, 22 ≤ u → u ≤ 24 → c1.2.2.1 ≠ kch u := by
          intro u h1 h2 h
          rw [o3] at h
          rcases (show o = 20 ∨ o = 21 by omega) with rfl | rfl <;> rcases (show u = 22 ∨ u = 23 ∨ u = 24 by omega) with rfl | rfl | rfl <;> exact absurd h (by decide)
        obtain ⟨usB, nB, fcB, foB, faB, d1, d2, d3, d4, d5, d6, d7, d8, d9⟩ := hterB inj
        rw [op9_n inj] at hR
        simp only [] at hR
        rw [if_pos (by trivial)] at hR
        have dd := d1 (fun u f => E_w_sum_j71 (klw C.2.2.2.1) (nI C.2.2.1) C.1 (nI i) (Lp (E_w_sum_l7 Es (nI d) (klw C.2.2.2.1) (nI C.2.2.1) C.1) z (402 - i)) (nI nl1) (-1) c1.1 c1.2.1 c1.2.2.1 c1.2.2.2 u f)
        rw [show (if kz_v ter = -1 then _ else _) = _ from dd] at hR
        simp only [E_w_sum_j71, Lt2] at hR
        rw [op10_p o1 o21 o3] at hR
        simp only [] at hR
        rw [if_neg (fun h => by have := congrArg Int32.toInt h; rw [nI_toInt (by omega)] at this; have z1 : (-1 : Int32).toInt = -1 := rfl; omega)] at hR
        simp only [E_w_sum_j86, Lt] at hR
        rw [kn_po (by omega)] at hR
        have kk : kst (kbd o) n1 pi fo1 fa1 fp1 fq1 = (nI nB, nI pi0, foB, faB) := by
          rw [show kbd o = 5 by rcases (show o = 20 ∨ o = 21 by omega) with rfl | rfl <;> rfl, a2 5 (by omega), d2 5 (Nat.le_refl _)]
          exact below 5 (by omega) (by omega) _ _ _ _ rfl
        have bs := bs_op (go := C.2.2.2.2.2.2.2.1) (ga := C.2.2.2.2.2.2.2.2) (ft := C.2.1) (x := C.2.2.2.2.2.2.1) (ta := nI C.2.2.1) (fr := m1.1) (to := m1.2.1) (fau := fau) (nl := nI nl1) (opn := nI d) ⟨o1, o2⟩ o5 (show pi < 1000 by omega) (show pi0 < 1000 by omega) kk
        have g2 : KGo C fau 3 2 p1 m1 n1 nl1 pi d fo1 fa1 fp1 fq1 1 3 q (E_v_next (nI C.2.2.1) m1.1 m1.2.1 m1.2.2.1 m1.2.2.2 C.2.1) nB nl1 (pi0 + 1) d foB faB (upd fp1 pi0 (nI o)) (upd fq1 pi0 0) :=
          KGo.one (mz_lt qp (by omega) (by omega)) (fun F => by rw [kL_sum bs])
        rw [show nI (o - 17) = kz_v (o - 17) from (kz_vp (by omega)).symm, show (-1 : Int32) = kz_v 0 from rfl, show 402 - i = 403 - (i + 1) by omega] at hR
        refine ih q _ _ usB nl1 nB (pi0 + 1) (o - 17) 0 (i + 1) fcB foB faB _ _ (by omega) (by omega) (by omega) hQ ((hgo.trans e4).trans g2) ⟨?_, fun h => ?_, fun h => absurd rfl h, fun j hj => ?_, fun j hj => ?_, fun j hj => ?_, ?_, Or.inr ⟨?_, ?_⟩⟩ R hR
        · rw [kb1_p (show o - 17 ≠ 0 by omega), kb1_0]
        · rw [upd_s, show o - 17 + 17 = o by omega]; exact ⟨by omega, by omega, rfl⟩
        · rw [upd_n (by omega), upd_n (by omega)]
          exact ⟨(e6 j (by omega)).1.trans (b4 j hj).1, (e6 j (by omega)).2.trans (b4 j hj).2⟩
        · rw [d8 j (by omega), a8 j (by omega), e7 j (by omega)]; exact b5 j hj
        · exact ⟨(d9 j (by omega)).1.trans ((a9 j (by omega)).1.trans ((e8 j (by omega)).1.trans (b6 j hj).1)), (d9 j (by omega)).2.trans ((a9 j (by omega)).2.trans ((e8 j (by omega)).2.trans (b6 j hj).2))⟩
        · rw [kb1_p (show o - 17 ≠ 0 by omega), kb1_0]; omega
        · rw [kb1_p (show o - 17 ≠ 0 by omega), kb1_0]; omega
        · rw [kb1_p (show o - 17 ≠ 0 by omega), kb1_0]; exact d3
    · -- the sum ends
      have inj : ∀ u, 22 ≤ u → u ≤ 24 → c1.2.2.1 ≠ kch u := fun u h1 h2 => o1 u (by omega) h2
      obtain ⟨usB, nB, fcB, foB, faB, d1, d2, d3, d4, d5, d6, d7, d8, d9⟩ := hterB inj
      rw [op9_n inj] at hR
      simp only [] at hR
      rw [if_pos (by trivial)] at hR
      have dd := d1 (fun u f => E_w_sum_j71 (klw C.2.2.2.1) (nI C.2.2.1) C.1 (nI i) (Lp (E_w_sum_l7 Es (nI d) (klw C.2.2.2.1) (nI C.2.2.1) C.1) z (402 - i)) (nI nl1) (-1) c1.1 c1.2.1 c1.2.2.1 c1.2.2.2 u f)
      rw [show (if kz_v ter = -1 then _ else _) = _ from dd] at hR
      simp only [E_w_sum_j71, Lt2] at hR
      rw [op10_n (fun u h1 h2 => o1 u h1 (by omega))] at hR
      simp only [] at hR
      rw [if_pos (by trivial)] at hR
      subst hR
      refine Or.inr ⟨⟨p1, c1, m1, usB, nl1, n1, pi, nB, fcB, fo1, fa1, fp1, fq1, foB, faB, rfl, by omega, e3, hgo.trans e4, ⟨by omega, by omega, fun j hj => ⟨(e6 j (by omega)).1.trans (b4 j hj).1, (e6 j (by omega)).2.trans (b4 j hj).2⟩, fun j h1 h2 => ?_⟩, (a2.low (by omega)).trans d2, ⟨fun j hj => ?_, fun j hj => ?_⟩, ⟨by omega, by omega, by omega, by omega, by omega, by omega, by omega⟩, d3⟩, ?_⟩
      · by_cases ct : ter = 0
        · have cf : fac ≠ 0 := fun h => by rw [ct, h, kb1_0] at b1; omega
          have := b3 cf
          have k1 := kb1_p cf
          rw [ct, kb1_0] at b1
          have hf := ff1 cf
          rw [ct, kb1_0] at hf
          exact ⟨fac + 17, by omega, by omega, by rw [show j = pi0 + 0 by omega]; exact hf⟩
        · have k1 := kb1_p ct
          have t1 := b2 ct
          by_cases e : j = pi0
          · exact ⟨ter + 17, by omega, by omega, by rw [e]; exact tf1 ct⟩
          · have cf : fac ≠ 0 := fun h => by rw [h, kb1_0] at b1; omega
            have k2 := kb1_p cf
            have := b3 cf
            have hf := ff1 cf
            exact ⟨fac + 17, by omega, by omega, by rw [show j = pi0 + kb1 ter by omega]; exact hf⟩
      · rw [d8 j (by omega), a8 j (by omega), e7 j (by omega)]; exact b5 j hj
      · exact ⟨(d9 j (by omega)).1.trans ((a9 j (by omega)).1.trans ((e8 j (by omega)).1.trans (b6 j hj).1)), (d9 j (by omega)).2.trans ((a9 j (by omega)).2.trans ((e8 j (by omega)).2.trans (b6 j hj).2))⟩
      · intro hk
        rcases hk with h | h | h | h | h
        · exact o1 22 (by omega) (by omega) h
        · exact o1 23 (by omega) (by omega) h
        · exact o1 24 (by omega) (by omega) h
        · exact o1 20 (by omega) (by omega) h
        · exact o1 21 (by omega) (by omega) h
theorem sim_sum {C : KC_} (hC : KCok C) {Es : KWf} {d : Nat} (hP : SimPart C (fun d lw pa ln tf tt ti tu fb us fc => E_w_part Es d lw pa ln tf tt ti tu fb us fc) d) : SimSum C (fun d lw pa ln tf tt ti tu fb us fc => E_w_sum Es d lw pa ln tf tt ti tu fb us fc) d := by
  intro fau p c m us nl nc pi w fc fo fa fp fq hT hus hnc hpi hnl hd htop
  have hL := hT.2.1
  have hpL := hT.1
  have := sum_loop (w := w) (us0 := us) (fc0 := fc) (fau := fau) (m0 := m) (nl0 := nl) (nc0 := nc) (fo0 := fo) (fa0 := fa) (fq0 := fq) (p0 := p) hC hP hd htop (fun _ _ _ _ _ _ _ _ _ _ => ((0, 0, 0, 0, 0, 0, 0, fun _ => 0) : KW8)) 401 p c m us nl nc pi 0 0 0 fc fo fa fp fq (by omega) (Nat.le_refl _) (by omega) hT (fun F hF => ⟨F, hF, rfl⟩) ⟨by rw [kb1_0]; omega, fun h => absurd rfl h, fun h => absurd rfl h, fun _ _ => ⟨rfl, rfl⟩, fun _ _ => rfl, fun _ _ => ⟨rfl, rfl⟩, by rw [kb1_0]; omega, Or.inl ⟨rfl, rfl, rfl, rfl, rfl⟩⟩ _ rfl
  exact this
