/-! what both sides find a token to be -/
/-- what a word of a list is worth -/
noncomputable def kwh (k j : Nat) : Int := hsh (sf k) (kwo k j) (kwl k j)
theorem kwh_i0 : (List.range 13).all (fun k => !(decide (k ≤ 7 ∨ k = 11 ∨ k = 12)) || (List.range (kwn k)).all (fun i => (List.range (kwn k)).all (fun j => decide (kwh k i = kwh k j → i = j)))) = true := by decide +kernel
theorem kwh_inj (k : Nat) (hk : k < 13) (h : k ≤ 7 ∨ k = 11 ∨ k = 12) (i : Nat) (hi : i < kwn k) (j : Nat) (hj : j < kwn k) : kwh k i = kwh k j → i = j := of_decide_eq_true (all_rng (all_rng (or_rng h (all_rng kwh_i0 hk)) hi) hj)
theorem tk_find {f : Nat → Int32} {L p k : Nat} {tf tt ti tu fr to so : Int32} {wo : Int64} (hk : k < 13) (hk2 : k ≤ 7 ∨ k = 11 ∨ k = 12) (h : TkP f L p (tf, tt, ti, tu) (fr, to, so, wo)) (ln : Int32) :
    (∃ i, i < kwn k ∧ p < L ∧ E_w_find k ln tf tt ti tu f = nI i ∧ ∀ j, j < kwn k → ((so = 1 ∧ wo.toInt = kwh k j) ↔ j = i)) ∨ (E_w_find k ln tf tt ti tu f = -1 ∧ ∀ j, j < kwn k → ¬ (so = 1 ∧ wo.toInt = kwh k j)) := by
  obtain ⟨e1, e2, e, e3, e4, e5, e6, e7⟩ := h.froms
  obtain ⟨w0, w1, w2⟩ := kw_ok k hk hk2
  have hs := sn_le k
  have fd := fd_all (p := p) (n := e - p) (fb := f) hk hk2 (by have := h.2.1; omega) (fun _ _ _ => ((0) : Int32)) (kwn k) 0 50 (by omega) (by omega)
  rw [show p + (e - p) = e by omega, w0, show nI 0 = 0 from rfl] at fd
  have ef : E_w_find k ln tf tt ti tu f = Lp (α := Int32 → Int32 → Int32 → (Int32)) (E_w_find_l7 k (nI p) (nI e) f) (fun _ _ _ => ((0) : Int32)) 50 0 0 0 := by
    rw [E_w_find.eq_def, e1, e3]; rfl
  rw [ef]
  -- a token of letters
  have key : ∀ j, j < kwn k → ((so = 1 ∧ wo.toInt = kwh k j) ↔ tokw f p (e - p) k (kwo k j) (kwl k j)) := by
    intro j hj
    obtain ⟨a1, a2, a3, a4, a5, a6⟩ := w2 j hj
    obtain ⟨k1, k2, k3, hc, hm⟩ := h
    have lw : ∀ i, i < kwl k j → lt_ (sf k) (kwo k j + i) := fun i hi => (a4 i hi).2
    have z1 : ∀ {x : Int32}, x = 1 → x.toInt = 1 := fun h => by rw [h]; rfl
    rcases hm with ⟨a, b⟩ | ⟨a, b, w, c, d⟩ | ⟨a, b, w, c, d⟩ | ⟨a, b, b2, w, c, d⟩
    · simp only [Prod.mk.injEq] at b
      refine ⟨fun q => ?_, fun q => ?_⟩
      · have := z1 q.1; rw [b.2.2.1] at this; exact absurd this (by decide)
      · have := q.1; omega
    · simp only [Prod.mk.injEq] at c
      obtain ⟨c1, c2, c3, c4⟩ := c
      have le := lx_le (f := f) (L - (p + 1)) (p + 1)
      have ee : e = lx f (L - (p + 1)) (p + 1) := by
        have q := e4.symm.trans c2
        exact (kn_eq (by omega) (by omega)).mp q
      have lt : ∀ i, i < e - p → lt_ f (p + i) := fun i hi => by
        by_cases c0 : i = 0
        · rw [c0]; exact b
        · exact lx_all (L - (p + 1)) (p + 1) (p + i) (by omega) (by rw [← ee]; omega)
      rw [tokw_hsh lt lw a6, c3, c4, d, ← ee]
      exact ⟨fun q => q.2, fun q => ⟨rfl, q⟩⟩
    · simp only [Prod.mk.injEq] at c
      refine ⟨fun q => ?_, fun q => ?_⟩
      · have := z1 q.1; rw [c.2.2.1] at this; exact absurd this (by decide)
      · have q0 := q.2 0 (by omega)
        have l0 := lw 0 (by omega)
        unfold lt_ at l0
        unfold dg_ at b
        rw [← q0, Nat.add_zero] at l0
        omega
    · simp only [Prod.mk.injEq] at c
      refine ⟨fun q => ?_, fun q => ?_⟩
      · have := z1 q.1; rw [c.2.2.1] at this; exact absurd this (by decide)
      · have q0 := q.2 0 (by omega)
        have l0 := lw 0 (by omega)
        unfold lt_ at l0
        unfold lt_ at b
        rw [← q0, Nat.add_zero] at l0
        omega
  rcases fd with ⟨i, _, i2, i3, i4⟩ | ⟨i1, i2⟩
  · have ki := (key i i2).mpr i3
    refine Or.inl ⟨i, i2, ?_, i4, fun j hj => ⟨fun q => ?_, fun q => by rw [q]; exact ki⟩⟩
    · have a1 := (w2 i i2).1
      have := i3.1
      omega
    · exact kwh_inj k hk hk2 j hj i i2 (q.2.symm.trans ki.2)
  · exact Or.inr ⟨i2, fun j hj q => i1 j (Nat.zero_le _) hj ((key j hj).mp q)⟩
theorem isWord_at {c : Int64} {so : Int32} {wo : Int64} : E_v_isWord c so wo = 1 ↔ so = 1 ∧ wo.toInt = c.toInt := by
  unfold E_v_isWord
  by_cases a : so = 1
  · rw [if_pos a]
    by_cases b : lg_cmp wo c = 0
    · have b2 := (lg_cmp_eq _ _).mp b
      rw [if_pos b]; exact ⟨fun _ => ⟨a, by rw [b2]⟩, fun _ => rfl⟩
    · rw [if_neg b]
      exact ⟨fun q => absurd q (by decide), fun q => absurd ((lg_cmp_eq _ _).mpr (Int64.toInt_inj.mp q.2)) b⟩
  · rw [if_neg a]
    exact ⟨fun q => absurd q (by decide), fun q => absurd q.1 a⟩
theorem isWord_01 {c : Int64} {so : Int32} {wo : Int64} : E_v_isWord c so wo = 0 ∨ E_v_isWord c so wo = 1 := by
  unfold E_v_isWord
  split
  · split
    · exact Or.inr rfl
    · exact Or.inl rfl
  · exact Or.inl rfl
/-- a list of one word -/
theorem tk_one {f : Nat → Int32} {L p k : Nat} {tf tt ti tu fr to so : Int32} {wo c : Int64} (hk : k < 13) (hk2 : k ≤ 7 ∨ k = 11 ∨ k = 12) (h1 : kwn k = 1) (hc : kwh k 0 = c.toInt) (h : TkP f L p (tf, tt, ti, tu) (fr, to, so, wo)) (ln : Int32) : (E_w_find k ln tf tt ti tu f = 0 ∧ E_v_isWord c so wo = 1 ∧ p < L) ∨ (E_w_find k ln tf tt ti tu f ≠ 0 ∧ E_v_isWord c so wo = 0) := by
  rcases tk_find hk hk2 h ln with ⟨i, i1, i2, i3, i4⟩ | ⟨i1, i2⟩
  · have i0 : i = 0 := by omega
    have q := (i4 0 (by omega)).mpr i0.symm
    rw [hc] at q
    exact Or.inl ⟨by rw [i3, i0]; rfl, isWord_at.mpr q, i2⟩
  · refine Or.inr ⟨by rw [i1]; decide, ?_⟩
    rcases isWord_01 (c := c) (so := so) (wo := wo) with q | q
    · exact q
    · exact absurd (by have := isWord_at.mp q; rw [← hc] at this; exact this) (i2 0 (by omega))
theorem isSign_01 {c so : Int32} {wo : Int64} : E_v_isSign c so wo = 0 ∨ E_v_isSign c so wo = 1 := by
  unfold E_v_isSign
  split
  · simp only [Lt]
    split
    · exact Or.inr rfl
    · exact Or.inl rfl
  · exact Or.inl rfl
/-- a sign -/
theorem tk_sign {f : Nat → Int32} {L p : Nat} {tf tt ti tu fr to so c : Int32} {wo : Int64} (hc : 0 ≤ c.toInt ∧ ¬ (97 ≤ c.toInt ∧ c.toInt ≤ 122) ∧ ¬ (48 ≤ c.toInt ∧ c.toInt ≤ 57)) (h : TkP f L p (tf, tt, ti, tu) (fr, to, so, wo)) : (ti = c ∧ E_v_isSign c so wo = 1 ∧ p < L) ∨ (ti ≠ c ∧ E_v_isSign c so wo = 0) := by
  have e3 : ∀ {x : Int32}, x ≠ 3 → E_v_isSign c x wo = 0 := fun hx => by unfold E_v_isSign; rw [if_neg hx]
  obtain ⟨h1, h2, h3, hq, hm⟩ := h
  unfold CT at hq
  unfold MT at hm
  rcases hq with ⟨a, b⟩ | ⟨a, b, q⟩ | ⟨a, b, m, q, d⟩ | ⟨a, b, b2, q⟩
  · simp only [Prod.mk.injEq] at b
    refine Or.inr ⟨fun q => ?_, ?_⟩
    · have := b.2.2.1
      rw [q] at this
      rw [this] at hc
      exact absurd hc.1 (by decide)
    · rcases hm with ⟨a', b'⟩ | ⟨a', _⟩ | ⟨a', _⟩ | ⟨a', _⟩
      · simp only [Prod.mk.injEq] at b'
        exact e3 (by rw [b'.2.2.1]; decide)
      · omega
      · omega
      · omega
  · simp only [Prod.mk.injEq] at q
    refine Or.inr ⟨fun z => ?_, ?_⟩
    · unfold lt_ at b
      rw [← q.2.2.1, z] at b
      exact hc.2.1 b
    · rcases hm with ⟨a', b'⟩ | ⟨a', b', w, c', d'⟩ | ⟨a', b', w, c', d'⟩ | ⟨a', b', b2', w, c', d'⟩
      · omega
      · simp only [Prod.mk.injEq] at c'
        exact e3 (by rw [c'.2.2.1]; decide)
      · simp only [Prod.mk.injEq] at c'
        exact e3 (by rw [c'.2.2.1]; decide)
      · exact absurd b b'
  · simp only [Prod.mk.injEq] at q
    refine Or.inr ⟨fun z => ?_, ?_⟩
    · unfold dg_ at b
      rw [← q.2.2.1, z] at b
      exact hc.2.2 b
    · rcases hm with ⟨a', b'⟩ | ⟨a', b', w, c', d'⟩ | ⟨a', b', w, c', d'⟩ | ⟨a', b', b2', w, c', d'⟩
      · omega
      · simp only [Prod.mk.injEq] at c'
        exact e3 (by rw [c'.2.2.1]; decide)
      · simp only [Prod.mk.injEq] at c'
        exact e3 (by rw [c'.2.2.1]; decide)
      · exact absurd b b2'
  · simp only [Prod.mk.injEq] at q
    rcases hm with ⟨a', b'⟩ | ⟨a', b', w, c', d'⟩ | ⟨a', b', w, c', d'⟩ | ⟨a', b', b2', w, c', d'⟩
    · omega
    · exact absurd b' b
    · exact absurd b' b2
    · simp only [Prod.mk.injEq] at c'
      have st : E_v_isSign c so wo = if lg_cmp wo c.toInt64 = 0 then 1 else 0 := by
        unfold E_v_isSign
        rw [if_pos c'.2.2.1, Lt_b]
      have wq : wo.toInt = ti.toInt := by rw [c'.2.2.2, d', q.2.2.1]
      by_cases z : ti = c
      · refine Or.inl ⟨z, ?_, a⟩
        rw [st, if_pos ((lg_cmp_eq _ _).mpr (Int64.toInt_inj.mp (by rw [wq, z, wide_at])))]
      · refine Or.inr ⟨z, ?_⟩
        rw [st, if_neg (fun y => z (Int32.toInt_inj.mp (by have := congrArg Int64.toInt ((lg_cmp_eq _ _).mp y); rw [wq, wide_at] at this; exact this)))]
/-- the end -/
theorem tk_end {f : Nat → Int32} {L p : Nat} {tf tt ti tu fr to so : Int32} {wo : Int64} (h : TkP f L p (tf, tt, ti, tu) (fr, to, so, wo)) : (p = L ∧ ti = -1 ∧ so = 0) ∨ (p < L ∧ ti ≠ -1 ∧ so ≠ 0) := by
  obtain ⟨h1, h2, h3, hq, hm⟩ := h
  unfold CT at hq
  unfold MT at hm
  by_cases c : p = L
  · rcases hq with ⟨a, b⟩ | ⟨a, _⟩ | ⟨a, _⟩ | ⟨a, _⟩
    · rcases hm with ⟨a', b'⟩ | ⟨a', _⟩ | ⟨a', _⟩ | ⟨a', _⟩
      · simp only [Prod.mk.injEq] at b b'
        exact Or.inl ⟨c, b.2.2.1, b'.2.2.1⟩
      · omega
      · omega
      · omega
    · omega
    · omega
    · omega
  · have hp : p < L := by omega
    have fp := h3 p hp
    have t : ti = f p := by
      rcases hq with ⟨a, b⟩ | ⟨a, b, q⟩ | ⟨a, b, m, q, d⟩ | ⟨a, b, b2, q⟩
      · omega
      · simp only [Prod.mk.injEq] at q; exact q.2.2.1
      · simp only [Prod.mk.injEq] at q; exact q.2.2.1
      · simp only [Prod.mk.injEq] at q; exact q.2.2.1
    refine Or.inr ⟨hp, fun q => ?_, ?_⟩
    · rw [← t, q] at fp; exact absurd fp (by decide)
    · rcases hm with ⟨a', b'⟩ | ⟨a', b', w, c', d'⟩ | ⟨a', b', w, c', d'⟩ | ⟨a', b', b2', w, c', d'⟩
      · omega
      · simp only [Prod.mk.injEq] at c'; rw [c'.2.2.1]; decide
      · simp only [Prod.mk.injEq] at c'; rw [c'.2.2.1]; decide
      · simp only [Prod.mk.injEq] at c'; rw [c'.2.2.1]; decide
/-- a number -/
theorem tk_num {f : Nat → Int32} {L p : Nat} {tf tt ti tu fr to so : Int32} {wo : Int64} (h : TkP f L p (tf, tt, ti, tu) (fr, to, so, wo)) : (p < L ∧ so = 2 ∧ 48 ≤ ti.toInt ∧ ti.toInt ≤ 57 ∧ 0 ≤ tu.toInt ∧ ((tu.toInt = wo.toInt ∧ wo.toInt ≤ 1000000) ∨ (tu.toInt = 1000000 ∧ 1000000 < wo.toInt ∧ wo.toInt ≤ 10000010))) ∨ (so ≠ 2 ∧ tu = -1) := by
  obtain ⟨h1, h2, h3, hq, hm⟩ := h
  unfold CT at hq
  unfold MT at hm
  rcases hm with ⟨a', b'⟩ | ⟨a', b', w, c', d'⟩ | ⟨a', b', w, c', d'⟩ | ⟨a', b', b2', w, c', d'⟩
  · simp only [Prod.mk.injEq] at b'
    rcases hq with ⟨a, b⟩ | ⟨a, _⟩ | ⟨a, _⟩ | ⟨a, _⟩
    · simp only [Prod.mk.injEq] at b
      exact Or.inr ⟨by rw [b'.2.2.1]; decide, b.2.2.2⟩
    · omega
    · omega
    · omega
  · simp only [Prod.mk.injEq] at c'
    rcases hq with ⟨a, b⟩ | ⟨a, b, q⟩ | ⟨a, b, m, q, d⟩ | ⟨a, b, b2, q⟩
    · omega
    · simp only [Prod.mk.injEq] at q
      exact Or.inr ⟨by rw [c'.2.2.1]; decide, q.2.2.2⟩
    · unfold lt_ at b'; unfold dg_ at b; omega
    · exact absurd b' b
  · simp only [Prod.mk.injEq] at c'
    rcases hq with ⟨a, b⟩ | ⟨a, b, q⟩ | ⟨a, b, m, q, d⟩ | ⟨a, b, b2, q⟩
    · omega
    · unfold lt_ at b; unfold dg_ at b'; omega
    · simp only [Prod.mk.injEq] at q
      have le := dx_le (f := f) (L - (p + 1)) (p + 1)
      have dd : ∀ j, j < dx f (L - (p + 1)) (p + 1) - p → dg_ f (p + j) := fun i hi => by
        by_cases c0 : i = 0
        · rw [c0]; exact b
        · exact dx_all (L - (p + 1)) (p + 1) (p + i) (by omega) (by omega)
      have cm := cn_mn (f := f) (p := p) (dx f (L - (p + 1)) (p + 1) - p) dd
      rw [← d, ← d', ← q.2.2.2, ← c'.2.2.2] at cm
      unfold dg_ at b
      rw [← q.2.2.1] at b
      refine Or.inl ⟨a, c'.2.2.1, b.1, b.2, ?_⟩
      rcases cm with ⟨m1, m2, m3⟩ | ⟨m1, m2, m3⟩
      · exact ⟨by omega, Or.inl ⟨m1, m3⟩⟩
      · exact ⟨by omega, Or.inr ⟨m1, m2, m3⟩⟩
    · exact absurd b' b2
  · simp only [Prod.mk.injEq] at c'
    rcases hq with ⟨a, b⟩ | ⟨a, b, q⟩ | ⟨a, b, m, q, d⟩ | ⟨a, b, b2, q⟩
    · omega
    · exact absurd b b'
    · exact absurd b b2'
    · simp only [Prod.mk.injEq] at q
      exact Or.inr ⟨by rw [c'.2.2.1]; decide, q.2.2.2⟩
