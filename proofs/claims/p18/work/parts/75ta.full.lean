/-! least leaves the row as it was, if what it leaves isn't empty -/
noncomputable abbrev LH9 : Type := Int32 × Int32 × Int64 × Int64 × (Nat → Int32) × (Nat → Int64) × (Nat → Int64) × (Nat → Int32) × (Nat → Int32)
noncomputable abbrev LHr : Type := Int32 → Int32 → Int32 → Int32 → Int64 → Int64 → (Nat → Int32) → (Nat → Int64) → (Nat → Int64) → (Nat → Int32) → (Nat → Int32) → LH9
noncomputable abbrev LHo : Type := Int32 → Int32 → Int32 → Int64 → Int64 → (Nat → Int32) → (Nat → Int64) → (Nat → Int64) → (Nat → Int32) → (Nat → Int32) → LH9
noncomputable def LHQ (fw : Nat → Int32) (T : LH9) : Prop := Kp fw T.2.2.2.2.1
theorem lay_79f {fw s t : Nat → Int32} {rc : LHr} {x y z v0 v : Int32} (hrec : ∀ (w a b : Int32) (c d : Int64) (g : Nat → Int32) (p q : Nat → Int64) (s t : Nat → Int32), Kp fw g → LHQ fw (rc (v + Int32.ofInt 1) w a b c d g p q s t)) (w a b : Int32) (c d : Int64) (g : Nat → Int32) (p q : Nat → Int64) (h : Kp fw g) : LHQ fw (E_v_layHour_j79 x y z v0 v s t rc w a b c d g p q) := by
  simp only [E_v_layHour_j79, Lt, Lt2]
  split
  · exact hrec _ _ _ _ _ _ _ _ _ _ h
  · split
    · exact hrec _ _ _ _ _ _ _ _ _ _ h
    · exact hrec _ _ _ _ _ _ _ _ _ _ h
theorem lay_55f {fw s t : Nat → Int32} {rc : LHr} {x y z v0 v : Int32} (hrec : ∀ (w a b : Int32) (c d : Int64) (g : Nat → Int32) (p q : Nat → Int64) (s t : Nat → Int32), Kp fw g → LHQ fw (rc (v + Int32.ofInt 1) w a b c d g p q s t)) (a b : Int32) (c d : Int64) (g : Nat → Int32) (p q : Nat → Int64) (h : Kp fw g) : LHQ fw (E_v_layHour_j55 x y z v0 v g s t rc a b c d p q) := by
  rw [E_v_layHour_j55.eq_def]
  split
  · exact lay_79f hrec _ _ _ _ _ _ _ _ h
  · exact lay_79f hrec _ _ _ _ _ _ _ _ h
theorem lay_51f {fw s t : Nat → Int32} {rc : LHr} {x y z v0 v : Int32} (hx : 0 ≤ x.toInt ∧ x.toInt ≤ 8) (hrec : ∀ (w a b : Int32) (c d : Int64) (g : Nat → Int32) (p q : Nat → Int64) (s t : Nat → Int32), Kp fw g → LHQ fw (rc (v + Int32.ofInt 1) w a b c d g p q s t)) (a b : Int32) (c d : Int64) (g : Nat → Int32) (p q : Nat → Int64) (h : Kp fw g) : LHQ fw (E_v_layHour_j51 x y z v0 v g s t rc a b c d p q) := by
  rw [E_v_layHour_j51.eq_def]
  split
  · exact lay_79f hrec _ _ _ _ _ _ _ _ h
  · rw [Lt_b, Lt2_b, Lt2_b, Lt2_b, Lt2_b, Lt2_b, Lt2_b]
    exact lay_79f hrec _ _ _ _ _ _ _ _ (h.flare hx)
theorem lay_27f {fw : Nat → Int32} {rc : LHo} {x y z v0 : Int32} (hx : 0 ≤ x.toInt ∧ x.toInt ≤ 8) (hrec : ∀ (a b : Int32) (c d : Int64) (g : Nat → Int32) (p q : Nat → Int64) (s t : Nat → Int32), Kp fw g → LHQ fw (rc (v0 + Int32.ofInt 1) a b c d g p q s t)) (zz : LHr) : ∀ (k : Nat) (v w a b : Int32) (c d : Int64) (g : Nat → Int32) (p q : Nat → Int64) (s t : Nat → Int32), 0 ≤ v.toInt ∧ v.toInt ≤ 3 → (4 - v.toInt).toNat < k → Kp fw g → LHQ fw (Lp (E_v_layHour_l27 x y z v0 rc) zz k v w a b c d g p q s t) := by
  intro k
  induction k with
  | zero => intro v w a b c d g p q s t hv hk; exact absurd hk (Nat.not_lt_zero _)
  | succ k ih =>
    intro v w a b c d g p q s t hv hk h
    rw [Lp_s, E_v_layHour_l27.eq_def]
    have z3 : (3 : Int32).toInt = 3 := rfl
    by_cases e : 3 ≤ v
    · rw [if_pos e, Lt_b]
      exact hrec _ _ _ _ _ _ _ _ _ h
    · have e2 := n_le e
      have hi := inc_o (a := v) (by omega)
      have hr : ∀ (w a b : Int32) (c d : Int64) (g : Nat → Int32) (p q : Nat → Int64) (s t : Nat → Int32), Kp fw g → LHQ fw (Lp (E_v_layHour_l27 x y z v0 rc) zz k (v + Int32.ofInt 1) w a b c d g p q s t) := fun w a b c d g p q s t hg => ih _ _ _ _ _ _ _ _ _ _ _ (by omega) (by omega) hg
      rw [if_neg e]
      by_cases e3 : w = 0
      · rw [if_pos e3]
        exact lay_55f hr _ _ _ _ _ _ _ h
      · rw [if_neg e3]
        by_cases e4 : v = 0
        · rw [if_pos e4]
          exact lay_51f hx hr _ _ _ _ _ _ _ h
        · rw [if_neg e4, Lt2_b, Lt2_b, Lt2_b, Lt2_b, Lt2_b, Lt2_b]
          split
          · exact lay_51f hx hr _ _ _ _ _ _ _ h
          · exact lay_55f hr _ _ _ _ _ _ _ h
theorem lay_3f {fw : Nat → Int32} {x y z : Int32} (hx : 0 ≤ x.toInt ∧ x.toInt ≤ 8) (zz : LHo) : ∀ (k : Nat) (v a b : Int32) (c d : Int64) (g : Nat → Int32) (p q : Nat → Int64) (s t : Nat → Int32), 0 ≤ v.toInt ∧ v.toInt ≤ 21 → (22 - v.toInt).toNat < k → Kp fw g → LHQ fw (Lp (E_v_layHour_l3 x y z) zz k v a b c d g p q s t) := by
  intro k
  induction k with
  | zero => intro v a b c d g p q s t hv hk; exact absurd hk (Nat.not_lt_zero _)
  | succ k ih =>
    intro v a b c d g p q s t hv hk h
    rw [Lp_s, E_v_layHour_l3.eq_def]
    by_cases e : 20 < v
    · rw [if_pos e]; exact h
    · have e2 : v.toInt ≤ 20 := by
        have : ¬ (20 : Int32).toInt < v.toInt := fun q => e (il_iff.mpr q)
        have z3 : (20 : Int32).toInt = 20 := rfl
        omega
      have hi := inc_o (a := v) (by omega)
      rw [if_neg e, Lt_b, Lt_b, add_c (k := 11) rfl (by omega) (by omega)]
      exact lay_27f hx (fun a b c d g p q s t hg => ih _ _ _ _ _ _ _ _ _ _ (by omega) (by omega) hg) _ _ _ _ _ _ _ _ _ _ _ _ _ (by decide) (by decide) (h.up (by omega))
theorem Kp.layHour {fw g : Nat → Int32} {x y z a b : Int32} {c d : Int64} {p q : Nat → Int64} {s t : Nat → Int32} (hx : 0 ≤ x.toInt ∧ x.toInt ≤ 8) (h : Kp fw g) : Kp fw (E_v_layHour x y z a b c d g p q s t).2.2.2.2.1 := by
  rw [E_v_layHour.eq_def]
  exact lay_3f hx _ _ _ _ _ _ _ _ _ _ _ _ (by decide) (by decide) h
theorem Kp.goOnBy {fw g : Nat → Int32} (h : Kp fw g) : Kp fw (E_v_goOnBy 1 g) := by
  have key : ∀ (k : Nat) (v : Int32) (g : Nat → Int32), 0 ≤ v.toInt ∧ v.toInt ≤ 1 → (2 - v.toInt).toNat < k → Kp fw g → Kp fw (Lp (E_v_goOnBy_l2 1) (fun _ _ => ((fun _ => 0) : Nat → Int32)) k v g) := by
    intro k
    induction k with
    | zero => intro v g hv hk; exact absurd hk (Nat.not_lt_zero _)
    | succ k ih =>
      intro v g hv hk h
      rw [Lp_s, E_v_goOnBy_l2.eq_def]
      have z1 : (1 : Int32).toInt = 1 := rfl
      by_cases e : 1 ≤ v
      · rw [if_pos e]; exact h
      · have e2 := n_le e
        have hi := inc_o (a := v) (by omega)
        rw [if_neg e, Lt_b, Lt_b]
        exact ih _ _ (by omega) (by omega) h.goOn
  rw [E_v_goOnBy.eq_def]
  exact key _ _ _ (by decide) (by decide) h
noncomputable abbrev LL11 : Type := Int32 × Int32 × Int64 × Int64 × (Nat → Int32) × (Nat → Int64) × (Nat → Int64) × (Nat → Int32) × (Nat → Int32) × (Nat → Int32) × (Nat → Int32)
/-- the row and what was put aside, or an empty row -/
noncomputable def LLQ (fw u : Nat → Int32) (T : LL11) : Prop := (T.2.2.2.2.1 = fw ∧ T.2.2.2.2.2.2.2.1 = u) ∨ T.2.2.2.2.1 = fun _ => 0
theorem ll_102 {Q : LL11 → Prop} {f1 f2 f : Nat → Int32} {v0 w : Int32} {rc : Int32 → (Nat → Int32) → LL11} (h : ∀ i f, Q (rc i f)) {z : Int32 → Int32 → LL11} (hz : ∀ i j, Q (z i j)) : ∀ (k : Nat) (v s : Int32), Q (Lp (E_v_layLeast_l102 f1 f2 v0 w f rc) z k v s) := by
  intro k
  induction k with
  | zero => intro v s; exact hz _ _
  | succ k ih =>
    intro v s
    rw [Lp_s, E_v_layLeast_l102.eq_def]
    split
    · exact h _ _
    · rw [Lt_b]
      split
      · exact ih _ _
      · exact ih _ _
theorem ll_87 {Q : LL11 → Prop} {f1 f2 : Nat → Int32} {v0 : Int32} {rc : Int32 → (Nat → Int32) → LL11} (h : ∀ i f, Q (rc i f)) {z : Int32 → (Nat → Int32) → LL11} (hz : ∀ i j, Q (z i j)) (h0 : Q (0, 0, 0, 0, fun _ => 0, fun _ => 0, fun _ => 0, fun _ => 0, fun _ => 0, fun _ => 0, fun _ => 0)) : ∀ (k : Nat) (v : Int32) (f : Nat → Int32), Q (Lp (E_v_layLeast_l87 f1 f2 v0 rc) z k v f) := by
  intro k
  induction k with
  | zero => intro v s; exact hz _ _
  | succ k ih =>
    intro v s
    rw [Lp_s, E_v_layLeast_l87.eq_def]
    split
    · exact h _ _
    · exact ll_102 ih (fun _ _ => h0) _ _ _
theorem ll_79 {fw u : Nat → Int32} {a b : Int32} {c d : Int64} {p q : Nat → Int64} {f1 f2 : Nat → Int32} {z : Int32 → (Nat → Int32) → LL11} (hz : ∀ i j, LLQ fw u (z i j)) : ∀ (k : Nat) (v : Int32) (f : Nat → Int32), LLQ fw u (Lp (E_v_layLeast_l79 u a b c d p q f1 f2 fw) z k v f) := by
  intro k
  induction k with
  | zero => intro v s; exact hz _ _
  | succ k ih =>
    intro v s
    rw [Lp_s, E_v_layLeast_l79.eq_def]
    split
    · exact Or.inl ⟨rfl, rfl⟩
    · exact ll_87 (Q := LLQ fw u) ih (fun _ _ => Or.inr rfl) (Or.inr rfl) _ _ _
theorem ll_48 {fw u : Nat → Int32} {y a b : Int32} {c d : Int64} {p q : Nat → Int64} {f1 f2 : Nat → Int32} {z : Int32 → (Nat → Int32) → LL11} (hz : ∀ i j, LLQ fw u (z i j)) : ∀ (k : Nat) (v : Int32) (f : Nat → Int32), LLQ fw u (Lp (E_v_layLeast_l48 y u a b c d p q f1 f2 fw) z k v f) := by
  intro k
  induction k with
  | zero => intro v s; exact hz _ _
  | succ k ih =>
    intro v s
    rw [Lp_s, E_v_layLeast_l48.eq_def]
    split
    · exact ll_79 (fun _ _ => Or.inr rfl) _ _ _
    · rw [Lt_b, Lt_b, Lt_b, Lt_b]
      exact ih _ _
noncomputable def LMQ (fw fu : Nat → Int32) (T : LL11) : Prop := ((∀ j, T.2.2.2.2.1 j = fw j) ∧ ∀ j, j < 496 → T.2.2.2.2.2.2.2.1 j = fu j) ∨ T.2.2.2.2.1 = fun _ => 0
theorem ll_9 {fw fu fl : Nat → Int32} {x y zz : Int32} (hx : 0 ≤ x.toInt ∧ x.toInt ≤ 8) {z : Int32 → Int32 → Int32 → Int64 → Int64 → (Nat → Int64) → (Nat → Int64) → (Nat → Int32) → (Nat → Int32) → (Nat → Int32) → LL11} (hz : ∀ i1 i2 i3 i4 i5 i6 i7 i8 i9 i10, LMQ fw fu (z i1 i2 i3 i4 i5 i6 i7 i8 i9 i10)) : ∀ (k : Nat) (v a b : Int32) (c d : Int64) (p q : Nat → Int64) (f1 f2 g : Nat → Int32), Kp fw g → LMQ fw fu (Lp (E_v_layLeast_l9 x y zz fl (E_v_keepAll 16 fw fu)) z k v a b c d p q f1 f2 g) := by
  intro k
  induction k with
  | zero => intro v a b c d p q f1 f2 g h; exact hz _ _ _ _ _ _ _ _ _ _
  | succ k ih =>
    intro v a b c d p q f1 f2 g h
    rw [Lp_s, E_v_layLeast_l9.eq_def]
    by_cases e : y ≤ v
    · rw [if_pos e, Lt_b]
      rcases ll_48 (fw := E_v_putBack 16 g (E_v_keepAll 16 fw fu)) (u := E_v_keepAll 16 fw fu) (y := y) (a := a) (b := b) (c := c) (d := d) (p := p) (q := q) (f1 := f1) (f2 := f2) (z := fun _ _ => ((0, 0, 0, 0, fun _ => 0, fun _ => 0, fun _ => 0, fun _ => 0, fun _ => 0, fun _ => 0, fun _ => 0) : LL11)) (fun _ _ => Or.inr rfl) ((22 - (0 : Int32).toInt : Int).toNat + 1) 0 fl with ⟨w1, w2⟩ | w
      · refine Or.inl ⟨fun j => ?_, fun j hj => ?_⟩
        · rw [w1]; exact h.back.1 j
        · rw [w2]; exact h.back.2 j hj
      · exact Or.inr w
    · rw [if_neg e, Lt_b, Lt2_b, Lt2_b, Lt2_b, Lt2_b, Lt2_b, Lt2_b, Lt2_b, Lt2_b, Lt_b, Lt_b]
      exact ih _ _ _ _ _ _ _ _ _ _ (h.layHour hx).goOnBy
noncomputable abbrev LS12 : Type := Int32 × Int32 × Int32 × Int64 × Int64 × (Nat → Int32) × (Nat → Int64) × (Nat → Int64) × (Nat → Int32) × (Nat → Int32) × (Nat → Int32) × (Nat → Int32)
noncomputable def LSQ (fw fu : Nat → Int32) (T : LS12) : Prop := ((∀ j, T.2.2.2.2.2.1 j = fw j) ∧ ∀ j, j < 496 → T.2.2.2.2.2.2.2.2.1 j = fu j) ∨ T.2.2.2.2.2.1 = fun _ => 0
theorem ls_135 {Q : LS12 → Prop} {f1 f2 f3 : Nat → Int32} {v0 w : Int32} {rc : Int32 → Int32 → Int32 → LS12} (h : ∀ i j k, Q (rc i j k)) {z : Int32 → LS12} (hz : ∀ i, Q (z i)) : ∀ (k : Nat) (v : Int32), Q (Lp (E_v_least_l135 f1 f2 f3 v0 w rc) z k v) := by
  intro k
  induction k with
  | zero => intro v; exact hz _
  | succ k ih =>
    intro v
    rw [Lp_s, E_v_least_l135.eq_def, Lt_b, Lt_b, Lt_b, Lt_b]
    split
    · rw [Lt_b, Lt_b, Lt_b, Lt_b, Lt_b, Lt_b]; exact h _ _ _
    · rw [Lt_b]; exact ih _
theorem ls_125 {Q : LS12 → Prop} {w a b : Int32} {c d : Int64} {g : Nat → Int32} {p q : Nat → Int64} {f0 f1 f2 f3 : Nat → Int32} (h : ∀ r, Q (r, a, b, c, d, g, p, q, f0, f1, f2, f3)) (h0 : Q (0, 0, 0, 0, 0, fun _ => 0, fun _ => 0, fun _ => 0, fun _ => 0, fun _ => 0, fun _ => 0, fun _ => 0)) {z : Int32 → Int32 → Int32 → LS12} (hz : ∀ i j k, Q (z i j k)) : ∀ (k : Nat) (v s t : Int32), Q (Lp (E_v_least_l125 w a b c d g p q f0 f1 f2 f3) z k v s t) := by
  intro k
  induction k with
  | zero => intro v s t; exact hz _ _ _
  | succ k ih =>
    intro v s t
    rw [Lp_s, E_v_least_l125.eq_def]
    split
    · exact h _
    · exact ls_135 ih (fun _ => h0) _ _
theorem frm_least0 {x y z w thr lw bro : Int32} {val sm : Int64} {fw fu fi ft fl : Nat → Int32} {fe frs : Nat → Int64} (hn : 0 ≤ (fw 0).toInt ∧ (fw 0).toInt ≤ 8) : LSQ fw fu (E_v_least x y z w thr lw bro val sm fw fe frs fu fi ft fl) ∧ (¬ E_v_isHouse x fw = 1 → (∀ j, (E_v_least x y z w thr lw bro val sm fw fe frs fu fi ft fl).2.2.2.2.2.1 j = fw j) ∧ ∀ j, j < 496 → (E_v_least x y z w thr lw bro val sm fw fe frs fu fi ft fl).2.2.2.2.2.2.2.2.1 j = fu j) := by
  have qj : LSQ fw fu (E_v_least_j55 lw bro val sm fw fe frs fu fi ft fl) := Or.inl ⟨fun _ => rfl, fun _ _ => rfl⟩
  refine ⟨?_, fun c => ?_⟩
  · rw [E_v_least.eq_def, Lt_b]
    by_cases c1 : E_v_isHouse x fw = 1
    · have hx : 0 ≤ x.toInt ∧ x.toInt ≤ 8 := by
        rw [isHouse_at (n := fw 0) ⟨rfl, hn⟩] at c1
        by_cases c2 : 0 ≤ x.toInt ∧ x.toInt < (fw 0).toInt
        · omega
        · rw [has_n c2] at c1; exact absurd c1 (by decide)
      rw [if_pos c1, Lt_b, Lt_b]
      split
      · rw [Lt_b, Lt_b, Lt_b, Lt_b]
        split
        · rw [Lt_b, Lt_b, Lt_b, Lt_b]
          split
          · have hl : LMQ fw fu (E_v_layLeast x y z lw bro val sm fw fe frs fu fi ft fl) := by
              rw [E_v_layLeast.eq_def, Lt_b]
              exact ll_9 hx (fun _ _ _ _ _ _ _ _ _ _ => Or.inr rfl) _ _ _ _ _ _ _ _ _ _ _ Kp.self
            have h0 : LSQ fw fu (0, 0, 0, 0, 0, fun _ => 0, fun _ => 0, fun _ => 0, fun _ => 0, fun _ => 0, fun _ => 0, fun _ => 0) := Or.inr rfl
            generalize E_v_layLeast x y z lw bro val sm fw fe frs fu fi ft fl = T at hl ⊢
            obtain ⟨a, b, c, d, g, p, q, f0, f1, f2, f3⟩ := T
            rw [Lt2_b, Lt2_b, Lt2_b, Lt2_b, Lt2_b, Lt2_b, Lt2_b, Lt2_b, Lt2_b, Lt2_b, Lt_b, Lt_b, Lt_b]
            have hr : ∀ r, LSQ fw fu (r, a, b, c, d, g, p, q, f0, f1, f2, f3) := fun r => hl
            have h9 : ∀ i, LSQ fw fu (E_v_least_j94 a b c d g p q f0 f1 f2 f3 i) := fun i => by
              rw [E_v_least_j94.eq_def, Lt_b]
              split
              · exact hr _
              · rw [Lt_b]; exact hr _
            split
            · exact h9 _
            · split
              · exact h9 _
              · exact ls_125 hr h0 (fun _ _ _ => h0) _ _ _ _
          · exact qj
        · exact qj
      · exact qj
    · rw [if_neg c1]; exact qj
  · rw [E_v_least.eq_def, Lt_b, if_neg c]
    exact ⟨fun _ => rfl, fun _ _ => rfl⟩
theorem frm_least {x y z w thr lw bro : Int32} {val sm : Int64} {fw fu fi ft fl : Nat → Int32} {fe frs : Nat → Int64} {r2 lw' bro' : Int32} {val' sm' : Int64} {fw' fu' fi' ft' fl' : Nat → Int32} {fe' frs' : Nat → Int64} (k2 : (r2, lw', bro', val', sm', fw', fe', frs', fu', fi', ft', fl') = E_v_least x y z w thr lw bro val sm fw fe frs fu fi ft fl) (hn : 0 ≤ (fw 0).toInt ∧ (fw 0).toInt ≤ 8) (hz : fw' 0 = fw 0) : (∀ j, fw' j = fw j) ∧ ∀ j, j < 496 → fu' j = fu j := by
  obtain ⟨q1, q2⟩ := frm_least0 (x := x) (y := y) (z := z) (w := w) (thr := thr) (lw := lw) (bro := bro) (val := val) (sm := sm) (fw := fw) (fu := fu) (fi := fi) (ft := ft) (fl := fl) (fe := fe) (frs := frs) hn
  rw [← k2] at q1 q2
  by_cases c : E_v_isHouse x fw = 1
  · rcases q1 with q | q
    · exact q
    · exfalso
      have q : fw' = fun _ => 0 := q
      rw [q] at hz
      have hz2 : fw 0 = 0 := hz.symm
      rw [isHouse_at (n := fw 0) ⟨rfl, hn⟩, hz2, has_n (by have z0 : (0 : Int32).toInt = 0 := rfl; omega)] at c
      exact absurd c (by decide)
  · exact q2 c
