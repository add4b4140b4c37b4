/-! what compare and days leave of the row: all of it -/
noncomputable def Kp (f g : Nat → Int32) : Prop := ∀ j, j < 4 ∨ 35 ≤ j → g j = f j
theorem Kp.self {f : Nat → Int32} : Kp f f := fun _ _ => rfl
theorem Kp.up {f g : Nat → Int32} (a : Kp f g) {k : Nat} {x : Int32} (hk : 4 ≤ k ∧ k < 35) : Kp f (upd g k x) := fun j hj => by rw [upd_n (by omega)]; exact a j hj
theorem Kp.goOn {f g : Nat → Int32} (a : Kp f g) : Kp f (E_v_goOn g) := by
  intro j hj
  simp only [E_v_goOn, Lt]
  have z4 : (4 : Int32).toNatClampNeg = 4 := rfl
  have z5 : (5 : Int32).toNatClampNeg = 5 := rfl
  rw [z4, z5]
  split
  · rw [upd_n (by omega), upd_n (by omega), upd_n (by omega)]; exact a j hj
  · rw [upd_n (by omega)]; exact a j hj
theorem Kp.flare {x y lw bro : Int32} {val sm : Int64} {f g : Nat → Int32} {fe frs : Nat → Int64} (a : Kp f g) (hy : 0 ≤ y.toInt ∧ y.toInt ≤ 8) : Kp f (E_v_flare x y lw bro val sm g fe frs).2.2.2.2.1 := by
  simp only [E_v_flare, Lt, Lt2]
  rw [add_c (k := 11) rfl (by omega) (by omega)]
  exact a.up (by omega)
theorem Kp.stokeIt {x lw bro : Int32} {val sm : Int64} {f g : Nat → Int32} {fe frs : Nat → Int64} (a : Kp f g) (hx : 0 ≤ x.toInt ∧ x.toInt ≤ 8) : Kp f (E_v_stokeIt x lw bro val sm g fe frs).2.2.2.2.1 := by
  simp only [E_v_stokeIt, Lt, Lt2]
  rw [add_c (k := 19) rfl (by omega) (by omega)]
  exact (Kp.flare a hx).up (by omega)
theorem n_le {f0 v : Int32} (e : ¬ f0 ≤ v) : v.toInt < f0.toInt := by
  have : ¬ f0.toInt ≤ v.toInt := fun q => e (ie_iff.mpr q)
  omega
theorem pas_69f {f0 : Nat → Int32} (hn : 0 ≤ (f0 0).toInt ∧ (f0 0).toInt ≤ 8) {r a b : Int32} {c d : Int64} {fb : Nat → Int32} {p q : Nat → Int64} (z : Int32 → (Nat → Int32) → (Int32 × Int32 × Int32 × Int64 × Int64 × (Nat → Int32) × (Nat → Int64) × (Nat → Int64) × (Nat → Int32))) : ∀ (k : Nat) (v : Int32) (g : Nat → Int32), 0 ≤ v.toInt ∧ v.toInt ≤ 8 → (9 - v.toInt).toNat < k → Kp f0 g → Kp f0 (Lp (E_v_passIt_l69 r a b c d fb p q) z k v g).2.2.2.2.2.1 := by
  intro k
  induction k with
  | zero => intro v g hv hk; exact absurd hk (Nat.not_lt_zero _)
  | succ k ih =>
    intro v g hv hk h
    rw [Lp_s]
    simp only [E_v_passIt_l69, Lt]
    have e0 : g (0 : Int32).toNatClampNeg = f0 0 := h 0 (by omega)
    rw [e0]
    by_cases e : f0 0 ≤ v
    · rw [if_pos e]
      exact h.goOn
    · have e2 := n_le e
      have hi := inc_o (a := v) (by omega)
      rw [if_neg e, add_c (k := 27) rfl (by omega) (by omega), add_c (k := 11) rfl (by omega) (by omega)]
      exact ih _ _ (by omega) (by omega) ((h.up (by omega)).up (by omega))
theorem pas_34f {f0 g : Nat → Int32} (hn : 0 ≤ (f0 0).toInt ∧ (f0 0).toInt ≤ 8) (h : Kp f0 g) {r : Int32} (z : Int32 → Int32 → Int32 → Int64 → Int64 → (Nat → Int32) → (Nat → Int64) → (Nat → Int64) → (Int32 × Int32 × Int32 × Int64 × Int64 × (Nat → Int32) × (Nat → Int64) × (Nat → Int64) × (Nat → Int32))) : ∀ (k : Nat) (v a b : Int32) (c d : Int64) (fb : Nat → Int32) (p q : Nat → Int64), 0 ≤ v.toInt ∧ v.toInt ≤ 8 → (9 - v.toInt).toNat < k → Kp f0 (Lp (E_v_passIt_l34 r g) z k v a b c d fb p q).2.2.2.2.2.1 := by
  intro k
  induction k with
  | zero => intro v a b c d fb p q hv hk; exact absurd hk (Nat.not_lt_zero _)
  | succ k ih =>
    intro v a b c d fb p q hv hk
    rw [Lp_s, E_v_passIt_l34.eq_def, Lt_b]
    have e0 : g (0 : Int32).toNatClampNeg = f0 0 := h 0 (by omega)
    rw [e0]
    by_cases e : f0 0 ≤ v
    · rw [if_pos e]
      exact pas_69f hn _ _ _ _ (by decide) (by decide) h
    · have e2 := n_le e
      have hi := inc_o (a := v) (by omega)
      rw [if_neg e]
      simp only [Lt, Lt2]
      exact ih _ _ _ _ _ _ _ _ (by omega) (by omega)
theorem Kp.passIt {f g : Nat → Int32} (hn : 0 ≤ (f 0).toInt ∧ (f 0).toInt ≤ 8) (h : Kp f g) {a b : Int32} {c d : Int64} {fb : Nat → Int32} {p q : Nat → Int64} : Kp f (E_v_passIt a b c d g p q fb).2.2.2.2.2.1 := by
  rw [E_v_passIt.eq_def, Lt_b, Lt_b, Lt2_b, Lt2_b, Lt2_b, Lt2_b, Lt2_b, Lt2_b, Lt_b, Lt_b, Lt_b, Lt_b]
  exact pas_34f hn (h.up (by decide)) _ _ _ _ _ _ _ _ _ _ (by decide) (by decide)
theorem n16 : (16 : Int32) = nI 16 := nI_lit rfl (by omega)
/-- what was put aside comes back -/
theorem Kp.back {fw g fu : Nat → Int32} (h : Kp fw g) : (∀ j, E_v_putBack 16 g (E_v_keepAll 16 fw fu) j = fw j) ∧ ∀ j, j < 496 → E_v_keepAll 16 fw fu j = fu j := by
  rw [n16]
  refine ⟨fun j => ?_, fun j hj => ?_⟩
  · rw [putBack_at (by omega)]
    by_cases c : 4 ≤ j ∧ j < 35
    · rw [if_pos c, keepAll_at (by omega), if_pos (by omega)]
      exact congrArg fw (by omega)
    · rw [if_neg c]; exact h j (by omega)
  · rw [keepAll_at (by omega), if_neg (by omega)]
noncomputable abbrev CP9 : Type := Int32 × Int32 × Int32 × Int64 × Int64 × (Nat → Int32) × (Nat → Int64) × (Nat → Int64) × (Nat → Int32)
noncomputable abbrev CPr : Type := Int32 → Int32 → Int32 → Int32 → Int64 → Int64 → (Nat → Int64) → (Nat → Int64) → (Nat → Int32) → CP9
noncomputable def CQ (fw fu : Nat → Int32) (T : CP9) : Prop := (∀ j, T.2.2.2.2.2.1 j = fw j) ∧ ∀ j, j < 496 → T.2.2.2.2.2.2.2.2 j = fu j
theorem cmp_86f {fw : Nat → Int32} {Q : CP9 → Prop} {rc : CPr} {x v : Int32} (hv : 0 ≤ v.toInt ∧ v.toInt ≤ 8) (hrec : ∀ m a b c d p q g, Kp fw g → Q (rc (v + Int32.ofInt 1) m a b c d p q g)) : ∀ m a b c d p q g, Kp fw g → Q (E_v_compare_j86 x v rc m a b c d p q g) := by
  intro m a b c d p q g h
  simp only [E_v_compare_j86, Lt, Lt2]
  rw [add_c (k := 11) rfl (by omega) (by omega)]
  exact hrec _ _ _ _ _ _ _ _ (h.up (by omega))
theorem cmp_47f {fw : Nat → Int32} (hn : 0 ≤ (fw 0).toInt ∧ (fw 0).toInt ≤ 8) {Q : CP9 → Prop} {rc : CPr} {x v0 : Int32} (hrec : ∀ m a b c d p q g, Kp fw g → Q (rc (v0 + Int32.ofInt 1) m a b c d p q g)) (z : CPr) : ∀ (k : Nat) (v m a b : Int32) (c d : Int64) (p q : Nat → Int64) (g : Nat → Int32), 0 ≤ v.toInt ∧ v.toInt ≤ 8 → (9 - v.toInt).toNat < k → Kp fw g → Q (Lp (E_v_compare_l47 x v0 rc) z k v m a b c d p q g) := by
  intro k
  induction k with
  | zero => intro v m a b c d p q g hv hk; exact absurd hk (Nat.not_lt_zero _)
  | succ k ih =>
    intro v m a b c d p q g hv hk h
    rw [Lp_s, E_v_compare_l47.eq_def, Lt_b]
    have e0 : g (0 : Int32).toNatClampNeg = fw 0 := h 0 (by omega)
    rw [e0]
    by_cases e : fw 0 ≤ v
    · rw [if_pos e, Lt_b, Lt_b]
      exact hrec _ _ _ _ _ _ _ _ h.goOn
    · have e2 := n_le e
      have hi := inc_o (a := v) (by omega)
      rw [if_neg e, Lt_b, Lt_b, Lt_b]
      have hj := cmp_86f (x := x) (rc := Lp (E_v_compare_l47 x v0 rc) z k) (Q := Q) hv (fun m a b c d p q g hg => ih _ _ _ _ _ _ _ _ _ (by omega) (by omega) hg)
      by_cases e3 : E_v_term 2 g ≤ g (11 + v).toNatClampNeg
      · rw [if_pos e3]; exact hj _ _ _ _ _ _ _ _ h
      · rw [if_neg e3, Lt2_b, Lt2_b, Lt2_b, Lt2_b, Lt2_b, Lt2_b, Lt_b]
        exact hj _ _ _ _ _ _ _ _ (h.flare hv)
theorem cmp_38f {fw fu : Nat → Int32} (hn : 0 ≤ (fw 0).toInt ∧ (fw 0).toInt ≤ 8) {x y : Int32} (hy : y.toInt ≤ 60) (z : CPr) : ∀ (k : Nat) (v m a b : Int32) (c d : Int64) (p q : Nat → Int64) (g : Nat → Int32), 0 ≤ v.toInt ∧ v.toInt ≤ 60 → (61 - v.toInt).toNat < k → Kp fw g → CQ fw fu (Lp (E_v_compare_l38 x y (E_v_keepAll 16 fw fu)) z k v m a b c d p q g) := by
  intro k
  induction k with
  | zero => intro v m a b c d p q g hv hk; exact absurd hk (Nat.not_lt_zero _)
  | succ k ih =>
    intro v m a b c d p q g hv hk h
    rw [Lp_s, E_v_compare_l38.eq_def]
    by_cases e : y ≤ v
    · rw [if_pos e, Lt_b]
      unfold CQ
      dsimp only
      exact h.back
    · have e2 := n_le e
      have hi := inc_o (a := v) (by omega)
      rw [if_neg e]
      exact cmp_47f (Q := CQ fw fu) (rc := Lp (E_v_compare_l38 x y (E_v_keepAll 16 fw fu)) z k) (x := x) (v0 := v) hn (fun m a b c d p q g hg => ih _ _ _ _ _ _ _ _ _ (by omega) (by omega) hg) _ _ _ _ _ _ _ _ _ _ _ (by decide) (by decide) h
theorem frm_compare {x y thr lw bro : Int32} {val sm : Int64} {fw fu : Nat → Int32} {fe frs : Nat → Int64} {r2 lw' bro' : Int32} {val' sm' : Int64} {fw' fu' : Nat → Int32} {fe' frs' : Nat → Int64} (k2 : (r2, lw', bro', val', sm', fw', fe', frs', fu') = E_v_compare x y thr lw bro val sm fw fe frs fu) (hn : 0 ≤ (fw 0).toInt ∧ (fw 0).toInt ≤ 8) : (∀ j, fw' j = fw j) ∧ ∀ j, j < 496 → fu' j = fu j := by
  have q : CQ fw fu (E_v_compare x y thr lw bro val sm fw fe frs fu) := by
    have qj : CQ fw fu (E_v_compare_j25 lw bro val sm fw fe frs fu) := ⟨fun _ => rfl, fun _ _ => rfl⟩
    rw [E_v_compare.eq_def, Lt_b]
    by_cases c1 : E_v_isLaw x fw = 1
    · rw [if_pos c1, Lt_b, Lt_b]
      by_cases c2 : (1 : Int64).toInt ≤ y.toInt ∧ y.toInt ≤ (60 : Int64).toInt
      · rw [ifi_p c2, Lt_b]
        have c3 : y.toInt ≤ 60 := c2.2
        exact cmp_38f hn c3 _ _ _ _ _ _ _ _ _ _ _ (by decide) (by decide) Kp.self
      · rw [ifi_n c2]; exact qj
    · rw [if_neg c1]; exact qj
  rw [← k2] at q
  exact q
noncomputable abbrev DY16 : Type := Int32 × Int32 × Int32 × Int32 × Int64 × Int64 × Int64 × Int32 × Int32 × (Nat → Int32) × (Nat → Int64) × (Nat → Int64) × (Nat → Int32) × (Nat → Int32) × (Nat → Int32) × (Nat → Int32)
noncomputable abbrev DYr : Type := Int32 → Int32 → Int32 → Int32 → Int64 → Int64 → Int64 → (Nat → Int64) → (Nat → Int64) → (Nat → Int32) → (Nat → Int32) → DY16
noncomputable def DQ (fw fu frf : Nat → Int32) (T : DY16) : Prop := T.2.1 = 0 ∧ (∀ j, T.2.2.2.2.2.2.2.2.2.1 j = fw j) ∧ (∀ j, j < 496 → T.2.2.2.2.2.2.2.2.2.2.2.2.1 j = fu j) ∧ T.2.2.2.2.2.2.2.2.2.2.2.2.2.2.2 = frf
theorem day_146f {sta x0 r a b n : Int32} {c d e : Int64} {fe frs : Nat → Int64} {fb g fw fu frf : Nat → Int32} (h : Kp fw g) (hn : 0 ≤ n.toInt ∧ n.toInt ≤ 8) (hr : 0 ≤ r.toInt) (z : Int32 → (Nat → Int32) → DY16) : ∀ (k : Nat) (v : Int32) (fd : Nat → Int32), 0 ≤ v.toInt ∧ v.toInt ≤ 8 → (9 - v.toInt).toNat < k → DQ fw fu frf (Lp (E_v_days_l146 sta frf (E_v_keepAll 16 fw fu) x0 r a b c d e fe frs fb g n) z k v fd) := by
  intro k
  induction k with
  | zero => intro v fd hv hk; exact absurd hk (Nat.not_lt_zero _)
  | succ k ih =>
    intro v fd hv hk
    rw [Lp_s, E_v_days_l146.eq_def]
    by_cases e : n ≤ v
    · rw [if_pos e, Lt_b, Lt_b, Lt_b, tell_p hr, Lt2_b, Lt2_b]
      unfold DQ
      dsimp only
      exact ⟨rfl, h.back.1, h.back.2, rfl⟩
    · have e2 := n_le e
      have hi := inc_o (a := v) (by omega)
      rw [if_neg e]
      dsimp only [Lt]
      exact ih _ _ (by omega) (by omega)
theorem day_133f {sta x0 r a b : Int32} {c d e : Int64} {fe frs : Nat → Int64} {fb fd g fw fu frf : Nat → Int32} (h : Kp fw g) (hn : 0 ≤ (fw 0).toInt ∧ (fw 0).toInt ≤ 8) (hr : 0 ≤ r.toInt) : DQ fw fu frf (E_v_days_j133 sta fd frf (E_v_keepAll 16 fw fu) x0 r a b c d e fe frs fb g) := by
  rw [E_v_days_j133.eq_def, Lt_b]
  have e0 : g (0 : Int32).toNatClampNeg = fw 0 := h 0 (by omega)
  rw [e0]
  exact day_146f h hn hr _ _ _ _ (by decide) (by decide)
theorem day_110f {Q : DY16 → Prop} {rc : DYr} {i r : Int32} {fw fb : Nat → Int32} (hn : 0 ≤ (fw 0).toInt ∧ (fw 0).toInt ≤ 8) (hr : 0 ≤ r.toInt ∧ r.toInt ≤ 1000) {e : Int64} (hrec : ∀ (r2 a b : Int32) (c d : Int64) (fe frs : Nat → Int64) (fb g : Nat → Int32), 0 ≤ r2.toInt ∧ r2.toInt ≤ r.toInt + 1 → Kp fw g → Q (rc (i + Int32.ofInt 1) r2 a b c d e fe frs fb g)) (a b : Int32) (c d : Int64) (fe frs : Nat → Int64) (g : Nat → Int32) (h : Kp fw g) : Q (E_v_days_j110 i r fb rc a b c d e fe frs g) := by
  simp only [E_v_days_j110, Lt, Lt2]
  split
  · exact hrec _ _ _ _ _ _ _ _ _ (by rw [i_add (Eq.refl r.toInt) (show (0 : Int32).toInt = 0 from rfl) (by omega)]; omega) (h.passIt hn)
  · exact hrec _ _ _ _ _ _ _ _ _ (by rw [i_add (Eq.refl r.toInt) (show (1 : Int32).toInt = 1 from rfl) (by omega)]; omega) (h.passIt hn)
theorem draw_at {x : Int32} {s : Int64} (hx : 0 < x.toInt) (hs : 0 ≤ s.toInt ∧ s.toInt ≤ 1000003) : (0 ≤ (E_v_draw x s).1.toInt ∧ (E_v_draw x s).1.toInt < x.toInt) ∧ 0 ≤ (E_v_draw x s).2.toInt ∧ (E_v_draw x s).2.toInt < 1000003 := by
  rw [E_v_draw.eq_def]
  dsimp only [Lt]
  have h1 := l_mul (Eq.refl s.toInt) (show (1103 : Int64).toInt = 1103 from rfl) (by omega)
  have h2 := l_add h1 (show (12345 : Int64).toInt = 12345 from rfl) (by omega)
  have h3 := l_remb h2 (show (1000003 : Int64).toInt = 1000003 from rfl) (by omega) (by omega)
  generalize hA : (s * 1103 + 12345) - (s * 1103 + 12345) / 1000003 * 1000003 = A at h3 ⊢
  have h4 := l_remb (Eq.refl A.toInt) (wide_at (x := x)) h3.1 hx
  generalize hB : A - A / x.toInt64 * x.toInt64 = B at h4 ⊢
  have hx2 := Int32.toInt_lt x
  have h5 := l_nar (Eq.refl B.toInt) (by omega)
  rw [h5]
  exact ⟨h4, h3⟩
theorem day_61f {fw fu frf fd : Nat → Int32} (hn : 0 ≤ (fw 0).toInt ∧ (fw 0).toInt ≤ 8) {y sta x0 : Int32} (hy : y.toInt ≤ 100) (z : DYr) : ∀ (k : Nat) (i r a b : Int32) (c d e : Int64) (fe frs : Nat → Int64) (fb g : Nat → Int32), 0 ≤ i.toInt ∧ i.toInt ≤ 100 → (101 - i.toInt).toNat < k → 0 ≤ r.toInt ∧ r.toInt ≤ i.toInt → 0 ≤ e.toInt ∧ e.toInt ≤ 1000003 → Kp fw g → DQ fw fu frf (Lp (E_v_days_l61 y sta fd frf (E_v_keepAll 16 fw fu) x0) z k i r a b c d e fe frs fb g) := by
  intro k
  induction k with
  | zero => intro i r a b c d e fe frs fb g hv hk; exact absurd hk (Nat.not_lt_zero _)
  | succ k ih =>
    intro i r a b c d e fe frs fb g hv hk hr he h
    rw [Lp_s, E_v_days_l61.eq_def]
    by_cases e1 : y ≤ i
    · rw [if_pos e1]
      exact day_133f h hn hr.1
    · have e2 := n_le e1
      have hi := inc_o (a := i) (by omega)
      rw [if_neg e1, Lt_b]
      have hj : ∀ (e : Int64) (fb : Nat → Int32) (a b : Int32) (c d : Int64) (fe frs : Nat → Int64) (g : Nat → Int32), 0 ≤ e.toInt ∧ e.toInt ≤ 1000003 → Kp fw g → DQ fw fu frf (E_v_days_j110 i r fb (Lp (E_v_days_l61 y sta fd frf (E_v_keepAll 16 fw fu) x0) z k) a b c d e fe frs g) := fun e fb a b c d fe frs g he hg => day_110f (Q := DQ fw fu frf) hn ⟨hr.1, by omega⟩ (fun r2 a b c d fe frs fb g hr2 hg => ih _ _ _ _ _ _ _ _ _ _ _ (by omega) (by omega) (by omega) he hg) a b c d fe frs g hg
      by_cases e3 : E_v_canPass g = 0
      · rw [if_pos e3]
        exact day_133f h hn hr.1
      · rw [if_neg e3, Lt_b]
        have e0 : g (0 : Int32).toNatClampNeg = fw 0 := h 0 (by omega)
        rw [e0]
        by_cases e4 : fw 0 ≤ 0
        · rw [if_pos e4]
          exact hj _ _ _ _ _ _ _ _ _ he h
        · have e5 : 0 < (fw 0).toInt := by
            have : ¬ (fw 0).toInt ≤ (0 : Int32).toInt := fun q => e4 (ie_iff.mpr q)
            have z0 : (0 : Int32).toInt = 0 := rfl
            omega
          obtain ⟨⟨d1, d2⟩, d3, d4⟩ := draw_at e5 he
          rw [if_neg e4, Lt_b, Lt2_b, Lt2_b, Lt2_b, Lt2_b, Lt2_b, Lt2_b, Lt2_b]
          split
          · exact hj _ _ _ _ _ _ _ _ _ (by omega) h
          · rw [Lt2_b, Lt2_b, Lt2_b, Lt2_b, Lt2_b, Lt2_b]
            exact hj _ _ _ _ _ _ _ _ _ (by omega) (h.stokeIt (by omega))
theorem frm_days {G : Nat → LC} {x y rb dk df br thr sta lw bro dfi ndr : Int32} {val sm st : Int64} {frf fs fwc fw fu fb fd frm : Nat → Int32} {fe frs : Nat → Int64} {An Al Af Ai Ah Ao Bn Bl Bf Bi Bh Bo : Int32} {Aa Ab Ac Ba Bb Bc : Nat → Int32} {Ad Bd : Nat → Option Nat} {r1 b1 dk' df' br' An' Al' Af' Ai' Ah' Ao' : Int32} {g1 fs' fwc' Aa' Ab' Ac' : Nat → Int32} {Ad' : Nat → Option Nat} {r2 s2 lw' bro' dfi' ndr' : Int32} {val' sm' st' : Int64} {fw' fu' fb' fd' g2 : Nat → Int32} {fe' frs' : Nat → Int64} (k1 : (r1, b1, dk', df', g1, br', fs', fwc', An', Al', Af', Ai', Ah', Ao', Aa', Ab', Ac', Ad') = E_w_days G x y rb dk df frf br fs fwc An Al Af Ai Ah Ao Aa Ab Ac Ad Bn Bl Bf Bi Bh Bo Ba Bb Bc Bd) (k2 : (r2, s2, lw', bro', val', sm', st', dfi', ndr', fw', fe', frs', fu', fb', fd', g2) = E_v_days x y thr sta lw bro val sm st dfi ndr fw fe frs fu fb fd frm) (hn : 0 ≤ (fw 0).toInt ∧ (fw 0).toInt ≤ 8) (q : RfR rb sta frf frm) : RfR b1 s2 g1 g2 ∧ (∀ j, fw' j = fw j) ∧ ∀ j, j < 496 → fu' j = fu j := by
  rw [E_w_days.eq_def, Lt_b] at k1
  rw [E_v_days.eq_def, Lt_b, Lt_b] at k2
  have hno : ∀ (k1 : (r1, b1, dk', df', g1, br', fs', fwc', An', Al', Af', Ai', Ah', Ao', Aa', Ab', Ac', Ad') = E_w_days_j21 rb dk df frf br fs fwc An Al Af Ai Ah Ao Aa Ab Ac Ad) (k2 : (r2, s2, lw', bro', val', sm', st', dfi', ndr', fw', fe', frs', fu', fb', fd', g2) = E_v_days_j29 sta lw bro val sm st dfi ndr fw fe frs fu fb fd frm), RfR b1 s2 g1 g2 ∧ (∀ j, fw' j = fw j) ∧ ∀ j, j < 496 → fu' j = fu j := by
    intro k1 k2
    rw [E_w_days_j21.eq_def] at k1
    rw [E_v_days_j29.eq_def] at k2
    simp only [Lt2, Prod.mk.injEq] at k1 k2
    obtain ⟨a1, a2, a3, a4, a5, -⟩ := k1
    obtain ⟨c1, c2, c3, c4, c5, c6, c7, c8, c9, c10, c11, c12, c13, c14, c15, c16⟩ := k2
    rw [a2, a5, c2, c10, c13, c16]
    exact ⟨(q.no (by decide)).2.2, fun _ => rfl, fun _ _ => rfl⟩
  by_cases c1 : (0 : Int32).toInt ≤ x.toInt ∧ x.toInt ≤ (1000000 : Int32).toInt
  · rw [ifw_p c1, Lt_b] at k1
    rw [ifi_p (by exact c1), Lt_b, Lt_b] at k2
    by_cases c2 : (1 : Int32).toInt ≤ y.toInt ∧ y.toInt ≤ (100 : Int32).toInt
    · rw [ifw_p c2] at k1
      rw [ifi_p (by exact c2), Lt_b, Lt_b, Lt_b] at k2
      have c3 : y.toInt ≤ 100 := c2.2
      have c4 : 0 ≤ x.toInt ∧ x.toInt ≤ 1000000 := c1
      have hq := day_61f (fu := fu) (frf := frm) (fd := fd) (sta := sta) (x0 := fw (10 : Int32).toNatClampNeg) hn c3 (fun _ _ _ _ _ _ _ _ _ _ _ => ((0, 0, 0, 0, 0, 0, 0, 0, 0, fun _ => 0, fun _ => 0, fun _ => 0, fun _ => 0, fun _ => 0, fun _ => 0, fun _ => 0) : DY16)) ((101 - (0 : Int32).toInt : Int).toNat + 1) 0 0 lw bro val sm x.toInt64 fe frs fb fw (by decide) (by decide) (by decide) (by rw [wide_at]; omega) Kp.self
      rw [← k2] at hq
      obtain ⟨w1, w2, w3, w4⟩ := hq
      have a2 : b1 = 0 := by
        have q9 := congrArg Prod.fst (congrArg Prod.snd k1)
        exact q9
      have a5 : g1 = frf := by
        have q9 := congrArg Prod.fst (congrArg Prod.snd (congrArg Prod.snd (congrArg Prod.snd (congrArg Prod.snd k1))))
        exact q9
      dsimp only at w1 w2 w3 w4
      rw [a2, a5, w1, w4]
      exact ⟨q.ok, w2, w3⟩
    · rw [ifw_n c2] at k1
      rw [ifi_n (by exact c2)] at k2
      exact hno k1 k2
  · rw [ifw_n c1] at k1
    rw [ifi_n (by exact c1)] at k2
    exact hno k1 k2
