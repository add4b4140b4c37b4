section
/-! the reference's loop of reading -/
noncomputable abbrev KF_ : Type := Nat → Int32
noncomputable abbrev KR14 : Type := Int32 × Int32 × Int32 × Int64 × Int32 × Int32 × Int32 × Int32 × Int32 × Int32 × (Nat → Int32) × (Nat → Int32) × (Nat → Int32) × (Nat → Int32)
noncomputable abbrev KRd : Type := Int32 → Int32 → Int32 → Int32 → Int64 → Int32 → Int32 → Int32 → Int32 → Int32 → Int32 → (Nat → Int32) → (Nat → Int32) → (Nat → Int32) → (Nat → Int32) → KR14
noncomputable abbrev KT4 : Type := Int32 × Int32 × Int32 × Int32
noncomputable abbrev KM4 : Type := Int32 × Int32 × Int32 × Int64
/-- what is told once for a text: bytes (class, reference), length, which language, tables, whether a test is read -/
noncomputable abbrev KC_ : Type := KF_ × KF_ × Nat × Nat × (Nat → Int64) × (Nat → Int64) × Int32 × KF_ × KF_
noncomputable def kod (o : Nat) : Int32 := if o = 0 then 0 else 1
noncomputable def klw (o : Nat) : Int32 := if o = 0 then 1 else 0
noncomputable def KCok (C : KC_) : Prop := C.2.2.1 ≤ 400 ∧ (∀ j, j < C.2.2.1 → C.1 j = C.2.1 j) ∧ C.2.2.2.1 ≤ 1 ∧ KWt C.2.2.2.2.1 C.2.2.2.2.2.1
noncomputable def kL (C : KC_) (F : Nat) : KRd := Lp (α := KRd) (E_v_readExpression_l20 C.2.2.2.2.2.2.1 (nI C.2.2.1) (kod C.2.2.2.1) C.2.1 C.2.2.2.2.2.2.2.1 C.2.2.2.2.2.2.2.2 C.2.2.2.2.1 C.2.2.2.2.2.1) (fun _ _ _ _ _ _ _ _ _ _ _ _ _ _ _ => ((0, 0, 0, 0, 0, 0, 0, 0, 0, 0, fun _ => 0, fun _ => 0, fun _ => 0, fun _ => 0) : KR14)) F
theorem kL_part {C : KC_} {F : Nat} {fr to so fau nc nl pi opn : Int32} {wo : Int64} {fo fa fp fq : Nat → Int32} {r : Int32 × Int32 × Int32 × Int32 × Int64 × Int32 × Int32 × Int32 × Int32 × Int32 × Int32 × (Nat → Int32) × (Nat → Int32) × (Nat → Int32) × (Nat → Int32)} (h : E_v_readPart C.2.2.2.2.2.2.2.1 C.2.2.2.2.2.2.2.2 (nI C.2.2.1) fr to so wo fau 0 (kod C.2.2.2.1) nc nl pi opn C.2.1 fo fa fp fq C.2.2.2.2.1 C.2.2.2.2.2.1 = r) : kL C (F + 1) 1 fr to so wo fau 0 nc nl pi opn fo fa fp fq = kL C F r.1 r.2.1 r.2.2.1 r.2.2.2.1 r.2.2.2.2.1 r.2.2.2.2.2.1 r.2.2.2.2.2.2.1 r.2.2.2.2.2.2.2.1 r.2.2.2.2.2.2.2.2.1 r.2.2.2.2.2.2.2.2.2.1 r.2.2.2.2.2.2.2.2.2.2.1 r.2.2.2.2.2.2.2.2.2.2.2.1 r.2.2.2.2.2.2.2.2.2.2.2.2.1 r.2.2.2.2.2.2.2.2.2.2.2.2.2.1 r.2.2.2.2.2.2.2.2.2.2.2.2.2.2 := by
  unfold kL
  rw [Lp_s, E_v_readExpression_l20.eq_def, if_pos rfl, if_neg (by decide), if_neg (by decide), if_pos rfl, h]
  rfl
theorem kL_plain {C : KC_} {F : Nat} {fr to so fau nc nl pi opn : Int32} {wo : Int64} {fo fa fp fq : Nat → Int32} {r : Int32 × Int32 × Int32 × Int32 × Int64 × Int32 × Int32 × Int32 × Int32 × Int32 × Int32 × (Nat → Int32) × (Nat → Int32) × (Nat → Int32) × (Nat → Int32)} (h : E_v_readPlain C.2.2.2.2.2.2.2.1 C.2.2.2.2.2.2.2.2 (nI C.2.2.1) fr to so wo fau 0 (kod C.2.2.2.1) nc nl pi opn C.2.1 fo fa fp fq C.2.2.2.2.1 C.2.2.2.2.2.1 = r) : kL C (F + 1) 0 fr to so wo fau 0 nc nl pi opn fo fa fp fq = kL C F r.1 r.2.1 r.2.2.1 r.2.2.2.1 r.2.2.2.2.1 r.2.2.2.2.2.1 r.2.2.2.2.2.2.1 r.2.2.2.2.2.2.2.1 r.2.2.2.2.2.2.2.2.1 r.2.2.2.2.2.2.2.2.2.1 r.2.2.2.2.2.2.2.2.2.2.1 r.2.2.2.2.2.2.2.2.2.2.2.1 r.2.2.2.2.2.2.2.2.2.2.2.2.1 r.2.2.2.2.2.2.2.2.2.2.2.2.2.1 r.2.2.2.2.2.2.2.2.2.2.2.2.2.2 := by
  unfold kL
  rw [Lp_s, E_v_readExpression_l20.eq_def, if_pos rfl, if_neg (by decide), if_pos rfl, h]
  rfl
theorem kL_sum {C : KC_} {F : Nat} {fr to so fau nc nl pi opn : Int32} {wo : Int64} {fo fa fp fq : Nat → Int32} {r : Int32 × Int32 × Int32 × Int32 × Int64 × Int32 × Int32 × Int32 × Int32 × Int32 × (Nat → Int32) × (Nat → Int32) × (Nat → Int32) × (Nat → Int32)} (h : E_v_behindSum C.2.2.2.2.2.2.2.1 C.2.2.2.2.2.2.2.2 C.2.2.2.2.2.2.1 (nI C.2.2.1) fr to so wo fau 0 nc nl pi opn C.2.1 fo fa fp fq = r) : kL C (F + 1) 3 fr to so wo fau 0 nc nl pi opn fo fa fp fq = kL C F r.1 r.2.1 r.2.2.1 r.2.2.2.1 r.2.2.2.2.1 r.2.2.2.2.2.1 r.2.2.2.2.2.2.1 r.2.2.2.2.2.2.2.1 nl r.2.2.2.2.2.2.2.2.1 r.2.2.2.2.2.2.2.2.2.1 r.2.2.2.2.2.2.2.2.2.2.1 r.2.2.2.2.2.2.2.2.2.2.2.1 r.2.2.2.2.2.2.2.2.2.2.2.2.1 r.2.2.2.2.2.2.2.2.2.2.2.2.2 := by
  unfold kL
  rw [Lp_s, E_v_readExpression_l20.eq_def, if_pos rfl, if_neg (by decide), if_neg (by decide), if_neg (by decide), if_pos rfl, h]
  rfl
theorem kL_test {C : KC_} {F : Nat} {fr to so fau nc nl pi opn : Int32} {wo : Int64} {fo fa fp fq : Nat → Int32} {r : Int32 × Int32 × Int32 × Int32 × Int64 × Int32 × Int32 × Int32 × Int32 × Int32 × (Nat → Int32) × (Nat → Int32) × (Nat → Int32) × (Nat → Int32)} (h : E_v_behindTest C.2.2.2.2.2.2.2.1 C.2.2.2.2.2.2.2.2 (nI C.2.2.1) fr to so wo fau 0 nc nl pi opn C.2.1 fo fa fp fq = r) : kL C (F + 1) 2 fr to so wo fau 0 nc nl pi opn fo fa fp fq = kL C F r.1 r.2.1 r.2.2.1 r.2.2.2.1 r.2.2.2.2.1 r.2.2.2.2.2.1 r.2.2.2.2.2.2.1 r.2.2.2.2.2.2.2.1 nl r.2.2.2.2.2.2.2.2.1 r.2.2.2.2.2.2.2.2.2.1 r.2.2.2.2.2.2.2.2.2.2.1 r.2.2.2.2.2.2.2.2.2.2.2.1 r.2.2.2.2.2.2.2.2.2.2.2.2.1 r.2.2.2.2.2.2.2.2.2.2.2.2.2 := by
  unfold kL
  rw [Lp_s, E_v_readExpression_l20.eq_def, if_pos rfl, if_neg (by decide), if_neg (by decide), if_neg (by decide), if_neg (by decide), h]
  rfl
theorem kL_bad {C : KC_} {F : Nat} {t fr to so fau nc nl pi opn : Int32} {wo : Int64} {fo fa fp fq : Nat → Int32} : ∃ r : KR14, kL C (F + 1) t fr to so wo fau 1 nc nl pi opn fo fa fp fq = r ∧ r.2.2.2.2.1 = fau ∧ r.2.2.2.2.2.1 = 1 := by
  refine ⟨_, rfl, ?_, ?_⟩
  · unfold kL
    rw [Lp_s, E_v_readExpression_l20.eq_def, if_neg (by decide)]
    rfl
  · unfold kL
    rw [Lp_s, E_v_readExpression_l20.eq_def, if_neg (by decide)]
    rfl
/-- how far it is to the end at most -/
noncomputable def mz (p t : Nat) : Nat := 8 * (401 - p) + 4 + t
/-- from here the reference ends with a fault at q -/
noncomputable def KBad (C : KC_) (tn : Int32) (t p : Nat) (m : KM4) (fau : Int32) (nc nl pi d : Nat) (fo fa fp fq : Nat → Int32) (q : Nat) : Prop := ∀ F, mz p t < F → ∃ r : KR14, kL C F tn m.1 m.2.1 m.2.2.1 m.2.2.2 fau 0 (nI nc) (nI nl) (nI pi) (nI d) fo fa fp fq = r ∧ r.2.2.2.2.1 = nI q ∧ r.2.2.2.2.2.1 = 1
/-- from here the reference comes there -/
noncomputable def KGo (C : KC_) (fau : Int32) (tn : Int32) (t p : Nat) (m : KM4) (nc nl pi d : Nat) (fo fa fp fq : Nat → Int32) (tn' : Int32) (t' p' : Nat) (m' : KM4) (nc' nl' pi' d' : Nat) (fo' fa' fp' fq' : Nat → Int32) : Prop := ∀ F, mz p t < F → ∃ F', mz p' t' < F' ∧ kL C F tn m.1 m.2.1 m.2.2.1 m.2.2.2 fau 0 (nI nc) (nI nl) (nI pi) (nI d) fo fa fp fq = kL C F' tn' m'.1 m'.2.1 m'.2.2.1 m'.2.2.2 fau 0 (nI nc') (nI nl') (nI pi') (nI d') fo' fa' fp' fq'
theorem KGo.trans {C : KC_} {fau tn tn2 tn3 : Int32} {t p t2 p2 t3 p3 nc nl pi d nc2 nl2 pi2 d2 nc3 nl3 pi3 d3 : Nat} {m m2 m3 : KM4} {fo fa fp fq fo2 fa2 fp2 fq2 fo3 fa3 fp3 fq3 : Nat → Int32} (h : KGo C fau tn t p m nc nl pi d fo fa fp fq tn2 t2 p2 m2 nc2 nl2 pi2 d2 fo2 fa2 fp2 fq2) (h2 : KGo C fau tn2 t2 p2 m2 nc2 nl2 pi2 d2 fo2 fa2 fp2 fq2 tn3 t3 p3 m3 nc3 nl3 pi3 d3 fo3 fa3 fp3 fq3) : KGo C fau tn t p m nc nl pi d fo fa fp fq tn3 t3 p3 m3 nc3 nl3 pi3 d3 fo3 fa3 fp3 fq3 := fun F hF => by
  obtain ⟨F2, a1, a2⟩ := h F hF
  obtain ⟨F3, b1, b2⟩ := h2 F2 a1
  exact ⟨F3, b1, a2.trans b2⟩
theorem KGo.bad {C : KC_} {fau tn tn2 : Int32} {t p t2 p2 nc nl pi d nc2 nl2 pi2 d2 q : Nat} {m m2 : KM4} {fo fa fp fq fo2 fa2 fp2 fq2 : Nat → Int32} (h : KGo C fau tn t p m nc nl pi d fo fa fp fq tn2 t2 p2 m2 nc2 nl2 pi2 d2 fo2 fa2 fp2 fq2) (h2 : KBad C tn2 t2 p2 m2 fau nc2 nl2 pi2 d2 fo2 fa2 fp2 fq2 q) : KBad C tn t p m fau nc nl pi d fo fa fp fq q := fun F hF => by
  obtain ⟨F2, a1, a2⟩ := h F hF
  rw [a2]
  exact h2 F2 a1
/-- one step -/
theorem KGo.one {C : KC_} {fau tn tn2 : Int32} {t p t2 p2 nc nl pi d nc2 nl2 pi2 d2 : Nat} {m m2 : KM4} {fo fa fp fq fo2 fa2 fp2 fq2 : Nat → Int32} (hm : mz p2 t2 < mz p t) (h : ∀ F, kL C (F + 1) tn m.1 m.2.1 m.2.2.1 m.2.2.2 fau 0 (nI nc) (nI nl) (nI pi) (nI d) fo fa fp fq = kL C F tn2 m2.1 m2.2.1 m2.2.2.1 m2.2.2.2 fau 0 (nI nc2) (nI nl2) (nI pi2) (nI d2) fo2 fa2 fp2 fq2) : KGo C fau tn t p m nc nl pi d fo fa fp fq tn2 t2 p2 m2 nc2 nl2 pi2 d2 fo2 fa2 fp2 fq2 := fun F hF => ⟨F - 1, by omega, by
  have := h (F - 1)
  rw [show F - 1 + 1 = F by omega] at this
  exact this⟩
theorem KBad.one {C : KC_} {fau tn : Int32} {t p nc nl pi d q : Nat} {m : KM4} {fo fa fp fq : Nat → Int32} (h : ∀ F, ∃ t2 a b c e n1 n2 n3 n4 h1 h2 h3 h4, kL C (F + 1) tn m.1 m.2.1 m.2.2.1 m.2.2.2 fau 0 (nI nc) (nI nl) (nI pi) (nI d) fo fa fp fq = kL C F t2 a b c e (nI q) 1 n1 n2 n3 n4 h1 h2 h3 h4) : KBad C tn t p m fau nc nl pi d fo fa fp fq q := fun F hF => by
  obtain ⟨t2, a, b, c, e, n1, n2, n3, n4, h1, h2, h3, h4, k⟩ := h (F - 1)
  have hz : 4 ≤ mz p t := by unfold mz; omega
  rw [show F - 1 + 1 = F by omega] at k
  rw [k, show F - 1 = F - 2 + 1 by omega]
  exact kL_bad
/-! the class's reading, a part, a sum, a test: what comes of it -/
noncomputable abbrev KW8 : Type := Int32 × Int32 × Int32 × Int32 × Int32 × Int32 × Int32 × (Nat → Int32)
noncomputable abbrev KWf : Type := Int32 → Int32 → Int32 → Int32 → Int32 → Int32 → Int32 → Int32 → (Nat → Int32) → Int32 → (Nat → Int32) → KW8
/-- a piece was read on both sides: the class's code from us on, the reference's from nc on tell the same -/
noncomputable def KRead (C : KC_) (P : Int → Prop) (K : Nat) (fau tn0 : Int32) (tn : Int32) (t d p : Nat) (m : KM4) (us nl nc pi w : Nat) (fc fo fa fp fq : Nat → Int32) (lo hi : Nat) (r : KW8) : Prop :=
  ∃ (p' : Nat) (c' : KT4) (m' : KM4) (us' nl' n1 pi1 n2 : Nat) (fc' fo1 fa1 fp1 fq1 fo2 fa2 : Nat → Int32),
    r = (1, nI nl', c'.1, c'.2.1, c'.2.2.1, c'.2.2.2, nI us', fc') ∧ p < p' ∧ TkP C.1 C.2.2.1 p' c' m' ∧
    KGo C fau tn0 3 p m nc nl pi d fo fa fp fq tn t p' m' n1 nl' pi1 d fo1 fa1 fp1 fq1 ∧
    (pi ≤ pi1 ∧ pi1 ≤ p' ∧ (∀ j, j < pi → fp1 j = fp j ∧ fq1 j = fq j) ∧ ∀ j, pi ≤ j → j < pi1 → ∃ o : Nat, lo ≤ o ∧ o ≤ hi ∧ fp1 j = nI o) ∧
    KP K n1 pi1 fo1 fa1 n2 pi fo2 fa2 fp1 fq1 ∧
    ((∀ j, j < us → fc' j = fc j) ∧ ∀ j, j < nc → fo2 j = fo j ∧ fa2 j = fa j) ∧
    (us ≤ us' ∧ nc ≤ n2 ∧ nl ≤ nl' ∧ nl' ≤ 50 ∧ us' + 2 * w ≤ 2 * p' ∧ n2 + w ≤ p' ∧ n1 ≤ p') ∧
    SE C.2.2.2.1 P 1 (nl' - nl) fc' us us' fo2 fa2 nc n2
/-- no piece: both sides hold the same fault -/
noncomputable def KNot (C : KC_) (fau tn0 : Int32) (d p : Nat) (m : KM4) (nl nc pi : Nat) (fo fa fp fq : Nat → Int32) (r : KW8) : Prop := r.1 = 0 ∧ ∃ q : Nat, r.2.2.1 = nI q ∧ KBad C tn0 3 p m fau nc nl pi d fo fa fp fq q
/-- a part: nothing of it waits -/
noncomputable def KPrt (C : KC_) (P : Int → Prop) (fau tn0 : Int32) (tn : Int32) (t d p : Nat) (m : KM4) (us nl nc pi w : Nat) (fc fo fa fp fq : Nat → Int32) (r : KW8) : Prop :=
  ∃ (p' : Nat) (c' : KT4) (m' : KM4) (us' nl' n1 : Nat) (fc' fo1 fa1 fp1 fq1 : Nat → Int32),
    r = (1, nI nl', c'.1, c'.2.1, c'.2.2.1, c'.2.2.2, nI us', fc') ∧ p < p' ∧ TkP C.1 C.2.2.1 p' c' m' ∧
    KGo C fau tn0 3 p m nc nl pi d fo fa fp fq tn t p' m' n1 nl' pi d fo1 fa1 fp1 fq1 ∧
    pi ≤ p' ∧ (∀ j, j < pi → fp1 j = fp j ∧ fq1 j = fq j) ∧ (∀ j, j < us → fc' j = fc j) ∧ (∀ j, j < nc → fo1 j = fo j ∧ fa1 j = fa j) ∧
    (us ≤ us' ∧ nc ≤ n1 ∧ nl ≤ nl' ∧ nl' ≤ 50 ∧ us' + 2 * w ≤ 2 * p' ∧ n1 + w ≤ p' ∧ n1 ≤ p') ∧
    SE C.2.2.2.1 P 1 (nl' - nl) fc' us us' fo1 fa1 nc n1
noncomputable def SimPart (C : KC_) (Ep : KWf) (d : Nat) : Prop := ∀ (fau : Int32) (p : Nat) (c : KT4) (m : KM4) (us nl nc pi w : Nat) (fc fo fa fp fq : Nat → Int32), TkP C.1 C.2.2.1 p c m → us + 2 * w ≤ 2 * p → nc + w ≤ p → pi ≤ p → nl ≤ 50 → d ≤ 8 →
  KNot C fau 1 d p m nl nc pi fo fa fp fq (Ep (nI d) (klw C.2.2.2.1) (nI nl) (nI C.2.2.1) c.1 c.2.1 c.2.2.1 c.2.2.2 C.1 (nI us) fc) ∨
  KPrt C KA_ fau 1 3 2 d p m us nl nc pi w fc fo fa fp fq (Ep (nI d) (klw C.2.2.2.1) (nI nl) (nI C.2.2.1) c.1 c.2.1 c.2.2.1 c.2.2.2 C.1 (nI us) fc)
/-- signs that a sum goes on with -/
noncomputable def KSg (ti : Int32) : Prop := ti = 42 ∨ ti = 47 ∨ ti = 37 ∨ ti = 43 ∨ ti = 45
/-- what lies below is no operator of sums -/
noncomputable def KTop (fp : Nat → Int32) (pi : Nat) : Prop := pi = 0 ∨ ∃ o : Nat, 25 ≤ o ∧ o ≤ 32 ∧ fp (pi - 1) = nI o
noncomputable def SimSum (C : KC_) (Es : KWf) (d : Nat) : Prop := ∀ (fau : Int32) (p : Nat) (c : KT4) (m : KM4) (us nl nc pi w : Nat) (fc fo fa fp fq : Nat → Int32), TkP C.1 C.2.2.1 p c m → us + 2 * w ≤ 2 * p → nc + w ≤ p → pi ≤ p → nl ≤ 50 → d ≤ 8 → KTop fp pi →
  KNot C fau 1 d p m nl nc pi fo fa fp fq (Es (nI d) (klw C.2.2.2.1) (nI nl) (nI C.2.2.1) c.1 c.2.1 c.2.2.1 c.2.2.2 C.1 (nI us) fc) ∨
  (KRead C KA_ 5 fau 1 3 2 d p m us nl nc pi w fc fo fa fp fq 20 24 (Es (nI d) (klw C.2.2.2.1) (nI nl) (nI C.2.2.1) c.1 c.2.1 c.2.2.1 c.2.2.2 C.1 (nI us) fc) ∧ ¬ KSg (Es (nI d) (klw C.2.2.2.1) (nI nl) (nI C.2.2.1) c.1 c.2.1 c.2.2.1 c.2.2.2 C.1 (nI us) fc).2.2.2.2.1)
end
section
/-! a part -/
theorem emit_at {us : Nat} {x y : Int32} {fc : Nat → Int32} (h : us + 1 < 800) : E_w_emit x y (nI us) fc = (nI us, nI (us + 2), upd (upd fc us x) (us + 1) y) := by
  simp only [E_w_emit, Lt]
  rw [kn_p1 (by omega), kn_p2 (by omega), if_pos (kn_ltl (j := 800) rfl (by omega) h), kn_cl (by omega), kn_cl (by omega), kn_m2 (by omega) (by omega), show us + 2 - 2 = us by omega]
theorem mz_lt {p p' t t' : Nat} (h : p < p') (hp : p' ≤ 400) (ht : t' ≤ 3) : mz p' t' < mz p t := by unfold mz; omega
/-- the token that comes next, on both sides -/
theorem tk_next {C : KC_} (hC : KCok C) {p : Nat} {c : KT4} {m : KM4} (h : TkP C.1 C.2.2.1 p c m) : ∃ q, p ≤ q ∧ (p < C.2.2.1 → p < q) ∧ TkP C.1 C.2.2.1 q (E_w_step (nI C.2.2.1) c.1 c.2.1 c.2.2.1 c.2.2.2 C.1) (E_v_next (nI C.2.2.1) m.1 m.2.1 m.2.2.1 m.2.2.2 C.2.1) :=
  TkP.next (fr2 := c.1) (fi2 := c.2.2.1) (nu2 := c.2.2.2) (fr3 := m.1) (so3 := m.2.2.1) (wo3 := m.2.2.2) (tf := c.1) (tt := c.2.1) (ti := c.2.2.1) (tu := c.2.2.2) (fr := m.1) (to := m.2.1) (so := m.2.2.1) (wo := m.2.2.2) h hC.2.1 (a := (E_w_step (nI C.2.2.1) c.1 c.2.1 c.2.2.1 c.2.2.2 C.1).1) (b := (E_w_step (nI C.2.2.1) c.1 c.2.1 c.2.2.1 c.2.2.2 C.1).2.1) (c := (E_w_step (nI C.2.2.1) c.1 c.2.1 c.2.2.1 c.2.2.2 C.1).2.2.1) (d := (E_w_step (nI C.2.2.1) c.1 c.2.1 c.2.2.1 c.2.2.2 C.1).2.2.2) (a' := (E_v_next (nI C.2.2.1) m.1 m.2.1 m.2.2.1 m.2.2.2 C.2.1).1) (b' := (E_v_next (nI C.2.2.1) m.1 m.2.1 m.2.2.1 m.2.2.2 C.2.1).2.1) (c' := (E_v_next (nI C.2.2.1) m.1 m.2.1 m.2.2.1 m.2.2.2 C.2.1).2.2.1) (d' := (E_v_next (nI C.2.2.1) m.1 m.2.1 m.2.2.1 m.2.2.2 C.2.1).2.2.2) rfl rfl
theorem kod_0 {o : Nat} (h : o ≤ 1) : (o = 0 ∧ kod o = 0 ∧ klw o = 1) ∨ (o = 1 ∧ kod o = 1 ∧ klw o = 0) := by
  unfold kod klw
  by_cases c : o = 0
  · rw [if_pos c, if_pos c]; exact Or.inl ⟨c, rfl, rfl⟩
  · rw [if_neg c, if_neg c]; exact Or.inr ⟨by omega, rfl, rfl⟩
/-- the word that a token is in the language that is read -/
theorem tk_word {C : KC_} (hC : KCok C) {p : Nat} {c : KT4} {m : KM4} (h : TkP C.1 C.2.2.1 p c m) : (∃ i, i < 9 ∧ (C.2.2.2.1 = 1 → i < 8) ∧ p < C.2.2.1 ∧ m.2.2.1 = 1 ∧ E_w_find (if klw C.2.2.2.1 = 0 then 12 else 11) (nI C.2.2.1) c.1 c.2.1 c.2.2.1 c.2.2.2 C.1 = nI i ∧ (if kod C.2.2.2.1 = 0 then E_v_partAt m.2.2.1 m.2.2.2 C.2.2.2.2.1 else E_v_orderPartAt m.2.2.1 m.2.2.2 C.2.2.2.2.2.1) = nI (i + 1)) ∨ (E_w_find (if klw C.2.2.2.1 = 0 then 12 else 11) (nI C.2.2.1) c.1 c.2.1 c.2.2.1 c.2.2.2 C.1 = -1 ∧ (if kod C.2.2.2.1 = 0 then E_v_partAt m.2.2.1 m.2.2.2 C.2.2.2.2.1 else E_v_orderPartAt m.2.2.1 m.2.2.2 C.2.2.2.2.2.1) = -1) := by
  obtain ⟨_, _, h3, h4, h5⟩ := hC
  rcases kod_0 h3 with ⟨o1, o2, o3⟩ | ⟨o1, o2, o3⟩
  · rw [o2, o3, if_neg (by decide), if_pos rfl]
    rcases tk_lawword (tf := c.1) (tt := c.2.1) (ti := c.2.2.1) (tu := c.2.2.2) (fr := m.1) (to := m.2.1) (so := m.2.2.1) (wo := m.2.2.2) h4 h (nI C.2.2.1) with ⟨i, i1, i2, i3, i4, i5⟩ | q
    · exact Or.inl ⟨i, i1, fun q => by omega, i2, i3, i4, i5⟩
    · exact Or.inr q
  · rw [o2, o3, if_pos rfl, if_neg (by decide)]
    rcases tk_ordword (tf := c.1) (tt := c.2.1) (ti := c.2.2.1) (tu := c.2.2.2) (fr := m.1) (to := m.2.1) (so := m.2.2.1) (wo := m.2.2.2) h5 h (nI C.2.2.1) with ⟨i, i1, i2, i3, i4, i5⟩ | q
    · exact Or.inl ⟨i, by omega, fun _ => i1, i2, i3, i4, i5⟩
    · exact Or.inr q
theorem aF67 : ∀ i, i < 3 → aF 6 i = nI (5 + 8 * i) ∧ aF 7 i = if i = 2 then nI 6 else nI 7 := by decide
end
section
theorem z32 {c : Int32} {x : Int} (h : c.toInt = x) (hz : x < 0) : c < 0 := il_iff.mpr (by have z : (0 : Int32).toInt = 0 := rfl; omega)
/-- a leaf of the code: one word, or number, on both sides -/
theorem leaf_go {C : KC_} {fau : Int32} {p p' d nc nl pi : Nat} {m m' : KM4} {fo fa fp fq : Nat → Int32} {y z : Int32} (hp : p < p') (hp2 : p' ≤ 400) (h : E_v_readPart C.2.2.2.2.2.2.2.1 C.2.2.2.2.2.2.2.2 (nI C.2.2.1) m.1 m.2.1 m.2.2.1 m.2.2.2 fau 0 (kod C.2.2.2.1) (nI nc) (nI nl) (nI pi) (nI d) C.2.1 fo fa fp fq C.2.2.2.2.1 C.2.2.2.2.2.1 = (3, m'.1, m'.2.1, m'.2.2.1, m'.2.2.2, fau, 0, nI (nc + 1), nI (nl + 1), nI pi, nI d, upd fo nc y, upd fa nc z, fp, fq)) : KGo C fau 1 3 p m nc nl pi d fo fa fp fq 3 2 p' m' (nc + 1) (nl + 1) pi d (upd fo nc y) (upd fa nc z) fp fq :=
  KGo.one (mz_lt hp hp2 (by omega)) (fun F => by rw [kL_part h])
theorem leaf_read {C : KC_} {fau : Int32} {p p' d nc nl pi us w : Nat} {c' : KT4} {m m' : KM4} {fc fo fa fp fq : Nat → Int32} {x1 x2 y z : Int32} (hp : p < p') (hT : TkP C.1 C.2.2.1 p' c' m') (hus : us + 2 * w ≤ 2 * p) (hnc : nc + w ≤ p) (hpi : pi ≤ p) (hnl : nl < 50) (h : E_v_readPart C.2.2.2.2.2.2.2.1 C.2.2.2.2.2.2.2.2 (nI C.2.2.1) m.1 m.2.1 m.2.2.1 m.2.2.2 fau 0 (kod C.2.2.2.1) (nI nc) (nI nl) (nI pi) (nI d) C.2.1 fo fa fp fq C.2.2.2.2.1 C.2.2.2.2.2.1 = (3, m'.1, m'.2.1, m'.2.2.1, m'.2.2.2, fau, 0, nI (nc + 1), nI (nl + 1), nI pi, nI d, upd fo nc y, upd fa nc z, fp, fq)) (hs : SE C.2.2.2.1 KA_ 1 1 (upd (upd fc us x1) (us + 1) x2) us (us + 2) (upd fo nc y) (upd fa nc z) nc (nc + 1)) : KPrt C KA_ fau 1 3 2 d p m us nl nc pi w fc fo fa fp fq (1, nI (nl + 1), c'.1, c'.2.1, c'.2.2.1, c'.2.2.2, nI (us + 2), upd (upd fc us x1) (us + 1) x2) := by
  have hL := hT.2.1
  have hpL := hT.1
  refine ⟨p', c', m', us + 2, nl + 1, nc + 1, _, _, _, fp, fq, rfl, hp, hT, leaf_go hp (by omega) h, by omega, fun _ _ => ⟨rfl, rfl⟩, fun j hj => ?_, fun j hj => ?_, ⟨by omega, by omega, by omega, by omega, by omega, by omega, by omega⟩, ?_⟩
  · rw [upd_n (by omega), upd_n (by omega)]
  · exact ⟨upd_n (by omega), upd_n (by omega)⟩
  · rw [show nl + 1 - nl = 1 by omega]; exact hs
/-- A PART IS READ ALIKE -/
theorem sim_part {C : KC_} (hC : KCok C) {Es : KWf} {d : Nat} (hS : d < 8 → SimSum C Es (d + 1)) : SimPart C (fun d lw pa ln tf tt ti tu fb us fc => E_w_part Es d lw pa ln tf tt ti tu fb us fc) d := by
  intro fau p c m us nl nc pi w fc fo fa fp fq hT hus hnc hpi hnl hd
  show KNot C fau 1 d p m nl nc pi fo fa fp fq (E_w_part Es (nI d) (klw C.2.2.2.1) (nI nl) (nI C.2.2.1) c.1 c.2.1 c.2.2.1 c.2.2.2 C.1 (nI us) fc) ∨ KPrt C KA_ fau 1 3 2 d p m us nl nc pi w fc fo fa fp fq (E_w_part Es (nI d) (klw C.2.2.2.1) (nI nl) (nI C.2.2.1) c.1 c.2.1 c.2.2.1 c.2.2.2 C.1 (nI us) fc)
  have hL := hT.2.1
  have hpL := hT.1
  have fr := TkP.froms (tf := c.1) (tt := c.2.1) (ti := c.2.2.1) (tu := c.2.2.2) (fr := m.1) (to := m.2.1) (so := m.2.2.1) (wo := m.2.2.2) hT
  obtain ⟨q, q1, q2, hQ⟩ := tk_next hC hT
  have hqL := hQ.1
  rw [E_w_part.eq_def]
  rcases tk_sign (c := 91) (tf := c.1) (tt := c.2.1) (ti := c.2.2.1) (tu := c.2.2.2) (fr := m.1) (to := m.2.1) (so := m.2.2.1) (wo := m.2.2.2) (by decide) hT with ⟨s1, s2, s3⟩ | ⟨s1, s2⟩
  · -- "["
    rw [if_pos s1]
    by_cases cd : d < 8
    case neg =>
      rw [if_neg (kn_nltl (j := 8) rfl (by omega) (by omega))]
      obtain ⟨a, b, e, g, h1, h2, h3, h4, hr⟩ := rp_open_n (go := C.2.2.2.2.2.2.2.1) (ga := C.2.2.2.2.2.2.2.2) (ft := C.2.1) (fo := fo) (fa := fa) (fp := fp) (fq := fq) (wd := C.2.2.2.2.1) (we := C.2.2.2.2.2.1) (ta := nI C.2.2.1) (fr := m.1) (to := m.2.1) (fau := fau) (od := kod C.2.2.2.1) (nc := nI nc) (nl := nI nl) (pi := nI pi) s2 (show 8 ≤ d by omega) (by omega)
      exact Or.inl ⟨rfl, p, fr.1, KBad.one (fun F => ⟨_, _, _, _, _, _, _, _, _, _, _, _, _, by rw [kL_part hr, fr.2.1]⟩)⟩
    rw [if_pos (kn_ltl (j := 8) rfl (by omega) cd)]
    have qp : p < q := q2 s3
    have ho := rp_open (go := C.2.2.2.2.2.2.2.1) (ga := C.2.2.2.2.2.2.2.2) (ft := C.2.1) (fo := fo) (fa := fa) (fp := fp) (fq := fq) (wd := C.2.2.2.2.1) (we := C.2.2.2.2.2.1) (ta := nI C.2.2.1) (fr := m.1) (to := m.2.1) (fau := fau) (od := kod C.2.2.2.1) (nc := nI nc) (nl := nI nl) s2 (show pi < 1000 by omega) cd
    have g1 : KGo C fau 1 3 p m nc nl pi d fo fa fp fq 1 3 q (E_v_next (nI C.2.2.1) m.1 m.2.1 m.2.2.1 m.2.2.2 C.2.1) nc nl (pi + 1) (d + 1) fo fa (upd fp pi (nI 32)) (upd fq pi 0) :=
      KGo.one (mz_lt qp (by omega) (by omega)) (fun F => by rw [kL_part ho])
    have ss := hS cd fau q _ _ us nl nc (pi + 1) w fc fo fa (upd fp pi (nI 32)) (upd fq pi 0) hQ (by omega) (by omega) (by omega) hnl (by omega) (Or.inr ⟨32, by omega, by omega, by rw [show pi + 1 - 1 = pi by omega, upd_s]⟩)
    simp only [Lt2, Lt]
    rw [kn_p1 (by omega)]
    generalize hR : Es (nI (d + 1)) (klw C.2.2.2.1) (nI nl) (nI C.2.2.1) (E_w_step (nI C.2.2.1) c.1 c.2.1 c.2.2.1 c.2.2.2 C.1).1 (E_w_step (nI C.2.2.1) c.1 c.2.1 c.2.2.1 c.2.2.2 C.1).2.1 (E_w_step (nI C.2.2.1) c.1 c.2.1 c.2.2.1 c.2.2.2 C.1).2.2.1 (E_w_step (nI C.2.2.1) c.1 c.2.1 c.2.2.1 c.2.2.2 C.1).2.2.2 C.1 (nI us) fc = R at ss ⊢
    rcases ss with ⟨n1, q', n2, n3⟩ | ⟨⟨p', c', m', us', nl', k1, pi1, k2, fc', fo1, fa1, fp1, fq1, fo2, fa2, e1, e2, e3, e4, e5, e6, e7, e8, e9⟩, nsg⟩
    · rw [if_pos n1]
      exact Or.inl ⟨rfl, q', n2, g1.bad n3⟩
    · subst e1
      rw [if_neg (show ¬ (1 : Int32) = 0 by decide)]
      have fr' := TkP.froms (tf := c'.1) (tt := c'.2.1) (ti := c'.2.2.1) (tu := c'.2.2.2) (fr := m'.1) (to := m'.2.1) (so := m'.2.2.1) (wo := m'.2.2.2) e3
      have hL' := e3.1
      have nsg : ¬ KSg c'.2.2.1 := nsg
      have sg : ∀ z : Int32, (z = 42 ∨ z = 47 ∨ z = 37 ∨ z = 43 ∨ z = 45) → E_v_isSign z m'.2.2.1 m'.2.2.2 = 0 := by
        intro z hz
        have hc : 0 ≤ z.toInt ∧ ¬ (97 ≤ z.toInt ∧ z.toInt ≤ 122) ∧ ¬ (48 ≤ z.toInt ∧ z.toInt ≤ 57) := by
          rcases hz with rfl | rfl | rfl | rfl | rfl <;> decide
        rcases tk_sign (c := z) (tf := c'.1) (tt := c'.2.1) (ti := c'.2.2.1) (tu := c'.2.2.2) (fr := m'.1) (to := m'.2.1) (so := m'.2.2.1) (wo := m'.2.2.2) hc e3 with ⟨t1, _⟩ | ⟨_, t2⟩
        · exact absurd (by rw [← t1] at hz; exact hz) nsg
        · exact t2
      have f32 : fp1 pi = nI 32 := by rw [(e5.2.2.1 pi (by omega)).1, upd_s]
      have inn : E_v_inner (nI pi1) fp1 = nI 32 := inner_top (by have := e5.2.1; omega) (by have := e5.1; omega) ⟨by omega, by omega⟩ f32 (fun j h1 h2 => by
        obtain ⟨o, o1, o2, o3⟩ := e5.2.2.2 j (by omega) h2
        exact ⟨o, by omega, o3⟩)
      obtain ⟨r, r1, r2, hR2⟩ := tk_next hC e3
      rcases tk_sign (c := 93) (tf := c'.1) (tt := c'.2.1) (ti := c'.2.2.1) (tu := c'.2.2.2) (fr := m'.1) (to := m'.2.1) (so := m'.2.2.1) (wo := m'.2.2.2) (by decide) e3 with ⟨t1, t2, t3⟩ | ⟨t1, t2⟩
      · rw [if_pos t1]
        have st : E_v_settle C.2.2.2.2.2.2.2.1 C.2.2.2.2.2.2.2.2 5 (nI k1) (nI pi1) fo1 fa1 fp1 fq1 = (nI k2, nI (pi + 1), fo2, fa2) := by
          rw [show (5 : Int32) = nI 5 from rfl, settle_at (by have := e5.2.1; omega), e6 5 (Nat.le_refl _)]
          exact kst_stop (o := 32) (by omega) (by omega) (by omega) f32 (by decide)
        have bs : E_v_behindSum C.2.2.2.2.2.2.2.1 C.2.2.2.2.2.2.2.2 C.2.2.2.2.2.2.1 (nI C.2.2.1) m'.1 m'.2.1 m'.2.2.1 m'.2.2.2 fau 0 (nI k1) (nI nl') (nI pi1) (nI (d + 1)) C.2.1 fo1 fa1 fp1 fq1 = (3, (E_v_next (nI C.2.2.1) m'.1 m'.2.1 m'.2.2.1 m'.2.2.2 C.2.1).1, (E_v_next (nI C.2.2.1) m'.1 m'.2.1 m'.2.2.1 m'.2.2.2 C.2.1).2.1, (E_v_next (nI C.2.2.1) m'.1 m'.2.1 m'.2.2.1 m'.2.2.2 C.2.1).2.2.1, (E_v_next (nI C.2.2.1) m'.1 m'.2.1 m'.2.2.1 m'.2.2.2 C.2.1).2.2.2, fau, 0, nI k2, nI pi, nI d, fo2, fa2, fp1, fq1) := by
          rw [E_v_behindSum.eq_def, Lt_b, if_neg (by rw [sg 43 (by decide)]; decide), Lt_b, if_neg (by rw [sg 45 (by decide)]; decide), Lt_b, if_neg (by rw [sg 42 (by decide)]; decide), Lt_b, if_neg (by rw [sg 47 (by decide)]; decide), Lt_b, if_neg (by rw [sg 37 (by decide)]; decide), Lt_b, if_pos (show E_v_inner (nI pi1) fp1 = 32 from inn), Lt_b, if_pos t2, must_1]
          simp only [Lt2, Lt]
          rw [if_pos (by trivial), st, kn_m1 (a := pi + 1) (by omega) (by omega), kn_m1 (a := d + 1) (by omega) (by omega)]
          rfl
        have g2 : KGo C fau 3 2 p' m' k1 nl' pi1 (d + 1) fo1 fa1 fp1 fq1 3 2 r (E_v_next (nI C.2.2.1) m'.1 m'.2.1 m'.2.2.1 m'.2.2.2 C.2.1) k2 nl' pi d fo2 fa2 fp1 fq1 :=
          KGo.one (mz_lt (r2 t3) (by have := hR2.1; omega) (by omega)) (fun F => by rw [kL_sum bs])
        have rp := r2 t3
        refine Or.inr ⟨r, _, _, us', nl', k2, fc', fo2, fa2, fp1, fq1, rfl, by omega, hR2, (g1.trans e4).trans g2, by omega, fun j hj => ?_, e7.1, e7.2, ⟨e8.1, e8.2.1, e8.2.2.1, e8.2.2.2.1, by omega, by omega, by omega⟩, e9⟩
        have := e5.2.2.1 j (by omega)
        rw [upd_n (by omega), upd_n (by omega)] at this
        exact this
      · rw [if_neg t1]
        have bs : ∃ a b e g h1 h2 h3, E_v_behindSum C.2.2.2.2.2.2.2.1 C.2.2.2.2.2.2.2.2 C.2.2.2.2.2.2.1 (nI C.2.2.1) m'.1 m'.2.1 m'.2.2.1 m'.2.2.2 fau 0 (nI k1) (nI nl') (nI pi1) (nI (d + 1)) C.2.1 fo1 fa1 fp1 fq1 = (3, m'.1, m'.2.1, m'.2.2.1, m'.2.2.2, m'.1, 1, a, b, e, g, h1, h2, h3) := by
          rw [E_v_behindSum.eq_def, Lt_b, if_neg (by rw [sg 43 (by decide)]; decide), Lt_b, if_neg (by rw [sg 45 (by decide)]; decide), Lt_b, if_neg (by rw [sg 42 (by decide)]; decide), Lt_b, if_neg (by rw [sg 47 (by decide)]; decide), Lt_b, if_neg (by rw [sg 37 (by decide)]; decide), Lt_b, if_pos (show E_v_inner (nI pi1) fp1 = 32 from inn), Lt_b, if_neg (by rw [t2]; decide), must_0]
          simp only [Lt2, Lt]
          rw [if_neg (by decide)]
          exact ⟨_, _, _, _, _, _, _, rfl⟩
        obtain ⟨a, b, e, g, h1, h2, h3, hb⟩ := bs
        refine Or.inl ⟨rfl, p', fr'.1, (g1.trans e4).bad (KBad.one (fun F => ⟨_, _, _, _, _, _, _, _, _, _, _, _, _, by rw [kL_sum hb, fr'.2.1]⟩))⟩
  · -- no bracket
    rw [if_neg s1]
    have wd := tk_word hC hT
    have od01 := kod_0 hC.2.2.1
    have od01' : kod C.2.2.2.1 = 0 ∨ kod C.2.2.2.1 = 1 := by rcases od01 with h | h; exact Or.inl h.2.1; exact Or.inr h.2.1
    by_cases cl : 50 ≤ nl
    · rw [if_pos (kn_lel (j := 50) rfl (by omega) cl)]
      obtain ⟨a, b, e, g, h1, h2, h3, h4, hr⟩ := rp_full (go := C.2.2.2.2.2.2.2.1) (ga := C.2.2.2.2.2.2.2.2) (ft := C.2.1) (fo := fo) (fa := fa) (fp := fp) (fq := fq) (wd := C.2.2.2.2.1) (we := C.2.2.2.2.2.1) (ta := nI C.2.2.1) (fr := m.1) (to := m.2.1) (fau := fau) (od := kod C.2.2.2.1) (nc := nI nc) (pi := nI pi) (opn := nI d) s2 od01' (by rcases wd with ⟨i, i1, _, _, i4, _, i6⟩ | ⟨_, i6⟩; exact Or.inr ⟨i4, i, by omega, i6⟩; exact Or.inl i6) cl (by omega)
      exact Or.inl ⟨rfl, p, fr.1, KBad.one (fun F => ⟨_, _, _, _, _, _, _, _, _, _, _, _, _, by rw [kL_part hr, fr.2.1]⟩)⟩
    rw [if_neg (kn_nlel (j := 50) rfl (by omega) (by omega))]
    have none : (if kod C.2.2.2.1 = 0 then E_v_partAt m.2.2.1 m.2.2.2 C.2.2.2.2.1 else E_v_orderPartAt m.2.2.1 m.2.2.2 C.2.2.2.2.2.1) = -1 → (m.2.2.1 ≠ 2 ∨ 1000 < m.2.2.2.toInt) → ∀ r : KW8, r.1 = 0 → r.2.2.1 = c.1 → KNot C fau 1 d p m nl nc pi fo fa fp fq r := by
      intro hn h2 r r1 r2
      obtain ⟨a, b, e, g, h1, h2, h3, h4, hr⟩ := rp_none (go := C.2.2.2.2.2.2.2.1) (ga := C.2.2.2.2.2.2.2.2) (ft := C.2.1) (fo := fo) (fa := fa) (fp := fp) (fq := fq) (ta := nI C.2.2.1) (fr := m.1) (to := m.2.1) (fau := fau) (nc := nI nc) (nl := nI nl) (pi := nI pi) (opn := nI d) s2 hn h2
      exact ⟨r1, p, r2.trans fr.1, KBad.one (fun F => ⟨_, _, _, _, _, _, _, _, _, _, _, _, _, by rw [kL_part hr, fr.2.1]⟩)⟩
    have z1 : (1000 : Int32).toInt = 1000 := rfl
    have zm : (-1 : Int32).toInt = -1 := rfl
    rcases tk_num (tf := c.1) (tt := c.2.1) (ti := c.2.2.1) (tu := c.2.2.2) (fr := m.1) (to := m.2.1) (so := m.2.2.1) (wo := m.2.2.2) hT with ⟨n0, n1, _, _, n4, n5⟩ | ⟨n1, n2⟩
    · have hn : (if kod C.2.2.2.1 = 0 then E_v_partAt m.2.2.1 m.2.2.2 C.2.2.2.2.1 else E_v_orderPartAt m.2.2.1 m.2.2.2 C.2.2.2.2.2.1) = -1 := by
        rcases wd with ⟨i, _, _, _, i4, _, _⟩ | ⟨_, i6⟩
        · exact absurd (i4.symm.trans n1) (by decide)
        · exact i6
      by_cases ct : c.2.2.2 ≤ 1000
      · have ct2 := ie_iff.mp ct
        rw [if_pos ct, Lt_b, if_neg (fun h => by rw [h] at n4; omega), emit_at (by omega)]
        simp only [Lt2]
        rw [kn_p1 (by omega)]
        have wv : m.2.2.2.toInt = c.2.2.2.toInt := by omega
        have wt : m.2.2.2.toInt32 = c.2.2.2 := Int32.toInt_inj.mp (by rw [l_nar (Eq.refl m.2.2.2.toInt) (by omega)]; exact wv)
        have hr := rp_num (go := C.2.2.2.2.2.2.2.1) (ga := C.2.2.2.2.2.2.2.2) (ft := C.2.1) (fo := fo) (fa := fa) (fp := fp) (fq := fq) (ta := nI C.2.2.1) (fr := m.1) (to := m.2.1) (fau := fau) (pi := nI pi) (opn := nI d) (nc := nc) (nl := nl) s2 hn n1 (by omega) (by omega) (by omega)
        rw [wt] at hr
        refine Or.inr (leaf_read (q2 n0) hQ hus hnc hpi (by omega) hr ?_)
        refine SE.num (by omega) (by omega) ?_ upd_s ?_ ?_
        · rw [upd_n (by omega), upd_s]
        · rw [upd_s, upd_s]
        · rw [upd_s]; omega
      · have ct2 : ¬ c.2.2.2.toInt ≤ (1000 : Int32).toInt := fun q => ct (ie_iff.mpr q)
        rw [if_neg ct]
        exact Or.inl (none hn (Or.inr (by omega)) _ rfl rfl)
    · rw [if_pos (show c.2.2.2 ≤ 1000 by rw [n2]; decide), Lt_b, if_pos n2]
      have pre : ∀ {z : Int32}, klw C.2.2.2.1 = z → klw C.2.2.2.1 = z := fun h => h
      rcases od01 with ⟨o1, o2, o3⟩ | ⟨o1, o2, o3⟩
      · -- a law
        rw [o3, if_neg (by decide)] at wd ⊢
        rw [Lt_b]
        rcases wd with ⟨i, i1, _, i3, i4, i5, i6⟩ | ⟨i5, i6⟩
        · have i9 : ¬ nI i = -1 := fun h => by have := congrArg Int32.toInt h; rw [nI_toInt (by omega)] at this; omega
          rw [i5, if_neg i9]
          simp only [Lt2]
          rw [if_neg (by decide), E_w_part_j241.eq_def, emit_at (by omega)]
          simp only [Lt2]
          rw [kn_p1 (by omega)]
          have hr := rp_word (go := C.2.2.2.2.2.2.2.1) (ga := C.2.2.2.2.2.2.2.2) (ft := C.2.1) (fo := fo) (fa := fa) (fp := fp) (fq := fq) (ta := nI C.2.2.1) (fr := m.1) (to := m.2.1) (fau := fau) (pi := nI pi) (opn := nI d) (nc := nc) (nl := nl) s2 (show i < 10 by omega) i6 i4 (Or.inl o2) (by omega) (by omega)
          refine Or.inr (leaf_read (q2 i3) hQ hus hnc hpi (by omega) hr ?_)
          refine SE.word (by omega) (by omega) (by rw [upd_n (by omega), upd_s]) ?_
          rw [upd_s, upd_s]
          unfold KL
          rw [if_pos o1]
          exact ⟨i, i1, rfl, rfl⟩
        · rw [i5, if_pos rfl]
          exact Or.inl (none i6 (Or.inl n1) _ rfl rfl)
      · -- orders
        rw [o3, if_pos rfl] at wd ⊢
        rw [Lt_b]
        rcases wd with ⟨i, i1, i1', i3, i4, i5, i6⟩ | ⟨i5, i6⟩
        case inr =>
          rw [i5, if_pos rfl]
          exact Or.inl (none i6 (Or.inl n1) _ rfl rfl)
        have i8 : i < 8 := i1' o1
        have i9 : ¬ nI i = -1 := fun h => by have := congrArg Int32.toInt h; rw [nI_toInt (by omega)] at this; omega
        rw [i5, if_neg i9]
        simp only [Lt2, Lt]
        rw [if_pos (by trivial)]
        have x5 : (nI i - 5).toInt = (i : Int) - 5 := i_sub (nI_toInt (by omega)) (show (5 : Int32).toInt = 5 from rfl) (by omega)
        by_cases c5 : i < 5
        · rw [if_pos (z32 x5 (by omega)), E_w_part_j241.eq_def, emit_at (by omega)]
          simp only [Lt2]
          rw [kn_p1 (by omega)]
          have hr := rp_word (go := C.2.2.2.2.2.2.2.1) (ga := C.2.2.2.2.2.2.2.2) (ft := C.2.1) (fo := fo) (fa := fa) (fp := fp) (fq := fq) (ta := nI C.2.2.1) (fr := m.1) (to := m.2.1) (fau := fau) (pi := nI pi) (opn := nI d) (nc := nc) (nl := nl) s2 (show i < 10 by omega) i6 i4 (Or.inr c5) (by omega) (by omega)
          refine Or.inr (leaf_read (q2 i3) hQ hus hnc hpi (by omega) hr ?_)
          refine SE.word (by omega) (by omega) (by rw [upd_n (by omega), upd_s]) ?_
          rw [upd_s, upd_s]
          unfold KL
          rw [if_neg (by omega)]
          exact Or.inl ⟨i, c5, rfl, rfl⟩
        · have x5n : nI i - 5 = nI (i - 5) := Int32.toInt_inj.mp (by rw [x5, nI_toInt (by omega)]; omega)
          rw [x5n, if_neg (kn_nl (by omega)), if_neg (kn_nlel (j := 3) rfl (by omega) (by omega)), kn_cl (by omega)]
          rw [if_neg (by rw [o2]; decide)] at i6
          obtain ⟨a6, a7⟩ := aF67 (i - 5) (by omega)
          have hr := rp_tell (go := C.2.2.2.2.2.2.2.1) (ga := C.2.2.2.2.2.2.2.2) (ft := C.2.1) (fo := fo) (fa := fa) (fp := fp) (fq := fq) (wd := C.2.2.2.2.1) (ta := nI C.2.2.1) (fr := m.1) (to := m.2.1) (fau := fau) (pi := nI pi) (opn := nI d) (nc := nc) (nl := nl) s2 i8 i6 o2 i4 (by omega) (by omega) (by omega)
          have qp := q2 i3
          generalize hc1 : E_w_step (nI C.2.2.1) c.1 c.2.1 c.2.2.1 c.2.2.2 C.1 = c1 at hQ ⊢
          generalize hm1 : E_v_next (nI C.2.2.1) m.1 m.2.1 m.2.2.1 m.2.2.2 C.2.1 = m1 at hQ hr
          obtain ⟨s, s3, s4, hS2⟩ := tk_next hC hQ
          have fr1 := TkP.froms (tf := c1.1) (tt := c1.2.1) (ti := c1.2.2.1) (tu := c1.2.2.2) (fr := m1.1) (to := m1.2.1) (so := m1.2.2.1) (wo := m1.2.2.2) hQ
          have lim : aF 7 (i - 5) = nI (if i = 7 then 6 else 7) := by
            rw [a7]
            by_cases e : i = 7
            · rw [if_pos (by omega), if_pos e]
            · rw [if_neg (by omega), if_neg e]
          have limL : ((if i = 7 then 6 else 7 : Int64)).toInt = ((if i = 7 then 6 else 7 : Nat) : Int) := by
            by_cases e : i = 7
            · rw [if_pos e, if_pos e]; rfl
            · rw [if_neg e, if_neg e]; rfl
          have lt7 : (if i = 7 then 6 else 7 : Nat) ≤ 7 := by split <;> omega
          have zL : (0 : Int64).toInt = 0 := rfl
          have inq : E_v_in m1.2.2.2 0 (if i = 7 then 6 else 7) = 1 ↔ 0 ≤ m1.2.2.2.toInt ∧ m1.2.2.2.toInt ≤ ((if i = 7 then 6 else 7 : Nat) : Int) := by
            unfold E_v_in
            by_cases c0 : lg_cmp m1.2.2.2 0 < 0
            · have c1 := jl_iff.mp ((lg_cmp_lt _ _).mp c0)
              rw [if_pos c0]; exact ⟨fun h => absurd h (by decide), fun h => by omega⟩
            · have c1 : ¬ m1.2.2.2.toInt < (0 : Int64).toInt := fun h => c0 ((lg_cmp_lt _ _).mpr (jl_iff.mpr h))
              rw [if_neg c0]
              by_cases d0 : 0 < lg_cmp m1.2.2.2 (if i = 7 then 6 else 7)
              · have d1 := jl_iff.mp ((lg_cmp_gt _ _).mp d0)
                rw [if_pos d0]; exact ⟨fun h => absurd h (by decide), fun h => by omega⟩
              · have d1 : ¬ (if i = 7 then 6 else 7 : Int64).toInt < m1.2.2.2.toInt := fun h => d0 ((lg_cmp_gt _ _).mpr (jl_iff.mpr h))
                rw [if_neg d0]; exact ⟨fun _ => by omega, fun _ => rfl⟩
          have bad : (m1.2.2.1 ≠ 2 ∨ E_v_in m1.2.2.2 0 (if i = 7 then 6 else 7) ≠ 1) → ∀ r : KW8, r.1 = 0 → r.2.2.1 = c1.1 → KNot C fau 1 d p m nl nc pi fo fa fp fq r := by
            intro hb r r1 r2
            rw [number_n hb] at hr
            exact ⟨r1, q, r2.trans fr1.1, KBad.one (fun F => ⟨_, _, _, _, _, _, _, _, _, _, _, _, _, by rw [kL_part hr, fr1.2.1]⟩)⟩
          rcases tk_num (tf := c1.1) (tt := c1.2.1) (ti := c1.2.2.1) (tu := c1.2.2.2) (fr := m1.1) (to := m1.2.1) (so := m1.2.2.1) (wo := m1.2.2.2) hQ with ⟨n0, n1, _, _, n4, n5⟩ | ⟨n1, n2⟩
          case inr =>
            rw [if_pos (show c1.2.2.2 < 0 by rw [n2]; decide)]
            exact Or.inl (bad (Or.inl n1) _ rfl rfl)
          rw [if_neg (fun h => by have := il_iff.mp h; have z : (0 : Int32).toInt = 0 := rfl; omega), lim]
          by_cases cm : c1.2.2.2 ≤ nI (if i = 7 then 6 else 7)
          · have cm2 := ie_iff.mp cm
            rw [nI_toInt (by omega)] at cm2
            have wv : m1.2.2.2.toInt = c1.2.2.2.toInt := by omega
            have wt : m1.2.2.2.toInt32 = c1.2.2.2 := Int32.toInt_inj.mp (by rw [l_nar (Eq.refl m1.2.2.2.toInt) (by omega)]; exact wv)
            rw [if_pos cm]
            rw [number_p n1 (inq.mpr (by omega)), wt] at hr
            rw [E_w_part_j241.eq_def, emit_at (by omega)]
            simp only [Lt2]
            rw [kn_p1 (by omega)]
            have sp := s4 n0
            have u2 : upd (upd fa nc 0) nc c1.2.2.2 = upd fa nc c1.2.2.2 := by
              funext j
              by_cases e : j = nc
              · rw [upd_e e, upd_e e]
              · rw [upd_n e, upd_n e, upd_n e]
            refine Or.inr (leaf_read (y := nI (i + 1)) (z := c1.2.2.2) (show p < s by omega) hS2 hus hnc hpi (by omega) (by rw [← u2]; exact hr) ?_)
            · refine SE.word (by omega) (by omega) (by rw [upd_n (by omega), upd_s]) ?_
              rw [upd_s, upd_s, upd_s, a6]
              obtain ⟨h, hh, hz⟩ : ∃ h : Nat, c1.2.2.2 = nI h ∧ (h : Int) = c1.2.2.2.toInt := ⟨c1.2.2.2.toInt.toNat, i_ofN rfl n4, by omega⟩
              have hb : h ≤ (if i = 7 then 6 else 7 : Nat) := by omega
              have ad : nI (5 + 8 * (i - 5)) + nI h = nI (5 + 8 * (i - 5) + h) := Int32.toInt_inj.mp (by rw [i_add (nI_toInt (by omega)) (nI_toInt (by omega)) (by omega), nI_toInt (by omega)]; omega)
              rw [hh, ad]
              unfold KL
              rw [if_neg (by omega)]
              rcases (show i = 5 ∨ i = 6 ∨ i = 7 by omega) with rfl | rfl | rfl
              · exact Or.inr (Or.inl ⟨h, by have : h ≤ 7 := hb; omega, rfl, rfl, rfl⟩)
              · exact Or.inr (Or.inr (Or.inl ⟨h, by have : h ≤ 7 := hb; omega, rfl, rfl, rfl⟩))
              · exact Or.inr (Or.inr (Or.inr ⟨h, by have : h ≤ 6 := hb; omega, rfl, rfl, rfl⟩))
          · have cm2 : ¬ c1.2.2.2.toInt ≤ (nI (if i = 7 then 6 else 7)).toInt := fun h => cm (ie_iff.mpr h)
            rw [nI_toInt (by omega)] at cm2
            rw [if_neg cm]
            exact Or.inl (bad (Or.inr (fun h => by have := inq.mp h; omega)) _ rfl rfl)
end
section
/-! operators -/
theorem op_in {k n x0 : Nat} {tf tt ti tu ln : Int32} {fb : Nat → Int32} (hk : k < 13) (hn : sn k = n) (hx : x0 ≤ 100) (z : Int32 → (Int32 × Int32 × Int32 × Int32 × Int32)) : ∀ (d v F : Nat), v + d = n →
    (∃ i, v ≤ i ∧ i < n ∧ ti = sf k i ∧ (∀ j, v ≤ j → j < i → ti ≠ sf k j) ∧ Lp (E_w_operator_l2 k (nI x0) ln tf tt ti tu fb) z (F + d + 1) (nI v) = (nI (x0 + i), E_w_step ln tf tt ti tu fb)) ∨ ((∀ j, v ≤ j → j < n → ti ≠ sf k j) ∧ Lp (E_w_operator_l2 k (nI x0) ln tf tt ti tu fb) z (F + d + 1) (nI v) = (-1, tf, tt, ti, tu)) := by
  have h47 := sn_le k
  intro d
  induction d with
  | zero =>
    intro v F hv
    refine Or.inr ⟨fun j h1 h2 => by omega, ?_⟩
    rw [Lp_s, E_w_operator_l2.eq_def, Lt_b, sl_at k hk, if_pos ((kn_le (by omega) (by omega)).mpr (by omega))]
  | succ d ih =>
    intro v F hv
    have e : Lp (E_w_operator_l2 k (nI x0) ln tf tt ti tu fb) z (F + (d + 1) + 1) (nI v) = if ti = sf k v then (nI (x0 + v), E_w_step ln tf tt ti tu fb) else Lp (E_w_operator_l2 k (nI x0) ln tf tt ti tu fb) z (F + d + 1) (nI (v + 1)) := by
      have ha : nI x0 + nI v = nI (x0 + v) := Int32.toInt_inj.mp (by rw [i_add (nI_toInt (by omega)) (nI_toInt (by omega)) (by omega), nI_toInt (by omega)]; omega)
      rw [show F + (d + 1) + 1 = (F + d + 1) + 1 by omega, Lp_s, E_w_operator_l2.eq_def, Lt_b, sl_at k hk, if_neg (fun q => by have := (kn_le (by omega) (by omega)).mp q; omega), Lt_b, ch_at k hk v (by omega)]
      by_cases c : ti = sf k v
      · rw [if_pos c, if_pos c, Lt2_b, Lt2_b, Lt2_b, Lt_b, ha]
      · rw [if_neg c, if_neg c, Lt_b, kn_po (by omega)]
    rw [e]
    by_cases c : ti = sf k v
    · exact Or.inl ⟨v, Nat.le_refl _, by omega, c, fun j h1 h2 => by omega, by rw [if_pos c]⟩
    · rw [if_neg c]
      rcases ih (v + 1) F (by omega) with ⟨i, i1, i2, i3, i4, i5⟩ | ⟨i1, i2⟩
      · exact Or.inl ⟨i, by omega, i2, i3, fun j h1 h2 => by
          by_cases q : j = v
          · rw [q]; exact c
          · exact i4 j (by omega) h2, i5⟩
      · exact Or.inr ⟨fun j h1 h2 => by
          by_cases q : j = v
          · rw [q]; exact c
          · exact i1 j (by omega) h2, i2⟩
theorem op_at {k n x0 : Nat} {lw pa tf tt ti tu ln : Int32} {fb : Nat → Int32} (hk : k < 13) (hn : sn k = n) (hx : x0 ≤ 100) : (∃ i, i < n ∧ ti = sf k i ∧ E_w_operator k (nI x0) lw pa ln tf tt ti tu fb = (nI (x0 + i), E_w_step ln tf tt ti tu fb)) ∨ ((∀ j, j < n → ti ≠ sf k j) ∧ E_w_operator k (nI x0) lw pa ln tf tt ti tu fb = (-1, tf, tt, ti, tu)) := by
  have h47 := sn_le k
  have e : E_w_operator k (nI x0) lw pa ln tf tt ti tu fb = Lp (α := Int32 → (Int32 × Int32 × Int32 × Int32 × Int32)) (E_w_operator_l2 k (nI x0) ln tf tt ti tu fb) (fun _ => ((0, 0, 0, 0, 0) : Int32 × Int32 × Int32 × Int32 × Int32)) ((48 - n) + n + 1) (nI 0) := by
    rw [E_w_operator.eq_def, show 48 - n + n + 1 = (48 - (0 : Int32).toInt : Int).toNat + 1 by rw [show (0 : Int32).toInt = 0 from rfl]; omega]; rfl
  rw [e]
  rcases op_in (x0 := x0) (tf := tf) (tt := tt) (ti := ti) (tu := tu) (ln := ln) (fb := fb) hk hn hx (fun _ => ((0, 0, 0, 0, 0) : Int32 × Int32 × Int32 × Int32 × Int32)) n 0 (48 - n) (by omega) with ⟨i, _, i2, i3, _, i5⟩ | ⟨i1, i2⟩
  · exact Or.inl ⟨i, i2, i3, i5⟩
  · exact Or.inr ⟨fun j hj => i1 j (Nat.zero_le _) hj, i2⟩
/-- the sign of an operator of sums -/
noncomputable def kch (o : Nat) : Int32 := match o with
  | 20 => 43
  | 21 => 45
  | 22 => 42
  | 23 => 47
  | _ => 37
theorem kch_ok : ∀ o, 20 ≤ o → o ≤ 24 → 0 ≤ (kch o).toInt ∧ ¬ (97 ≤ (kch o).toInt ∧ (kch o).toInt ≤ 122) ∧ ¬ (48 ≤ (kch o).toInt ∧ (kch o).toInt ≤ 57) := by
  intro o h1 h2
  rcases (show o = 20 ∨ o = 21 ∨ o = 22 ∨ o = 23 ∨ o = 24 by omega) with rfl | rfl | rfl | rfl | rfl <;> decide
/-- behind a sum: an operator of sums -/
theorem bs_op {go ga ft fo fa fp fq fo' fa' : Nat → Int32} {x ta fr to so fau nl opn : Int32} {wo : Int64} {o nc pi nc' pi' : Nat} (ho : 20 ≤ o ∧ o ≤ 24) (hs : ∀ u, 20 ≤ u → u ≤ 24 → E_v_isSign (kch u) so wo = if u = o then 1 else 0) (hp : pi < 1000) (hp' : pi' < 1000) (hk : kst (kbd o) nc pi fo fa fp fq = (nI nc', nI pi', fo', fa')) : E_v_behindSum go ga x ta fr to so wo fau 0 (nI nc) nl (nI pi) opn ft fo fa fp fq = (1, (E_v_next ta fr to so wo ft).1, (E_v_next ta fr to so wo ft).2.1, (E_v_next ta fr to so wo ft).2.2.1, (E_v_next ta fr to so wo ft).2.2.2, fau, 0, nI nc', nI (pi' + 1), opn, fo', fa', upd fp pi' (nI o), upd fq pi' 0) := by
  have s0 : E_v_isSign 43 so wo = if 20 = o then 1 else 0 := hs 20 (by omega) (by omega)
  have s1 : E_v_isSign 45 so wo = if 21 = o then 1 else 0 := hs 21 (by omega) (by omega)
  have s2 : E_v_isSign 42 so wo = if 22 = o then 1 else 0 := hs 22 (by omega) (by omega)
  have s3 : E_v_isSign 47 so wo = if 23 = o then 1 else 0 := hs 23 (by omega) (by omega)
  have s4 : E_v_isSign 37 so wo = if 24 = o then 1 else 0 := hs 24 (by omega) (by omega)
  have b0 : E_v_binds 20 = nI 5 := binds_at (o := 20) (by omega)
  have b1 : E_v_binds 21 = nI 5 := binds_at (o := 21) (by omega)
  have b2 : E_v_binds 22 = nI 6 := binds_at (o := 22) (by omega)
  have b3 : E_v_binds 23 = nI 6 := binds_at (o := 23) (by omega)
  have b4 : E_v_binds 24 = nI 6 := binds_at (o := 24) (by omega)
  have stl : E_v_settle go ga (nI (kbd o)) (nI nc) (nI pi) fo fa fp fq = (nI nc', nI pi', fo', fa') := (settle_at (by omega)).trans hk
  rw [E_v_behindSum.eq_def, Lt_b, s0]
  rcases (show o = 20 ∨ o = 21 ∨ o = 22 ∨ o = 23 ∨ o = 24 by omega) with rfl | rfl | rfl | rfl | rfl
  · rw [if_pos (by decide), Lt_b, b0, show E_v_settle go ga (nI 5) (nI nc) (nI pi) fo fa fp fq = _ from stl]
    simp only [Lt2, Lt, E_v_push]
    rw [kn_cl (by omega), kn_p1 (by omega)]
    rfl
  · rw [if_neg (by decide), Lt_b, s1, if_pos (by decide), Lt_b, b1, show E_v_settle go ga (nI 5) (nI nc) (nI pi) fo fa fp fq = _ from stl]
    simp only [Lt2, Lt, E_v_push]
    rw [kn_cl (by omega), kn_p1 (by omega)]
    rfl
  · rw [if_neg (by decide), Lt_b, s1, if_neg (by decide), Lt_b, s2, if_pos (by decide), Lt_b, b2, show E_v_settle go ga (nI 6) (nI nc) (nI pi) fo fa fp fq = _ from stl]
    simp only [Lt2, Lt, E_v_push]
    rw [kn_cl (by omega), kn_p1 (by omega)]
    rfl
  · rw [if_neg (by decide), Lt_b, s1, if_neg (by decide), Lt_b, s2, if_neg (by decide), Lt_b, s3, if_pos (by decide), Lt_b, b3, show E_v_settle go ga (nI 6) (nI nc) (nI pi) fo fa fp fq = _ from stl]
    simp only [Lt2, Lt, E_v_push]
    rw [kn_cl (by omega), kn_p1 (by omega)]
    rfl
  · rw [if_neg (by decide), Lt_b, s1, if_neg (by decide), Lt_b, s2, if_neg (by decide), Lt_b, s3, if_neg (by decide), Lt_b, s4, if_pos (by decide), Lt_b, b4, show E_v_settle go ga (nI 6) (nI nc) (nI pi) fo fa fp fq = _ from stl]
    simp only [Lt2, Lt, E_v_push]
    rw [kn_cl (by omega), kn_p1 (by omega)]
    rfl
/-- what the token is of the operators of sums, on both sides -/
theorem tk_op {C : KC_} {p : Nat} {c : KT4} {m : KM4} (h : TkP C.1 C.2.2.1 p c m) : (∃ o, 20 ≤ o ∧ o ≤ 24 ∧ c.2.2.1 = kch o ∧ p < C.2.2.1 ∧ ∀ u, 20 ≤ u → u ≤ 24 → E_v_isSign (kch u) m.2.2.1 m.2.2.2 = if u = o then 1 else 0) ∨ ((∀ u, 20 ≤ u → u ≤ 24 → c.2.2.1 ≠ kch u) ∧ ∀ u, 20 ≤ u → u ≤ 24 → E_v_isSign (kch u) m.2.2.1 m.2.2.2 = 0) := by
  have inj : ∀ u, 20 ≤ u → u ≤ 24 → ∀ v, 20 ≤ v → v ≤ 24 → kch u = kch v → u = v := by
    intro u h1 h2 v h3 h4
    rcases (show u = 20 ∨ u = 21 ∨ u = 22 ∨ u = 23 ∨ u = 24 by omega) with rfl | rfl | rfl | rfl | rfl <;> rcases (show v = 20 ∨ v = 21 ∨ v = 22 ∨ v = 23 ∨ v = 24 by omega) with rfl | rfl | rfl | rfl | rfl <;> decide
  have sg := fun u (h1 : 20 ≤ u) (h2 : u ≤ 24) => tk_sign (c := kch u) (tf := c.1) (tt := c.2.1) (ti := c.2.2.1) (tu := c.2.2.2) (fr := m.1) (to := m.2.1) (so := m.2.2.1) (wo := m.2.2.2) (kch_ok u h1 h2) h
  by_cases q : ∃ o, 20 ≤ o ∧ o ≤ 24 ∧ c.2.2.1 = kch o
  · obtain ⟨o, o1, o2, o3⟩ := q
    have pl : p < C.2.2.1 := by
      rcases sg o o1 o2 with ⟨_, _, s3⟩ | ⟨s1, _⟩
      · exact s3
      · exact absurd o3 s1
    refine Or.inl ⟨o, o1, o2, o3, pl, fun u h1 h2 => ?_⟩
    rcases sg u h1 h2 with ⟨s1, s2, _⟩ | ⟨s1, s2⟩
    · rw [if_pos (inj u h1 h2 o o1 o2 (s1.symm.trans o3))]; exact s2
    · rw [if_neg (fun e => s1 (by rw [e]; exact o3))]; exact s2
  · refine Or.inr ⟨fun u h1 h2 e => q ⟨u, h1, h2, e⟩, fun u h1 h2 => ?_⟩
    rcases sg u h1 h2 with ⟨s1, _, _⟩ | ⟨_, s2⟩
    · exact absurd ⟨u, h1, h2, s1⟩ q
    · exact s2
end
section
/-! a sum -/
theorem op9_p {lw pa tf tt ti tu ln : Int32} {fb : Nat → Int32} {o : Nat} (h1 : 22 ≤ o) (h2 : o ≤ 24) (h : ti = kch o) : E_w_operator 9 5 lw pa ln tf tt ti tu fb = (nI (o - 17), E_w_step ln tf tt ti tu fb) := by
  have e : ∀ o, 22 ≤ o → o ≤ 24 → ∀ i, i < 3 → kch o = sf 9 i → i = o - 22 := by
    intro o h1 h2
    rcases (show o = 22 ∨ o = 23 ∨ o = 24 by omega) with rfl | rfl | rfl <;> decide
  have e2 : ∀ o, 22 ≤ o → o ≤ 24 → kch o = sf 9 (o - 22) := by
    intro o h1 h2
    rcases (show o = 22 ∨ o = 23 ∨ o = 24 by omega) with rfl | rfl | rfl <;> decide
  rw [show (5 : Int32) = nI 5 from rfl]
  rcases op_at (k := 9) (n := 3) (x0 := 5) (lw := lw) (pa := pa) (tf := tf) (tt := tt) (ti := ti) (tu := tu) (ln := ln) (fb := fb) (by omega) rfl (by omega) with ⟨i, i1, i2, i3⟩ | ⟨i1, _⟩
  · have := e o h1 h2 i i1 (h.symm.trans i2)
    rw [i3, show 5 + i = o - 17 by omega]
  · exact absurd (h.trans (e2 o h1 h2)) (i1 (o - 22) (by omega))
theorem op9_n {lw pa tf tt ti tu ln : Int32} {fb : Nat → Int32} (h : ∀ u, 22 ≤ u → u ≤ 24 → ti ≠ kch u) : E_w_operator 9 5 lw pa ln tf tt ti tu fb = (-1, tf, tt, ti, tu) := by
  rw [show (5 : Int32) = nI 5 from rfl]
  rcases op_at (k := 9) (n := 3) (x0 := 5) (lw := lw) (pa := pa) (tf := tf) (tt := tt) (ti := ti) (tu := tu) (ln := ln) (fb := fb) (by omega) rfl (by omega) with ⟨i, i1, i2, _⟩ | ⟨_, i2⟩
  · have e : ∀ i, i < 3 → sf 9 i = kch (22 + i) := by decide
    exact absurd (i2.trans (e i i1)) (h (22 + i) (by omega) (by omega))
  · exact i2
theorem op10_p {lw pa tf tt ti tu ln : Int32} {fb : Nat → Int32} {o : Nat} (h1 : 20 ≤ o) (h2 : o ≤ 21) (h : ti = kch o) : E_w_operator 10 3 lw pa ln tf tt ti tu fb = (nI (o - 17), E_w_step ln tf tt ti tu fb) := by
  have e : ∀ o, 20 ≤ o → o ≤ 21 → ∀ i, i < 2 → kch o = sf 10 i → i = o - 20 := by
    intro o h1 h2
    rcases (show o = 20 ∨ o = 21 by omega) with rfl | rfl <;> decide
  have e2 : ∀ o, 20 ≤ o → o ≤ 21 → kch o = sf 10 (o - 20) := by
    intro o h1 h2
    rcases (show o = 20 ∨ o = 21 by omega) with rfl | rfl <;> decide
  rw [show (3 : Int32) = nI 3 from rfl]
  rcases op_at (k := 10) (n := 2) (x0 := 3) (lw := lw) (pa := pa) (tf := tf) (tt := tt) (ti := ti) (tu := tu) (ln := ln) (fb := fb) (by omega) rfl (by omega) with ⟨i, i1, i2, i3⟩ | ⟨i1, _⟩
  · have := e o h1 h2 i i1 (h.symm.trans i2)
    rw [i3, show 3 + i = o - 17 by omega]
  · exact absurd (h.trans (e2 o h1 h2)) (i1 (o - 20) (by omega))
theorem op10_n {lw pa tf tt ti tu ln : Int32} {fb : Nat → Int32} (h : ∀ u, 20 ≤ u → u ≤ 21 → ti ≠ kch u) : E_w_operator 10 3 lw pa ln tf tt ti tu fb = (-1, tf, tt, ti, tu) := by
  rw [show (3 : Int32) = nI 3 from rfl]
  rcases op_at (k := 10) (n := 2) (x0 := 3) (lw := lw) (pa := pa) (tf := tf) (tt := tt) (ti := ti) (tu := tu) (ln := ln) (fb := fb) (by omega) rfl (by omega) with ⟨i, i1, i2, _⟩ | ⟨_, i2⟩
  · have e : ∀ i, i < 2 → sf 10 i = kch (20 + i) := by decide
    exact absurd (i2.trans (e i i1)) (h (20 + i) (by omega) (by omega))
  · exact i2
/-- an operator that waits: 0 none -/
noncomputable def kz_v (t : Nat) : Int32 := if t = 0 then -1 else nI t
noncomputable def kb1 (t : Nat) : Nat := if t = 0 then 0 else 1
theorem kz_v0 : kz_v 0 = -1 := rfl
theorem kz_vp {t : Nat} (h : t ≠ 0) : kz_v t = nI t := if_neg h
theorem kz_vn {t : Nat} (h : t ≠ 0) (ht : t < 100) : ¬ kz_v t = -1 := by
  rw [kz_vp h]
  intro q
  have := congrArg Int32.toInt q
  rw [nI_toInt (by omega)] at this
  have z1 : (-1 : Int32).toInt = -1 := rfl
  omega
theorem kb1_0 : kb1 0 = 0 := rfl
theorem kb1_p {t : Nat} (h : t ≠ 0) : kb1 t = 1 := if_neg h
/-- one operator that waits, or none: the class emits it, the reference is to -/
theorem wait_one {od k m us us0 nc nc0 pi t w p K : Nat} {fc fo fa fp fq : Nat → Int32} (hse : SE od KA_ (kb1 t + k + 1) m fc us0 us fo fa nc0 nc) (ht : t ≠ 0 → 3 ≤ t ∧ t ≤ 7 ∧ K ≤ kbd (t + 17) ∧ fp pi = nI (t + 17)) (hus : us + 2 * (w + kb1 t) ≤ 2 * p) (hnc : nc + (w + kb1 t) ≤ p) (hpi : pi ≤ p) (hp : p ≤ 400) :
    ∃ (us1 nc1 : Nat) (fc1 fo1 fa1 : Nat → Int32), (∀ {β : Type} (A : Int32 → (Nat → Int32) → β), (if kz_v t = -1 then A (nI us) fc else A (E_w_emit (kz_v t) 0 (nI us) fc).2.1 (E_w_emit (kz_v t) 0 (nI us) fc).2.2) = A (nI us1) fc1) ∧ KP K nc (pi + kb1 t) fo fa nc1 pi fo1 fa1 fp fq ∧ SE od KA_ (k + 1) m fc1 us0 us1 fo1 fa1 nc0 nc1 ∧ us ≤ us1 ∧ nc ≤ nc1 ∧ us1 + 2 * w ≤ 2 * p ∧ nc1 + w ≤ p ∧ (∀ j, j < us → fc1 j = fc j) ∧ (∀ j, j < nc → fo1 j = fo j ∧ fa1 j = fa j) := by
  by_cases c : t = 0
  · subst c
    refine ⟨us, nc, fc, fo, fa, fun A => if_pos rfl, ?_, ?_, Nat.le_refl _, Nat.le_refl _, by rw [kb1_0] at hus; omega, by rw [kb1_0] at hnc; omega, fun _ _ => rfl, fun _ _ => ⟨rfl, rfl⟩⟩
    · rw [kb1_0, Nat.add_zero]; exact KP.rfl
    · rw [kb1_0, Nat.zero_add] at hse; exact hse
  · obtain ⟨t1, t2, t3, t4⟩ := ht c
    rw [kb1_p c] at hse hus hnc ⊢
    have em := emit_at (us := us) (x := nI t) (y := 0) (fc := fc) (by omega)
    refine ⟨us + 2, nc + 1, upd (upd fc us (nI t)) (us + 1) 0, upd fo nc (nI (t + 17)), upd fa nc 0, fun A => ?_, ?_, ?_, by omega, by omega, by omega, by omega, fun j hj => ?_, fun j hj => ⟨upd_n (by omega), upd_n (by omega)⟩⟩
    · rw [if_neg (kz_vn c (by omega)), kz_vp c, em]
    · exact KP.emit (by omega) (by omega) (by omega) t4 t3
    · refine SE.bin (P := KA_) (o := t) (k := k) ?_ ⟨by omega, by omega⟩ ?_ ?_ (by omega) (by omega) (fun _ _ _ _ => trivial)
      · rw [show k + 2 = 1 + k + 1 by omega]
        exact hse.ext (fun j h1 h2 => by rw [upd_n (by omega), upd_n (by omega)]) (fun j h1 h2 => ⟨upd_n (by omega), upd_n (by omega)⟩)
      · rw [upd_n (by omega), upd_s]
      · rw [upd_s]
    · rw [upd_n (by omega), upd_n (by omega)]
noncomputable def SHd (C : KC_) (us0 nl0 nc0 pi0 w : Nat) (fc0 fo0 fa0 fp0 fq0 : Nat → Int32) (p us nl nc pi ter fac : Nat) (fc fo fa fp fq : Nat → Int32) : Prop :=
  pi = pi0 + kb1 ter + kb1 fac ∧ (ter ≠ 0 → 3 ≤ ter ∧ ter ≤ 4 ∧ fp pi0 = nI (ter + 17)) ∧ (fac ≠ 0 → 5 ≤ fac ∧ fac ≤ 7 ∧ fp (pi0 + kb1 ter) = nI (fac + 17)) ∧ (∀ j, j < pi0 → fp j = fp0 j ∧ fq j = fq0 j) ∧ (∀ j, j < us0 → fc j = fc0 j) ∧ (∀ j, j < nc0 → fo j = fo0 j ∧ fa j = fa0 j) ∧
  (us0 ≤ us ∧ nc0 ≤ nc ∧ nl0 ≤ nl ∧ nl ≤ 50 ∧ us + 2 * (w + kb1 ter + kb1 fac) ≤ 2 * p ∧ nc + (w + kb1 ter + kb1 fac) ≤ p ∧ pi ≤ p) ∧
  ((ter = 0 ∧ fac = 0 ∧ us = us0 ∧ nc = nc0 ∧ nl = nl0) ∨ (1 ≤ kb1 ter + kb1 fac ∧ SE C.2.2.2.1 KA_ (kb1 ter + kb1 fac) (nl - nl0) fc us0 us fo fa nc0 nc))
theorem sum_loop {C : KC_} (hC : KCok C) {Es : KWf} {d : Nat} (hP : SimPart C (fun d lw pa ln tf tt ti tu fb us fc => E_w_part Es d lw pa ln tf tt ti tu fb us fc) d) (hd : d ≤ 8) {fau : Int32} {p0 us0 nl0 nc0 pi0 w : Nat} {m0 : KM4} {fc0 fo0 fa0 fp0 fq0 : Nat → Int32} (htop : KTop fp0 pi0) (z : Int32 → Int32 → Int32 → Int32 → Int32 → Int32 → Int32 → Int32 → Int32 → (Nat → Int32) → KW8) : ∀ (n p : Nat) (c : KT4) (m : KM4) (us nl nc pi ter fac i : Nat) (fc fo fa fp fq : Nat → Int32), 401 - p ≤ n → p0 ≤ p → i ≤ p → TkP C.1 C.2.2.1 p c m → KGo C fau 1 3 p0 m0 nc0 nl0 pi0 d fo0 fa0 fp0 fq0 1 3 p m nc nl pi d fo fa fp fq → SHd C us0 nl0 nc0 pi0 w fc0 fo0 fa0 fp0 fq0 p us nl nc pi ter fac fc fo fa fp fq →
    ∀ R : KW8, Lp (E_w_sum_l7 Es (nI d) (klw C.2.2.2.1) (nI C.2.2.1) C.1) z (403 - i) (nI i) (kz_v ter) (kz_v fac) (nI nl) c.1 c.2.1 c.2.2.1 c.2.2.2 (nI us) fc = R →
    KNot C fau 1 d p0 m0 nl0 nc0 pi0 fo0 fa0 fp0 fq0 R ∨ (KRead C KA_ 5 fau 1 3 2 d p0 m0 us0 nl0 nc0 pi0 w fc0 fo0 fa0 fp0 fq0 20 24 R ∧ ¬ KSg R.2.2.2.2.1) := by
  intro n
  induction n with
  | zero => intro p c m us nl nc pi ter fac i fc fo fa fp fq hn _ _ hT; have := hT.1; have := hT.2.1; omega
  | succ n ih =>
    intro p c m us nl nc pi ter fac i fc fo fa fp fq hn hp0 hi hT hgo hS R hR
    have hL := hT.2.1
    have hpL := hT.1
    obtain ⟨b1, b2, b3, b4, b5, b6, b7, b8⟩ := hS
    have kt : kb1 ter ≤ 1 := by unfold kb1; split <;> omega
    have kf : kb1 fac ≤ 1 := by unfold kb1; split <;> omega
    have pt := hP fau p c m us nl nc pi (w + kb1 ter + kb1 fac) fc fo fa fp fq hT (by omega) (by omega) (by omega) (by omega) hd
    have pt : KNot C fau 1 d p m nl nc pi fo fa fp fq (E_w_part Es (nI d) (klw C.2.2.2.1) (nI nl) (nI C.2.2.1) c.1 c.2.1 c.2.2.1 c.2.2.2 C.1 (nI us) fc) ∨ KPrt C KA_ fau 1 3 2 d p m us nl nc pi (w + kb1 ter + kb1 fac) fc fo fa fp fq (E_w_part Es (nI d) (klw C.2.2.2.1) (nI nl) (nI C.2.2.1) c.1 c.2.1 c.2.2.1 c.2.2.2 C.1 (nI us) fc) := pt
    rw [show 403 - i = (402 - i) + 1 by omega, Lp_s, E_w_sum_l7.eq_def, if_neg (kn_nltl' (by omega) (by omega))] at hR
    rcases pt with ⟨k1, q, k2, k3⟩ | ⟨p1, c1, m1, us1, nl1, n1, fc1, fo1, fa1, fp1, fq1, e1, e2, e3, e4, e5, e6, e7, e8, e9, e10⟩
    · simp only [Lt2] at hR
      rw [if_pos k1] at hR
      rw [← hR]
      exact Or.inl ⟨rfl, q, k2, hgo.bad k3⟩
    rw [e1] at hR
    simp only [Lt2] at hR
    rw [if_neg (by decide)] at hR
    have hL1 := e3.1
    -- the code so far
    have se1 : SE C.2.2.2.1 KA_ (kb1 ter + kb1 fac + 1) (nl1 - nl0) fc1 us0 us1 fo1 fa1 nc0 n1 := by
      rcases b8 with ⟨x1, x2, x3, x4, x5⟩ | ⟨x1, x2⟩
      · rw [x1, x2, ← x3, ← x4, ← x5]; exact e10
      · have := (x2.ext (fc' := fc1) (op' := fo1) (ar' := fa1) (fun j _ h2 => e7 j h2) (fun j _ h2 => e8 j h2)).app e10 (Nat.le_refl 1)
        rw [show nl - nl0 + (nl1 - nl) = nl1 - nl0 by omega] at this
        exact this
    have top1 : KTop fp1 pi0 := by
      rcases htop with h | ⟨o, o1, o2, o3⟩
      · exact Or.inl h
      · by_cases h : pi0 = 0
        · exact Or.inl h
        · exact Or.inr ⟨o, o1, o2, by rw [(e6 (pi0 - 1) (by omega)).1, (b4 (pi0 - 1) (by omega)).1]; exact o3⟩
    have tf1 : ter ≠ 0 → fp1 pi0 = nI (ter + 17) := fun h => by
      have := kb1_p h
      rw [(e6 pi0 (by omega)).1]; exact (b2 h).2.2
    have ff1 : fac ≠ 0 → fp1 (pi0 + kb1 ter) = nI (fac + 17) := fun h => by
      have := kb1_p h
      rw [(e6 (pi0 + kb1 ter) (by omega)).1]; exact (b3 h).2.2
    have kbf : ∀ f, 5 ≤ f → f ≤ 7 → kbd (f + 17) = 6 := by intro f h1 h2; rcases (show f = 5 ∨ f = 6 ∨ f = 7 by omega) with rfl | rfl | rfl <;> rfl
    have kbt : ∀ f, 3 ≤ f → f ≤ 4 → kbd (f + 17) = 5 := by intro f h1 h2; rcases (show f = 3 ∨ f = 4 by omega) with rfl | rfl <;> rfl
    obtain ⟨usA, nA, fcA, foA, faA, a1, a2, a3, a4, a5, a6, a7, a8, a9⟩ := wait_one (k := kb1 ter) (pi := pi0 + kb1 ter) (w := w + kb1 ter) (p := p1) (K := 6) (fp := fp1) (fq := fq1) (t := fac) (by rw [show kb1 fac + kb1 ter + 1 = kb1 ter + kb1 fac + 1 by omega]; exact se1) (fun h => ⟨by have := b3 h; omega, (b3 h).2.1, by rw [kbf fac (b3 h).1 (b3 h).2.1]; exact Nat.le_refl _, ff1 h⟩) (by omega) (by omega) (by omega) (by omega)
    have aa := a1 (fun u f => E_w_sum_j40 (klw C.2.2.2.1) (nI C.2.2.1) C.1 (nI i) (kz_v ter) (Lp (E_w_sum_l7 Es (nI d) (klw C.2.2.2.1) (nI C.2.2.1) C.1) z (402 - i)) (nI nl1) c1.1 c1.2.1 c1.2.2.1 c1.2.2.2 u f)
    rw [show (if kz_v fac = -1 then _ else _) = _ from aa] at hR
    rw [← b1] at a2
    simp only [E_w_sum_j40, Lt2] at hR
    have below : ∀ l, 5 ≤ l → l ≤ 6 → ∀ (nx px : Nat) (fo fa : Nat → Int32), px = pi0 → kst l nx px fo fa fp1 fq1 = (nI nx, nI px, fo, fa) := by
      intro l l1 l2 nx px fo fa hx
      rcases top1 with h | ⟨o, o1, o2, o3⟩
      · rw [hx, h]; exact kst_0
      · by_cases h : pi0 = 0
        · rw [hx, h]; exact kst_0
        · rw [hx, show pi0 = (pi0 - 1) + 1 by omega]
          exact kst_stop (o := o) (by omega) (by omega) (by omega) o3 (by unfold kbd; (repeat' split) <;> omega)
    have fr1 := TkP.froms (tf := c1.1) (tt := c1.2.1) (ti := c1.2.2.1) (tu := c1.2.2.2) (fr := m1.1) (to := m1.2.1) (so := m1.2.2.1) (wo := m1.2.2.2) e3
    obtain ⟨q, q1, q2, hQ⟩ := tk_next hC e3
    have hq := hQ.1
    -- behind the factor
    have hterB := fun (hx : ∀ u, 22 ≤ u → u ≤ 24 → c1.2.2.1 ≠ kch u) => wait_one (k := 0) (pi := pi0) (w := w) (p := p1) (K := 5) (fp := fp1) (fq := fq1) (t := ter) a3 (fun h => ⟨(b2 h).1, by have := (b2 h).2.1; omega, by rw [kbt ter (b2 h).1 (b2 h).2.1]; exact Nat.le_refl _, tf1 h⟩) (by omega) (by omega) (by omega) (by omega)
    rcases tk_op e3 with ⟨o, o1, o2, o3, o4, o5⟩ | ⟨o1, o2⟩
    · have qp : p1 < q := q2 o4
      by_cases c22 : 22 ≤ o
      · -- * / %
        rw [op9_p c22 o2 o3] at hR
        simp only [] at hR
        rw [if_neg (fun h => by have := congrArg Int32.toInt h; rw [nI_toInt (by omega)] at this; have z1 : (-1 : Int32).toInt = -1 := rfl; omega)] at hR
        simp only [E_w_sum_j86, Lt] at hR
        rw [kn_po (by omega)] at hR
        have kk : kst (kbd o) n1 pi fo1 fa1 fp1 fq1 = (nI nA, nI (pi0 + kb1 ter), foA, faA) := by
          rw [show kbd o = 6 by rcases (show o = 22 ∨ o = 23 ∨ o = 24 by omega) with rfl | rfl | rfl <;> rfl, a2 6 (Nat.le_refl _)]
          by_cases ct : ter = 0
          · rw [ct, kb1_0, Nat.add_zero]; exact below 6 (by omega) (by omega) _ _ _ _ rfl
          · rw [kb1_p ct]
            exact kst_stop (o := ter + 17) (by omega) (by have := (b2 ct).2.1; omega) (by omega) (tf1 ct) (by rw [kbt ter (b2 ct).1 (b2 ct).2.1]; omega)
        have bs := bs_op (go := C.2.2.2.2.2.2.2.1) (ga := C.2.2.2.2.2.2.2.2) (ft := C.2.1) (x := C.2.2.2.2.2.2.1) (ta := nI C.2.2.1) (fr := m1.1) (to := m1.2.1) (fau := fau) (nl := nI nl1) (opn := nI d) ⟨o1, o2⟩ o5 (show pi < 1000 by omega) (show pi0 + kb1 ter < 1000 by omega) kk
        have g2 : KGo C fau 3 2 p1 m1 n1 nl1 pi d fo1 fa1 fp1 fq1 1 3 q (E_v_next (nI C.2.2.1) m1.1 m1.2.1 m1.2.2.1 m1.2.2.2 C.2.1) nA nl1 (pi0 + kb1 ter + 1) d foA faA (upd fp1 (pi0 + kb1 ter) (nI o)) (upd fq1 (pi0 + kb1 ter) 0) :=
          KGo.one (mz_lt qp (by omega) (by omega)) (fun F => by rw [kL_sum bs])
        rw [show nI (o - 17) = kz_v (o - 17) from (kz_vp (by omega)).symm, show 402 - i = 403 - (i + 1) by omega] at hR
        refine ih q _ _ usA nl1 nA (pi0 + kb1 ter + 1) ter (o - 17) (i + 1) fcA foA faA _ _ (by omega) (by omega) (by omega) hQ ((hgo.trans e4).trans g2) ⟨?_, fun h => ?_, fun h => ?_, fun j hj => ?_, fun j hj => ?_, fun j hj => ?_, ?_, Or.inr ⟨?_, ?_⟩⟩ R hR
        · rw [kb1_p (show o - 17 ≠ 0 by omega)]
        · have := kb1_p h
          rw [upd_n (by omega)]; exact ⟨(b2 h).1, (b2 h).2.1, tf1 h⟩
        · rw [upd_s, show o - 17 + 17 = o by omega]; exact ⟨by omega, by omega, rfl⟩
        · rw [upd_n (by omega), upd_n (by omega)]
          exact ⟨(e6 j (by omega)).1.trans (b4 j hj).1, (e6 j (by omega)).2.trans (b4 j hj).2⟩
        · rw [a8 j (by omega), e7 j (by omega)]; exact b5 j hj
        · exact ⟨(a9 j (by omega)).1.trans ((e8 j (by omega)).1.trans (b6 j hj).1), (a9 j (by omega)).2.trans ((e8 j (by omega)).2.trans (b6 j hj).2)⟩
        · rw [kb1_p (show o - 17 ≠ 0 by omega)]; omega
        · rw [kb1_p (show o - 17 ≠ 0 by omega)]; omega
        · rw [kb1_p (show o - 17 ≠ 0 by omega)]; exact a3
      · -- + -
        have o21 : o ≤ 21 := by omega
        have inj : ∀ u, 22 ≤ u → u ≤ 24 → c1.2.2.1 ≠ kch u := by
          intro u h1 h2 h
          rw [o3] at h
          rcases (show o = 20 ∨ o = 21 by omega) with rfl | rfl <;> rcases (show u = 22 ∨ u = 23 ∨ u = 24 by omega) with rfl | rfl | rfl <;> exact absurd h (by decide)
        obtain ⟨usB, nB, fcB, foB, faB, d1, d2, d3, d4, d5, d6, d7, d8, d9⟩ := hterB inj
        rw [op9_n inj] at hR
        simp only [] at hR
        rw [if_pos (by trivial)] at hR
        have dd := d1 (fun u f => E_w_sum_j71 (klw C.2.2.2.1) (nI C.2.2.1) C.1 (nI i) (Lp (E_w_sum_l7 Es (nI d) (klw C.2.2.2.1) (nI C.2.2.1) C.1) z (402 - i)) (nI nl1) (-1) c1.1 c1.2.1 c1.2.2.1 c1.2.2.2 u f)
        rw [show (if kz_v ter = -1 then _ else _) = _ from dd] at hR
        simp only [E_w_sum_j71, Lt2] at hR
        rw [op10_p o1 o21 o3] at hR
        simp only [] at hR
        rw [if_neg (fun h => by have := congrArg Int32.toInt h; rw [nI_toInt (by omega)] at this; have z1 : (-1 : Int32).toInt = -1 := rfl; omega)] at hR
        simp only [E_w_sum_j86, Lt] at hR
        rw [kn_po (by omega)] at hR
        have kk : kst (kbd o) n1 pi fo1 fa1 fp1 fq1 = (nI nB, nI pi0, foB, faB) := by
          rw [show kbd o = 5 by rcases (show o = 20 ∨ o = 21 by omega) with rfl | rfl <;> rfl, a2 5 (by omega), d2 5 (Nat.le_refl _)]
          exact below 5 (by omega) (by omega) _ _ _ _ rfl
        have bs := bs_op (go := C.2.2.2.2.2.2.2.1) (ga := C.2.2.2.2.2.2.2.2) (ft := C.2.1) (x := C.2.2.2.2.2.2.1) (ta := nI C.2.2.1) (fr := m1.1) (to := m1.2.1) (fau := fau) (nl := nI nl1) (opn := nI d) ⟨o1, o2⟩ o5 (show pi < 1000 by omega) (show pi0 < 1000 by omega) kk
        have g2 : KGo C fau 3 2 p1 m1 n1 nl1 pi d fo1 fa1 fp1 fq1 1 3 q (E_v_next (nI C.2.2.1) m1.1 m1.2.1 m1.2.2.1 m1.2.2.2 C.2.1) nB nl1 (pi0 + 1) d foB faB (upd fp1 pi0 (nI o)) (upd fq1 pi0 0) :=
          KGo.one (mz_lt qp (by omega) (by omega)) (fun F => by rw [kL_sum bs])
        rw [show nI (o - 17) = kz_v (o - 17) from (kz_vp (by omega)).symm, show (-1 : Int32) = kz_v 0 from rfl, show 402 - i = 403 - (i + 1) by omega] at hR
        refine ih q _ _ usB nl1 nB (pi0 + 1) (o - 17) 0 (i + 1) fcB foB faB _ _ (by omega) (by omega) (by omega) hQ ((hgo.trans e4).trans g2) ⟨?_, fun h => ?_, fun h => absurd rfl h, fun j hj => ?_, fun j hj => ?_, fun j hj => ?_, ?_, Or.inr ⟨?_, ?_⟩⟩ R hR
        · rw [kb1_p (show o - 17 ≠ 0 by omega), kb1_0]
        · rw [upd_s, show o - 17 + 17 = o by omega]; exact ⟨by omega, by omega, rfl⟩
        · rw [upd_n (by omega), upd_n (by omega)]
          exact ⟨(e6 j (by omega)).1.trans (b4 j hj).1, (e6 j (by omega)).2.trans (b4 j hj).2⟩
        · rw [d8 j (by omega), a8 j (by omega), e7 j (by omega)]; exact b5 j hj
        · exact ⟨(d9 j (by omega)).1.trans ((a9 j (by omega)).1.trans ((e8 j (by omega)).1.trans (b6 j hj).1)), (d9 j (by omega)).2.trans ((a9 j (by omega)).2.trans ((e8 j (by omega)).2.trans (b6 j hj).2))⟩
        · rw [kb1_p (show o - 17 ≠ 0 by omega), kb1_0]; omega
        · rw [kb1_p (show o - 17 ≠ 0 by omega), kb1_0]; omega
        · rw [kb1_p (show o - 17 ≠ 0 by omega), kb1_0]; exact d3
    · -- the sum ends
      have inj : ∀ u, 22 ≤ u → u ≤ 24 → c1.2.2.1 ≠ kch u := fun u h1 h2 => o1 u (by omega) h2
      obtain ⟨usB, nB, fcB, foB, faB, d1, d2, d3, d4, d5, d6, d7, d8, d9⟩ := hterB inj
      rw [op9_n inj] at hR
      simp only [] at hR
      rw [if_pos (by trivial)] at hR
      have dd := d1 (fun u f => E_w_sum_j71 (klw C.2.2.2.1) (nI C.2.2.1) C.1 (nI i) (Lp (E_w_sum_l7 Es (nI d) (klw C.2.2.2.1) (nI C.2.2.1) C.1) z (402 - i)) (nI nl1) (-1) c1.1 c1.2.1 c1.2.2.1 c1.2.2.2 u f)
      rw [show (if kz_v ter = -1 then _ else _) = _ from dd] at hR
      simp only [E_w_sum_j71, Lt2] at hR
      rw [op10_n (fun u h1 h2 => o1 u h1 (by omega))] at hR
      simp only [] at hR
      rw [if_pos (by trivial)] at hR
      subst hR
      refine Or.inr ⟨⟨p1, c1, m1, usB, nl1, n1, pi, nB, fcB, fo1, fa1, fp1, fq1, foB, faB, rfl, by omega, e3, hgo.trans e4, ⟨by omega, by omega, fun j hj => ⟨(e6 j (by omega)).1.trans (b4 j hj).1, (e6 j (by omega)).2.trans (b4 j hj).2⟩, fun j h1 h2 => ?_⟩, (a2.low (by omega)).trans d2, ⟨fun j hj => ?_, fun j hj => ?_⟩, ⟨by omega, by omega, by omega, by omega, by omega, by omega, by omega⟩, d3⟩, ?_⟩
      · by_cases ct : ter = 0
        · have cf : fac ≠ 0 := fun h => by rw [ct, h, kb1_0] at b1; omega
          have := b3 cf
          have k1 := kb1_p cf
          rw [ct, kb1_0] at b1
          have hf := ff1 cf
          rw [ct, kb1_0] at hf
          exact ⟨fac + 17, by omega, by omega, by rw [show j = pi0 + 0 by omega]; exact hf⟩
        · have k1 := kb1_p ct
          have t1 := b2 ct
          by_cases e : j = pi0
          · exact ⟨ter + 17, by omega, by omega, by rw [e]; exact tf1 ct⟩
          · have cf : fac ≠ 0 := fun h => by rw [h, kb1_0] at b1; omega
            have k2 := kb1_p cf
            have := b3 cf
            have hf := ff1 cf
            exact ⟨fac + 17, by omega, by omega, by rw [show j = pi0 + kb1 ter by omega]; exact hf⟩
      · rw [d8 j (by omega), a8 j (by omega), e7 j (by omega)]; exact b5 j hj
      · exact ⟨(d9 j (by omega)).1.trans ((a9 j (by omega)).1.trans ((e8 j (by omega)).1.trans (b6 j hj).1)), (d9 j (by omega)).2.trans ((a9 j (by omega)).2.trans ((e8 j (by omega)).2.trans (b6 j hj).2))⟩
      · intro hk
        rcases hk with h | h | h | h | h
        · exact o1 22 (by omega) (by omega) h
        · exact o1 23 (by omega) (by omega) h
        · exact o1 24 (by omega) (by omega) h
        · exact o1 20 (by omega) (by omega) h
        · exact o1 21 (by omega) (by omega) h
theorem sim_sum {C : KC_} (hC : KCok C) {Es : KWf} {d : Nat} (hP : SimPart C (fun d lw pa ln tf tt ti tu fb us fc => E_w_part Es d lw pa ln tf tt ti tu fb us fc) d) : SimSum C (fun d lw pa ln tf tt ti tu fb us fc => E_w_sum Es d lw pa ln tf tt ti tu fb us fc) d := by
  intro fau p c m us nl nc pi w fc fo fa fp fq hT hus hnc hpi hnl hd htop
  have hL := hT.2.1
  have hpL := hT.1
  have := sum_loop (w := w) (us0 := us) (fc0 := fc) (fau := fau) (m0 := m) (nl0 := nl) (nc0 := nc) (fo0 := fo) (fa0 := fa) (fq0 := fq) (p0 := p) hC hP hd htop (fun _ _ _ _ _ _ _ _ _ _ => ((0, 0, 0, 0, 0, 0, 0, fun _ => 0) : KW8)) 401 p c m us nl nc pi 0 0 0 fc fo fa fp fq (by omega) (Nat.le_refl _) (by omega) hT (fun F hF => ⟨F, hF, rfl⟩) ⟨by rw [kb1_0]; omega, fun h => absurd rfl h, fun h => absurd rfl h, fun _ _ => ⟨rfl, rfl⟩, fun _ _ => rfl, fun _ _ => ⟨rfl, rfl⟩, by rw [kb1_0]; omega, Or.inl ⟨rfl, rfl, rfl, rfl, rfl⟩⟩ _ rfl
  exact this
end
section
/-! behind a sum: a comparison, or the test goes on -/
noncomputable def kcc (o : Nat) : Int32 := match o with
  | 25 => 60
  | 26 => 62
  | _ => 61
theorem kcc_ok : ∀ o, 25 ≤ o → o ≤ 27 → 0 ≤ (kcc o).toInt ∧ ¬ (97 ≤ (kcc o).toInt ∧ (kcc o).toInt ≤ 122) ∧ ¬ (48 ≤ (kcc o).toInt ∧ (kcc o).toInt ≤ 57) := by
  intro o h1 h2
  rcases (show o = 25 ∨ o = 26 ∨ o = 27 by omega) with rfl | rfl | rfl <;> decide
theorem bs_cmp {go ga ft fo fa fp fq fo' fa' : Nat → Int32} {x ta fr to so fau nl opn : Int32} {wo : Int64} {o nc pi nc' pi' : Nat} (ho : 25 ≤ o ∧ o ≤ 27) (h5 : ∀ u, 20 ≤ u → u ≤ 24 → E_v_isSign (kch u) so wo = 0) (hs : ∀ u, 25 ≤ u → u ≤ 27 → E_v_isSign (kcc u) so wo = if u = o then 1 else 0) (hi : (E_v_inner (nI pi) fp = -1 ∧ x ≠ 0) ∨ E_v_inner (nI pi) fp = 31) (hc : E_v_isCompared (nI pi) fp = 0) (hp : pi < 1000) (hp' : pi' < 1000) (hk : kst 5 nc pi fo fa fp fq = (nI nc', nI pi', fo', fa')) : E_v_behindSum go ga x ta fr to so wo fau 0 (nI nc) nl (nI pi) opn ft fo fa fp fq = (1, (E_v_next ta fr to so wo ft).1, (E_v_next ta fr to so wo ft).2.1, (E_v_next ta fr to so wo ft).2.2.1, (E_v_next ta fr to so wo ft).2.2.2, fau, 0, nI nc', nI (pi' + 1), opn, fo', fa', upd fp pi' (nI o), upd fq pi' 0) := by
  have s0 : E_v_isSign 43 so wo = 0 := h5 20 (by omega) (by omega)
  have s1 : E_v_isSign 45 so wo = 0 := h5 21 (by omega) (by omega)
  have s2 : E_v_isSign 42 so wo = 0 := h5 22 (by omega) (by omega)
  have s3 : E_v_isSign 47 so wo = 0 := h5 23 (by omega) (by omega)
  have s4 : E_v_isSign 37 so wo = 0 := h5 24 (by omega) (by omega)
  have c0 : E_v_isSign 60 so wo = if 25 = o then 1 else 0 := hs 25 (by omega) (by omega)
  have c1 : E_v_isSign 62 so wo = if 26 = o then 1 else 0 := hs 26 (by omega) (by omega)
  have c2 : E_v_isSign 61 so wo = if 27 = o then 1 else 0 := hs 27 (by omega) (by omega)
  have stl : E_v_settle go ga 5 (nI nc) (nI pi) fo fa fp fq = (nI nc', nI pi', fo', fa') := (settle_at (l := 5) (by omega)).trans hk
  rw [E_v_behindSum.eq_def, Lt_b, if_neg (by rw [s0]; decide), Lt_b, if_neg (by rw [s1]; decide), Lt_b, if_neg (by rw [s2]; decide), Lt_b, if_neg (by rw [s3]; decide), Lt_b, if_neg (by rw [s4]; decide), Lt_b]
  rcases hi with ⟨hi, hx⟩ | hi
  · rw [if_neg (by rw [hi]; decide), if_pos hi, if_neg hx, Lt_b, if_pos hc, Lt_b, c0]
    rcases (show o = 25 ∨ o = 26 ∨ o = 27 by omega) with rfl | rfl | rfl
    · rw [if_pos (by decide), must_1]
      simp only [Lt2, Lt, E_v_push]
      rw [if_pos (by trivial), stl, kn_cl (a := pi') (by omega), kn_p1 (a := pi') (by omega)]
      rfl
    · rw [if_neg (by decide), Lt_b, c1, if_pos (by decide), must_1]
      simp only [Lt2, Lt, E_v_push]
      rw [if_pos (by trivial), stl, kn_cl (a := pi') (by omega), kn_p1 (a := pi') (by omega)]
      rfl
    · rw [if_neg (by decide), Lt_b, c1, if_neg (by decide), Lt_b, c2, if_pos (by decide), must_1]
      simp only [Lt2, Lt, E_v_push]
      rw [if_pos (by trivial), stl, kn_cl (a := pi') (by omega), kn_p1 (a := pi') (by omega)]
      rfl
  · rw [if_neg (by rw [hi]; decide), if_neg (by rw [hi]; decide), Lt_b, if_pos hc, Lt_b, c0]
    rcases (show o = 25 ∨ o = 26 ∨ o = 27 by omega) with rfl | rfl | rfl
    · rw [if_pos (by decide), must_1]
      simp only [Lt2, Lt, E_v_push]
      rw [if_pos (by trivial), stl, kn_cl (a := pi') (by omega), kn_p1 (a := pi') (by omega)]
      rfl
    · rw [if_neg (by decide), Lt_b, c1, if_pos (by decide), must_1]
      simp only [Lt2, Lt, E_v_push]
      rw [if_pos (by trivial), stl, kn_cl (a := pi') (by omega), kn_p1 (a := pi') (by omega)]
      rfl
    · rw [if_neg (by decide), Lt_b, c1, if_neg (by decide), Lt_b, c2, if_pos (by decide), must_1]
      simp only [Lt2, Lt, E_v_push]
      rw [if_pos (by trivial), stl, kn_cl (a := pi') (by omega), kn_p1 (a := pi') (by omega)]
      rfl
/-- no comparison where one must be -/
theorem bs_cmp_n {go ga ft fo fa fp fq : Nat → Int32} {x ta fr to so fau nc nl opn : Int32} {wo : Int64} {pi : Nat} (h5 : ∀ u, 20 ≤ u → u ≤ 24 → E_v_isSign (kch u) so wo = 0) (hs : ∀ u, 25 ≤ u → u ≤ 27 → E_v_isSign (kcc u) so wo = 0) (hi : (E_v_inner (nI pi) fp = -1 ∧ x ≠ 0) ∨ E_v_inner (nI pi) fp = 31) (hc : E_v_isCompared (nI pi) fp = 0) : ∃ a b e h1 h2 h3 h4, E_v_behindSum go ga x ta fr to so wo fau 0 nc nl (nI pi) opn ft fo fa fp fq = (1, fr, to, so, wo, fr, 1, a, b, e, h1, h2, h3, h4) := by
  have s0 : E_v_isSign 43 so wo = 0 := h5 20 (by omega) (by omega)
  have s1 : E_v_isSign 45 so wo = 0 := h5 21 (by omega) (by omega)
  have s2 : E_v_isSign 42 so wo = 0 := h5 22 (by omega) (by omega)
  have s3 : E_v_isSign 47 so wo = 0 := h5 23 (by omega) (by omega)
  have s4 : E_v_isSign 37 so wo = 0 := h5 24 (by omega) (by omega)
  have c0 : E_v_isSign 60 so wo = 0 := hs 25 (by omega) (by omega)
  have c1 : E_v_isSign 62 so wo = 0 := hs 26 (by omega) (by omega)
  have c2 : E_v_isSign 61 so wo = 0 := hs 27 (by omega) (by omega)
  rw [E_v_behindSum.eq_def, Lt_b, if_neg (by rw [s0]; decide), Lt_b, if_neg (by rw [s1]; decide), Lt_b, if_neg (by rw [s2]; decide), Lt_b, if_neg (by rw [s3]; decide), Lt_b, if_neg (by rw [s4]; decide), Lt_b]
  rcases hi with ⟨hi, hx⟩ | hi
  · rw [if_neg (by rw [hi]; decide), if_pos hi, if_neg hx, Lt_b, if_pos hc, Lt_b, if_neg (by rw [c0]; decide), Lt_b, if_neg (by rw [c1]; decide), Lt_b, if_neg (by rw [c2]; decide), must_0]
    simp only [Lt2, Lt]
    rw [if_neg (by decide)]
    exact ⟨_, _, _, _, _, _, _, rfl⟩
  · rw [if_neg (by rw [hi]; decide), if_neg (by rw [hi]; decide), Lt_b, if_pos hc, Lt_b, if_neg (by rw [c0]; decide), Lt_b, if_neg (by rw [c1]; decide), Lt_b, if_neg (by rw [c2]; decide), must_0]
    simp only [Lt2, Lt]
    rw [if_neg (by decide)]
    exact ⟨_, _, _, _, _, _, _, rfl⟩
/-- both sides of a comparison are told -/
theorem bs_told {go ga ft fo fa fp fq : Nat → Int32} {x ta fr to so fau nc nl opn : Int32} {wo : Int64} {pi : Nat} (h5 : ∀ u, 20 ≤ u → u ≤ 24 → E_v_isSign (kch u) so wo = 0) (hi : (E_v_inner (nI pi) fp = -1 ∧ x ≠ 0) ∨ E_v_inner (nI pi) fp = 31) (hc : E_v_isCompared (nI pi) fp = 1) : E_v_behindSum go ga x ta fr to so wo fau 0 nc nl (nI pi) opn ft fo fa fp fq = (2, fr, to, so, wo, fau, 0, nc, nI pi, opn, fo, fa, fp, fq) := by
  have s0 : E_v_isSign 43 so wo = 0 := h5 20 (by omega) (by omega)
  have s1 : E_v_isSign 45 so wo = 0 := h5 21 (by omega) (by omega)
  have s2 : E_v_isSign 42 so wo = 0 := h5 22 (by omega) (by omega)
  have s3 : E_v_isSign 47 so wo = 0 := h5 23 (by omega) (by omega)
  have s4 : E_v_isSign 37 so wo = 0 := h5 24 (by omega) (by omega)
  rw [E_v_behindSum.eq_def, Lt_b, if_neg (by rw [s0]; decide), Lt_b, if_neg (by rw [s1]; decide), Lt_b, if_neg (by rw [s2]; decide), Lt_b, if_neg (by rw [s3]; decide), Lt_b, if_neg (by rw [s4]; decide), Lt_b]
  rcases hi with ⟨hi, hx⟩ | hi
  · rw [if_neg (by rw [hi]; decide), if_pos hi, if_neg hx, Lt_b, if_neg (by rw [hc]; decide)]
  · rw [if_neg (by rw [hi]; decide), if_neg (by rw [hi]; decide), Lt_b, if_neg (by rw [hc]; decide)]
/-- the end of a sum that is no test's -/
theorem bs_over {go ga ft fo fa fp fq : Nat → Int32} {x ta fr to so fau nc nl opn : Int32} {wo : Int64} {pi : Nat} (h5 : ∀ u, 20 ≤ u → u ≤ 24 → E_v_isSign (kch u) so wo = 0) (hi : E_v_inner (nI pi) fp = -1) (hx : x = 0) : E_v_behindSum go ga x ta fr to so wo fau 0 nc nl (nI pi) opn ft fo fa fp fq = (4, fr, to, so, wo, fau, 0, nc, nI pi, opn, fo, fa, fp, fq) := by
  have s0 : E_v_isSign 43 so wo = 0 := h5 20 (by omega) (by omega)
  have s1 : E_v_isSign 45 so wo = 0 := h5 21 (by omega) (by omega)
  have s2 : E_v_isSign 42 so wo = 0 := h5 22 (by omega) (by omega)
  have s3 : E_v_isSign 47 so wo = 0 := h5 23 (by omega) (by omega)
  have s4 : E_v_isSign 37 so wo = 0 := h5 24 (by omega) (by omega)
  rw [E_v_behindSum.eq_def, Lt_b, if_neg (by rw [s0]; decide), Lt_b, if_neg (by rw [s1]; decide), Lt_b, if_neg (by rw [s2]; decide), Lt_b, if_neg (by rw [s3]; decide), Lt_b, if_neg (by rw [s4]; decide), Lt_b, if_neg (by rw [hi]; decide), if_pos hi, if_pos hx]
/-! behind a test -/
theorem bt_and {go ga ft fo fa fp fq fo' fa' : Nat → Int32} {ta fr to so fau nl opn : Int32} {wo : Int64} {nc pi nc' pi' : Nat} (hw : E_v_isWord 1476 so wo = 1) (hp : pi < 1000) (hp' : pi' < 1000) (hn : nc' < 1000) (hk : kst 2 nc pi fo fa fp fq = (nI nc', nI pi', fo', fa')) : E_v_behindTest go ga ta fr to so wo fau 0 (nI nc) nl (nI pi) opn ft fo fa fp fq = (0, (E_v_next ta fr to so wo ft).1, (E_v_next ta fr to so wo ft).2.1, (E_v_next ta fr to so wo ft).2.2.1, (E_v_next ta fr to so wo ft).2.2.2, fau, 0, nI (nc' + 1), nI (pi' + 1), opn, upd fo' nc' 29, upd fa' nc' 0, upd fp pi' 29, upd fq pi' (nI nc')) := by
  have stl : E_v_settle go ga 2 (nI nc) (nI pi) fo fa fp fq = (nI nc', nI pi', fo', fa') := (settle_at (l := 2) (by omega)).trans hk
  rw [E_v_behindTest.eq_def, Lt_b, if_pos hw, stl]
  simp only [Lt2, Lt, E_v_push, E_v_emit]
  rw [kn_cl (a := nc') (by omega), kn_cl (a := pi') (by omega), kn_p1 (a := nc') (by omega), kn_p1 (a := pi') (by omega)]
theorem bt_or {go ga ft fo fa fp fq fo' fa' : Nat → Int32} {ta fr to so fau nl opn : Int32} {wo : Int64} {nc pi nc' pi' : Nat} (hw0 : E_v_isWord 1476 so wo = 0) (hw : E_v_isWord 498 so wo = 1) (hp : pi < 1000) (hp' : pi' < 1000) (hn : nc' < 1000) (hk : kst 1 nc pi fo fa fp fq = (nI nc', nI pi', fo', fa')) : E_v_behindTest go ga ta fr to so wo fau 0 (nI nc) nl (nI pi) opn ft fo fa fp fq = (0, (E_v_next ta fr to so wo ft).1, (E_v_next ta fr to so wo ft).2.1, (E_v_next ta fr to so wo ft).2.2.1, (E_v_next ta fr to so wo ft).2.2.2, fau, 0, nI (nc' + 1), nI (pi' + 1), opn, upd fo' nc' 30, upd fa' nc' 0, upd fp pi' 30, upd fq pi' (nI nc')) := by
  have stl : E_v_settle go ga 1 (nI nc) (nI pi) fo fa fp fq = (nI nc', nI pi', fo', fa') := (settle_at (l := 1) (by omega)).trans hk
  rw [E_v_behindTest.eq_def, Lt_b, if_neg (by rw [hw0]; decide), Lt_b, if_pos hw, stl]
  simp only [Lt2, Lt, E_v_push, E_v_emit]
  rw [kn_cl (a := nc') (by omega), kn_cl (a := pi') (by omega), kn_p1 (a := nc') (by omega), kn_p1 (a := pi') (by omega)]
theorem bt_over {go ga ft fo fa fp fq : Nat → Int32} {ta fr to so fau nc nl opn : Int32} {wo : Int64} {pi : Nat} (hw0 : E_v_isWord 1476 so wo = 0) (hw : E_v_isWord 498 so wo = 0) (hi : E_v_inner (nI pi) fp = -1) : E_v_behindTest go ga ta fr to so wo fau 0 nc nl (nI pi) opn ft fo fa fp fq = (4, fr, to, so, wo, fau, 0, nc, nI pi, opn, fo, fa, fp, fq) := by
  rw [E_v_behindTest.eq_def, Lt_b, if_neg (by rw [hw0]; decide), Lt_b, if_neg (by rw [hw]; decide), Lt_b, if_pos hi]
theorem bt_close {go ga ft fo fa fp fq fo' fa' : Nat → Int32} {ta fr to so fau nl : Int32} {wo : Int64} {nc pi nc' pi' d : Nat} (hw0 : E_v_isWord 1476 so wo = 0) (hw : E_v_isWord 498 so wo = 0) (hi : E_v_inner (nI pi) fp = 31) (hs : E_v_isSign 41 so wo = 1) (hp : pi < 1000) (hp' : pi' < 1000) (hd : d < 1000) (hk : kst 1 nc pi fo fa fp fq = (nI nc', nI (pi' + 1), fo', fa')) : E_v_behindTest go ga ta fr to so wo fau 0 (nI nc) nl (nI pi) (nI (d + 1)) ft fo fa fp fq = (2, (E_v_next ta fr to so wo ft).1, (E_v_next ta fr to so wo ft).2.1, (E_v_next ta fr to so wo ft).2.2.1, (E_v_next ta fr to so wo ft).2.2.2, fau, 0, nI nc', nI pi', nI d, fo', fa', fp, fq) := by
  have stl : E_v_settle go ga 1 (nI nc) (nI pi) fo fa fp fq = (nI nc', nI (pi' + 1), fo', fa') := (settle_at (l := 1) (by omega)).trans hk
  rw [E_v_behindTest.eq_def, Lt_b, if_neg (by rw [hw0]; decide), Lt_b, if_neg (by rw [hw]; decide), Lt_b, if_neg (by rw [hi]; decide), Lt_b, if_pos hs, must_1]
  simp only [Lt2, Lt]
  rw [if_pos (by trivial), stl, kn_m1 (a := pi' + 1) (by omega) (by omega), kn_m1 (a := d + 1) (by omega) (by omega)]
  rfl
theorem bt_close_n {go ga ft fo fa fp fq : Nat → Int32} {ta fr to so fau nc nl opn : Int32} {wo : Int64} {pi : Nat} (hw0 : E_v_isWord 1476 so wo = 0) (hw : E_v_isWord 498 so wo = 0) (hi : E_v_inner (nI pi) fp = 31) (hs : E_v_isSign 41 so wo = 0) : ∃ a b e h1 h2 h3 h4, E_v_behindTest go ga ta fr to so wo fau 0 nc nl (nI pi) opn ft fo fa fp fq = (2, fr, to, so, wo, fr, 1, a, b, e, h1, h2, h3, h4) := by
  rw [E_v_behindTest.eq_def, Lt_b, if_neg (by rw [hw0]; decide), Lt_b, if_neg (by rw [hw]; decide), Lt_b, if_neg (by rw [hi]; decide), Lt_b, if_neg (by rw [hs]; decide), must_0]
  simp only [Lt2, Lt]
  rw [if_neg (by decide)]
  exact ⟨_, _, _, _, _, _, _, rfl⟩
end
section
/-! a plain test: "not"s, brackets or a comparison -/
theorem pas_p {k : Nat} {lw pa ln tf tt ti tu : Int32} {fb : Nat → Int32} (h : E_w_find k ln tf tt ti tu fb = 0) : E_w_passed k lw pa ln tf tt ti tu fb = (1, E_w_step ln tf tt ti tu fb) := by
  rw [E_w_passed.eq_def, Lt_b, if_pos h, Lt2_b, Lt2_b, Lt2_b]
theorem pas_n {k : Nat} {lw pa ln tf tt ti tu : Int32} {fb : Nat → Int32} (h : E_w_find k ln tf tt ti tu fb ≠ 0) : E_w_passed k lw pa ln tf tt ti tu fb = (0, tf, tt, ti, tu) := by
  rw [E_w_passed.eq_def, Lt_b, if_neg h]
theorem rpl_not {go ga ft fo fa fp fq : Nat → Int32} {wd we : Nat → Int64} {ta fr to so fau od nc nl opn : Int32} {wo : Int64} {pi : Nat} (hw : E_v_isWord 14836 so wo = 1) (hp : pi < 1000) : E_v_readPlain go ga ta fr to so wo fau 0 od nc nl (nI pi) opn ft fo fa fp fq wd we = (0, (E_v_next ta fr to so wo ft).1, (E_v_next ta fr to so wo ft).2.1, (E_v_next ta fr to so wo ft).2.2.1, (E_v_next ta fr to so wo ft).2.2.2, fau, 0, nc, nl, nI (pi + 1), opn, fo, fa, upd fp pi 28, upd fq pi 0) := by
  rw [E_v_readPlain.eq_def, Lt_b, if_pos hw]
  simp only [Lt2, Lt, E_v_push]
  rw [kn_cl (a := pi) (by omega), kn_p1 (a := pi) (by omega)]
theorem rpl_open {go ga ft fo fa fp fq : Nat → Int32} {wd we : Nat → Int64} {ta fr to so fau od nc nl : Int32} {wo : Int64} {pi d : Nat} (hw : E_v_isWord 14836 so wo = 0) (hs : E_v_isSign 40 so wo = 1) (hp : pi < 1000) (hd : d < 8) : E_v_readPlain go ga ta fr to so wo fau 0 od nc nl (nI pi) (nI d) ft fo fa fp fq wd we = (0, (E_v_next ta fr to so wo ft).1, (E_v_next ta fr to so wo ft).2.1, (E_v_next ta fr to so wo ft).2.2.1, (E_v_next ta fr to so wo ft).2.2.2, fau, 0, nc, nl, nI (pi + 1), nI (d + 1), fo, fa, upd fp pi (nI 31), upd fq pi 0) := by
  rw [E_v_readPlain.eq_def, Lt_b, if_neg (by rw [hw]; decide), Lt_b, if_pos hs, open_p hp (by rw [nI_toInt (by omega)]; omega) (by rw [nI_toInt (by omega)]; omega)]
  simp only [Lt2]
  rw [kn_p1 (a := d) (by omega)]
  rfl
theorem rpl_open_n {go ga ft fo fa fp fq : Nat → Int32} {wd we : Nat → Int64} {ta fr to so fau od nc nl pi : Int32} {wo : Int64} {d : Nat} (hw : E_v_isWord 14836 so wo = 0) (hs : E_v_isSign 40 so wo = 1) (hd : 8 ≤ d) (hd2 : d < 1000) : ∃ a b c e h1 h2 h3 h4, E_v_readPlain go ga ta fr to so wo fau 0 od nc nl pi (nI d) ft fo fa fp fq wd we = (0, fr, to, so, wo, fr, 1, a, b, c, e, h1, h2, h3, h4) := by
  rw [E_v_readPlain.eq_def, Lt_b, if_neg (by rw [hw]; decide), Lt_b, if_pos hs, open_n (by rw [nI_toInt (by omega)]; omega)]
  simp only [Lt2]
  exact ⟨_, _, _, _, _, _, _, _, rfl⟩
theorem rpl_part {go ga ft fo fa fp fq : Nat → Int32} {wd we : Nat → Int64} {ta fr to so fau od nc nl pi opn : Int32} {wo : Int64} (hw : E_v_isWord 14836 so wo = 0) (hs : E_v_isSign 40 so wo = 0) : E_v_readPlain go ga ta fr to so wo fau 0 od nc nl pi opn ft fo fa fp fq wd we = E_v_readPart go ga ta fr to so wo fau 0 od nc nl pi opn ft fo fa fp fq wd we := by
  rw [E_v_readPlain.eq_def, Lt_b, if_neg (by rw [hw]; decide), Lt_b, if_neg (by rw [hs]; decide)]
  rfl
theorem SE.evens {od m a b x y : Nat} {fc op ar : Nat → Int32} (h : SE od KT_ 1 m fc a b op ar x y) : ∀ k, (∀ j, y ≤ j → j < y + 2 * k → op j = 28) → y + 2 * k ≤ 1000000 → SE od KT_ 1 m fc a b op ar x (y + 2 * k) := by
  intro k
  induction k with
  | zero => intro _ _; exact h
  | succ k ih =>
    intro h1 h2
    exact (ih (fun j a b => h1 j a (by omega)) (by omega)).not2 (h1 _ (by omega) (by omega)) (h1 _ (by omega) (by omega)) (by omega)
/-- whether an odd number of "not"s stands there -/
noncomputable def tpar (k : Nat) : Int32 := if k % 2 = 0 then 0 else 1
theorem KP.nots {pi : Nat} {fp fq : Nat → Int32} (hp : pi ≤ 400) : ∀ (n nc : Nat) (fo fa : Nat → Int32), pi + n ≤ 400 → nc + n ≤ 900 → (∀ j, pi ≤ j → j < pi + n → fp j = 28) → ∃ fo' fa', KP 3 nc (pi + n) fo fa (nc + n) pi fo' fa' fp fq ∧ (∀ j, j < nc → fo' j = fo j ∧ fa' j = fa j) ∧ ∀ j, nc ≤ j → j < nc + n → fo' j = 28 := by
  intro n
  induction n with
  | zero => intro nc fo fa _ _ _; exact ⟨fo, fa, KP.rfl, fun _ _ => ⟨Eq.refl _, Eq.refl _⟩, fun j a b => by omega⟩
  | succ n ih =>
    intro nc fo fa h1 h2 h3
    obtain ⟨fo', fa', k1, k2, k3⟩ := ih (nc + 1) (upd fo nc (nI 28)) (upd fa nc 0) (by omega) (by omega) (fun j a b => h3 j a (by omega))
    refine ⟨fo', fa', ?_, fun j hj => ?_, fun j a b => ?_⟩
    · have e := KP.emit (K := 3) (nc := nc) (pi := pi + n) (o := 28) (fo := fo) (fa := fa) (fp := fp) (fq := fq) (by omega) (by omega) (by omega) (h3 (pi + n) (by omega) (by omega)) (by decide)
      rw [show nc + (n + 1) = nc + 1 + n by omega]
      exact e.trans k1
    · have := k2 j (by omega)
      rw [upd_n (by omega), upd_n (by omega)] at this
      exact this
    · by_cases e : j = nc
      · rw [e, (k2 nc (by omega)).1, upd_s]; exact Eq.refl _
      · exact k3 j (by omega) (by omega)
/-- the innermost bracket below is round, or there is none and a test is read -/
noncomputable def KIn (C : KC_) (fp : Nat → Int32) (pi : Nat) : Prop := (C.2.2.2.2.2.2.1 ≠ 0 ∧ ∀ j, j < pi → ∃ o : Nat, o < 31 ∧ fp j = nI o) ∨ ∃ q, q < pi ∧ fp q = nI 31 ∧ ∀ j, q < j → j < pi → ∃ o : Nat, o < 31 ∧ fp j = nI o
theorem KIn.up {C : KC_} {fp fp1 : Nat → Int32} {pi pi1 : Nat} (h : KIn C fp pi) (h1 : pi ≤ pi1) (h2 : ∀ j, j < pi → fp1 j = fp j) (h3 : ∀ j, pi ≤ j → j < pi1 → ∃ o : Nat, o < 31 ∧ fp1 j = nI o) : KIn C fp1 pi1 := by
  rcases h with ⟨a, b⟩ | ⟨q, a, b, c⟩
  · refine Or.inl ⟨a, fun j hj => ?_⟩
    by_cases e : j < pi
    · rw [h2 j e]; exact b j e
    · exact h3 j (by omega) hj
  · refine Or.inr ⟨q, by omega, by rw [h2 q a]; exact b, fun j h4 h5 => ?_⟩
    by_cases e : j < pi
    · rw [h2 j e]; exact c j h4 e
    · exact h3 j (by omega) h5
theorem KIn.inner {C : KC_} {fp : Nat → Int32} {pi : Nat} (h : KIn C fp pi) (hp : pi ≤ 400) : (E_v_inner (nI pi) fp = -1 ∧ C.2.2.2.2.2.2.1 ≠ 0) ∨ E_v_inner (nI pi) fp = 31 := by
  rcases h with ⟨a, b⟩ | ⟨q, a, b, c⟩
  · exact Or.inl ⟨inner_none hp b, a⟩
  · exact Or.inr (inner_top (b := 31) hp a ⟨by omega, by omega⟩ b c)
noncomputable def KTop2 (fp : Nat → Int32) (pi : Nat) : Prop := pi = 0 ∨ ∃ o : Nat, 28 ≤ o ∧ o ≤ 31 ∧ fp (pi - 1) = nI o
noncomputable def SimPlain (C : KC_) (Ep : KWf) (d : Nat) : Prop := ∀ (fau : Int32) (p : Nat) (c : KT4) (m : KM4) (us nl nc pi w : Nat) (fc fo fa fp fq : Nat → Int32), TkP C.1 C.2.2.1 p c m → us + 2 * w ≤ 2 * p → nc + w ≤ p → pi ≤ p → nl ≤ 50 → d ≤ 8 → KIn C fp pi → KTop2 fp pi →
  KNot C fau 0 d p m nl nc pi fo fa fp fq (Ep (nI d) (klw C.2.2.2.1) (nI nl) (nI C.2.2.1) c.1 c.2.1 c.2.2.1 c.2.2.2 C.1 (nI us) fc) ∨
  KRead C KT_ 3 fau 0 2 1 d p m us nl nc pi w fc fo fa fp fq 20 28 (Ep (nI d) (klw C.2.2.2.1) (nI nl) (nI C.2.2.1) c.1 c.2.1 c.2.2.1 c.2.2.2 C.1 (nI us) fc)
/-- a test was read: what comes behind is neither "and" nor "or" -/
noncomputable def KReadQ (C : KC_) (K : Nat) (fau tn0 : Int32) (tn : Int32) (t d p : Nat) (m : KM4) (us nl nc pi w : Nat) (fc fo fa fp fq : Nat → Int32) (lo hi : Nat) (r : KW8) : Prop :=
  ∃ (p' : Nat) (c' : KT4) (m' : KM4) (us' nl' n1 pi1 n2 : Nat) (fc' fo1 fa1 fp1 fq1 fo2 fa2 : Nat → Int32),
    r = (1, nI nl', c'.1, c'.2.1, c'.2.2.1, c'.2.2.2, nI us', fc') ∧ p < p' ∧ TkP C.1 C.2.2.1 p' c' m' ∧
    KGo C fau tn0 3 p m nc nl pi d fo fa fp fq tn t p' m' n1 nl' pi1 d fo1 fa1 fp1 fq1 ∧
    (pi ≤ pi1 ∧ pi1 ≤ p' ∧ (∀ j, j < pi → fp1 j = fp j ∧ fq1 j = fq j) ∧ ∀ j, pi ≤ j → j < pi1 → ∃ o : Nat, lo ≤ o ∧ o ≤ hi ∧ fp1 j = nI o) ∧
    KP K n1 pi1 fo1 fa1 n2 pi fo2 fa2 fp1 fq1 ∧
    ((∀ j, j < us → fc' j = fc j) ∧ ∀ j, j < nc → fo2 j = fo j ∧ fa2 j = fa j) ∧
    (us ≤ us' ∧ nc ≤ n2 ∧ nl ≤ nl' ∧ nl' ≤ 50 ∧ us' + 2 * w ≤ 2 * p' ∧ n2 + w ≤ p' ∧ n1 ≤ p') ∧
    SE C.2.2.2.1 KT_ 1 (nl' - nl) fc' us us' fo2 fa2 nc n2 ∧ E_v_isWord 1476 m'.2.2.1 m'.2.2.2 = 0 ∧ E_v_isWord 498 m'.2.2.1 m'.2.2.2 = 0
noncomputable def SimTest (C : KC_) (Et : KWf) (d : Nat) : Prop := ∀ (fau : Int32) (p : Nat) (c : KT4) (m : KM4) (us nl nc pi w : Nat) (fc fo fa fp fq : Nat → Int32), TkP C.1 C.2.2.1 p c m → us + 2 * w ≤ 2 * p → nc + w ≤ p → pi ≤ p → nl ≤ 50 → d ≤ 8 → KIn C fp pi → (pi = 0 ∨ fp (pi - 1) = nI 31) →
  KNot C fau 0 d p m nl nc pi fo fa fp fq (Et (nI d) (klw C.2.2.2.1) (nI nl) (nI C.2.2.1) c.1 c.2.1 c.2.2.1 c.2.2.2 C.1 (nI us) fc) ∨
  KReadQ C 1 fau 0 2 1 d p m us nl nc pi w fc fo fa fp fq 20 30 (Et (nI d) (klw C.2.2.2.1) (nI nl) (nI C.2.2.1) c.1 c.2.1 c.2.2.1 c.2.2.2 C.1 (nI us) fc)
/-- the "not"s -/
theorem plain_nots {C : KC_} (hC : KCok C) {Es Et : KWf} {d us nl nc : Nat} {fau : Int32} {fc fo fa : Nat → Int32} (z : Int32 → Int32 → Int32 → Int32 → Int32 → Int32 → KW8) : ∀ (n p : Nat) (c : KT4) (m : KM4) (pi j i : Nat) (fp fq : Nat → Int32), 401 - p ≤ n → i ≤ p → pi ≤ p → TkP C.1 C.2.2.1 p c m →
    ∃ (k p1 : Nat) (c1 : KT4) (m1 : KM4) (fp1 fq1 : Nat → Int32), Lp (E_w_plain_l4 Es Et (nI d) (klw C.2.2.2.1) (nI nl) (nI C.2.2.1) C.1 (nI us) fc) z (403 - i) (nI i) (tpar j) c.1 c.2.1 c.2.2.1 c.2.2.2 = E_w_plain_j36 Es Et (nI d) (klw C.2.2.2.1) (nI nl) (nI C.2.2.1) C.1 (nI us) fc (tpar (j + k)) c1.1 c1.2.1 c1.2.2.1 c1.2.2.2 ∧ p + k ≤ p1 ∧ TkP C.1 C.2.2.1 p1 c1 m1 ∧ KGo C fau 0 3 p m nc nl pi d fo fa fp fq 0 3 p1 m1 nc nl (pi + k) d fo fa fp1 fq1 ∧ (∀ q, q < pi → fp1 q = fp q ∧ fq1 q = fq q) ∧ (∀ q, pi ≤ q → q < pi + k → fp1 q = 28) ∧ E_v_isWord 14836 m1.2.2.1 m1.2.2.2 = 0 := by
  intro n
  induction n with
  | zero => intro p c m pi j i fp fq hn _ _ hT; have := hT.1; have := hT.2.1; omega
  | succ n ih =>
    intro p c m pi j i fp fq hn hi hpi hT
    have hL := hT.2.1
    have hpL := hT.1
    rw [show 403 - i = (402 - i) + 1 by omega, Lp_s, E_w_plain_l4.eq_def, if_neg (kn_nltl' (by omega) (by omega))]
    rcases tk_one (k := 7) (c := 14836) (tf := c.1) (tt := c.2.1) (ti := c.2.2.1) (tu := c.2.2.2) (fr := m.1) (to := m.2.1) (so := m.2.2.1) (wo := m.2.2.2) (by omega) (by omega) rfl (by decide +kernel) hT (nI C.2.2.1) with ⟨f0, w1, pl⟩ | ⟨f0, w0⟩
    · obtain ⟨q, q1, q2, hQ⟩ := tk_next hC hT
      have qp := q2 pl
      have hqL := hQ.1
      rw [pas_p f0]
      have rr := rpl_not (go := C.2.2.2.2.2.2.2.1) (ga := C.2.2.2.2.2.2.2.2) (ft := C.2.1) (fo := fo) (fa := fa) (fp := fp) (fq := fq) (wd := C.2.2.2.2.1) (we := C.2.2.2.2.2.1) (ta := nI C.2.2.1) (fr := m.1) (to := m.2.1) (fau := fau) (od := kod C.2.2.2.1) (nc := nI nc) (nl := nI nl) (opn := nI d) w1 (show pi < 1000 by omega)
      have g1 : KGo C fau 0 3 p m nc nl pi d fo fa fp fq 0 3 q (E_v_next (nI C.2.2.1) m.1 m.2.1 m.2.2.1 m.2.2.2 C.2.1) nc nl (pi + 1) d fo fa (upd fp pi 28) (upd fq pi 0) :=
        KGo.one (mz_lt qp (by omega) (by omega)) (fun F => by rw [kL_plain rr])
      obtain ⟨k, p1, c1, m1, fp1, fq1, r1, r2, r3, r4, r5, r6, r7⟩ := ih q _ _ (pi + 1) (j + 1) (i + 1) (upd fp pi 28) (upd fq pi 0) (by omega) (by omega) (by omega) hQ
      refine ⟨k + 1, p1, c1, m1, fp1, fq1, ?_, by omega, r3, ?_, fun x hx => ?_, fun x h1 h2 => ?_, r7⟩
      · rw [show j + (k + 1) = j + 1 + k by omega, ← r1]
        simp only [Lt2]
        rw [if_neg (show ¬ (1 : Int32) = 0 by decide)]
        unfold tpar
        by_cases e : j % 2 = 0
        · rw [if_pos e, if_pos (by trivial), if_neg (show ¬ (j + 1) % 2 = 0 by omega), Lt_b, kn_po (by omega), show 402 - i = 403 - (i + 1) by omega]
        · rw [if_neg e, if_neg (show ¬ (1 : Int32) = 0 by decide), if_pos (show (j + 1) % 2 = 0 by omega), Lt_b, kn_po (by omega), show 402 - i = 403 - (i + 1) by omega]
      · rw [show pi + (k + 1) = pi + 1 + k by omega]; exact g1.trans r4
      · have := r5 x (by omega)
        rw [upd_n (by omega), upd_n (by omega)] at this
        exact this
      · by_cases e : x = pi
        · rw [e, (r5 pi (by omega)).1, upd_s]
        · exact r6 x (by omega) (by omega)
    · rw [pas_n f0]
      refine ⟨0, p, c, m, fp, fq, ?_, by omega, hT, fun F hF => ⟨F, hF, rfl⟩, fun _ _ => ⟨rfl, rfl⟩, fun x h1 h2 => by omega, w0⟩
      simp only [Lt2]
      rw [if_pos (by trivial)]
      rfl
end
section
theorem tpar_0 {k : Nat} (h : k % 2 = 0) : tpar k = 0 := if_pos h
theorem tpar_1 {k : Nat} (h : ¬ k % 2 = 0) : tpar k = 1 := if_neg h
/-- a plain test is whole: its "not"s wait -/
theorem plain_fin {C : KC_} {fau : Int32} {d p us nl nc pi w k : Nat} {m : KM4} {fc fo fa fp fq : Nat → Int32} {p3 : Nat} {c3 : KT4} {m3 : KM4} {us3 nl3 n3 pi3 nX : Nat} {fc3 fo3 fa3 fp3 fq3 foX faX : Nat → Int32} (hp : p < p3) (hT : TkP C.1 C.2.2.1 p3 c3 m3) (hgo : KGo C fau 0 3 p m nc nl pi d fo fa fp fq 2 1 p3 m3 n3 nl3 pi3 d fo3 fa3 fp3 fq3) (h1 : pi + k ≤ pi3 ∧ pi3 ≤ p3) (h2 : ∀ j, j < pi → fp3 j = fp j ∧ fq3 j = fq j) (h3 : ∀ j, pi ≤ j → j < pi + k → fp3 j = 28) (h4 : ∀ j, pi + k ≤ j → j < pi3 → ∃ o : Nat, 20 ≤ o ∧ o ≤ 28 ∧ fp3 j = nI o) (h5 : KP 3 n3 pi3 fo3 fa3 nX (pi + k) foX faX fp3 fq3) (h6 : ∀ j, j < us → fc3 j = fc j) (h7 : ∀ j, j < nc → foX j = fo j ∧ faX j = fa j) (h8 : us ≤ us3 ∧ nc ≤ nX ∧ nl ≤ nl3 ∧ nl3 ≤ 50 ∧ us3 + 2 * (w + k) ≤ 2 * p3 ∧ nX + (w + k) ≤ p3 ∧ n3 ≤ p3) (h9 : SE C.2.2.2.1 KT_ 1 (nl3 - nl) fc3 us us3 foX faX nc nX) : KRead C KT_ 3 fau 0 2 1 d p m us nl nc pi w fc fo fa fp fq 20 28 (E_w_plain_j143 (tpar k) (nI nl3) c3.1 c3.2.1 c3.2.2.1 c3.2.2.2 (nI us3) fc3) := by
  have hL := hT.2.1
  have hpL := hT.1
  obtain ⟨fo', fa', k1, k2, k3⟩ := KP.nots (pi := pi) (fp := fp3) (fq := fq3) (by omega) k nX foX faX (by omega) (by omega) h3
  have se := h9.ext (fc' := fc3) (op' := fo') (ar' := fa') (fun _ _ _ => rfl) (fun j _ hj => k2 j hj)
  have ev := se.evens (k / 2) (fun j a b => k3 j a (by omega)) (by omega)
  have pend : ∀ j, pi ≤ j → j < pi3 → ∃ o : Nat, 20 ≤ o ∧ o ≤ 28 ∧ fp3 j = nI o := fun j a b => by
    by_cases e : j < pi + k
    · exact ⟨28, by omega, by omega, h3 j a e⟩
    · exact h4 j (by omega) b
  rw [E_w_plain_j143.eq_def]
  by_cases e : k % 2 = 0
  · rw [tpar_0 e, if_pos rfl, E_w_plain_j158.eq_def]
    rw [show nX + 2 * (k / 2) = nX + k by omega] at ev
    exact ⟨p3, c3, m3, us3, nl3, n3, pi3, nX + k, fc3, fo3, fa3, fp3, fq3, fo', fa', rfl, hp, hT, hgo, ⟨by omega, h1.2, h2, pend⟩, h5.trans k1, ⟨h6, fun j hj => ⟨(k2 j (by omega)).1.trans (h7 j hj).1, (k2 j (by omega)).2.trans (h7 j hj).2⟩⟩, ⟨by omega, by omega, by omega, by omega, by omega, by omega, by omega⟩, ev⟩
  · rw [tpar_1 e, if_neg (by decide), emit_at (by omega), Lt2_b, Lt2_b, E_w_plain_j158.eq_def]
    have ev2 := (ev.ext (fc' := upd (upd fc3 us3 11) (us3 + 1) 0) (op' := fo') (ar' := fa') (fun j _ hj => by rw [upd_n (by omega), upd_n (by omega)]) (fun _ _ _ => ⟨rfl, rfl⟩)).not1 (by rw [upd_n (by omega), upd_s]) (k3 _ (by omega) (by omega)) (by omega) (by omega)
    rw [show nX + 2 * (k / 2) + 1 = nX + k by omega] at ev2
    exact ⟨p3, c3, m3, us3 + 2, nl3, n3, pi3, nX + k, _, fo3, fa3, fp3, fq3, fo', fa', rfl, hp, hT, hgo, ⟨by omega, h1.2, h2, pend⟩, h5.trans k1, ⟨fun j hj => by show upd (upd fc3 us3 11) (us3 + 1) 0 j = fc j; rw [upd_n (by omega), upd_n (by omega)]; exact h6 j hj, fun j hj => ⟨(k2 j (by omega)).1.trans (h7 j hj).1, (k2 j (by omega)).2.trans (h7 j hj).2⟩⟩, ⟨by omega, by omega, by omega, by omega, by omega, by omega, by omega⟩, ev2⟩
theorem op8_p {lw pa tf tt ti tu ln : Int32} {fb : Nat → Int32} {o : Nat} (h1 : 25 ≤ o) (h2 : o ≤ 27) (h : ti = kcc o) : E_w_operator 8 8 lw pa ln tf tt ti tu fb = (nI (o - 17), E_w_step ln tf tt ti tu fb) := by
  have e : ∀ o, 25 ≤ o → o ≤ 27 → ∀ i, i < 3 → kcc o = sf 8 i → i = o - 25 := by
    intro o h1 h2
    rcases (show o = 25 ∨ o = 26 ∨ o = 27 by omega) with rfl | rfl | rfl <;> decide
  have e2 : ∀ o, 25 ≤ o → o ≤ 27 → kcc o = sf 8 (o - 25) := by
    intro o h1 h2
    rcases (show o = 25 ∨ o = 26 ∨ o = 27 by omega) with rfl | rfl | rfl <;> decide
  rw [show (8 : Int32) = nI 8 from rfl]
  rcases op_at (k := 8) (n := 3) (x0 := 8) (lw := lw) (pa := pa) (tf := tf) (tt := tt) (ti := ti) (tu := tu) (ln := ln) (fb := fb) (by omega) rfl (by omega) with ⟨i, i1, i2, i3⟩ | ⟨i1, _⟩
  · have := e o h1 h2 i i1 (h.symm.trans i2)
    rw [i3, show 8 + i = o - 17 by omega]
  · exact absurd (h.trans (e2 o h1 h2)) (i1 (o - 25) (by omega))
theorem op8_n {lw pa tf tt ti tu ln : Int32} {fb : Nat → Int32} (h : ∀ u, 25 ≤ u → u ≤ 27 → ti ≠ kcc u) : E_w_operator 8 8 lw pa ln tf tt ti tu fb = (-1, tf, tt, ti, tu) := by
  rw [show (8 : Int32) = nI 8 from rfl]
  rcases op_at (k := 8) (n := 3) (x0 := 8) (lw := lw) (pa := pa) (tf := tf) (tt := tt) (ti := ti) (tu := tu) (ln := ln) (fb := fb) (by omega) rfl (by omega) with ⟨i, i1, i2, _⟩ | ⟨_, i2⟩
  · have e : ∀ i, i < 3 → sf 8 i = kcc (25 + i) := by decide
    exact absurd (i2.trans (e i i1)) (h (25 + i) (by omega) (by omega))
  · exact i2
theorem tk_cmp {C : KC_} {p : Nat} {c : KT4} {m : KM4} (h : TkP C.1 C.2.2.1 p c m) : (∃ o, 25 ≤ o ∧ o ≤ 27 ∧ c.2.2.1 = kcc o ∧ p < C.2.2.1 ∧ ∀ u, 25 ≤ u → u ≤ 27 → E_v_isSign (kcc u) m.2.2.1 m.2.2.2 = if u = o then 1 else 0) ∨ ((∀ u, 25 ≤ u → u ≤ 27 → c.2.2.1 ≠ kcc u) ∧ ∀ u, 25 ≤ u → u ≤ 27 → E_v_isSign (kcc u) m.2.2.1 m.2.2.2 = 0) := by
  have inj : ∀ u, 25 ≤ u → u ≤ 27 → ∀ v, 25 ≤ v → v ≤ 27 → kcc u = kcc v → u = v := by
    intro u h1 h2 v h3 h4
    rcases (show u = 25 ∨ u = 26 ∨ u = 27 by omega) with rfl | rfl | rfl <;> rcases (show v = 25 ∨ v = 26 ∨ v = 27 by omega) with rfl | rfl | rfl <;> decide
  have sg := fun u (h1 : 25 ≤ u) (h2 : u ≤ 27) => tk_sign (c := kcc u) (tf := c.1) (tt := c.2.1) (ti := c.2.2.1) (tu := c.2.2.2) (fr := m.1) (to := m.2.1) (so := m.2.2.1) (wo := m.2.2.2) (kcc_ok u h1 h2) h
  by_cases q : ∃ o, 25 ≤ o ∧ o ≤ 27 ∧ c.2.2.1 = kcc o
  · obtain ⟨o, o1, o2, o3⟩ := q
    have pl : p < C.2.2.1 := by
      rcases sg o o1 o2 with ⟨_, _, s3⟩ | ⟨s1, _⟩
      · exact s3
      · exact absurd o3 s1
    refine Or.inl ⟨o, o1, o2, o3, pl, fun u h1 h2 => ?_⟩
    rcases sg u h1 h2 with ⟨s1, s2, _⟩ | ⟨s1, s2⟩
    · rw [if_pos (inj u h1 h2 o o1 o2 (s1.symm.trans o3))]; exact s2
    · rw [if_neg (fun e => s1 (by rw [e]; exact o3))]; exact s2
  · refine Or.inr ⟨fun u h1 h2 e => q ⟨u, h1, h2, e⟩, fun u h1 h2 => ?_⟩
    rcases sg u h1 h2 with ⟨s1, _, _⟩ | ⟨_, s2⟩
    · exact absurd ⟨u, h1, h2, s1⟩ q
    · exact s2
/-- behind a sum no operator of sums stands -/
theorem nsg_at {C : KC_} {p : Nat} {c : KT4} {m : KM4} (h : TkP C.1 C.2.2.1 p c m) (hn : ¬ KSg c.2.2.1) : ∀ u, 20 ≤ u → u ≤ 24 → E_v_isSign (kch u) m.2.2.1 m.2.2.2 = 0 := by
  rcases tk_op h with ⟨o, o1, o2, o3, _, _⟩ | ⟨_, o2⟩
  · refine absurd ?_ hn
    unfold KSg
    rcases (show o = 20 ∨ o = 21 ∨ o = 22 ∨ o = 23 ∨ o = 24 by omega) with rfl | rfl | rfl | rfl | rfl
    · exact Or.inr (Or.inr (Or.inr (Or.inl o3)))
    · exact Or.inr (Or.inr (Or.inr (Or.inr o3)))
    · exact Or.inl o3
    · exact Or.inr (Or.inl o3)
    · exact Or.inr (Or.inr (Or.inl o3))
  · exact o2
/-- A PLAIN TEST IS READ ALIKE -/
theorem sim_plain {C : KC_} (hC : KCok C) {Es Et : KWf} {d : Nat} (hS : SimSum C Es d) (hTt : d < 8 → SimTest C Et (d + 1)) : SimPlain C (fun d lw pa ln tf tt ti tu fb us fc => E_w_plain Es Et d lw pa ln tf tt ti tu fb us fc) d := by
  intro fau p c m us nl nc pi w fc fo fa fp fq hT hus hnc hpi hnl hd hin htop
  show KNot C fau 0 d p m nl nc pi fo fa fp fq (E_w_plain Es Et (nI d) (klw C.2.2.2.1) (nI nl) (nI C.2.2.1) c.1 c.2.1 c.2.2.1 c.2.2.2 C.1 (nI us) fc) ∨ KRead C KT_ 3 fau 0 2 1 d p m us nl nc pi w fc fo fa fp fq 20 28 (E_w_plain Es Et (nI d) (klw C.2.2.2.1) (nI nl) (nI C.2.2.1) c.1 c.2.1 c.2.2.1 c.2.2.2 C.1 (nI us) fc)
  obtain ⟨k, p1, c1, m1, fp1, fq1, r1, r2, r3, r4, r5, r6, r7⟩ := plain_nots (Es := Es) (Et := Et) (d := d) (us := us) (nl := nl) (nc := nc) (fau := fau) (fc := fc) (fo := fo) (fa := fa) hC (fun _ _ _ _ _ _ => ((0, 0, 0, 0, 0, 0, 0, fun _ => 0) : KW8)) 401 p c m pi 0 0 fp fq (by omega) (by omega) hpi hT
  have e0 : E_w_plain Es Et (nI d) (klw C.2.2.2.1) (nI nl) (nI C.2.2.1) c.1 c.2.1 c.2.2.1 c.2.2.2 C.1 (nI us) fc = E_w_plain_j36 Es Et (nI d) (klw C.2.2.2.1) (nI nl) (nI C.2.2.1) C.1 (nI us) fc (tpar k) c1.1 c1.2.1 c1.2.2.1 c1.2.2.2 := by
    rw [Nat.zero_add] at r1
    rw [E_w_plain.eq_def]; exact r1
  rw [e0]
  have hL := r3.2.1
  have hpL := r3.1
  have fr := TkP.froms (tf := c1.1) (tt := c1.2.1) (ti := c1.2.2.1) (tu := c1.2.2.2) (fr := m1.1) (to := m1.2.1) (so := m1.2.2.1) (wo := m1.2.2.2) r3
  have in1 : KIn C fp1 (pi + k) := hin.up (by omega) (fun j hj => (r5 j hj).1) (fun j a b => ⟨28, by omega, r6 j a b⟩)
  have top1 : KTop2 fp1 (pi + k) := by
    by_cases k0 : k = 0
    · rcases htop with h | ⟨o, o1, o2, o3⟩
      · exact Or.inl (by omega)
      · by_cases z : pi = 0
        · exact Or.inl (by omega)
        · exact Or.inr ⟨o, o1, o2, by rw [show pi + k - 1 = pi - 1 by omega, (r5 (pi - 1) (by omega)).1]; exact o3⟩
    · exact Or.inr ⟨28, by omega, by omega, r6 (pi + k - 1) (by omega) (by omega)⟩
  obtain ⟨q, q1, q2, hQ⟩ := tk_next hC r3
  have hqL := hQ.1
  rw [E_w_plain_j36.eq_def]
  rcases tk_sign (c := 40) (tf := c1.1) (tt := c1.2.1) (ti := c1.2.2.1) (tu := c1.2.2.2) (fr := m1.1) (to := m1.2.1) (so := m1.2.2.1) (wo := m1.2.2.2) (by decide) r3 with ⟨s1, s2, s3⟩ | ⟨s1, s2⟩
  · -- "("
    rw [if_pos s1]
    by_cases cd : d < 8
    case neg =>
      rw [if_neg (kn_nltl (j := 8) rfl (by omega) (by omega))]
      obtain ⟨a, b, e, g, h1, h2, h3, h4, hr⟩ := rpl_open_n (go := C.2.2.2.2.2.2.2.1) (ga := C.2.2.2.2.2.2.2.2) (ft := C.2.1) (fo := fo) (fa := fa) (fp := fp1) (fq := fq1) (wd := C.2.2.2.2.1) (we := C.2.2.2.2.2.1) (ta := nI C.2.2.1) (fr := m1.1) (to := m1.2.1) (fau := fau) (od := kod C.2.2.2.1) (nc := nI nc) (nl := nI nl) (pi := nI (pi + k)) r7 s2 (show 8 ≤ d by omega) (by omega)
      exact Or.inl ⟨rfl, p1, fr.1, r4.bad (KBad.one (fun F => ⟨_, _, _, _, _, _, _, _, _, _, _, _, _, by rw [kL_plain hr, fr.2.1]⟩))⟩
    rw [if_pos (kn_ltl (j := 8) rfl (by omega) cd)]
    have qp : p1 < q := q2 s3
    have ho := rpl_open (go := C.2.2.2.2.2.2.2.1) (ga := C.2.2.2.2.2.2.2.2) (ft := C.2.1) (fo := fo) (fa := fa) (fp := fp1) (fq := fq1) (wd := C.2.2.2.2.1) (we := C.2.2.2.2.2.1) (ta := nI C.2.2.1) (fr := m1.1) (to := m1.2.1) (fau := fau) (od := kod C.2.2.2.1) (nc := nI nc) (nl := nI nl) r7 s2 (show pi + k < 1000 by omega) cd
    have g1 : KGo C fau 0 3 p1 m1 nc nl (pi + k) d fo fa fp1 fq1 0 3 q (E_v_next (nI C.2.2.1) m1.1 m1.2.1 m1.2.2.1 m1.2.2.2 C.2.1) nc nl (pi + k + 1) (d + 1) fo fa (upd fp1 (pi + k) (nI 31)) (upd fq1 (pi + k) 0) :=
      KGo.one (mz_lt qp (by omega) (by omega)) (fun F => by rw [kL_plain ho])
    have ss := hTt cd fau q _ _ us nl nc (pi + k + 1) (w + k) fc fo fa (upd fp1 (pi + k) (nI 31)) (upd fq1 (pi + k) 0) hQ (by omega) (by omega) (by omega) hnl (by omega) (Or.inr ⟨pi + k, by omega, upd_s, fun j a b => by omega⟩) (Or.inr (by rw [show pi + k + 1 - 1 = pi + k by omega, upd_s]))
    simp only [Lt2, Lt]
    rw [kn_p1 (a := d) (by omega)]
    generalize hR : Et (nI (d + 1)) (klw C.2.2.2.1) (nI nl) (nI C.2.2.1) (E_w_step (nI C.2.2.1) c1.1 c1.2.1 c1.2.2.1 c1.2.2.2 C.1).1 (E_w_step (nI C.2.2.1) c1.1 c1.2.1 c1.2.2.1 c1.2.2.2 C.1).2.1 (E_w_step (nI C.2.2.1) c1.1 c1.2.1 c1.2.2.1 c1.2.2.2 C.1).2.2.1 (E_w_step (nI C.2.2.1) c1.1 c1.2.1 c1.2.2.1 c1.2.2.2 C.1).2.2.2 C.1 (nI us) fc = R at ss ⊢
    rcases ss with ⟨n1, q', n2, n3⟩ | ⟨p', c', m', us', nl', k1, pi1, k2, fc', fo1, fa1, fp2, fq2, fo2, fa2, e1, e2, e3, e4, e5, e6, e7, e8, e9, w1, w2⟩
    · rw [if_pos n1]
      exact Or.inl ⟨rfl, q', n2, (r4.trans g1).bad n3⟩
    · subst e1
      rw [if_neg (show ¬ (1 : Int32) = 0 by decide)]
      have fr' := TkP.froms (tf := c'.1) (tt := c'.2.1) (ti := c'.2.2.1) (tu := c'.2.2.2) (fr := m'.1) (to := m'.2.1) (so := m'.2.2.1) (wo := m'.2.2.2) e3
      have hL' := e3.1
      have f31 : fp2 (pi + k) = nI 31 := by rw [(e5.2.2.1 (pi + k) (by omega)).1, upd_s]
      have inn : E_v_inner (nI pi1) fp2 = 31 := inner_top (b := 31) (q := pi + k) (by have := e5.2.1; omega) (by have := e5.1; omega) ⟨by omega, by omega⟩ f31 (fun j h1 h2 => by
        obtain ⟨o, o1, o2, o3⟩ := e5.2.2.2 j (by omega) h2
        exact ⟨o, by omega, o3⟩)
      obtain ⟨r, t1, t2, hR2⟩ := tk_next hC e3
      rcases tk_sign (c := 41) (tf := c'.1) (tt := c'.2.1) (ti := c'.2.2.1) (tu := c'.2.2.2) (fr := m'.1) (to := m'.2.1) (so := m'.2.2.1) (wo := m'.2.2.2) (by decide) e3 with ⟨u1, u2, u3⟩ | ⟨u1, u2⟩
      · rw [if_pos u1]
        have rp := t2 u3
        have hrL := hR2.1
        have kk : kst 1 k1 pi1 fo1 fa1 fp2 fq2 = (nI k2, nI (pi + k + 1), fo2, fa2) := by
          rw [e6 1 (Nat.le_refl _)]
          exact kst_stop (o := 31) (by omega) (by omega) (by omega) f31 (by decide)
        have bt := bt_close (go := C.2.2.2.2.2.2.2.1) (ga := C.2.2.2.2.2.2.2.2) (ft := C.2.1) (ta := nI C.2.2.1) (fr := m'.1) (to := m'.2.1) (fau := fau) (nl := nI nl') w1 w2 inn u2 (show pi1 < 1000 by have := e5.2.1; omega) (show pi + k < 1000 by omega) (show d < 1000 by omega) kk
        have g2 : KGo C fau 2 1 p' m' k1 nl' pi1 (d + 1) fo1 fa1 fp2 fq2 2 1 r (E_v_next (nI C.2.2.1) m'.1 m'.2.1 m'.2.2.1 m'.2.2.2 C.2.1) k2 nl' (pi + k) d fo2 fa2 fp2 fq2 :=
          KGo.one (mz_lt rp (by omega) (by omega)) (fun F => by rw [kL_test bt])
        refine Or.inr (plain_fin (p3 := r) (k := k) (show p < r by omega) hR2 (((r4.trans g1).trans e4).trans g2) ⟨Nat.le_refl _, by omega⟩ (fun j hj => ?_) (fun j a b => ?_) (fun j a b => by omega) KP.rfl e7.1 e7.2 ⟨e8.1, e8.2.1, e8.2.2.1, e8.2.2.2.1, by omega, by omega, by omega⟩ e9)
        · have := e5.2.2.1 j (by omega)
          rw [upd_n (by omega), upd_n (by omega)] at this
          exact ⟨this.1.trans (r5 j hj).1, this.2.trans (r5 j hj).2⟩
        · have := (e5.2.2.1 j (by omega)).1
          rw [upd_n (by omega)] at this
          exact this.trans (r6 j a b)
      · rw [if_neg u1]
        obtain ⟨a, b, e, h1, h2, h3, h4, hb⟩ := bt_close_n (go := C.2.2.2.2.2.2.2.1) (ga := C.2.2.2.2.2.2.2.2) (ft := C.2.1) (fo := fo1) (fa := fa1) (fq := fq2) (ta := nI C.2.2.1) (fr := m'.1) (to := m'.2.1) (fau := fau) (nc := nI k1) (nl := nI nl') (opn := nI (d + 1)) w1 w2 inn u2
        exact Or.inl ⟨rfl, p', fr'.1, ((r4.trans g1).trans e4).bad (KBad.one (fun F => ⟨_, _, _, _, _, _, _, _, _, _, _, _, _, by rw [kL_test hb, fr'.2.1]⟩))⟩
  · -- a comparison
    rw [if_neg s1]
    have swap : ∀ F, kL C (F + 1) 0 m1.1 m1.2.1 m1.2.2.1 m1.2.2.2 fau 0 (nI nc) (nI nl) (nI (pi + k)) (nI d) fo fa fp1 fq1 = kL C (F + 1) 1 m1.1 m1.2.1 m1.2.2.1 m1.2.2.2 fau 0 (nI nc) (nI nl) (nI (pi + k)) (nI d) fo fa fp1 fq1 := fun F => by
      rw [kL_plain (rpl_part r7 s2), kL_part rfl]
    have sBad : ∀ {x : Nat}, KBad C 1 3 p1 m1 fau nc nl (pi + k) d fo fa fp1 fq1 x → KBad C 0 3 p1 m1 fau nc nl (pi + k) d fo fa fp1 fq1 x := fun hb F hF => by
      have := hb F hF
      have e := swap (F - 1)
      rw [show F - 1 + 1 = F by omega] at e
      rw [e]; exact this
    have sGo : ∀ {tn : Int32} {t p' : Nat} {m' : KM4} {n nl' pi' : Nat} {f1 f2 f3 f4 : Nat → Int32}, KGo C fau 1 3 p1 m1 nc nl (pi + k) d fo fa fp1 fq1 tn t p' m' n nl' pi' d f1 f2 f3 f4 → KGo C fau 0 3 p1 m1 nc nl (pi + k) d fo fa fp1 fq1 tn t p' m' n nl' pi' d f1 f2 f3 f4 := fun hg F hF => by
      have := hg F hF
      have e := swap (F - 1)
      rw [show F - 1 + 1 = F by omega] at e
      rw [e]; exact this
    have topS : KTop fp1 (pi + k) := by
      rcases top1 with h | ⟨o, o1, o2, o3⟩
      · exact Or.inl h
      · exact Or.inr ⟨o, by omega, by omega, o3⟩
    have ss := hS fau p1 c1 m1 us nl nc (pi + k) (w + k) fc fo fa fp1 fq1 r3 (by omega) (by omega) (by omega) hnl hd topS
    simp only [Lt2]
    generalize hR : Es (nI d) (klw C.2.2.2.1) (nI nl) (nI C.2.2.1) c1.1 c1.2.1 c1.2.2.1 c1.2.2.2 C.1 (nI us) fc = R at ss ⊢
    rcases ss with ⟨n1, q', n2, n3⟩ | ⟨⟨p', c', m', us', nl', k1, pi1, k2, fc', fo1, fa1, fp2, fq2, fo2, fa2, e1, e2, e3, e4, e5, e6, e7, e8, e9⟩, nsg⟩
    · rw [if_pos n1]
      exact Or.inl ⟨rfl, q', n2, r4.bad (sBad n3)⟩
    subst e1
    rw [if_neg (show ¬ (1 : Int32) = 0 by decide)]
    have nsg : ¬ KSg c'.2.2.1 := nsg
    have h5 := nsg_at e3 nsg
    have fr' := TkP.froms (tf := c'.1) (tt := c'.2.1) (ti := c'.2.2.1) (tu := c'.2.2.2) (fr := m'.1) (to := m'.2.1) (so := m'.2.2.1) (wo := m'.2.2.2) e3
    have hL' := e3.1
    have in2 : KIn C fp2 pi1 := in1.up e5.1 (fun j hj => (e5.2.2.1 j hj).1) (fun j a b => by
      obtain ⟨o, o1, o2, o3⟩ := e5.2.2.2 j a b
      exact ⟨o, by omega, o3⟩)
    have inn2 := in2.inner (by have := e5.2.1; omega)
    have isc0 : E_v_isCompared (nI pi1) fp2 = 0 := by
      have q := isc_at (fp := fp2) (pi := pi1) (q := pi + k) (by have := e5.2.1; omega) e5.1 (fun j a b => e5.2.2.2 j a b)
      rcases top1 with h | ⟨o, o1, o2, o3⟩
      · exact q.1 h
      · by_cases z : pi + k = 0
        · exact q.1 z
        · have := q.2 (pi + k - 1) o (by omega) (by omega) (by rw [(e5.2.2.1 (pi + k - 1) (by omega)).1]; exact o3) (by omega)
          rw [this, if_neg (by omega)]
    obtain ⟨r, t1, t2, hR2⟩ := tk_next hC e3
    have hrL := hR2.1
    rcases tk_cmp e3 with ⟨o, o1, o2, o3, o4, o5⟩ | ⟨o1, o2⟩
    case inr =>
      rw [op8_n o1]
      simp only []
      rw [if_pos (by trivial)]
      obtain ⟨a, b, e, h1, h2, h3, h4, hb⟩ := bs_cmp_n (go := C.2.2.2.2.2.2.2.1) (ga := C.2.2.2.2.2.2.2.2) (ft := C.2.1) (fo := fo1) (fa := fa1) (fq := fq2) (ta := nI C.2.2.1) (fr := m'.1) (to := m'.2.1) (fau := fau) (nc := nI k1) (nl := nI nl') (opn := nI d) h5 o2 inn2 isc0
      exact Or.inl ⟨rfl, p', fr'.1, (r4.trans (sGo e4)).bad (KBad.one (fun F => ⟨_, _, _, _, _, _, _, _, _, _, _, _, _, by rw [kL_sum hb, fr'.2.1]⟩))⟩
    have rp := t2 o4
    rw [op8_p o1 o2 o3]
    simp only []
    rw [if_neg (fun h => by have := congrArg Int32.toInt h; rw [nI_toInt (by omega)] at this; have z1 : (-1 : Int32).toInt = -1 := rfl; omega)]
    have kk : kst 5 k1 pi1 fo1 fa1 fp2 fq2 = (nI k2, nI (pi + k), fo2, fa2) := by
      rw [e6 5 (Nat.le_refl _)]
      rcases top1 with h | ⟨o', p1', p2', p3'⟩
      · rw [h]; exact kst_0
      · by_cases z : pi + k = 0
        · rw [z]; exact kst_0
        · have f0 : fp2 (pi + k - 1) = nI o' := by rw [(e5.2.2.1 (pi + k - 1) (by omega)).1]; exact p3'
          rw [show pi + k = (pi + k - 1) + 1 by omega]
          exact kst_stop (o := o') (by omega) (by omega) (by omega) f0 (by unfold kbd; (repeat' split) <;> omega)
    have bs := bs_cmp (go := C.2.2.2.2.2.2.2.1) (ga := C.2.2.2.2.2.2.2.2) (ft := C.2.1) (ta := nI C.2.2.1) (fr := m'.1) (to := m'.2.1) (fau := fau) (nl := nI nl') (opn := nI d) ⟨o1, o2⟩ h5 o5 inn2 isc0 (show pi1 < 1000 by have := e5.2.1; omega) (show pi + k < 1000 by omega) kk
    have g2 : KGo C fau 3 2 p' m' k1 nl' pi1 d fo1 fa1 fp2 fq2 1 3 r (E_v_next (nI C.2.2.1) m'.1 m'.2.1 m'.2.2.1 m'.2.2.2 C.2.1) k2 nl' (pi + k + 1) d fo2 fa2 (upd fp2 (pi + k) (nI o)) (upd fq2 (pi + k) 0) :=
      KGo.one (mz_lt rp (by omega) (by omega)) (fun F => by rw [kL_sum bs])
    have s2' := hS fau r _ _ us' nl' k2 (pi + k + 1) (w + k + 1) fc' fo2 fa2 (upd fp2 (pi + k) (nI o)) (upd fq2 (pi + k) 0) hR2 (by omega) (by omega) (by omega) e8.2.2.2.1 hd (Or.inr ⟨o, by omega, by omega, by rw [show pi + k + 1 - 1 = pi + k by omega, upd_s]⟩)
    generalize hR3 : Es (nI d) (klw C.2.2.2.1) (nI nl') (nI C.2.2.1) (E_w_step (nI C.2.2.1) c'.1 c'.2.1 c'.2.2.1 c'.2.2.2 C.1).1 (E_w_step (nI C.2.2.1) c'.1 c'.2.1 c'.2.2.1 c'.2.2.2 C.1).2.1 (E_w_step (nI C.2.2.1) c'.1 c'.2.1 c'.2.2.1 c'.2.2.2 C.1).2.2.1 (E_w_step (nI C.2.2.1) c'.1 c'.2.1 c'.2.2.1 c'.2.2.2 C.1).2.2.2 C.1 (nI us') fc' = R3 at s2' ⊢
    have go2 := (r4.trans (sGo e4)).trans g2
    rcases s2' with ⟨n1, q', n2, n3⟩ | ⟨⟨p4, c4, m4, us4, nl4, k4, pi4, k5, fc4, fo4, fa4, fp4, fq4, fo5, fa5, a1, a2, a3, a4, a5, a6, a7, a8, a9⟩, nsg4⟩
    · rw [if_pos n1]
      exact Or.inl ⟨rfl, q', n2, go2.bad n3⟩
    subst a1
    rw [if_neg (show ¬ (1 : Int32) = 0 by decide)]
    have nsg4 : ¬ KSg c4.2.2.1 := nsg4
    have hL4 := a3.1
    have fcmp : fp4 (pi + k) = nI o := by rw [(a5.2.2.1 (pi + k) (by omega)).1, upd_s]
    have in4 : KIn C fp4 pi4 := in1.up (by have := a5.1; omega) (fun j hj => by rw [(a5.2.2.1 j (by omega)).1, upd_n (by omega)]; exact (e5.2.2.1 j hj).1) (fun j a b => by
      by_cases z : j = pi + k
      · exact ⟨o, by omega, by rw [z]; exact fcmp⟩
      · obtain ⟨o', p1', p2', p3'⟩ := a5.2.2.2 j (by omega) b
        exact ⟨o', by omega, p3'⟩)
    have isc1 : E_v_isCompared (nI pi4) fp4 = 1 := by
      have q := isc_at (fp := fp4) (pi := pi4) (q := pi + k + 1) (by have := a5.2.1; omega) a5.1 (fun j a b => a5.2.2.2 j a b)
      rw [q.2 (pi + k) o rfl (by omega) fcmp (by omega), if_pos ⟨o1, o2⟩]
    have bt := bs_told (go := C.2.2.2.2.2.2.2.1) (ga := C.2.2.2.2.2.2.2.2) (ft := C.2.1) (fo := fo4) (fa := fa4) (fq := fq4) (ta := nI C.2.2.1) (fr := m4.1) (to := m4.2.1) (fau := fau) (nc := nI k4) (nl := nI nl4) (opn := nI d) (nsg_at a3 nsg4) (in4.inner (by have := a5.2.1; omega)) isc1
    have g3 : KGo C fau 3 2 p4 m4 k4 nl4 pi4 d fo4 fa4 fp4 fq4 2 1 p4 m4 k4 nl4 pi4 d fo4 fa4 fp4 fq4 :=
      KGo.one (by unfold mz; omega) (fun F => by rw [kL_sum bt])
    rw [emit_at (by omega)]
    simp only []
    have se2 : SE C.2.2.2.1 KA_ 2 (nl4 - nl) fc4 us us4 fo5 fa5 nc k5 := by
      have := (e9.ext (fc' := fc4) (op' := fo5) (ar' := fa5) (fun j _ hj => a7.1 j hj) (fun j _ hj => a7.2 j hj)).app a9 (Nat.le_refl 1)
      rw [show nl' - nl + (nl4 - nl') = nl4 - nl by omega] at this
      exact this
    have se3 : SE C.2.2.2.1 KT_ 1 (nl4 - nl) (upd (upd fc4 us4 (nI (o - 17))) (us4 + 1) 0) us (us4 + 2) (upd fo5 k5 (nI o)) (upd fa5 k5 0) nc (k5 + 1) := by
      refine SE.bin (P := KA_) (o := o - 17) (k := 0) (se2.ext (fun j _ hj => by rw [upd_n (by omega), upd_n (by omega)]) (fun j _ hj => ⟨upd_n (by omega), upd_n (by omega)⟩)) ⟨by omega, by omega⟩ (by rw [upd_n (by omega), upd_s]) (by rw [upd_s, show o - 17 + 17 = o by omega]) (by omega) (by omega) (fun X Y v hv => ?_)
      obtain ⟨v', h1, h2⟩ := kz_bin_t (o := o - 17) (x := X) (y := Y) (by omega)
      rw [h1] at hv
      rw [← Option.some.inj hv]; exact h2
    have kp : KP 3 k4 pi4 fo4 fa4 (k5 + 1) (pi + k) (upd fo5 k5 (nI o)) (upd fa5 k5 0) fp4 fq4 :=
      (a6.low (by omega)).trans (KP.emit (by omega) (by omega) (by omega) fcmp (by rcases (show o = 25 ∨ o = 26 ∨ o = 27 by omega) with rfl | rfl | rfl <;> decide))
    refine Or.inr (plain_fin (p3 := p4) (k := k) (show p < p4 by omega) a3 ((go2.trans a4).trans g3) ⟨by have := a5.1; omega, a5.2.1⟩ (fun j hj => ?_) (fun j a b => ?_) (fun j a b => ?_) kp (fun j hj => ?_) (fun j hj => ?_) ⟨by omega, by omega, by omega, a8.2.2.2.1, by omega, by omega, by omega⟩ se3)
    · have z1 := a5.2.2.1 j (by omega)
      rw [upd_n (by omega), upd_n (by omega)] at z1
      have z2 := e5.2.2.1 j (by omega)
      exact ⟨z1.1.trans (z2.1.trans (r5 j hj).1), z1.2.trans (z2.2.trans (r5 j hj).2)⟩
    · have z1 := (a5.2.2.1 j (by omega)).1
      rw [upd_n (by omega)] at z1
      exact z1.trans ((e5.2.2.1 j (by omega)).1.trans (r6 j a b))
    · by_cases z : j = pi + k
      · exact ⟨o, by omega, by omega, by rw [z]; exact fcmp⟩
      · obtain ⟨o', p1', p2', p3'⟩ := a5.2.2.2 j (by omega) b
        exact ⟨o', by omega, by omega, p3'⟩
    · rw [upd_n (by omega), upd_n (by omega), a7.1 j (by omega)]; exact e7.1 j hj
    · rw [upd_n (by omega), upd_n (by omega)]
      exact ⟨(a7.2 j (by omega)).1.trans (e7.2 j hj).1, (a7.2 j (by omega)).2.trans (e7.2 j hj).2⟩
end
