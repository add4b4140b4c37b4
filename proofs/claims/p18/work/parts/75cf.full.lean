/-! the reference's loop of reading -/
noncomputable abbrev KF_ : Type := Nat → Int32
noncomputable abbrev KR14 : Type := Int32 × Int32 × Int32 × Int64 × Int32 × Int32 × Int32 × Int32 × Int32 × Int32 × (Nat → Int32) × (Nat → Int32) × (Nat → Int32) × (Nat → Int32)
noncomputable abbrev KRd : Type := Int32 → Int32 → Int32 → Int32 → Int64 → Int32 → Int32 → Int32 → Int32 → Int32 → Int32 → (Nat → Int32) → (Nat → Int32) → (Nat → Int32) → (Nat → Int32) → KR14
noncomputable abbrev KT4 : Type := Int32 × Int32 × Int32 × Int32
noncomputable abbrev KM4 : Type := Int32 × Int32 × Int32 × Int64
/-- what is told once for a text: bytes (class, reference), length, which language, tables, whether a test is read -/
noncomputable abbrev KC_ : Type := KF_ × KF_ × Nat × Nat × (Nat → Int64) × (Nat → Int64) × Int32 × KF_ × KF_
noncomputable def kod (o : Nat) : Int32 := if o = 0 then 0 else 1
noncomputable def klw (o : Nat) : Int32 := if o = 0 then 1 else 0
noncomputable def KCok (C : KC_) : Prop := C.2.2.1 ≤ 400 ∧ (∀ j, j < C.2.2.1 → C.1 j = C.2.1 j) ∧ C.2.2.2.1 ≤ 1 ∧ KWt C.2.2.2.2.1 C.2.2.2.2.2.1
noncomputable def kL (C : KC_) (F : Nat) : KRd := Lp (α := KRd) (E_v_readExpression_l20 C.2.2.2.2.2.2.1 (nI C.2.2.1) (kod C.2.2.2.1) C.2.1 C.2.2.2.2.2.2.2.1 C.2.2.2.2.2.2.2.2 C.2.2.2.2.1 C.2.2.2.2.2.1) (fun _ _ _ _ _ _ _ _ _ _ _ _ _ _ _ => ((0, 0, 0, 0, 0, 0, 0, 0, 0, 0, fun _ => 0, fun _ => 0, fun _ => 0, fun _ => 0) : KR14)) F
theorem kL_part {C : KC_} {F : Nat} {fr to so fau nc nl pi opn : Int32} {wo : Int64} {fo fa fp fq : Nat → Int32} {r : Int32 × Int32 × Int32 × Int32 × Int64 × Int32 × Int32 × Int32 × Int32 × Int32 × Int32 × (Nat → Int32) × (Nat → Int32) × (Nat → Int32) × (Nat → Int32)} (h : E_v_readPart C.2.2.2.2.2.2.2.1 C.2.2.2.2.2.2.2.2 (nI C.2.2.1) fr to so wo fau 0 (kod C.2.2.2.1) nc nl pi opn C.2.1 fo fa fp fq C.2.2.2.2.1 C.2.2.2.2.2.1 = r) : kL C (F + 1) 1 fr to so wo fau 0 nc nl pi opn fo fa fp fq = kL C F r.1 r.2.1 r.2.2.1 r.2.2.2.1 r.2.2.2.2.1 r.2.2.2.2.2.1 r.2.2.2.2.2.2.1 r.2.2.2.2.2.2.2.1 r.2.2.2.2.2.2.2.2.1 r.2.2.2.2.2.2.2.2.2.1 r.2.2.2.2.2.2.2.2.2.2.1 r.2.2.2.2.2.2.2.2.2.2.2.1 r.2.2.2.2.2.2.2.2.2.2.2.2.1 r.2.2.2.2.2.2.2.2.2.2.2.2.2.1 r.2.2.2.2.2.2.2.2.2.2.2.2.2.2 := by
  unfold kL
  rw [Lp_s, E_v_readExpression_l20.eq_def, if_pos rfl, if_neg (by decide), if_neg (by decide), if_pos rfl, h]
  rfl
theorem kL_plain {C : KC_} {F : Nat} {fr to so fau nc nl pi opn : Int32} {wo : Int64} {fo fa fp fq : Nat → Int32} {r : Int32 × Int32 × Int32 × Int32 × Int64 × Int32 × Int32 × Int32 × Int32 × Int32 × Int32 × (Nat → Int32) × (Nat → Int32) × (Nat → Int32) × (Nat → Int32)} (h : E_v_readPlain C.2.2.2.2.2.2.2.1 C.2.2.2.2.2.2.2.2 (nI C.2.2.1) fr to so wo fau 0 (kod C.2.2.2.1) nc nl pi opn C.2.1 fo fa fp fq C.2.2.2.2.1 C.2.2.2.2.2.1 = r) : kL C (F + 1) 0 fr to so wo fau 0 nc nl pi opn fo fa fp fq = kL C F r.1 r.2.1 r.2.2.1 r.2.2.2.1 r.2.2.2.2.1 r.2.2.2.2.2.1 r.2.2.2.2.2.2.1 r.2.2.2.2.2.2.2.1 r.2.2.2.2.2.2.2.2.1 r.2.2.2.2.2.2.2.2.2.1 r.2.2.2.2.2.2.2.2.2.2.1 r.2.2.2.2.2.2.2.2.2.2.2.1 r.2.2.2.2.2.2.2.2.2.2.2.2.1 r.2.2.2.2.2.2.2.2.2.2.2.2.2.1 r.2.2.2.2.2.2.2.2.2.2.2.2.2.2 := by
  unfold kL
  rw [Lp_s, E_v_readExpression_l20.eq_def, if_pos rfl, if_neg (by decide), if_pos rfl, h]
  rfl
theorem kL_sum {C : KC_} {F : Nat} {fr to so fau nc nl pi opn : Int32} {wo : Int64} {fo fa fp fq : Nat → Int32} {r : Int32 × Int32 × Int32 × Int32 × Int64 × Int32 × Int32 × Int32 × Int32 × Int32 × (Nat → Int32) × (Nat → Int32) × (Nat → Int32) × (Nat → Int32)} (h : E_v_behindSum C.2.2.2.2.2.2.2.1 C.2.2.2.2.2.2.2.2 C.2.2.2.2.2.2.1 (nI C.2.2.1) fr to so wo fau 0 nc nl pi opn C.2.1 fo fa fp fq = r) : kL C (F + 1) 3 fr to so wo fau 0 nc nl pi opn fo fa fp fq = kL C F r.1 r.2.1 r.2.2.1 r.2.2.2.1 r.2.2.2.2.1 r.2.2.2.2.2.1 r.2.2.2.2.2.2.1 r.2.2.2.2.2.2.2.1 nl r.2.2.2.2.2.2.2.2.1 r.2.2.2.2.2.2.2.2.2.1 r.2.2.2.2.2.2.2.2.2.2.1 r.2.2.2.2.2.2.2.2.2.2.2.1 r.2.2.2.2.2.2.2.2.2.2.2.2.1 r.2.2.2.2.2.2.2.2.2.2.2.2.2 := by
  unfold kL
  rw [Lp_s, E_v_readExpression_l20.eq_def, if_pos rfl, if_neg (by decide), if_neg (by decide), if_neg (by decide), if_pos rfl, h]
  rfl
theorem kL_test {C : KC_} {F : Nat} {fr to so fau nc nl pi opn : Int32} {wo : Int64} {fo fa fp fq : Nat → Int32} {r : Int32 × Int32 × Int32 × Int32 × Int64 × Int32 × Int32 × Int32 × Int32 × Int32 × (Nat → Int32) × (Nat → Int32) × (Nat → Int32) × (Nat → Int32)} (h : E_v_behindTest C.2.2.2.2.2.2.2.1 C.2.2.2.2.2.2.2.2 (nI C.2.2.1) fr to so wo fau 0 nc nl pi opn C.2.1 fo fa fp fq = r) : kL C (F + 1) 2 fr to so wo fau 0 nc nl pi opn fo fa fp fq = kL C F r.1 r.2.1 r.2.2.1 r.2.2.2.1 r.2.2.2.2.1 r.2.2.2.2.2.1 r.2.2.2.2.2.2.1 r.2.2.2.2.2.2.2.1 nl r.2.2.2.2.2.2.2.2.1 r.2.2.2.2.2.2.2.2.2.1 r.2.2.2.2.2.2.2.2.2.2.1 r.2.2.2.2.2.2.2.2.2.2.2.1 r.2.2.2.2.2.2.2.2.2.2.2.2.1 r.2.2.2.2.2.2.2.2.2.2.2.2.2 := by
  unfold kL
  rw [Lp_s, E_v_readExpression_l20.eq_def, if_pos rfl, if_neg (by decide), if_neg (by decide), if_neg (by decide), if_neg (by decide), h]
  rfl
theorem kL_bad {C : KC_} {F : Nat} {t fr to so fau nc nl pi opn : Int32} {wo : Int64} {fo fa fp fq : Nat → Int32} : ∃ r : KR14, kL C (F + 1) t fr to so wo fau 1 nc nl pi opn fo fa fp fq = r ∧ r.2.2.2.2.1 = fau ∧ r.2.2.2.2.2.1 = 1 := by
  refine ⟨_, rfl, ?_, ?_⟩
  · unfold kL
    rw [Lp_s, E_v_readExpression_l20.eq_def, if_neg (by decide)]
    rfl
  · unfold kL
    rw [Lp_s, E_v_readExpression_l20.eq_def, if_neg (by decide)]
    rfl
/-- how far it is to the end at most -/
noncomputable def mz (p t : Nat) : Nat := 8 * (401 - p) + 4 + t
/-- from here the reference ends with a fault at q -/
noncomputable def KBad (C : KC_) (tn : Int32) (t p : Nat) (m : KM4) (fau : Int32) (nc nl pi d : Nat) (fo fa fp fq : Nat → Int32) (q : Nat) : Prop := ∀ F, mz p t < F → ∃ r : KR14, kL C F tn m.1 m.2.1 m.2.2.1 m.2.2.2 fau 0 (nI nc) (nI nl) (nI pi) (nI d) fo fa fp fq = r ∧ r.2.2.2.2.1 = nI q ∧ r.2.2.2.2.2.1 = 1
/-- from here the reference comes there -/
noncomputable def KGo (C : KC_) (fau : Int32) (tn : Int32) (t p : Nat) (m : KM4) (nc nl pi d : Nat) (fo fa fp fq : Nat → Int32) (tn' : Int32) (t' p' : Nat) (m' : KM4) (nc' nl' pi' d' : Nat) (fo' fa' fp' fq' : Nat → Int32) : Prop := ∀ F, mz p t < F → ∃ F', mz p' t' < F' ∧ kL C F tn m.1 m.2.1 m.2.2.1 m.2.2.2 fau 0 (nI nc) (nI nl) (nI pi) (nI d) fo fa fp fq = kL C F' tn' m'.1 m'.2.1 m'.2.2.1 m'.2.2.2 fau 0 (nI nc') (nI nl') (nI pi') (nI d') fo' fa' fp' fq'
theorem KGo.trans {C : KC_} {fau tn tn2 tn3 : Int32} {t p t2 p2 t3 p3 nc nl pi d nc2 nl2 pi2 d2 nc3 nl3 pi3 d3 : Nat} {m m2 m3 : KM4} {fo fa fp fq fo2 fa2 fp2 fq2 fo3 fa3 fp3 fq3 : Nat → Int32} (h : KGo C fau tn t p m nc nl pi d fo fa fp fq tn2 t2 p2 m2 nc2 nl2 pi2 d2 fo2 fa2 fp2 fq2) (h2 : KGo C fau tn2 t2 p2 m2 nc2 nl2 pi2 d2 fo2 fa2 fp2 fq2 tn3 t3 p3 m3 nc3 nl3 pi3 d3 fo3 fa3 fp3 fq3) : KGo C fau tn t p m nc nl pi d fo fa fp fq tn3 t3 p3 m3 nc3 nl3 pi3 d3 fo3 fa3 fp3 fq3 := fun F hF => by
  obtain ⟨F2, a1, a2⟩ := h F hF
  obtain ⟨F3, b1, b2⟩ := h2 F2 a1
  exact ⟨F3, b1, a2.trans b2⟩
theorem KGo.bad {C : KC_} {fau tn tn2 : Int32} {t p t2 p2 nc nl pi d nc2 nl2 pi2 d2 q : Nat} {m m2 : KM4} {fo fa fp fq fo2 fa2 fp2 fq2 : Nat → Int32} (h : KGo C fau tn t p m nc nl pi d fo fa fp fq tn2 t2 p2 m2 nc2 nl2 pi2 d2 fo2 fa2 fp2 fq2) (h2 : KBad C tn2 t2 p2 m2 fau nc2 nl2 pi2 d2 fo2 fa2 fp2 fq2 q) : KBad C tn t p m fau nc nl pi d fo fa fp fq q := fun F hF => by
  obtain ⟨F2, a1, a2⟩ := h F hF
  rw [a2]
  exact h2 F2 a1
/-- one step -/
theorem KGo.one {C : KC_} {fau tn tn2 : Int32} {t p t2 p2 nc nl pi d nc2 nl2 pi2 d2 : Nat} {m m2 : KM4} {fo fa fp fq fo2 fa2 fp2 fq2 : Nat → Int32} (hm : mz p2 t2 < mz p t) (h : ∀ F, kL C (F + 1) tn m.1 m.2.1 m.2.2.1 m.2.2.2 fau 0 (nI nc) (nI nl) (nI pi) (nI d) fo fa fp fq = kL C F tn2 m2.1 m2.2.1 m2.2.2.1 m2.2.2.2 fau 0 (nI nc2) (nI nl2) (nI pi2) (nI d2) fo2 fa2 fp2 fq2) : KGo C fau tn t p m nc nl pi d fo fa fp fq tn2 t2 p2 m2 nc2 nl2 pi2 d2 fo2 fa2 fp2 fq2 := fun F hF => ⟨F - 1, by omega, by
  have := h (F - 1)
  rw [show F - 1 + 1 = F by omega] at this
  exact this⟩
theorem KBad.one {C : KC_} {fau tn : Int32} {t p nc nl pi d q : Nat} {m : KM4} {fo fa fp fq : Nat → Int32} (h : ∀ F, ∃ t2 a b c e n1 n2 n3 n4 h1 h2 h3 h4, kL C (F + 1) tn m.1 m.2.1 m.2.2.1 m.2.2.2 fau 0 (nI nc) (nI nl) (nI pi) (nI d) fo fa fp fq = kL C F t2 a b c e (nI q) 1 n1 n2 n3 n4 h1 h2 h3 h4) : KBad C tn t p m fau nc nl pi d fo fa fp fq q := fun F hF => by
  obtain ⟨t2, a, b, c, e, n1, n2, n3, n4, h1, h2, h3, h4, k⟩ := h (F - 1)
  have hz : 4 ≤ mz p t := by unfold mz; omega
  rw [show F - 1 + 1 = F by omega] at k
  rw [k, show F - 1 = F - 2 + 1 by omega]
  exact kL_bad
/-! the class's reading, a part, a sum, a test: what comes of it -/
noncomputable abbrev KW8 : Type := Int32 × Int32 × Int32 × Int32 × Int32 × Int32 × Int32 × (Nat → Int32)
noncomputable abbrev KWf : Type := Int32 → Int32 → Int32 → Int32 → Int32 → Int32 → Int32 → Int32 → (Nat → Int32) → Int32 → (Nat → Int32) → KW8
/-- a piece was read on both sides: the class's code from us on, the reference's from nc on tell the same -/
noncomputable def KRead (C : KC_) (P : Int → Prop) (K : Nat) (fau tn0 : Int32) (tn : Int32) (t d p : Nat) (m : KM4) (us nl nc pi w : Nat) (fc fo fa fp fq : Nat → Int32) (lo hi : Nat) (r : KW8) : Prop :=
  ∃ (p' : Nat) (c' : KT4) (m' : KM4) (us' nl' n1 pi1 n2 : Nat) (fc' fo1 fa1 fp1 fq1 fo2 fa2 : Nat → Int32),
    r = (1, nI nl', c'.1, c'.2.1, c'.2.2.1, c'.2.2.2, nI us', fc') ∧ p < p' ∧ TkP C.1 C.2.2.1 p' c' m' ∧
    KGo C fau tn0 3 p m nc nl pi d fo fa fp fq tn t p' m' n1 nl' pi1 d fo1 fa1 fp1 fq1 ∧
    (pi ≤ pi1 ∧ pi1 ≤ p' ∧ (∀ j, j < pi → fp1 j = fp j ∧ fq1 j = fq j) ∧ ∀ j, pi ≤ j → j < pi1 → ∃ o : Nat, lo ≤ o ∧ o ≤ hi ∧ fp1 j = nI o) ∧
    KP K n1 pi1 fo1 fa1 n2 pi fo2 fa2 fp1 fq1 ∧
    ((∀ j, j < us → fc' j = fc j) ∧ ∀ j, j < nc → fo2 j = fo j ∧ fa2 j = fa j) ∧
    (us ≤ us' ∧ nc ≤ n2 ∧ nl ≤ nl' ∧ nl' ≤ 50 ∧ us' + 2 * w ≤ 2 * p' ∧ n2 + w ≤ p' ∧ n1 ≤ p') ∧
    SE C.2.2.2.1 P 1 (nl' - nl) fc' us us' fo2 fa2 nc n2
/-- no piece: both sides hold the same fault -/
noncomputable def KNot (C : KC_) (fau tn0 : Int32) (d p : Nat) (m : KM4) (nl nc pi : Nat) (fo fa fp fq : Nat → Int32) (r : KW8) : Prop := r.1 = 0 ∧ ∃ q : Nat, r.2.2.1 = nI q ∧ KBad C tn0 3 p m fau nc nl pi d fo fa fp fq q
/-- a part: nothing of it waits -/
noncomputable def KPrt (C : KC_) (P : Int → Prop) (fau tn0 : Int32) (tn : Int32) (t d p : Nat) (m : KM4) (us nl nc pi w : Nat) (fc fo fa fp fq : Nat → Int32) (r : KW8) : Prop :=
  ∃ (p' : Nat) (c' : KT4) (m' : KM4) (us' nl' n1 : Nat) (fc' fo1 fa1 fp1 fq1 : Nat → Int32),
    r = (1, nI nl', c'.1, c'.2.1, c'.2.2.1, c'.2.2.2, nI us', fc') ∧ p < p' ∧ TkP C.1 C.2.2.1 p' c' m' ∧
    KGo C fau tn0 3 p m nc nl pi d fo fa fp fq tn t p' m' n1 nl' pi d fo1 fa1 fp1 fq1 ∧
    pi ≤ p' ∧ (∀ j, j < pi → fp1 j = fp j ∧ fq1 j = fq j) ∧ (∀ j, j < us → fc' j = fc j) ∧ (∀ j, j < nc → fo1 j = fo j ∧ fa1 j = fa j) ∧
    (us ≤ us' ∧ nc ≤ n1 ∧ nl ≤ nl' ∧ nl' ≤ 50 ∧ us' + 2 * w ≤ 2 * p' ∧ n1 + w ≤ p' ∧ n1 ≤ p') ∧
    SE C.2.2.2.1 P 1 (nl' - nl) fc' us us' fo1 fa1 nc n1
noncomputable def SimPart (C : KC_) (Ep : KWf) (d : Nat) : Prop := ∀ (fau : Int32) (p : Nat) (c : KT4) (m : KM4) (us nl nc pi w : Nat) (fc fo fa fp fq : Nat → Int32), TkP C.1 C.2.2.1 p c m → us + 2 * w ≤ 2 * p → nc + w ≤ p → pi ≤ p → nl ≤ 50 → d ≤ 8 →
  KNot C fau 1 d p m nl nc pi fo fa fp fq (Ep (nI d) (klw C.2.2.2.1) (nI nl) (nI C.2.2.1) c.1 c.2.1 c.2.2.1 c.2.2.2 C.1 (nI us) fc) ∨
  KPrt C KA_ fau 1 3 2 d p m us nl nc pi w fc fo fa fp fq (Ep (nI d) (klw C.2.2.2.1) (nI nl) (nI C.2.2.1) c.1 c.2.1 c.2.2.1 c.2.2.2 C.1 (nI us) fc)
/-- signs that a sum goes on with -/
noncomputable def KSg (ti : Int32) : Prop := ti = 42 ∨ ti = 47 ∨ ti = 37 ∨ ti = 43 ∨ ti = 45
/-- what lies below is no operator of sums -/
noncomputable def KTop (fp : Nat → Int32) (pi : Nat) : Prop := pi = 0 ∨ ∃ o : Nat, 25 ≤ o ∧ o ≤ 32 ∧ fp (pi - 1) = nI o
noncomputable def SimSum (C : KC_) (Es : KWf) (d : Nat) : Prop := ∀ (fau : Int32) (p : Nat) (c : KT4) (m : KM4) (us nl nc pi w : Nat) (fc fo fa fp fq : Nat → Int32), TkP C.1 C.2.2.1 p c m → us + 2 * w ≤ 2 * p → nc + w ≤ p → pi ≤ p → nl ≤ 50 → d ≤ 8 → KTop fp pi →
  KNot C fau 1 d p m nl nc pi fo fa fp fq (Es (nI d) (klw C.2.2.2.1) (nI nl) (nI C.2.2.1) c.1 c.2.1 c.2.2.1 c.2.2.2 C.1 (nI us) fc) ∨
  (KRead C KA_ 5 fau 1 3 2 d p m us nl nc pi w fc fo fa fp fq 20 24 (Es (nI d) (klw C.2.2.2.1) (nI nl) (nI C.2.2.1) c.1 c.2.1 c.2.2.1 c.2.2.2 C.1 (nI us) fc) ∧ ¬ KSg (Es (nI d) (klw C.2.2.2.1) (nI nl) (nI C.2.2.1) c.1 c.2.1 c.2.2.1 c.2.2.2 C.1 (nI us) fc).2.2.2.2.1)
