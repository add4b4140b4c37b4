/-! a clause of a law, read on both sides -/
noncomputable abbrev KW9 : Type := Int32 × Int32 × Int32 × Int32 × Int32 × Int32 × Int32 × (Nat → Int32) × (Nat → Int32)
noncomputable abbrev KR16 : Type := Int32 × Int32 × Int32 × Int64 × Int32 × Int32 × Int32 × Int32 × Int32 × Int32 × Int32 × (Nat → Int32) × (Nat → Int32) × (Nat → Int32) × (Nat → Int32) × (Nat → Int32)
/-- what tells a value is at least one step long -/
theorem SE.lt {od k m a b x y : Nat} {P : Int → Prop} {fc op ar : Nat → Int32} (h : SE od P k m fc a b op ar x y) (hk : 1 ≤ k) (hm : m ≤ 64) : x < y := by
  obtain ⟨h1, h2, h3, h4, h5, h6⟩ := h
  refine Nat.lt_of_le_of_ne h3 (fun e => ?_)
  subst e
  have he : KEnv od (fun _ => 0) (fun _ => True) (fun o a => if o = 0 then a.toInt64 else 0) := by
    refine ⟨fun a => ?_, fun w op a hl => ?_⟩
    · show (if (0 : Int32) = 0 then a.toInt64 else 0).toInt = a.toInt
      rw [if_pos rfl]; exact wide_at
    · obtain ⟨o, o1, o2, o3⟩ := hl.op
      refine ⟨True.intro, ?_, show (-1000000000 : Int) ≤ (0 : Int32).toInt by decide, show (0 : Int32).toInt ≤ (1000000000 : Int) by decide⟩
      show (if op = 0 then a.toInt64 else 0).toInt = (0 : Int32).toInt
      rw [if_neg (by rw [o3]; exact kn_nz (j := 0) rfl (by omega) (by omega))]; rfl
  have hB : RM x x op ar (fun o a => if o = 0 then a.toInt64 else 0) (fun _ _ _ b f => if b = 0 then (0, 0, f) else (1, 0, f)) :=
    ⟨fun o k t f rc p q => by omega, fun o k t f rc p q => by omega, fun k t f rc p q => by omega, fun e k t f rc p q => by omega, fun e k t f rc p q => by omega, fun k t f rc _ _ => ⟨0, if_neg (by decide)⟩⟩
  rcases h6 _ _ _ he with ⟨_, q⟩ | ⟨g, _, _, _, q⟩
  · obtain ⟨n, n1, n2⟩ := q _ hB (fun _ _ _ f => (0, 0, f)) 0 (fun _ => 0) (by omega)
    obtain ⟨v, f', e⟩ := n2 0
    have n0 : n = 0 := by omega
    subst n0
    rw [Lp_s, if_pos rfl] at e
    exact absurd (show (0 : Int32) = 1 from congrArg (fun r : Int32 × Int64 × (Nat → Int64) => r.1) e) (by decide)
  · obtain ⟨n, f', n1, n2, _⟩ := q _ hB (fun _ t _ f => (t, 0, f)) 0 (fun _ => 0) (by omega)
    have n0 : n = 0 := by omega
    subst n0
    have e : nI 0 = nI (0 + k) := congrArg (fun r : Int32 × Int64 × (Nat → Int64) => r.1) (n2 0)
    have := (kn_eq (a := 0) (b := 0 + k) (by omega) (by omega)).mp e
    omega
noncomputable def KRy (L : Nat) (fb ft : Nat → Int32) (wd we : Nat → Int64) : Prop := L ≤ 400 ∧ (∀ j, j < L → fb j = ft j) ∧ KWt wd we
noncomputable def KX (od : Nat) (fb : Nat → Int32) (L : Nat) (P : Int → Prop) (fau : Int32) (p us nl nc w : Nat) (fc fo fa : Nat → Int32) (r : KW8) (R : KR14) : Prop :=
  (r.1 = 0 ∧ ∃ q : Nat, r.2.2.1 = nI q ∧ R.2.2.2.2.1 = nI q ∧ R.2.2.2.2.2.1 = 1) ∨
  ∃ (p' : Nat) (c' : KT4) (m' : KM4) (us' nl' n2 : Nat) (fc' fo2 fa2 fp2 fq2 : Nat → Int32), r = (1, nI nl', c'.1, c'.2.1, c'.2.2.1, c'.2.2.2, nI us', fc') ∧ p < p' ∧ TkP fb L p' c' m' ∧
    R = (m'.1, m'.2.1, m'.2.2.1, m'.2.2.2, fau, 0, nI n2, nI nl', nI 0, nI 0, fo2, fa2, fp2, fq2) ∧ (∀ j, j < us → fc' j = fc j) ∧ (∀ j, j < nc → fo2 j = fo j ∧ fa2 j = fa j) ∧
    (us ≤ us' ∧ nc ≤ n2 ∧ nl ≤ nl' ∧ nl' ≤ 50 ∧ us' + 2 * w ≤ 2 * p' ∧ n2 + w ≤ p') ∧ SE od P 1 (nl' - nl) fc' us us' fo2 fa2 nc n2
theorem KRy.ok {od L : Nat} {fb ft fo fa : Nat → Int32} {wd we : Nat → Int64} {x : Int32} (h : KRy L fb ft wd we) (ho : od ≤ 1) : KCok (fb, ft, L, od, wd, we, x, fo, fa) := ⟨h.1, h.2.1, ho, h.2.2⟩
theorem x_sum {od L : Nat} {fb ft fo fa : Nat → Int32} {wd we : Nat → Int64} (hR : KRy L fb ft wd we) (ho : od ≤ 1) {fau pi0 op0 : Int32} {p us nl nc w : Nat} {c : KT4} {m : KM4} {fc fp fq : Nat → Int32} (hT : TkP fb L p c m) (hus : us + 2 * w ≤ 2 * p) (hnc : nc + w ≤ p) (hnl : nl ≤ 50) : KX od fb L KA_ fau p us nl nc w fc fo fa (E_sum_0 0 (klw od) (nI nl) (nI L) c.1 c.2.1 c.2.2.1 c.2.2.2 fb (nI us) fc) (E_v_readExpression 0 (nI L) m.1 m.2.1 m.2.2.1 m.2.2.2 fau 0 (kod od) (nI nc) (nI nl) pi0 op0 ft fo fa fp fq wd we) :=
  exp_sum (C := (fb, ft, L, od, wd, we, 0, fo, fa)) (hR.ok ho) rfl hT hus hnc hnl
theorem x_test {od L : Nat} {fb ft fo fa : Nat → Int32} {wd we : Nat → Int64} (hR : KRy L fb ft wd we) (ho : od ≤ 1) {fau pi0 op0 : Int32} {p us nl nc w : Nat} {c : KT4} {m : KM4} {fc fp fq : Nat → Int32} (hT : TkP fb L p c m) (hus : us + 2 * w ≤ 2 * p) (hnc : nc + w ≤ p) (hnl : nl ≤ 50) : KX od fb L KT_ fau p us nl nc w fc fo fa (E_test_0 0 (klw od) (nI nl) (nI L) c.1 c.2.1 c.2.2.1 c.2.2.2 fb (nI us) fc) (E_v_readExpression 1 (nI L) m.1 m.2.1 m.2.2.1 m.2.2.2 fau 0 (kod od) (nI nc) (nI nl) pi0 op0 ft fo fa fp fq wd we) :=
  exp_test (C := (fb, ft, L, od, wd, we, 1, fo, fa)) (hR.ok ho) rfl hT hus hnc hnl
theorem kx_next {L : Nat} {fb ft : Nat → Int32} {wd we : Nat → Int64} (hR : KRy L fb ft wd we) {p : Nat} {c : KT4} {m : KM4} (h : TkP fb L p c m) : ∃ q, p ≤ q ∧ (p < L → p < q) ∧ TkP fb L q (E_w_step (nI L) c.1 c.2.1 c.2.2.1 c.2.2.2 fb) (E_v_next (nI L) m.1 m.2.1 m.2.2.1 m.2.2.2 ft) :=
  tk_next (C := (fb, ft, L, 0, wd, we, 0, fb, fb)) (hR.ok (by omega)) h
/-! the class's heads of clauses -/
theorem kn_m5 {n : Nat} (h : n < 1000) : nI n * 5 = nI (5 * n) := Int32.toInt_inj.mp (by
  rw [i_mul (nI_toInt (by omega)) (show (5 : Int32).toInt = 5 from rfl) (by omega), nI_toInt (by omega)]; omega)
theorem kn_m8 {n : Nat} (h : n < 1000) : 8 * nI n = nI (8 * n) := Int32.toInt_inj.mp (by
  rw [i_mul (show (8 : Int32).toInt = 8 from rfl) (nI_toInt (by omega)) (by omega), nI_toInt (by omega)]; omega)
theorem kn_ac {a k : Nat} {c : Int32} (hc : c.toInt = (k : Int)) (h : a + k < 1000000) : nI a + c = nI (a + k) := at_k (b := a) (i := 0) hc (by omega)
theorem setHead_at {n j : Nat} {y z : Int32} {fh : Nat → Int32} (hy : y.toInt = (j : Int)) (hn : n < 12) (hj : j < 5) : E_w_setHead (nI n) y z fh = upd fh (5 * n + j) z := by
  rw [E_w_setHead.eq_def, Lt_b, kn_m5 (by omega), Lt_b, kn_ac hy (by omega), if_neg (kn_nl (by omega)), if_neg (kn_nl (by omega)), if_neg (kn_nlel (j := 60) rfl (by omega) (by omega)), Lt_b, kn_cl (by omega)]
theorem open_at {n : Nat} {y : Int32} {fh : Nat → Int32} (hn : n < 12) : E_w_open (nI n) y fh = upd (upd (upd (upd (upd fh (5 * n + 0) y) (5 * n + 1) 1) (5 * n + 2) (-1)) (5 * n + 3) (-1)) (5 * n + 4) (-1) := by
  rw [E_w_open.eq_def, Lt_b, Lt_b, Lt_b, Lt_b, Lt_b, setHead_at (y := 0) (j := 0) rfl hn (by omega), setHead_at (y := 1) (j := 1) rfl hn (by omega), setHead_at (y := 2) (j := 2) rfl hn (by omega), setHead_at (y := 3) (j := 3) rfl hn (by omega), setHead_at (y := 4) (j := 4) rfl hn (by omega)]
/-- "if", on the reference's side -/
noncomputable def rIf (ta ord : Int32) (ft : Nat → Int32) (wd we : Nat → Int64) (n1 : Int32) (k6 : Nat) (fr to so : Int32) (wo : Int64) (fau bd nc nl pi opn : Int32) (fo fa fp fq fcl : Nat → Int32) : KR16 :=
  if bd = 0 then (if E_v_isWord 294 so wo = 1 then (fun R : KR14 => ((R.1, R.2.1, R.2.2.1, R.2.2.2.1, R.2.2.2.2.1, R.2.2.2.2.2.1, n1, R.2.2.2.2.2.2.1, R.2.2.2.2.2.2.2.1, R.2.2.2.2.2.2.2.2.1, R.2.2.2.2.2.2.2.2.2.1, R.2.2.2.2.2.2.2.2.2.2.1, R.2.2.2.2.2.2.2.2.2.2.2.1, R.2.2.2.2.2.2.2.2.2.2.2.2.1, R.2.2.2.2.2.2.2.2.2.2.2.2.2, upd fcl k6 R.2.2.2.2.2.2.1) : KR16)) (E_v_readExpression 1 ta (E_v_next ta fr to so wo ft).1 (E_v_next ta fr to so wo ft).2.1 (E_v_next ta fr to so wo ft).2.2.1 (E_v_next ta fr to so wo ft).2.2.2 fau bd ord nc nl pi opn ft fo fa fp fq wd we) else (fr, to, so, wo, fau, bd, n1, nc, nl, pi, opn, fo, fa, fp, fq, upd fcl k6 nc)) else (fr, to, so, wo, fau, bd, n1, nc, nl, pi, opn, fo, fa, fp, fq, upd fcl k6 nc)
noncomputable def KIf (od L n p us nl nc : Nat) (fb : Nat → Int32) (fau n1 : Int32) (k6 : Nat) (fh fc fcl fo fa : Nat → Int32) (r : KW9) (R : KR16) : Prop :=
  (r.1 = 0 ∧ ∃ q : Nat, r.2.2.1 = nI q ∧ R.2.2.2.2.1 = nI q ∧ R.2.2.2.2.2.1 = 1) ∨
  ∃ (p' : Nat) (c' : KT4) (m' : KM4) (us' nl' n2 : Nat) (fh' fc' fo2 fa2 fp2 fq2 : Nat → Int32) (pi' op' : Int32), r = (1, nI nl', c'.1, c'.2.1, c'.2.2.1, c'.2.2.2, nI us', fh', fc') ∧ p ≤ p' ∧ TkP fb L p' c' m' ∧
    R = (m'.1, m'.2.1, m'.2.2.1, m'.2.2.2, fau, 0, n1, nI n2, nI nl', pi', op', fo2, fa2, fp2, fq2, upd fcl k6 (nI n2)) ∧ (∀ j, j < us → fc' j = fc j) ∧ (∀ j, j < nc → fo2 j = fo j ∧ fa2 j = fa j) ∧
    (us ≤ us' ∧ us' ≤ 2 * p' ∧ nc ≤ n2 ∧ n2 ≤ p' ∧ nl ≤ nl' ∧ nl' ≤ 50) ∧
    ((fh' = fh ∧ us' = us ∧ n2 = nc) ∨ (fh' = upd fh (5 * n + 4) (nI us) ∧ nc < n2 ∧ us + 2 ≤ us' ∧ fc' (us' - 2) = 0 ∧ SE od KT_ 1 (nl' - nl) fc' us (us' - 2) fo2 fa2 nc n2))
theorem if_both {od L n p us nl nc k6 : Nat} {fb ft fh fc fcl fo fa fp fq : Nat → Int32} {wd we : Nat → Int64} {c : KT4} {m : KM4} {fau n1 pi op : Int32} (hR : KRy L fb ft wd we) (ho : od ≤ 1) (hT : TkP fb L p c m) (hus : us ≤ 2 * p) (hnc : nc ≤ p) (hnl : nl ≤ 50) (hn : n < 12) : KIf od L n p us nl nc fb fau n1 k6 fh fc fcl fo fa (E_w_clause_j207 (nI n) (klw od) (nI L) fb (nI nl) (nI us) fc c.1 c.2.1 c.2.2.1 c.2.2.2 fh) (rIf (nI L) (kod od) ft wd we n1 k6 m.1 m.2.1 m.2.2.1 m.2.2.2 fau 0 (nI nc) (nI nl) pi op fo fa fp fq fcl) := by
  have hL := hR.1
  have hpL := hT.1
  obtain ⟨q, q1, q2, hQ⟩ := kx_next hR hT
  have hqL := hQ.1
  unfold rIf
  rw [E_w_clause_j207.eq_def, if_pos rfl]
  rcases tk_one (k := 4) (c := 294) (tf := c.1) (tt := c.2.1) (ti := c.2.2.1) (tu := c.2.2.2) (fr := m.1) (to := m.2.1) (so := m.2.2.1) (wo := m.2.2.2) (by omega) (by omega) rfl (by decide +kernel) hT (nI L) with ⟨f0, w1, pl⟩ | ⟨f0, w0⟩
  · have qp := q2 pl
    rw [pas_p f0, if_pos w1]
    have xs := x_test hR ho (fau := fau) (pi0 := pi) (op0 := op) (us := us) (nl := nl) (nc := nc) (w := 1) (fc := fc) (fo := fo) (fa := fa) (fp := fp) (fq := fq) hQ (by omega) (by omega) hnl
    generalize hX : E_v_readExpression 1 (nI L) (E_v_next (nI L) m.1 m.2.1 m.2.2.1 m.2.2.2 ft).1 (E_v_next (nI L) m.1 m.2.1 m.2.2.1 m.2.2.2 ft).2.1 (E_v_next (nI L) m.1 m.2.1 m.2.2.1 m.2.2.2 ft).2.2.1 (E_v_next (nI L) m.1 m.2.1 m.2.2.1 m.2.2.2 ft).2.2.2 fau 0 (kod od) (nI nc) (nI nl) pi op ft fo fa fp fq wd we = X at xs ⊢
    simp only [Lt2, Lt]
    rw [if_neg (show ¬ (1 : Int32) = 0 by decide)]
    generalize hr : E_test_0 0 (klw od) (nI nl) (nI L) (E_w_step (nI L) c.1 c.2.1 c.2.2.1 c.2.2.2 fb).1 (E_w_step (nI L) c.1 c.2.1 c.2.2.1 c.2.2.2 fb).2.1 (E_w_step (nI L) c.1 c.2.1 c.2.2.1 c.2.2.2 fb).2.2.1 (E_w_step (nI L) c.1 c.2.1 c.2.2.1 c.2.2.2 fb).2.2.2 fb (nI us) fc = r at xs ⊢
    rcases xs with ⟨n1, q', n2, n3, n4⟩ | ⟨p', c', m', us', nl', n2, fc', fo2, fa2, fp2, fq2, e1, e2, e3, e4, e5, e6, e7, e8⟩
    · exact Or.inl ⟨n1, q', n2, n3, n4⟩
    · subst e1
      subst e4
      have hp' := e3.1
      have lt := e8.lt (Nat.le_refl 1) (by omega)
      refine Or.inr ⟨p', c', m', us' + 2, nl', n2, upd fh (5 * n + 4) (nI us), upd (upd fc' us' 0) (us' + 1) 0, fo2, fa2, fp2, fq2, nI 0, nI 0, ?_, by omega, e3, rfl, fun j hj => ?_, e6, ⟨by omega, by omega, by omega, by omega, e7.2.2.1, e7.2.2.2.1⟩, Or.inr ⟨rfl, lt, by omega, ?_, ?_⟩⟩
      · simp only []
        rw [emit_at (us := us') (by omega), setHead_at (y := 4) (j := 4) rfl hn (by omega)]
      · rw [upd_n (by omega), upd_n (by omega)]; exact e5 j hj
      · rw [show us' + 2 - 2 = us' by omega, upd_n (by omega), upd_s]
      · rw [show us' + 2 - 2 = us' by omega]
        exact e8.ext (fun j _ hj => by rw [upd_n (by omega), upd_n (by omega)]) (fun _ _ _ => ⟨rfl, rfl⟩)
  · rw [pas_n f0, if_neg (by rw [w0]; decide)]
    simp only [Lt2, Lt]
    rw [if_pos (by trivial)]
    exact Or.inr ⟨p, c, m, us, nl, nc, fh, fc, fo, fa, fp, fq, pi, op, rfl, Nat.le_refl _, hT, rfl, fun _ _ => rfl, fun _ _ => ⟨rfl, rfl⟩, ⟨Nat.le_refl _, hus, Nat.le_refl _, hnc, Nat.le_refl _, hnl⟩, Or.inl ⟨rfl, rfl, rfl⟩⟩
/-! the word that opens a clause -/
theorem hd_in {α : Type} {so : Int32} {wo : Int64} {wd : Nat → Int64} (z : Int32 → Int32 → α) (B : (Int32 → Int32 → α) → Int32 → Int32 → α) (hB : ∀ rc (v : Nat) r, v < 4 → B rc (nI v) r = if E_v_isWord (wd v) so wo = 1 then rc (nI (v + 1)) (nI v) else rc (nI (v + 1)) r) : ∀ (d v : Nat) (F : Nat) (r : Int32), v + d = 4 → ((∀ j, v ≤ j → j < 4 → E_v_isWord (wd j) so wo = 0) → Lp B z (F + d + 1) (nI v) r = Lp B z (F + 1) (nI 4) r) ∧ (∀ i, v ≤ i → i < 4 → E_v_isWord (wd i) so wo = 1 → (∀ j, v ≤ j → j < 4 → j ≠ i → E_v_isWord (wd j) so wo = 0) → Lp B z (F + d + 1) (nI v) r = Lp B z (F + 1) (nI 4) (nI i)) := by
  intro d
  induction d with
  | zero =>
    intro v F r hv
    refine ⟨fun _ => by rw [show v = 4 by omega], fun i h1 h2 => by omega⟩
  | succ d ih =>
    intro v F r hv
    have e : Lp B z (F + (d + 1) + 1) (nI v) r = if E_v_isWord (wd v) so wo = 1 then Lp B z (F + d + 1) (nI (v + 1)) (nI v) else Lp B z (F + d + 1) (nI (v + 1)) r := by
      rw [show F + (d + 1) + 1 = (F + d + 1) + 1 by omega, Lp_s, hB _ _ _ (by omega)]
    rw [e]
    refine ⟨fun h => ?_, fun i h1 h2 h3 h4 => ?_⟩
    · rw [h v (Nat.le_refl _) (by omega), if_neg (by decide)]
      exact (ih (v + 1) F r (by omega)).1 (fun j h1 h2 => h j (by omega) h2)
    · by_cases c : i = v
      · rw [← c, h3, if_pos rfl]
        exact (ih (i + 1) F (nI i) (by omega)).1 (fun j h5 h6 => h4 j (by omega) h6 (by omega))
      · rw [h4 v (Nat.le_refl _) (by omega) (fun q => c q.symm), if_neg (by decide)]
        exact (ih (v + 1) F r (by omega)).2 i (by omega) h2 h3 (fun j h5 h6 h7 => h4 j (by omega) h6 h7)
/-- the word of list k (four words) that a token is, on both sides -/
theorem tk_four {f : Nat → Int32} {L p k : Nat} {c : KT4} {m : KM4} {wd : Nat → Int64} (hk : k = 0 ∨ k = 1) (hw : ∀ j, j < 4 → (wd j).toInt = kwh k j) (h : TkP f L p c m) (ln : Int32) : (∃ i, i < 4 ∧ p < L ∧ E_w_find k ln c.1 c.2.1 c.2.2.1 c.2.2.2 f = nI i ∧ E_v_isWord (wd i) m.2.2.1 m.2.2.2 = 1 ∧ ∀ j, j < 4 → j ≠ i → E_v_isWord (wd j) m.2.2.1 m.2.2.2 = 0) ∨ (E_w_find k ln c.1 c.2.1 c.2.2.1 c.2.2.2 f = -1 ∧ ∀ j, j < 4 → E_v_isWord (wd j) m.2.2.1 m.2.2.2 = 0) := by
  have k4 : kwn k = 4 := by rcases hk with rfl | rfl <;> rfl
  rcases tk_find (k := k) (tf := c.1) (tt := c.2.1) (ti := c.2.2.1) (tu := c.2.2.2) (fr := m.1) (to := m.2.1) (so := m.2.2.1) (wo := m.2.2.2) (by omega) (by omega) h ln with ⟨i, i1, i2, i3, i4⟩ | ⟨i1, i2⟩
  · rw [k4] at i1 i4
    refine Or.inl ⟨i, i1, i2, i3, isWord_at.mpr (by rw [hw i i1]; exact (i4 i i1).mpr rfl), fun j hj hn => ?_⟩
    rcases isWord_01 (c := wd j) (so := m.2.2.1) (wo := m.2.2.2) with q | q
    · exact q
    · have q2 := isWord_at.mp q
      rw [hw j hj] at q2
      exact absurd ((i4 j hj).mp q2) hn
  · rw [k4] at i2
    refine Or.inr ⟨i1, fun j hj => ?_⟩
    rcases isWord_01 (c := wd j) (so := m.2.2.1) (wo := m.2.2.2) with q | q
    · exact q
    · have q2 := isWord_at.mp q
      rw [hw j hj] at q2
      exact absurd q2 (i2 j hj)
/-- eight places are cleared -/
theorem zero_l {α : Type} (z : Int32 → (Nat → Int32) → α) (B : (Int32 → (Nat → Int32) → α) → Int32 → (Nat → Int32) → α) {b : Nat} (hB : ∀ rc (v : Nat) f, v < 8 → B rc (nI v) f = rc (nI (v + 1)) (upd f (b + v) 0)) : ∀ (d v F : Nat) (f : Nat → Int32), v + d = 8 → ∃ f', Lp B z (F + d + 1) (nI v) f = Lp B z (F + 1) (nI 8) f' ∧ (∀ j, j < b + v → f' j = f j) ∧ ∀ j, b + v ≤ j → j < b + 8 → f' j = 0 := by
  intro d
  induction d with
  | zero => intro v F f hv; exact ⟨f, by rw [show v = 8 by omega], fun _ _ => rfl, fun j _ _ => by omega⟩
  | succ d ih =>
    intro v F f hv
    obtain ⟨f', e1, e2, e3⟩ := ih (v + 1) F (upd f (b + v) 0) (by omega)
    refine ⟨f', ?_, fun j hj => ?_, fun j h1 h2 => ?_⟩
    · rw [show F + (d + 1) + 1 = (F + d + 1) + 1 by omega, Lp_s, hB _ _ _ (by omega), e1]
    · rw [e2 j (by omega), upd_n (by omega)]
    · by_cases q : j = b + v
      · rw [e2 j (by omega), q, upd_s]
      · exact e3 j (by omega) h2
