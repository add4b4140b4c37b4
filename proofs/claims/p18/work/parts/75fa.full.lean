/-! sums and tests of every depth -/
theorem ss_8 {C : KC_} (hC : KCok C) : SimSum C E_sum_8 8 := sim_sum hC (sim_part hC (fun h => absurd h (by decide)))
theorem st_8 {C : KC_} (hC : KCok C) : SimTest C E_test_8 8 := sim_test hC (by decide) (sim_plain hC (ss_8 hC) (fun h => absurd h (by decide)))
theorem ss_7 {C : KC_} (hC : KCok C) : SimSum C E_sum_7 7 := sim_sum hC (sim_part hC (fun _ => ss_8 hC))
theorem st_7 {C : KC_} (hC : KCok C) : SimTest C E_test_7 7 := sim_test hC (by decide) (sim_plain hC (ss_7 hC) (fun _ => st_8 hC))
theorem ss_6 {C : KC_} (hC : KCok C) : SimSum C E_sum_6 6 := sim_sum hC (sim_part hC (fun _ => ss_7 hC))
theorem st_6 {C : KC_} (hC : KCok C) : SimTest C E_test_6 6 := sim_test hC (by decide) (sim_plain hC (ss_6 hC) (fun _ => st_7 hC))
theorem ss_5 {C : KC_} (hC : KCok C) : SimSum C E_sum_5 5 := sim_sum hC (sim_part hC (fun _ => ss_6 hC))
theorem st_5 {C : KC_} (hC : KCok C) : SimTest C E_test_5 5 := sim_test hC (by decide) (sim_plain hC (ss_5 hC) (fun _ => st_6 hC))
theorem ss_4 {C : KC_} (hC : KCok C) : SimSum C E_sum_4 4 := sim_sum hC (sim_part hC (fun _ => ss_5 hC))
theorem st_4 {C : KC_} (hC : KCok C) : SimTest C E_test_4 4 := sim_test hC (by decide) (sim_plain hC (ss_4 hC) (fun _ => st_5 hC))
theorem ss_3 {C : KC_} (hC : KCok C) : SimSum C E_sum_3 3 := sim_sum hC (sim_part hC (fun _ => ss_4 hC))
theorem st_3 {C : KC_} (hC : KCok C) : SimTest C E_test_3 3 := sim_test hC (by decide) (sim_plain hC (ss_3 hC) (fun _ => st_4 hC))
theorem ss_2 {C : KC_} (hC : KCok C) : SimSum C E_sum_2 2 := sim_sum hC (sim_part hC (fun _ => ss_3 hC))
theorem st_2 {C : KC_} (hC : KCok C) : SimTest C E_test_2 2 := sim_test hC (by decide) (sim_plain hC (ss_2 hC) (fun _ => st_3 hC))
theorem ss_1 {C : KC_} (hC : KCok C) : SimSum C E_sum_1 1 := sim_sum hC (sim_part hC (fun _ => ss_2 hC))
theorem st_1 {C : KC_} (hC : KCok C) : SimTest C E_test_1 1 := sim_test hC (by decide) (sim_plain hC (ss_1 hC) (fun _ => st_2 hC))
theorem ss_0 {C : KC_} (hC : KCok C) : SimSum C E_sum_0 0 := sim_sum hC (sim_part hC (fun _ => ss_1 hC))
theorem st_0 {C : KC_} (hC : KCok C) : SimTest C E_test_0 0 := sim_test hC (by decide) (sim_plain hC (ss_0 hC) (fun _ => st_1 hC))
/-! an expression of its own -/
theorem kL_end {C : KC_} {F : Nat} {fr to so fau nl opn : Int32} {wo : Int64} {nc pi nc' pi' : Nat} {fo fa fp fq fo' fa' : Nat → Int32} (hp : pi < 1000) (hk : kst 1 nc pi fo fa fp fq = (nI nc', nI pi', fo', fa')) : kL C (F + 1) 4 fr to so wo fau 0 (nI nc) nl (nI pi) opn fo fa fp fq = (fr, to, so, wo, fau, 0, nI nc', nl, nI pi', opn, fo', fa', fp, fq) := by
  have stl : E_v_settle C.2.2.2.2.2.2.2.1 C.2.2.2.2.2.2.2.2 1 (nI nc) (nI pi) fo fa fp fq = (nI nc', nI pi', fo', fa') := (settle_at (l := 1) (by omega)).trans hk
  unfold kL
  rw [Lp_s, E_v_readExpression_l20.eq_def, if_pos rfl, if_pos rfl, stl]
  rfl
noncomputable def KExp (C : KC_) (P : Int → Prop) (fau : Int32) (p us nl nc w : Nat) (fc fo fa : Nat → Int32) (r : KW8) (R : KR14) : Prop :=
  (r.1 = 0 ∧ ∃ q : Nat, r.2.2.1 = nI q ∧ R.2.2.2.2.1 = nI q ∧ R.2.2.2.2.2.1 = 1) ∨
  ∃ (p' : Nat) (c' : KT4) (m' : KM4) (us' nl' n2 : Nat) (fc' fo2 fa2 fp2 fq2 : Nat → Int32), r = (1, nI nl', c'.1, c'.2.1, c'.2.2.1, c'.2.2.2, nI us', fc') ∧ p < p' ∧ TkP C.1 C.2.2.1 p' c' m' ∧
    R = (m'.1, m'.2.1, m'.2.2.1, m'.2.2.2, fau, 0, nI n2, nI nl', nI 0, nI 0, fo2, fa2, fp2, fq2) ∧ (∀ j, j < us → fc' j = fc j) ∧ (∀ j, j < nc → fo2 j = fo j ∧ fa2 j = fa j) ∧
    (us ≤ us' ∧ nc ≤ n2 ∧ nl ≤ nl' ∧ nl' ≤ 50 ∧ us' + 2 * w ≤ 2 * p' ∧ n2 + w ≤ p') ∧ SE C.2.2.2.1 P 1 (nl' - nl) fc' us us' fo2 fa2 nc n2
theorem exp_sum {C : KC_} (hC : KCok C) (hx : C.2.2.2.2.2.2.1 = 0) {fau pi0 op0 : Int32} {p us nl nc w : Nat} {c : KT4} {m : KM4} {fc fp fq : Nat → Int32} (hT : TkP C.1 C.2.2.1 p c m) (hus : us + 2 * w ≤ 2 * p) (hnc : nc + w ≤ p) (hnl : nl ≤ 50) : KExp C KA_ fau p us nl nc w fc C.2.2.2.2.2.2.2.1 C.2.2.2.2.2.2.2.2 (E_sum_0 0 (klw C.2.2.2.1) (nI nl) (nI C.2.2.1) c.1 c.2.1 c.2.2.1 c.2.2.2 C.1 (nI us) fc) (E_v_readExpression 0 (nI C.2.2.1) m.1 m.2.1 m.2.2.1 m.2.2.2 fau 0 (kod C.2.2.2.1) (nI nc) (nI nl) pi0 op0 C.2.1 C.2.2.2.2.2.2.2.1 C.2.2.2.2.2.2.2.2 fp fq C.2.2.2.2.1 C.2.2.2.2.2.1) := by
  have hL := hT.2.1
  have hpL := hT.1
  have fr := TkP.froms (tf := c.1) (tt := c.2.1) (ti := c.2.2.1) (tu := c.2.2.2) (fr := m.1) (to := m.2.1) (so := m.2.2.1) (wo := m.2.2.2) hT
  have z0 : (0 : Int32).toInt = 0 := rfl
  have z1 : (1 : Int32).toInt = 1 := rfl
  have e : E_v_readExpression 0 (nI C.2.2.1) m.1 m.2.1 m.2.2.1 m.2.2.2 fau 0 (kod C.2.2.2.1) (nI nc) (nI nl) pi0 op0 C.2.1 C.2.2.2.2.2.2.2.1 C.2.2.2.2.2.2.2.2 fp fq C.2.2.2.2.1 C.2.2.2.2.2.1 = kL C (mz p 3 + 1) 1 m.1 m.2.1 m.2.2.1 m.2.2.2 fau 0 (nI nc) (nI nl) (nI 0) (nI 0) C.2.2.2.2.2.2.2.1 C.2.2.2.2.2.2.2.2 fp fq := by
    rw [E_v_readExpression.eq_def, if_pos rfl, show (8 * (401 - (m.1 : Int32).toInt) + 4 * (1 - (0 : Int32).toInt) + (if (1 : Int32).toInt = 4 then 0 else if (1 : Int32).toInt = 2 then 1 else if (1 : Int32).toInt = 3 then 2 else 3) : Int).toNat + 1 = mz p 3 + 1 by
      rw [fr.2.1, nI_toInt (by omega), z0, z1, if_neg (by decide), if_neg (by decide), if_neg (by decide)]; unfold mz; omega]
    unfold kL
    rw [hx]
    rfl
  rw [e]
  have ss := ss_0 hC fau p c m us nl nc 0 w fc C.2.2.2.2.2.2.2.1 C.2.2.2.2.2.2.2.2 fp fq hT hus hnc (Nat.zero_le _) hnl (by omega) (Or.inl rfl)
  rw [show nI 0 = (0 : Int32) from rfl] at ss
  rcases ss with ⟨n1, q', n2, n3⟩ | ⟨⟨p', c', m', us', nl', k1, pi1, k2, fc', fo1, fa1, fp2, fq2, fo2, fa2, e1, e2, e3, e4, e5, e6, e7, e8, e9⟩, nsg⟩
  · obtain ⟨r, r1, r2, r3⟩ := n3 (mz p 3 + 1) (by omega)
    exact Or.inl ⟨n1, q', n2, (congrArg (fun x : KR14 => x.2.2.2.2.1) r1).trans r2, (congrArg (fun x : KR14 => x.2.2.2.2.2.1) r1).trans r3⟩
  · rw [e1] at nsg
    have nsg : ¬ KSg c'.2.2.1 := nsg
    have hp1 := e5.2.1
    have hL' := e3.1
    have inn : E_v_inner (nI pi1) fp2 = -1 := inner_none (by omega) (fun j hj => by
      obtain ⟨o, o1, o2, o3⟩ := e5.2.2.2 j (by omega) hj
      exact ⟨o, by omega, o3⟩)
    obtain ⟨F', f1, f2⟩ := e4 (mz p 3 + 1) (by omega)
    have f3 : 2 ≤ F' := by unfold mz at f1; omega
    have bo := bs_over (go := C.2.2.2.2.2.2.2.1) (ga := C.2.2.2.2.2.2.2.2) (ft := C.2.1) (fo := fo1) (fa := fa1) (fq := fq2) (x := C.2.2.2.2.2.2.1) (ta := nI C.2.2.1) (fr := m'.1) (to := m'.2.1) (fau := fau) (nc := nI k1) (nl := nI nl') (opn := nI 0) (nsg_at e3 nsg) inn hx
    refine Or.inr ⟨p', c', m', us', nl', k2, fc', fo2, fa2, fp2, fq2, e1, e2, e3, ?_, e7.1, e7.2, ⟨e8.1, e8.2.1, e8.2.2.1, e8.2.2.2.1, e8.2.2.2.2.1, e8.2.2.2.2.2.1⟩, e9⟩
    rw [f2, show F' = F' - 2 + 1 + 1 by omega, kL_sum bo]
    exact kL_end (by omega) ((e6 1 (by omega)).trans kst_0)
theorem exp_test {C : KC_} (hC : KCok C) (hx : C.2.2.2.2.2.2.1 = 1) {fau pi0 op0 : Int32} {p us nl nc w : Nat} {c : KT4} {m : KM4} {fc fp fq : Nat → Int32} (hT : TkP C.1 C.2.2.1 p c m) (hus : us + 2 * w ≤ 2 * p) (hnc : nc + w ≤ p) (hnl : nl ≤ 50) : KExp C KT_ fau p us nl nc w fc C.2.2.2.2.2.2.2.1 C.2.2.2.2.2.2.2.2 (E_test_0 0 (klw C.2.2.2.1) (nI nl) (nI C.2.2.1) c.1 c.2.1 c.2.2.1 c.2.2.2 C.1 (nI us) fc) (E_v_readExpression 1 (nI C.2.2.1) m.1 m.2.1 m.2.2.1 m.2.2.2 fau 0 (kod C.2.2.2.1) (nI nc) (nI nl) pi0 op0 C.2.1 C.2.2.2.2.2.2.2.1 C.2.2.2.2.2.2.2.2 fp fq C.2.2.2.2.1 C.2.2.2.2.2.1) := by
  have hL := hT.2.1
  have hpL := hT.1
  have fr := TkP.froms (tf := c.1) (tt := c.2.1) (ti := c.2.2.1) (tu := c.2.2.2) (fr := m.1) (to := m.2.1) (so := m.2.2.1) (wo := m.2.2.2) hT
  have z0 : (0 : Int32).toInt = 0 := rfl
  have e : E_v_readExpression 1 (nI C.2.2.1) m.1 m.2.1 m.2.2.1 m.2.2.2 fau 0 (kod C.2.2.2.1) (nI nc) (nI nl) pi0 op0 C.2.1 C.2.2.2.2.2.2.2.1 C.2.2.2.2.2.2.2.2 fp fq C.2.2.2.2.1 C.2.2.2.2.2.1 = kL C (mz p 3 + 1) 0 m.1 m.2.1 m.2.2.1 m.2.2.2 fau 0 (nI nc) (nI nl) (nI 0) (nI 0) C.2.2.2.2.2.2.2.1 C.2.2.2.2.2.2.2.2 fp fq := by
    rw [E_v_readExpression.eq_def, if_neg (by decide), show (8 * (401 - (m.1 : Int32).toInt) + 4 * (1 - (0 : Int32).toInt) + (if (0 : Int32).toInt = 4 then 0 else if (0 : Int32).toInt = 2 then 1 else if (0 : Int32).toInt = 3 then 2 else 3) : Int).toNat + 1 = mz p 3 + 1 by
      rw [fr.2.1, nI_toInt (by omega), z0, if_neg (by decide), if_neg (by decide), if_neg (by decide)]; unfold mz; omega]
    unfold kL
    rw [hx]
    rfl
  rw [e]
  have ss := st_0 hC fau p c m us nl nc 0 w fc C.2.2.2.2.2.2.2.1 C.2.2.2.2.2.2.2.2 fp fq hT hus hnc (Nat.zero_le _) hnl (by omega) (Or.inl ⟨by rw [hx]; decide, fun j hj => by omega⟩) (Or.inl rfl)
  rw [show nI 0 = (0 : Int32) from rfl] at ss
  rcases ss with ⟨n1, q', n2, n3⟩ | ⟨p', c', m', us', nl', k1, pi1, k2, fc', fo1, fa1, fp2, fq2, fo2, fa2, e1, e2, e3, e4, e5, e6, e7, e8, e9, w1, w2⟩
  · obtain ⟨r, r1, r2, r3⟩ := n3 (mz p 3 + 1) (by omega)
    exact Or.inl ⟨n1, q', n2, (congrArg (fun x : KR14 => x.2.2.2.2.1) r1).trans r2, (congrArg (fun x : KR14 => x.2.2.2.2.2.1) r1).trans r3⟩
  · have hp1 := e5.2.1
    have hL' := e3.1
    have inn : E_v_inner (nI pi1) fp2 = -1 := inner_none (by omega) (fun j hj => by
      obtain ⟨o, o1, o2, o3⟩ := e5.2.2.2 j (by omega) hj
      exact ⟨o, by omega, o3⟩)
    obtain ⟨F', f1, f2⟩ := e4 (mz p 3 + 1) (by omega)
    have f3 : 2 ≤ F' := by unfold mz at f1; omega
    have bo := bt_over (go := C.2.2.2.2.2.2.2.1) (ga := C.2.2.2.2.2.2.2.2) (ft := C.2.1) (fo := fo1) (fa := fa1) (fq := fq2) (ta := nI C.2.2.1) (fr := m'.1) (to := m'.2.1) (fau := fau) (nc := nI k1) (nl := nI nl') (opn := nI 0) w1 w2 inn
    refine Or.inr ⟨p', c', m', us', nl', k2, fc', fo2, fa2, fp2, fq2, e1, e2, e3, ?_, e7.1, e7.2, ⟨e8.1, e8.2.1, e8.2.2.1, e8.2.2.2.1, e8.2.2.2.2.1, e8.2.2.2.2.2.1⟩, e9⟩
    rw [f2, show F' = F' - 2 + 1 + 1 by omega, kL_test bo]
    exact kL_end (by omega) ((e6 1 (Nat.le_refl _)).trans kst_0)
