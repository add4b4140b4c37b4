/-! orders: a clause is read alike -/
theorem j125_badR {ta ord v x x1 : Int32} {ft : Nat → Int32} {fwd fwe : Nat → Int64} {q : Int32} (R : KR15) (h1 : R.2.2.2.2.1 = q) (h2 : R.2.2.2.2.2.1 = 1) : (E_v_readOrder_j125 ta ord ft fwd fwe v x x1 R.1 R.2.1 R.2.2.1 R.2.2.2.1 R.2.2.2.2.1 R.2.2.2.2.2.1 R.2.2.2.2.2.2.1 R.2.2.2.2.2.2.2.1 R.2.2.2.2.2.2.2.2.1 R.2.2.2.2.2.2.2.2.2.1 R.2.2.2.2.2.2.2.2.2.2.1 R.2.2.2.2.2.2.2.2.2.2.2.1 R.2.2.2.2.2.2.2.2.2.2.2.2.1 R.2.2.2.2.2.2.2.2.2.2.2.2.2.1 R.2.2.2.2.2.2.2.2.2.2.2.2.2.2).2.2.2.2.1 = q ∧ (E_v_readOrder_j125 ta ord ft fwd fwe v x x1 R.1 R.2.1 R.2.2.1 R.2.2.2.1 R.2.2.2.2.1 R.2.2.2.2.2.1 R.2.2.2.2.2.2.1 R.2.2.2.2.2.2.2.1 R.2.2.2.2.2.2.2.2.1 R.2.2.2.2.2.2.2.2.2.1 R.2.2.2.2.2.2.2.2.2.2.1 R.2.2.2.2.2.2.2.2.2.2.2.1 R.2.2.2.2.2.2.2.2.2.2.2.2.1 R.2.2.2.2.2.2.2.2.2.2.2.2.2.1 R.2.2.2.2.2.2.2.2.2.2.2.2.2.2).2.2.2.2.2.1 = 1 := by
  rw [h1, h2]; exact j125_bad
theorem j160_badR {ta ord x x1 : Int32} {ft : Nat → Int32} {fwd fwe : Nat → Int64} {q : Int32} (R : KR15) (h1 : R.2.2.2.2.1 = q) (h2 : R.2.2.2.2.2.1 = 1) : (E_v_readOrder_j160 ta ord ft fwd fwe x x1 R.1 R.2.1 R.2.2.1 R.2.2.2.1 R.2.2.2.2.1 R.2.2.2.2.2.1 R.2.2.2.2.2.2.1 R.2.2.2.2.2.2.2.1 R.2.2.2.2.2.2.2.2.1 R.2.2.2.2.2.2.2.2.2.1 R.2.2.2.2.2.2.2.2.2.2.1 R.2.2.2.2.2.2.2.2.2.2.2.1 R.2.2.2.2.2.2.2.2.2.2.2.2.1 R.2.2.2.2.2.2.2.2.2.2.2.2.2.1 R.2.2.2.2.2.2.2.2.2.2.2.2.2.2).2.2.2.2.1 = q ∧ (E_v_readOrder_j160 ta ord ft fwd fwe x x1 R.1 R.2.1 R.2.2.1 R.2.2.2.1 R.2.2.2.2.1 R.2.2.2.2.2.1 R.2.2.2.2.2.2.1 R.2.2.2.2.2.2.2.1 R.2.2.2.2.2.2.2.2.1 R.2.2.2.2.2.2.2.2.2.1 R.2.2.2.2.2.2.2.2.2.2.1 R.2.2.2.2.2.2.2.2.2.2.2.1 R.2.2.2.2.2.2.2.2.2.2.2.2.1 R.2.2.2.2.2.2.2.2.2.2.2.2.2.1 R.2.2.2.2.2.2.2.2.2.2.2.2.2.2).2.2.2.2.2.1 = 1 := by
  rw [h1, h2]; exact j160_bad
theorem l76_sum0 {n : Nat} {ln pa tf tt ti tu us x : Int32} {fb fc fh : Nat → Int32} (hx : ¬ x ≤ 0) (rc : KCl9) : E_w_clause_l76 (nI n) 0 ln fb x rc 0 pa tf tt ti tu us fc fh = E_w_clause_j98 (nI n) 0 ln fb (nI 0) pa us fc fh rc tf tt ti tu := by
  rw [E_w_clause_l76.eq_def, if_neg hx, if_pos (by decide)]
  rfl
theorem l76_by_p {n : Nat} {ln pa tf tt ti tu us : Int32} {fb fc fh : Nat → Int32} (h : E_w_find 2 ln tf tt ti tu fb = 0) (rc : KCl9) : E_w_clause_l76 (nI n) 0 ln fb 2 rc (nI 1) pa tf tt ti tu us fc fh = E_w_clause_j98 (nI n) 0 ln fb (nI 1) pa us fc fh rc (E_w_step ln tf tt ti tu fb).1 (E_w_step ln tf tt ti tu fb).2.1 (E_w_step ln tf tt ti tu fb).2.2.1 (E_w_step ln tf tt ti tu fb).2.2.2 := by
  rw [E_w_clause_l76.eq_def, if_neg (by decide), if_neg (by decide), pas_p h]
  simp only [Lt2]
  rw [if_neg (by decide)]
theorem l76_by_n {n : Nat} {ln pa tf tt ti tu us : Int32} {fb fc fh : Nat → Int32} (h : E_w_find 2 ln tf tt ti tu fb ≠ 0) (rc : KCl9) : E_w_clause_l76 (nI n) 0 ln fb 2 rc (nI 1) pa tf tt ti tu us fc fh = (0, pa, tf, tt, ti, tu, us, fh, fc) := by
  rw [E_w_clause_l76.eq_def, if_neg (by decide), if_neg (by decide), pas_n h]
  simp only [Lt2]
  rw [if_pos (by trivial)]
noncomputable def KClo (L n : Nat) (fb : Nat → Int32) (p : Nat) (fau : Int32) (r : KW9) (R : KR16) : Prop :=
  (r.1 = 0 ∧ ∃ q : Nat, r.2.2.1 = nI q ∧ R.2.2.2.2.1 = nI q ∧ R.2.2.2.2.2.1 = 1) ∨
  ∃ (p' : Nat) (c' : KT4) (m' : KM4) (us' nl' n2 : Nat) (fh' fc' fo2 fa2 fp2 fq2 fod' : Nat → Int32) (pi' op' : Int32), r = (1, nI nl', c'.1, c'.2.1, c'.2.2.1, c'.2.2.2, nI us', fh', fc') ∧ p < p' ∧ TkP fb L p' c' m' ∧
    R = (m'.1, m'.2.1, m'.2.2.1, m'.2.2.2, fau, 0, nI (n + 1), nI n2, nI nl', pi', op', fo2, fa2, fp2, fq2, fod') ∧ (us' ≤ 2 * p' ∧ n2 ≤ p' ∧ nl' ≤ 50) ∧ KOrs (n + 1) us' n2 fh' fod' fc' fo2 fa2
theorem ord_fin {L n i p p0 us0 nc0 us nl nc : Nat} {fb fh0 fc0 fod0 fo0 fa0 fh fc fod fo fa : Nat → Int32} {fau : Int32} {P : KW9} {R : KR16} (hK : KOrs n us0 nc0 fh0 fod0 fc0 fo0 fa0) (hi : i < 4) (hp : p0 < p) (h1 : us0 ≤ us) (h2 : nc0 ≤ nc) (h3 : ∀ j, j < us0 → fc j = fc0 j) (h4 : ∀ j, j < nc0 → fo j = fo0 j ∧ fa j = fa0 j) (h5 : ∀ j, j < 5 * n → fh j = fh0 j) (h6 : ∀ j, j < 8 * n → fod j = fod0 j) (g1 : fh (5 * n) = nI i) (g2 : fod (8 * n) = nI i) (g3 : fh (5 * n + 4) = -1) (g4 : KSn (i < 3) 1 us nc fc fo fa (fh (5 * n + 2)) (fod (8 * n + 1)) (fod (8 * n + 2))) (g5 : KSn (i = 1 ∨ i = 2) 1 us nc fc fo fa (fh (5 * n + 3)) (fod (8 * n + 3)) (fod (8 * n + 4)))
    (hT : (P.1 = 0 ∧ ∃ q : Nat, P.2.2.1 = nI q ∧ R.2.2.2.2.1 = nI q ∧ R.2.2.2.2.2.1 = 1) ∨ ∃ (t p1 : Nat) (fht fodt : Nat → Int32), (1 ≤ t ∧ t ≤ 20 ∧ p ≤ p1) ∧ fht (5 * n + 1) = nI t ∧ fodt (8 * n + 7) = nI t ∧ (∀ j, j ≠ 5 * n + 1 → fht j = fh j) ∧ (∀ j, j ≠ 8 * n + 7 → fodt j = fod j) ∧ KIf 1 L n p1 us nl nc fb fau (nI (n + 1)) (8 * n + 6) fht fc (upd fodt (8 * n + 5) (nI nc)) fo fa P R) : KClo L n fb p0 fau P R := by
  rcases hT with hT | ⟨t, p1, fht, fodt, ⟨t1, t2, t3⟩, k1, k2, k3, k4, ib⟩
  · exact Or.inl hT
  rcases ib with ib | ⟨p', c', m', us', nl', n2, fh', fc', fo2, fa2, fp2, fq2, pi', op', e1, e2, e3, e4, e5, e6, e7, e8⟩
  · exact Or.inl ib
  have hf : ∀ j, j ≠ 5 * n + 4 → fh' j = fht j := fun j hj => by
    rcases e8 with ⟨e8, _⟩ | ⟨e8, _⟩
    · rw [e8]
    · rw [e8, upd_n hj]
  have fcs : ∀ j, j < us → fc' j = fc j := e5
  refine Or.inr ⟨p', c', m', us', nl', n2, fh', fc', fo2, fa2, fp2, fq2, _, pi', op', e1, by omega, e3, e4, ⟨e7.2.1, e7.2.2.2.1, e7.2.2.2.2.2⟩, fun j hj => ?_⟩
  by_cases jn : j < n
  · exact hK.ext (by omega) (by omega) (fun k hk => (e5 k (by omega)).trans (h3 k hk)) (fun k hk => ⟨(e6 k (by omega)).1.trans (h4 k hk).1, (e6 k (by omega)).2.trans (h4 k hk).2⟩) (fun k hk => by rw [hf k (by omega), k3 k (by omega)]; exact h5 k hk) (fun k hk => by rw [upd_n (by omega), upd_n (by omega), k4 k (by omega)]; exact h6 k hk) j jn
  · have jj : j = n := by omega
    subst jj
    refine ⟨i, t, ⟨hi, t1, t2⟩, ?_, ?_, ?_, ?_, ?_, ?_, ?_⟩
    · rw [hf _ (by omega), k3 _ (by omega)]; exact g1
    · rw [upd_n (by omega), upd_n (by omega), k4 _ (by omega)]; exact g2
    · rw [hf _ (by omega)]; exact k1
    · rw [upd_n (by omega), upd_n (by omega)]; exact k2
    · rw [upd_n (by omega), upd_s, upd_s]
      rcases e8 with ⟨e8, e9, e10⟩ | ⟨e8, e9, e10, e11, e12⟩
      · exact Or.inl ⟨by rw [e8, k3 _ (by omega)]; exact g3, by rw [e10], nc, rfl, by omega⟩
      · exact Or.inr ⟨us, us' - 2, nc, n2, nl' - nl, by rw [e8, upd_s], rfl, rfl, e9, Nat.le_refl _, by omega, e12, e11, by omega⟩
    · rw [hf _ (by omega), k3 _ (by omega), upd_n (by omega), upd_n (by omega), k4 _ (by omega), upd_n (by omega), upd_n (by omega), k4 _ (by omega)]
      exact g4.ext (by omega) (by omega) e5 e6
    · rw [hf _ (by omega), k3 _ (by omega), upd_n (by omega), upd_n (by omega), k4 _ (by omega), upd_n (by omega), upd_n (by omega), k4 _ (by omega)]
      exact g5.ext (by omega) (by omega) e5 e6
/-- A CLAUSE OF ORDERS IS READ ALIKE -/
theorem ord_clause {L n p us nl nc : Nat} {fb ft fh fc fod fo fa fp fq : Nat → Int32} {wd we fac : Nat → Int64} {c : KT4} {m : KM4} {fau pi op scl : Int32} (hR : KRy L fb ft wd we) (hh : ∀ j, j < 4 → (fac j).toInt = kwh 1 j) (hT : TkP fb L p c m) (hus : us ≤ 2 * p) (hnc : nc ≤ p) (hnl : nl ≤ 50) (hn : n < 12) (hK : KOrs n us nc fh fod fc fo fa) : KClo L n fb p fau (E_w_clause (nI n) 0 (nI nl) (nI L) c.1 c.2.1 c.2.2.1 c.2.2.2 fb scl (nI us) fh fc) (E_v_readOrder (nI L) m.1 m.2.1 m.2.2.1 m.2.2.2 fau 0 1 (nI n) (nI nc) (nI nl) pi op ft fo fa fp fq wd we fod fac) := by
  have hL := hR.1
  have hpL := hT.1
  have fr := TkP.froms (tf := c.1) (tt := c.2.1) (ti := c.2.2.1) (tu := c.2.2.2) (fr := m.1) (to := m.2.1) (so := m.2.2.1) (wo := m.2.2.2) hT
  rcases tk_four (k := 1) (Or.inr rfl) hh hT (nI L) with ⟨i, i1, pl, i3, i4, i5⟩ | ⟨i1, i2⟩
  case inr =>
    rw [co_nil i1, ord_no i2]
    exact Or.inl ⟨rfl, p, fr.1, fr.2.1, rfl⟩
  obtain ⟨q, q1, q2, hQ⟩ := kx_next hR hT
  have hqL := hQ.1
  have qp := q2 pl
  rw [co_top hn i1 i3, ord_go hn i1 i4 i5]
  generalize hs : (E_w_step (nI L) c.1 c.2.1 c.2.2.1 c.2.2.2 fb) = s at hQ ⊢
  generalize hm : E_v_next (nI L) m.1 m.2.1 m.2.2.1 m.2.2.2 ft = mn at hQ ⊢
  obtain ⟨f8, z1, z2, z3⟩ := zero_l (b := 8 * n) (fun _ _ => ((0, 0, 0, 0, 0, 0, 0, 0, 0, 0, 0, fun _ => 0, fun _ => 0, fun _ => 0, fun _ => 0, fun _ => 0) : KR16)) (E_v_readOrder_l85 (nI L) 1 (nI nc) (nI nl) pi op ft fo fa fp fq wd we (nI i) mn.1 mn.2.1 mn.2.2.1 mn.2.2.2 fau 0 (nI (8 * n)) (nI (n + 1))) (fun rc v f hv => oz_b (by omega) rc v f hv) 8 0 1 fod (by omega)
  rw [z1, Lp_s]
  by_cases i3' : i = 3
  · subst i3'
    rw [if_pos rfl, ord_rest3 (by omega)]
    have tb := times_both (n := n) (us := us) (nl := nl) (nc := nc) (fau := fau) (pi := pi) (op := op) (x := 0) (v := 0) (fh := (upd (upd (upd (upd (upd fh (5 * n + 0) (nI 3)) (5 * n + 1) 1) (5 * n + 2) (-1)) (5 * n + 3) (-1)) (5 * n + 4) (-1))) (fc := fc) (fo := fo) (fa := fa) (fp := fp) (fq := fq) (fod := upd f8 (8 * n) (nI 3)) hR (by decide) hQ (by omega) (by omega) hnl hn (by rw [upd_n (by omega), upd_n (by omega), upd_n (by omega), upd_s]) (Lp (α := KCl9) (E_w_clause_l76 (nI n) 0 (nI L) fb 0) (fun _ _ _ _ _ _ _ _ _ => ((0, 0, 0, 0, 0, 0, 0, fun _ => 0, fun _ => 0) : KW9)) (1 + 1 + 1)) _ rfl _ rfl
    exact ord_fin hK (by omega) qp (Nat.le_refl _) (Nat.le_refl _) (fun _ _ => rfl) (fun _ _ => ⟨rfl, rfl⟩) (fun j hj => by rw [upd_n (by omega), upd_n (by omega), upd_n (by omega), upd_n (by omega), upd_n (by omega)]) (fun j hj => by rw [upd_n (by omega)]; exact z2 j (by omega)) (by rw [upd_n (by omega), upd_n (by omega), upd_n (by omega), upd_n (by omega)]; exact upd_s) upd_s upd_s (Or.inl ⟨by omega, by rw [upd_n (by omega), upd_n (by omega), upd_s], by rw [upd_n (by omega), upd_n (by omega), z3 _ (by omega) (by omega), z3 _ (by omega) (by omega)]⟩) (Or.inl ⟨by omega, by rw [upd_n (by omega), upd_s], by rw [upd_n (by omega), upd_n (by omega), z3 _ (by omega) (by omega), z3 _ (by omega) (by omega)]⟩) tb
  rw [if_neg i3', ord_rest (by omega) (by omega)]
  have x0 : ¬ (if i = 0 then 1 else 2 : Int32) ≤ 0 := by split <;> decide
  rw [l76_sum0 x0]
  have o1 := osum (n := n) (v := 0) (k := 8 * n + 1) (us := us) (nl := nl) (nc := nc) (fau := fau) (pi := pi) (op := op) (ncl := nI (n + 1)) (fh := (upd (upd (upd (upd (upd fh (5 * n + 0) (nI i)) (5 * n + 1) 1) (5 * n + 2) (-1)) (5 * n + 3) (-1)) (5 * n + 4) (-1))) (fc := fc) (fo := fo) (fa := fa) (fp := fp) (fq := fq) (fod := upd f8 (8 * n) (nI i)) hR hn (by omega) (by omega) hQ (by omega) (by omega) hnl (Lp (α := KCl9) (E_w_clause_l76 (nI n) 0 (nI L) fb (if i = 0 then 1 else 2)) (fun _ _ _ _ _ _ _ _ _ => ((0, 0, 0, 0, 0, 0, 0, fun _ => 0, fun _ => 0) : KW9)) (1 + 1 + 1)) _ rfl _ rfl
  generalize E_v_readSum (nI (8 * n + 1)) (nI L) mn.1 mn.2.1 mn.2.2.1 mn.2.2.2 fau 0 1 (nI (n + 1)) (nI nc) (nI nl) pi op ft fo fa fp fq wd we (upd f8 (8 * n) (nI i)) = R1 at o1 ⊢
  dsimp only
  rcases o1 with ⟨n1, q', n2, n3, n4⟩ | ⟨p1, c1, m1, us1, nl1, nc1, fc1, fo1, fa1, fp1, fq1, e1, e2, e3, e4, e5, e6, e7, e8⟩
  · have bb := j125_badR (ta := nI L) (ord := 1) (v := nI i) (x := nI (8 * n)) (x1 := nI (n + 1)) (ft := ft) (fwd := wd) (fwe := we) R1 n3 n4
    exact Or.inl ⟨n1, q', n2, bb.1, bb.2⟩
  have hp1 := e3.1
  rw [e1]
  subst e4
  dsimp only
  by_cases i0 : i = 0
  · subst i0
    rw [if_pos rfl, j125_o, Lp_s]
    have tb := times_both (n := n) (us := us1) (nl := nl1) (nc := nc1) (fau := fau) (pi := nI 0) (op := nI 0) (x := 1) (v := nI (0 + 1)) (fh := upd (upd (upd (upd (upd (upd fh (5 * n + 0) (nI 0)) (5 * n + 1) 1) (5 * n + 2) (-1)) (5 * n + 3) (-1)) (5 * n + 4) (-1)) (5 * n + (2 + 0)) (nI us)) (fc := fc1) (fo := fo1) (fa := fa1) (fp := fp1) (fq := fq1) (fod := upd (upd (upd f8 (8 * n) (nI 0)) (8 * n + 1) (nI nc)) (8 * n + 1 + 1) (nI nc1)) hR (by decide) e3 e7.2.1 e7.2.2.2.1 e7.2.2.2.2.2 hn (by rw [upd_n (by omega), upd_n (by omega), upd_n (by omega), upd_n (by omega), upd_s]) (Lp (α := KCl9) (E_w_clause_l76 (nI n) 0 (nI L) fb 1) (fun _ _ _ _ _ _ _ _ _ => ((0, 0, 0, 0, 0, 0, 0, fun _ => 0, fun _ => 0) : KW9)) (1 + 1)) _ rfl _ rfl
    exact ord_fin hK (by omega) (by omega) (by omega) (by omega) e5 e6 (fun j hj => by rw [upd_n (by omega), upd_n (by omega), upd_n (by omega), upd_n (by omega), upd_n (by omega), upd_n (by omega)]) (fun j hj => by rw [upd_n (by omega), upd_n (by omega), upd_n (by omega)]; exact z2 j (by omega)) (by rw [upd_n (by omega), upd_n (by omega), upd_n (by omega), upd_n (by omega), upd_n (by omega)]; exact upd_s) (by rw [upd_n (by omega), upd_n (by omega), upd_s]) (by rw [upd_n (by omega), upd_s]) (Or.inr ⟨by omega, (by rw [show 5 * n + 2 = 5 * n + (2 + 0) by omega, upd_s, upd_n (by omega), upd_s, show 8 * n + 2 = 8 * n + 1 + 1 by omega, upd_s]; exact e8)⟩) (Or.inl ⟨by omega, by rw [upd_n (by omega), upd_n (by omega), upd_s], by rw [upd_n (by omega), upd_n (by omega), upd_n (by omega), z3 _ (by omega) (by omega), upd_n (by omega), upd_n (by omega), upd_n (by omega), z3 _ (by omega) (by omega)]⟩) tb
  have i12 : i = 1 ∨ i = 2 := by omega
  rw [if_neg i0, Lp_s, show nI (0 + 1) = nI 1 from rfl]
  have fr1 := TkP.froms (tf := c1.1) (tt := c1.2.1) (ti := c1.2.2.1) (tu := c1.2.2.2) (fr := m1.1) (to := m1.2.1) (so := m1.2.2.1) (wo := m1.2.2.2) e3
  rcases tk_one (k := 2) (c := 89) (tf := c1.1) (tt := c1.2.1) (ti := c1.2.2.1) (tu := c1.2.2.2) (fr := m1.1) (to := m1.2.1) (so := m1.2.2.1) (wo := m1.2.2.2) (by omega) (by omega) rfl (by decide +kernel) e3 (nI L) with ⟨f0, w1, pl1⟩ | ⟨f0, w0⟩
  case inr =>
    rw [l76_by_n f0]
    have bb := j125_no (ta := nI L) (ord := 1) (x := nI (8 * n)) (x1 := nI (n + 1)) (ft := ft) (fwd := wd) (fwe := we) (fr := m1.1) (to := m1.2.1) (so := m1.2.2.1) (wo := m1.2.2.2) (fau := fau) (nc := nI nc1) (nl := nI nl1) (pi := nI 0) (opn := nI 0) (fo := fo1) (fa := fa1) (fp := fp1) (fq := fq1) (fod := upd (upd (upd f8 (8 * n) (nI i)) (8 * n + 1) (nI nc)) (8 * n + 1 + 1) (nI nc1)) i12 w0
    exact Or.inl ⟨rfl, p1, fr1.1, bb.1.trans fr1.2.1, bb.2⟩
  obtain ⟨r, r1, r2, hR2⟩ := kx_next hR e3
  have hrL := hR2.1
  have rp := r2 pl1
  rw [l76_by_p f0, j125_by (by omega) i12 w1]
  have o2 := osum (n := n) (v := 1) (k := 8 * n + 3) (us := us1) (nl := nl1) (nc := nc1) (fau := fau) (pi := nI 0) (op := nI 0) (ncl := nI (n + 1)) (fh := upd (upd (upd (upd (upd (upd fh (5 * n + 0) (nI i)) (5 * n + 1) 1) (5 * n + 2) (-1)) (5 * n + 3) (-1)) (5 * n + 4) (-1)) (5 * n + (2 + 0)) (nI us)) (fc := fc1) (fo := fo1) (fa := fa1) (fp := fp1) (fq := fq1) (fod := upd (upd (upd f8 (8 * n) (nI i)) (8 * n + 1) (nI nc)) (8 * n + 1 + 1) (nI nc1)) hR hn (by omega) (by omega) hR2 (by omega) (by omega) e7.2.2.2.2.2 (Lp (α := KCl9) (E_w_clause_l76 (nI n) 0 (nI L) fb 2) (fun _ _ _ _ _ _ _ _ _ => ((0, 0, 0, 0, 0, 0, 0, fun _ => 0, fun _ => 0) : KW9)) (1 + 1)) _ rfl _ rfl
  generalize E_v_readSum (nI (8 * n + 3)) (nI L) (E_v_next (nI L) m1.1 m1.2.1 m1.2.2.1 m1.2.2.2 ft).1 (E_v_next (nI L) m1.1 m1.2.1 m1.2.2.1 m1.2.2.2 ft).2.1 (E_v_next (nI L) m1.1 m1.2.1 m1.2.2.1 m1.2.2.2 ft).2.2.1 (E_v_next (nI L) m1.1 m1.2.1 m1.2.2.1 m1.2.2.2 ft).2.2.2 fau 0 1 (nI (n + 1)) (nI nc1) (nI nl1) (nI 0) (nI 0) ft fo1 fa1 fp1 fq1 wd we (upd (upd (upd f8 (8 * n) (nI i)) (8 * n + 1) (nI nc)) (8 * n + 1 + 1) (nI nc1)) = R2 at o2 ⊢
  dsimp only
  rcases o2 with ⟨n1, q', n2, n3, n4⟩ | ⟨p2, c2, m2, us2, nl2, nc2, fc2, fo2, fa2, fp2, fq2, b1, b2, b3, b4, b5, b6, b7, b8⟩
  · have bb := j160_badR (ta := nI L) (ord := 1) (x := nI (8 * n)) (x1 := nI (n + 1)) (ft := ft) (fwd := wd) (fwe := we) R2 n3 n4
    exact Or.inl ⟨n1, q', n2, bb.1, bb.2⟩
  have hp2 := b3.1
  rw [b1]
  subst b4
  dsimp only
  rw [Lp_s]
  have tb := times_both (n := n) (us := us2) (nl := nl2) (nc := nc2) (fau := fau) (pi := nI 0) (op := nI 0) (x := 2) (v := nI (1 + 1)) (fh := upd (upd (upd (upd (upd (upd (upd fh (5 * n + 0) (nI i)) (5 * n + 1) 1) (5 * n + 2) (-1)) (5 * n + 3) (-1)) (5 * n + 4) (-1)) (5 * n + (2 + 0)) (nI us)) (5 * n + (2 + 1)) (nI us1)) (fc := fc2) (fo := fo2) (fa := fa2) (fp := fp2) (fq := fq2) (fod := upd (upd (upd (upd (upd f8 (8 * n) (nI i)) (8 * n + 1) (nI nc)) (8 * n + 1 + 1) (nI nc1)) (8 * n + 3) (nI nc1)) (8 * n + 3 + 1) (nI nc2)) hR (by decide) b3 b7.2.1 b7.2.2.2.1 b7.2.2.2.2.2 hn (by rw [upd_n (by omega), upd_n (by omega), upd_n (by omega), upd_n (by omega), upd_n (by omega), upd_s]) (Lp (α := KCl9) (E_w_clause_l76 (nI n) 0 (nI L) fb 2) (fun _ _ _ _ _ _ _ _ _ => ((0, 0, 0, 0, 0, 0, 0, fun _ => 0, fun _ => 0) : KW9)) (1)) _ rfl _ rfl
  have e8' : KSs 1 us2 nc2 fc2 fo2 fa2 (nI us) (nI nc) (nI nc1) := e8.ext (by omega) (by omega) b5 b6
  exact ord_fin hK (by omega) (by omega) (by omega) (by omega) (fun j hj => (b5 j (by omega)).trans (e5 j hj)) (fun j hj => ⟨(b6 j (by omega)).1.trans (e6 j hj).1, (b6 j (by omega)).2.trans (e6 j hj).2⟩) (fun j hj => by rw [upd_n (by omega), upd_n (by omega), upd_n (by omega), upd_n (by omega), upd_n (by omega), upd_n (by omega), upd_n (by omega)]) (fun j hj => by rw [upd_n (by omega), upd_n (by omega), upd_n (by omega), upd_n (by omega), upd_n (by omega)]; exact z2 j (by omega)) (by rw [upd_n (by omega), upd_n (by omega), upd_n (by omega), upd_n (by omega), upd_n (by omega), upd_n (by omega)]; exact upd_s) (by rw [upd_n (by omega), upd_n (by omega), upd_n (by omega), upd_n (by omega), upd_s]) (by rw [upd_n (by omega), upd_n (by omega), upd_s]) (Or.inr ⟨by omega, (by rw [upd_n (by omega), show 5 * n + 2 = 5 * n + (2 + 0) by omega, upd_s, upd_n (by omega), upd_n (by omega), upd_n (by omega), upd_s, upd_n (by omega), upd_n (by omega), show 8 * n + 2 = 8 * n + 1 + 1 by omega, upd_s]; exact e8')⟩) (Or.inr ⟨by omega, (by rw [show 5 * n + 3 = 5 * n + (2 + 1) by omega, upd_s, upd_n (by omega), upd_s, show 8 * n + 4 = 8 * n + 3 + 1 by omega, upd_s]; exact b8)⟩) tb
