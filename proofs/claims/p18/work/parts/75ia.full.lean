/-! all of the orders are read alike -/
noncomputable abbrev KO (α : Type) : Type := Int32 → Int32 → Int32 → Int64 → Int32 → Int32 → Int32 → Int32 → Int32 → Int32 → Int32 → (Nat → Int32) → (Nat → Int32) → (Nat → Int32) → (Nat → Int32) → (Nat → Int32) → α
/-- what comes of it: the same fault, or the same orders -/
noncomputable def KReo {α : Type} (B : KO α → KO α) (z0 : KO α) (fau : Int32) (r : KW11) (R : α) : Prop :=
  (r.1 = 0 ∧ ∃ (q : Nat) (a b c : Int32) (e : Int64) (n1 n2 n3 n4 n5 : Int32) (h1 h2 h3 h4 h5 : Nat → Int32), r.2.2.1 = nI q ∧ R = B z0 a b c e (nI q) 1 n1 n2 n3 n4 n5 h1 h2 h3 h4 h5) ∨
  ∃ (n us nc nl : Nat) (t1 t2 t3 t4 a b c : Int32) (e : Int64) (pi op : Int32) (fh fc fo fa fp fq fod : Nat → Int32), r = (1, nI nl, -1, t1, t2, t3, t4, nI n, nI us, fh, fc) ∧ R = B z0 a b c e fau 0 (nI n) (nI nc) (nI nl) pi op fo fa fp fq fod ∧ c = 0 ∧ (1 ≤ n ∧ n ≤ 12 ∧ us ≤ 800 ∧ nc ≤ 400 ∧ nl ≤ 50) ∧ KOrs n us nc fh fod fc fo fa
theorem aft_ord {α : Type} {L : Nat} {fb ft : Nat → Int32} {wd we fac : Nat → Int64} (hR : KRy L fb ft wd we) (hh : ∀ j, j < 4 → (fac j).toInt = kwh 1 j) (zc : KL45) (B : KO α → KO α) (z0 zr : KO α) (hbad : ∀ (rc : KO α) (a b c : Int32) (e : Int64) (fau n1 n2 n3 n4 n5 : Int32) (h1 h2 h3 h4 h5 : Nat → Int32), B rc a b c e fau 1 n1 n2 n3 n4 n5 h1 h2 h3 h4 h5 = B z0 a b c e fau 1 n1 n2 n3 n4 n5 h1 h2 h3 h4 h5) (hend : ∀ (rc : KO α) (a b c : Int32) (e : Int64) (fau n1 n2 n3 n4 n5 : Int32) (h1 h2 h3 h4 h5 : Nat → Int32), c = 0 → E_v_isSign 59 c e = 0 → B rc a b c e fau 0 n1 n2 n3 n4 n5 h1 h2 h3 h4 h5 = B z0 a b c e fau 0 n1 n2 n3 n4 n5 h1 h2 h3 h4 h5) (hstop : ∀ (rc : KO α) (a b c : Int32) (e : Int64) (fau n1 n2 n3 n4 n5 : Int32) (h1 h2 h3 h4 h5 : Nat → Int32), c ≠ 0 → E_v_isSign 59 c e = 0 → B rc a b c e fau 0 n1 n2 n3 n4 n5 h1 h2 h3 h4 h5 = B z0 a b c e a 1 n1 n2 n3 n4 n5 h1 h2 h3 h4 h5) (hsep : ∀ (rc : KO α) (a b c : Int32) (e : Int64) (fau n1 n2 n3 n4 n5 : Int32) (h1 h2 h3 h4 h5 : Nat → Int32), E_v_isSign 59 c e = 1 → B rc a b c e fau 0 n1 n2 n3 n4 n5 h1 h2 h3 h4 h5 = (fun R : KR16 => rc R.1 R.2.1 R.2.2.1 R.2.2.2.1 R.2.2.2.2.1 R.2.2.2.2.2.1 R.2.2.2.2.2.2.1 R.2.2.2.2.2.2.2.1 R.2.2.2.2.2.2.2.2.1 R.2.2.2.2.2.2.2.2.2.1 R.2.2.2.2.2.2.2.2.2.2.1 R.2.2.2.2.2.2.2.2.2.2.2.1 R.2.2.2.2.2.2.2.2.2.2.2.2.1 R.2.2.2.2.2.2.2.2.2.2.2.2.2.1 R.2.2.2.2.2.2.2.2.2.2.2.2.2.2.1 R.2.2.2.2.2.2.2.2.2.2.2.2.2.2.2) (E_v_readOrder (nI L) (E_v_next (nI L) a b c e ft).1 (E_v_next (nI L) a b c e ft).2.1 (E_v_next (nI L) a b c e ft).2.2.1 (E_v_next (nI L) a b c e ft).2.2.2 fau 0 1 n1 n2 n3 n4 n5 ft h1 h2 h3 h4 wd we h5 fac)) : ∀ (d n p us nl nc : Nat) (c : KT4) (m : KM4) (fh fc fod fo fa fp fq : Nat → Int32) (fau pi op : Int32) (F : Nat), n + d = 12 → 1 ≤ n → TkP fb L p c m → us ≤ 2 * p → nc ≤ p → nl ≤ 50 → KOrs n us nc fh fod fc fo fa → 2 * (401 - p) + 2 ≤ F →
    KReo B z0 fau (cAft 0 L n fb zc (nI nl) c.1 c.2.1 c.2.2.1 c.2.2.2 (nI us) fh fc) (Lp (α := KO α) B zr F m.1 m.2.1 m.2.2.1 m.2.2.2 fau 0 (nI n) (nI nc) (nI nl) pi op fo fa fp fq fod) := by
  intro d
  induction d with
  | zero =>
    intro n p us nl nc c m fh fc fod fo fa fp fq fau pi op F hd hn hT hus hnc hnl hK hF
    have hn12 : n = 12 := by omega
    have hpL := hT.1
    have hL := hT.2.1
    have fr := TkP.froms (tf := c.1) (tt := c.2.1) (ti := c.2.2.1) (tu := c.2.2.2) (fr := m.1) (to := m.2.1) (so := m.2.2.1) (wo := m.2.2.2) hT
    unfold cAft
    rcases tk_sign (c := 59) (tf := c.1) (tt := c.2.1) (ti := c.2.2.1) (tu := c.2.2.2) (fr := m.1) (to := m.2.1) (so := m.2.2.1) (wo := m.2.2.2) (by decide) hT with ⟨s1, s2, s3⟩ | ⟨s1, s2⟩
    · obtain ⟨q, q1, q2, hQ⟩ := kx_next hR hT
      have frq := TkP.froms (tf := (E_w_step (nI L) c.1 c.2.1 c.2.2.1 c.2.2.2 fb).1) (tt := (E_w_step (nI L) c.1 c.2.1 c.2.2.1 c.2.2.2 fb).2.1) (ti := (E_w_step (nI L) c.1 c.2.1 c.2.2.1 c.2.2.2 fb).2.2.1) (tu := (E_w_step (nI L) c.1 c.2.1 c.2.2.1 c.2.2.2 fb).2.2.2) (fr := (E_v_next (nI L) m.1 m.2.1 m.2.2.1 m.2.2.2 ft).1) (to := (E_v_next (nI L) m.1 m.2.1 m.2.2.1 m.2.2.2 ft).2.1) (so := (E_v_next (nI L) m.1 m.2.1 m.2.2.1 m.2.2.2 ft).2.2.1) (wo := (E_v_next (nI L) m.1 m.2.1 m.2.2.1 m.2.2.2 ft).2.2.2) hQ
      rw [if_neg (by rw [s1]; decide), if_pos s1, j112_at hn (by omega), rd_2 zc (by omega) (Or.inl hn12), j125_0, show F = (F - 2 + 1) + 1 by omega, Lp_s, hsep _ _ _ _ _ _ _ _ _ _ _ _ _ _ _ _ s2]
      have w4 : (∃ i, i < 4 ∧ E_v_isWord (fac i) (E_v_next (nI L) m.1 m.2.1 m.2.2.1 m.2.2.2 ft).2.2.1 (E_v_next (nI L) m.1 m.2.1 m.2.2.1 m.2.2.2 ft).2.2.2 = 1 ∧ ∀ j, j < 4 → j ≠ i → E_v_isWord (fac j) (E_v_next (nI L) m.1 m.2.1 m.2.2.1 m.2.2.2 ft).2.2.1 (E_v_next (nI L) m.1 m.2.1 m.2.2.1 m.2.2.2 ft).2.2.2 = 0) ∨ ∀ j, j < 4 → E_v_isWord (fac j) (E_v_next (nI L) m.1 m.2.1 m.2.2.1 m.2.2.2 ft).2.2.1 (E_v_next (nI L) m.1 m.2.1 m.2.2.1 m.2.2.2 ft).2.2.2 = 0 := by
        rcases tk_four (k := 1) (Or.inr rfl) hh hQ (nI L) with ⟨i, i1, _, _, i4, i5⟩ | ⟨_, i2⟩
        · exact Or.inl ⟨i, i1, i4, i5⟩
        · exact Or.inr i2
      rw [hn12, ord_full w4]
      dsimp only
      rw [Lp_s, hbad]
      exact Or.inl ⟨rfl, q, _, _, _, _, _, _, _, _, _, _, _, _, _, _, frq.1, by rw [frq.2.1]⟩
    · rcases tk_end (tf := c.1) (tt := c.2.1) (ti := c.2.2.1) (tu := c.2.2.2) (fr := m.1) (to := m.2.1) (so := m.2.2.1) (wo := m.2.2.2) hT with ⟨t1, t2, t3⟩ | ⟨t1, t2, t3⟩
      · rw [if_pos t2, j112_at hn (by omega), rd_2 zc (by omega) (Or.inr rfl), j125_1, show F = F - 1 + 1 by omega, Lp_s, hend _ _ _ _ _ _ _ _ _ _ _ _ _ _ _ _ t3 s2]
        exact Or.inr ⟨n, us, nc, nl, _, _, _, _, _, _, _, _, _, _, _, _, _, _, _, _, _, rfl, rfl, t3, ⟨hn, by omega, by omega, by omega, hnl⟩, hK⟩
      · rw [if_neg t2, if_neg s1, j125_0, show F = F - 1 + 1 by omega, Lp_s, hstop _ _ _ _ _ _ _ _ _ _ _ _ _ _ _ _ t3 s2]
        exact Or.inl ⟨rfl, p, _, _, _, _, _, _, _, _, _, _, _, _, _, _, fr.1, by rw [fr.2.1]⟩
  | succ d ih =>
    intro n p us nl nc c m fh fc fod fo fa fp fq fau pi op F hd hn hT hus hnc hnl hK hF
    have hpL := hT.1
    have hL := hT.2.1
    have fr := TkP.froms (tf := c.1) (tt := c.2.1) (ti := c.2.2.1) (tu := c.2.2.2) (fr := m.1) (to := m.2.1) (so := m.2.2.1) (wo := m.2.2.2) hT
    unfold cAft
    rcases tk_sign (c := 59) (tf := c.1) (tt := c.2.1) (ti := c.2.2.1) (tu := c.2.2.2) (fr := m.1) (to := m.2.1) (so := m.2.2.1) (wo := m.2.2.2) (by decide) hT with ⟨s1, s2, s3⟩ | ⟨s1, s2⟩
    · obtain ⟨q, q1, q2, hQ⟩ := kx_next hR hT
      have qp := q2 s3
      have hqL := hQ.1
      rw [if_neg (by rw [s1]; decide), if_pos s1, j112_at hn (by omega), rd_1 zc (by omega), show F = (F - 1) + 1 by omega, Lp_s, hsep _ _ _ _ _ _ _ _ _ _ _ _ _ _ _ _ s2]
      have lc := ord_clause hR hh (fau := fau) (pi := pi) (op := op) (scl := nI n) (fh := fh) (fc := fc) (fod := fod) (fo := fo) (fa := fa) (fp := fp) (fq := fq) (us := us) (nl := nl) (nc := nc) (n := n) hQ (by omega) (by omega) hnl (by omega) hK
      generalize E_w_clause (nI n) 0 (nI nl) (nI L) (E_w_step (nI L) c.1 c.2.1 c.2.2.1 c.2.2.2 fb).1 (E_w_step (nI L) c.1 c.2.1 c.2.2.1 c.2.2.2 fb).2.1 (E_w_step (nI L) c.1 c.2.1 c.2.2.1 c.2.2.2 fb).2.2.1 (E_w_step (nI L) c.1 c.2.1 c.2.2.1 c.2.2.2 fb).2.2.2 fb (nI n) (nI us) fh fc = r at lc ⊢
      generalize E_v_readOrder (nI L) (E_v_next (nI L) m.1 m.2.1 m.2.2.1 m.2.2.2 ft).1 (E_v_next (nI L) m.1 m.2.1 m.2.2.1 m.2.2.2 ft).2.1 (E_v_next (nI L) m.1 m.2.1 m.2.2.1 m.2.2.2 ft).2.2.1 (E_v_next (nI L) m.1 m.2.1 m.2.2.1 m.2.2.2 ft).2.2.2 fau 0 1 (nI n) (nI nc) (nI nl) pi op ft fo fa fp fq wd we fod fac = X at lc ⊢
      dsimp only
      rcases lc with ⟨n1, q', n2, n3, n4⟩ | ⟨p', c', m', us', nl', n2, fh', fc', fo2, fa2, fp2, fq2, fod', pi', op', e1, e2, e3, e4, e5, e6⟩
      · rw [if_pos n1, j125_0, n4, n3, show F - 1 = (F - 2) + 1 by omega, Lp_s, hbad]
        exact Or.inl ⟨rfl, q', _, _, _, _, _, _, _, _, _, _, _, _, _, _, n2, rfl⟩
      · subst e1
        subst e4
        dsimp only
        rw [if_neg (show ¬ (1 : Int32) = 0 by decide)]
        exact ih (n + 1) p' us' nl' n2 c' m' fh' fc' fod' fo2 fa2 fp2 fq2 fau pi' op' (F - 1) (by omega) (by omega) e3 e5.1 e5.2.1 e5.2.2 e6 (by omega)
    · rcases tk_end (tf := c.1) (tt := c.2.1) (ti := c.2.2.1) (tu := c.2.2.2) (fr := m.1) (to := m.2.1) (so := m.2.2.1) (wo := m.2.2.2) hT with ⟨t1, t2, t3⟩ | ⟨t1, t2, t3⟩
      · rw [if_pos t2, j112_at hn (by omega), rd_2 zc (by omega) (Or.inr rfl), j125_1, show F = F - 1 + 1 by omega, Lp_s, hend _ _ _ _ _ _ _ _ _ _ _ _ _ _ _ _ t3 s2]
        exact Or.inr ⟨n, us, nc, nl, _, _, _, _, _, _, _, _, _, _, _, _, _, _, _, _, _, rfl, rfl, t3, ⟨hn, by omega, by omega, by omega, hnl⟩, hK⟩
      · rw [if_neg t2, if_neg s1, j125_0, show F = F - 1 + 1 by omega, Lp_s, hstop _ _ _ _ _ _ _ _ _ _ _ _ _ _ _ _ t3 s2]
        exact Or.inl ⟨rfl, p, _, _, _, _, _, _, _, _, _, _, _, _, _, _, fr.1, by rw [fr.2.1]⟩
/-! the reference's loop over orders -/
theorem l19_bad {sta nu ta lw bro dn me ofm : Int32} {val sm : Int64} {ft fw fu fs fb2 fub fsb frf : Nat → Int32} {fwd fwe fac fe frs fnw : Nat → Int64} (rc z0 : KO _) (a b c : Int32) (e : Int64) (fau n1 n2 n3 n4 n5 : Int32) (h1 h2 h3 h4 h5 : Nat → Int32) : (E_v_orders_l19 sta nu ta lw bro val sm dn me ofm ft fwd fwe fac fw fe frs fu fs fb2 fnw fub fsb frf) rc a b c e fau 1 n1 n2 n3 n4 n5 h1 h2 h3 h4 h5 = (E_v_orders_l19 sta nu ta lw bro val sm dn me ofm ft fwd fwe fac fw fe frs fu fs fb2 fnw fub fsb frf) z0 a b c e fau 1 n1 n2 n3 n4 n5 h1 h2 h3 h4 h5 := by
  rw [E_v_orders_l19.eq_def, E_v_orders_l19.eq_def, if_neg (by decide), if_neg (by decide)]
theorem l19_end {sta nu ta lw bro dn me ofm : Int32} {val sm : Int64} {ft fw fu fs fb2 fub fsb frf : Nat → Int32} {fwd fwe fac fe frs fnw : Nat → Int64} (rc z0 : KO _) (a b c : Int32) (e : Int64) (fau n1 n2 n3 n4 n5 : Int32) (h1 h2 h3 h4 h5 : Nat → Int32) (h : E_v_isSign 59 c e = 0) : (E_v_orders_l19 sta nu ta lw bro val sm dn me ofm ft fwd fwe fac fw fe frs fu fs fb2 fnw fub fsb frf) rc a b c e fau 0 n1 n2 n3 n4 n5 h1 h2 h3 h4 h5 = (E_v_orders_l19 sta nu ta lw bro val sm dn me ofm ft fwd fwe fac fw fe frs fu fs fb2 fnw fub fsb frf) z0 a b c e fau 0 n1 n2 n3 n4 n5 h1 h2 h3 h4 h5 := by
  rw [E_v_orders_l19.eq_def, E_v_orders_l19.eq_def, if_pos rfl, if_pos rfl, Lt_b, Lt_b, if_neg (by rw [h]; decide), if_neg (by rw [h]; decide)]
theorem l19_stop {sta nu ta lw bro dn me ofm : Int32} {val sm : Int64} {ft fw fu fs fb2 fub fsb frf : Nat → Int32} {fwd fwe fac fe frs fnw : Nat → Int64} (rc z0 : KO _) (a b c : Int32) (e : Int64) (fau n1 n2 n3 n4 n5 : Int32) (h1 h2 h3 h4 h5 : Nat → Int32) (h0 : c ≠ 0) (h : E_v_isSign 59 c e = 0) : (E_v_orders_l19 sta nu ta lw bro val sm dn me ofm ft fwd fwe fac fw fe frs fu fs fb2 fnw fub fsb frf) rc a b c e fau 0 n1 n2 n3 n4 n5 h1 h2 h3 h4 h5 = (E_v_orders_l19 sta nu ta lw bro val sm dn me ofm ft fwd fwe fac fw fe frs fu fs fb2 fnw fub fsb frf) z0 a b c e a 1 n1 n2 n3 n4 n5 h1 h2 h3 h4 h5 := by
  rw [E_v_orders_l19.eq_def, E_v_orders_l19.eq_def, if_pos rfl, if_neg (show ¬ (1 : Int32) = 0 by decide), Lt_b, if_neg (by rw [h]; decide), et_more h0, et_bad]
  simp only [Lt2]
  rw [if_neg (show ¬ (1 : Int32) = 0 by decide), if_neg (show ¬ (1 : Int32) = 0 by decide)]
theorem l19_sep {sta nu ta lw bro dn me ofm : Int32} {val sm : Int64} {ft fw fu fs fb2 fub fsb frf : Nat → Int32} {fwd fwe fac fe frs fnw : Nat → Int64} (rc : KO _) (a b c : Int32) (e : Int64) (fau n1 n2 n3 n4 n5 : Int32) (h1 h2 h3 h4 h5 : Nat → Int32) (h : E_v_isSign 59 c e = 1) : (E_v_orders_l19 sta nu ta lw bro val sm dn me ofm ft fwd fwe fac fw fe frs fu fs fb2 fnw fub fsb frf) rc a b c e fau 0 n1 n2 n3 n4 n5 h1 h2 h3 h4 h5 = (fun R : KR16 => rc R.1 R.2.1 R.2.2.1 R.2.2.2.1 R.2.2.2.2.1 R.2.2.2.2.2.1 R.2.2.2.2.2.2.1 R.2.2.2.2.2.2.2.1 R.2.2.2.2.2.2.2.2.1 R.2.2.2.2.2.2.2.2.2.1 R.2.2.2.2.2.2.2.2.2.2.1 R.2.2.2.2.2.2.2.2.2.2.2.1 R.2.2.2.2.2.2.2.2.2.2.2.2.1 R.2.2.2.2.2.2.2.2.2.2.2.2.2.1 R.2.2.2.2.2.2.2.2.2.2.2.2.2.2.1 R.2.2.2.2.2.2.2.2.2.2.2.2.2.2.2) (E_v_readOrder ta (E_v_next ta a b c e ft).1 (E_v_next ta a b c e ft).2.1 (E_v_next ta a b c e ft).2.2.1 (E_v_next ta a b c e ft).2.2.2 fau 0 1 n1 n2 n3 n4 n5 ft h1 h2 h3 h4 fwd fwe h5 fac) := by
  rw [E_v_orders_l19.eq_def, if_pos rfl, Lt_b, if_pos h, Lt2_b, Lt2_b, Lt2_b]
  generalize E_v_readOrder ta (E_v_next ta a b c e ft).1 (E_v_next ta a b c e ft).2.1 (E_v_next ta a b c e ft).2.2.1 (E_v_next ta a b c e ft).2.2.2 fau 0 1 n1 n2 n3 n4 n5 ft h1 h2 h3 h4 fwd fwe h5 fac = R
  rfl
/-- ORDERS ARE READ ALIKE -/
theorem reads_ord {L : Nat} {fb ft fw fu fs fb2 fub fsb frf fh fc fo fa fp fq fod : Nat → Int32} {fwd fwe fac fe frs fnw : Nat → Int64} {lwc pa fl tf tt ti tu scl us thr sta nu fr to so fau bd ncl nc nl pi opn lw bro dn me sto ofm : Int32} {wo val sm : Int64} (hR : KRy L fb ft fwd fwe) (h0 : ∀ j, j < L → 0 ≤ (fb j).toInt) (hh : ∀ j, j < 4 → (fac j).toInt = kwh 1 j) (z0 : KO _) : KReo (E_v_orders_l19 sta nu (nI L) lw bro val sm dn me ofm ft fwd fwe fac fw fe frs fu fs fb2 fnw fub fsb frf) z0 (-1) (E_w_reads 0 lwc pa fl (nI L) tf tt ti tu fb scl us fh fc) (E_v_orders thr sta nu (nI L) fr to so wo fau bd ncl nc nl pi opn lw bro val sm dn me sto ofm ft fo fa fp fq fwd fwe fod fac fw fe frs fu fs fb2 fnw fub fsb frf) := by
  have hL := hR.1
  have zz : (0 : Int32).toInt = 0 := rfl
  obtain ⟨q, hQ⟩ := tk_start hL h0 hR.2.1 (fr2 := tf) (fi2 := ti) (nu2 := tu) (fr3 := fr) (so3 := so) (wo3 := wo)
  have e1 : E_w_reads 0 lwc pa fl (nI L) tf tt ti tu fb scl us fh fc = Lp (α := KL45) (E_w_reads_l45 0 (nI L) fb) (fun _ _ _ _ _ _ _ _ _ _ _ => ((0, 0, 0, 0, 0, 0, 0, 0, 0, fun _ => 0, fun _ => 0) : KW11)) (14 - 0) (nI 0) 0 (nI 0) 0 (nI 0) (E_w_step (nI L) tf 0 ti tu fb).1 (E_w_step (nI L) tf 0 ti tu fb).2.1 (E_w_step (nI L) tf 0 ti tu fb).2.2.1 (E_w_step (nI L) tf 0 ti tu fb).2.2.2 fh fc := by
    rw [E_w_reads.eq_def, Lt2_b, Lt2_b, Lt2_b]; rfl
  have eb : E_v_beginText 1 (nI L) fr to so wo fau bd 0 ncl nc nl ft = E_v_next (nI L) fr 0 so wo ft := by
    rw [E_v_beginText.eq_def, E_v_begin.eq_def]; rfl
  rw [e1, rd_1 _ (by omega), E_v_orders.eq_def, eb, Lt2_b, Lt2_b, Lt2_b]
  have lc := ord_clause hR hh (n := 0) (us := 0) (nl := 0) (nc := 0) (fau := -1) (pi := pi) (op := opn) (scl := 0) (fh := fh) (fc := fc) (fod := fod) (fo := fo) (fa := fa) (fp := fp) (fq := fq) hQ (Nat.zero_le _) (Nat.zero_le _) (by omega) (by omega) (fun i hi => absurd hi (Nat.not_lt_zero _))
  change KClo L 0 fb q (-1) _ (E_v_readOrder (nI L) (E_v_next (nI L) fr 0 so wo ft).1 (E_v_next (nI L) fr 0 so wo ft).2.1 (E_v_next (nI L) fr 0 so wo ft).2.2.1 (E_v_next (nI L) fr 0 so wo ft).2.2.2 (-1) 0 1 0 0 0 pi opn ft fo fa fp fq fwd fwe fod fac) at lc
  generalize E_w_clause (nI 0) 0 (nI 0) (nI L) (E_w_step (nI L) tf 0 ti tu fb).1 (E_w_step (nI L) tf 0 ti tu fb).2.1 (E_w_step (nI L) tf 0 ti tu fb).2.2.1 (E_w_step (nI L) tf 0 ti tu fb).2.2.2 fb 0 (nI 0) fh fc = r at lc ⊢
  generalize E_v_readOrder (nI L) (E_v_next (nI L) fr 0 so wo ft).1 (E_v_next (nI L) fr 0 so wo ft).2.1 (E_v_next (nI L) fr 0 so wo ft).2.2.1 (E_v_next (nI L) fr 0 so wo ft).2.2.2 (-1) 0 1 0 0 0 pi opn ft fo fa fp fq fwd fwe fod fac = X at lc ⊢
  generalize hB : E_v_orders_l19 sta nu (nI L) lw bro val sm dn me ofm ft fwd fwe fac fw fe frs fu fs fb2 fnw fub fsb frf = B
  have b1 := fun rc => @l19_bad sta nu (nI L) lw bro dn me ofm val sm ft fw fu fs fb2 fub fsb frf fwd fwe fac fe frs fnw rc z0
  have b2 := fun rc a b c e fau n1 n2 n3 n4 n5 h1 h2 h3 h4 h5 (_ : c = 0) => @l19_end sta nu (nI L) lw bro dn me ofm val sm ft fw fu fs fb2 fub fsb frf fwd fwe fac fe frs fnw rc z0 a b c e fau n1 n2 n3 n4 n5 h1 h2 h3 h4 h5
  have b3 := fun rc => @l19_stop sta nu (nI L) lw bro dn me ofm val sm ft fw fu fs fb2 fub fsb frf fwd fwe fac fe frs fnw rc z0
  have b4 := @l19_sep sta nu (nI L) lw bro dn me ofm val sm ft fw fu fs fb2 fub fsb frf fwd fwe fac fe frs fnw
  rw [hB] at b1 b2 b3 b4
  simp only [Lt2]
  rcases lc with ⟨n1, q', n2, n3, n4⟩ | ⟨p', c', m', us', nl', n2, fh', fc', fo2, fa2, fp2, fq2, fod', pi', op', x1, x2, x3, x4, x5, x6⟩
  · rw [if_pos n1, j125_0, n4, n3, Lp_s, b1]
    exact Or.inl ⟨rfl, q', _, _, _, _, _, _, _, _, _, _, _, _, _, _, n2, rfl⟩
  · subst x1
    subst x4
    have hp' := x3.1
    have frp := TkP.froms (tf := c'.1) (tt := c'.2.1) (ti := c'.2.2.1) (tu := c'.2.2.2) (fr := m'.1) (to := m'.2.1) (so := m'.2.2.1) (wo := m'.2.2.2) x3
    dsimp only
    rw [if_neg (show ¬ (1 : Int32) = 0 by decide)]
    exact aft_ord hR hh _ B z0 _ b1 b2 b3 b4 11 1 p' us' nl' n2 c' m' fh' fc' fod' fo2 fa2 fp2 fq2 (-1) pi' op' _ (by omega) (by omega) x3 x5.1 x5.2.1 x5.2.2 x6 (by rw [frp.2.1, nI_toInt (by omega), zz]; omega)
