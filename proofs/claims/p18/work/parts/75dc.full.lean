theorem tpar_0 {k : Nat} (h : k % 2 = 0) : tpar k = 0 := if_pos h
theorem tpar_1 {k : Nat} (h : ¬ k % 2 = 0) : tpar k = 1 := if_neg h
/-- a plain test is whole: its "not"s wait -/
theorem plain_fin {C : KC_} {fau : Int32} {d p us nl nc pi w k : Nat} {m : KM4} {fc fo fa fp fq : Nat → Int32} {p3 : Nat} {c3 : KT4} {m3 : KM4} {us3 nl3 n3 pi3 nX : Nat} {fc3 fo3 fa3 fp3 fq3 foX faX : Nat → Int32} (hp : p < p3) (hT : TkP C.1 C.2.2.1 p3 c3 m3) (hgo : KGo C fau 0 3 p m nc nl pi d fo fa fp fq 2 1 p3 m3 n3 nl3 pi3 d fo3 fa3 fp3 fq3) (h1 : pi + k ≤ pi3 ∧ pi3 ≤ p3) (h2 : ∀ j, j < pi → fp3 j = fp j ∧ fq3 j = fq j) (h3 : ∀ j, pi ≤ j → j < pi + k → fp3 j = 28) (h4 : ∀ j, pi + k ≤ j → j < pi3 → ∃ o : Nat, 20 ≤ o ∧ o ≤ 28 ∧ fp3 j = nI o) (h5 : KP 3 n3 pi3 fo3 fa3 nX (pi + k) foX faX fp3 fq3) (h6 : ∀ j, j < us → fc3 j = fc j) (h7 : ∀ j, j < nc → foX j = fo j ∧ faX j = fa j) (h8 : us ≤ us3 ∧ nc ≤ nX ∧ nl ≤ nl3 ∧ nl3 ≤ 50 ∧ us3 + 2 * (w + k) ≤ 2 * p3 ∧ nX + (w + k) ≤ p3 ∧ n3 ≤ p3) (h9 : SE C.2.2.2.1 KT_ 1 (nl3 - nl) fc3 us us3 foX faX nc nX) : KRead C KT_ 3 fau 0 2 1 d p m us nl nc pi w fc fo fa fp fq 20 28 (E_w_plain_j143 (tpar k) (nI nl3) c3.1 c3.2.1 c3.2.2.1 c3.2.2.2 (nI us3) fc3) := by
  have hL := hT.2.1
  have hpL := hT.1
  obtain ⟨fo', fa', k1, k2, k3⟩ := KP.nots (pi := pi) (fp := fp3) (fq := fq3) (by omega) k nX foX faX (by omega) (by omega) h3
  have se := h9.ext (fc' := fc3) (op' := fo') (ar' := fa') (fun _ _ _ => rfl) (fun j _ hj => k2 j hj)
  have ev := se.evens (k / 2) (fun j a b => k3 j a (by omega)) (by omega)
  have pend : ∀ j, pi ≤ j → j < pi3 → ∃ o : Nat, 20 ≤ o ∧ o ≤ 28 ∧ fp3 j = nI o := fun j a b => by
    by_cases e : j < pi + k
    · exact ⟨28, by omega, by omega, h3 j a e⟩
    · exact h4 j (by omega) b
  rw [E_w_plain_j143.eq_def]
  by_cases e : k % 2 = 0
  · rw [tpar_0 e, if_pos rfl, E_w_plain_j158.eq_def]
    rw [show nX + 2 * (k / 2) = nX + k by omega] at ev
    exact ⟨p3, c3, m3, us3, nl3, n3, pi3, nX + k, fc3, fo3, fa3, fp3, fq3, fo', fa', rfl, hp, hT, hgo, ⟨by omega, h1.2, h2, pend⟩, h5.trans k1, ⟨h6, fun j hj => ⟨(k2 j (by omega)).1.trans (h7 j hj).1, (k2 j (by omega)).2.trans (h7 j hj).2⟩⟩, ⟨by omega, by omega, by omega, by omega, by omega, by omega, by omega⟩, ev⟩
  · rw [tpar_1 e, if_neg (by decide), emit_at (by omega), Lt2_b, Lt2_b, E_w_plain_j158.eq_def]
    have ev2 := (ev.ext (fc' := upd (upd fc3 us3 11) (us3 + 1) 0) (op' := fo') (ar' := fa') (fun j _ hj => by rw [upd_n (by omega), upd_n (by omega)]) (fun _ _ _ => ⟨rfl, rfl⟩)).not1 (by rw [upd_n (by omega), upd_s]) (k3 _ (by omega) (by omega)) (by omega) (by omega)
    rw [show nX + 2 * (k / 2) + 1 = nX + k by omega] at ev2
    exact ⟨p3, c3, m3, us3 + 2, nl3, n3, pi3, nX + k, _, fo3, fa3, fp3, fq3, fo', fa', rfl, hp, hT, hgo, ⟨by omega, h1.2, h2, pend⟩, h5.trans k1, ⟨fun j hj => by show upd (upd fc3 us3 11) (us3 + 1) 0 j = fc j; rw [upd_n (by omega), upd_n (by omega)]; exact h6 j hj, fun j hj => ⟨(k2 j (by omega)).1.trans (h7 j hj).1, (k2 j (by omega)).2.trans (h7 j hj).2⟩⟩, ⟨by omega, by omega, by omega, by omega, by omega, by omega, by omega⟩, ev2⟩
theorem op8_p {lw pa tf tt ti tu ln : Int32} {fb : Nat → Int32} {o : Nat} (h1 : 25 ≤ o) (h2 : o ≤ 27) (h : ti = kcc o) : E_w_operator 8 8 lw pa ln tf tt ti tu fb = (nI (o - 17), E_w_step ln tf tt ti tu fb) := by
  have e : ∀ o, 25 ≤ o → o ≤ 27 → ∀ i, i < 3 → kcc o = sf 8 i → i = o - 25 := by
    intro o h1 h2
    rcases (show o = 25 ∨ o = 26 ∨ o = 27 by omega) with rfl | rfl | rfl <;> decide
  have e2 : ∀ o, 25 ≤ o → o ≤ 27 → kcc o = sf 8 (o - 25) := by
    intro o h1 h2
    rcases (show o = 25 ∨ o = 26 ∨ o = 27 by omega) with rfl | rfl | rfl <;> decide
  rw [show (8 : Int32) = nI 8 from rfl]
  rcases op_at (k := 8) (n := 3) (x0 := 8) (lw := lw) (pa := pa) (tf := tf) (tt := tt) (ti := ti) (tu := tu) (ln := ln) (fb := fb) (by omega) rfl (by omega) with ⟨i, i1, i2, i3⟩ | ⟨i1, _⟩
  · have := e o h1 h2 i i1 (h.symm.trans i2)
    rw [i3, show 8 + i = o - 17 by omega]
  · exact absurd (h.trans (e2 o h1 h2)) (i1 (o - 25) (by omega))
theorem op8_n {lw pa tf tt ti tu ln : Int32} {fb : Nat → Int32} (h : ∀ u, 25 ≤ u → u ≤ 27 → ti ≠ kcc u) : E_w_operator 8 8 lw pa ln tf tt ti tu fb = (-1, tf, tt, ti, tu) := by
  rw [show (8 : Int32) = nI 8 from rfl]
  rcases op_at (k := 8) (n := 3) (x0 := 8) (lw := lw) (pa := pa) (tf := tf) (tt := tt) (ti := ti) (tu := tu) (ln := ln) (fb := fb) (by omega) rfl (by omega) with ⟨i, i1, i2, _⟩ | ⟨_, i2⟩
  · have e : ∀ i, i < 3 → sf 8 i = kcc (25 + i) := by decide
    exact absurd (i2.trans (e i i1)) (h (25 + i) (by omega) (by omega))
  · exact i2
theorem tk_cmp {C : KC_} {p : Nat} {c : KT4} {m : KM4} (h : TkP C.1 C.2.2.1 p c m) : (∃ o, 25 ≤ o ∧ o ≤ 27 ∧ c.2.2.1 = kcc o ∧ p < C.2.2.1 ∧ ∀ u, 25 ≤ u → u ≤ 27 → E_v_isSign (kcc u) m.2.2.1 m.2.2.2 = if u = o then 1 else 0) ∨ ((∀ u, 25 ≤ u → u ≤ 27 → c.2.2.1 ≠ kcc u) ∧ ∀ u, 25 ≤ u → u ≤ 27 → E_v_isSign (kcc u) m.2.2.1 m.2.2.2 = 0) := by
  have inj : ∀ u, 25 ≤ u → u ≤ 27 → ∀ v, 25 ≤ v → v ≤ 27 → kcc u = kcc v → u = v := by
    intro u h1 h2 v h3 h4
    rcases (show u = 25 ∨ u = 26 ∨ u = 27 by omega) with rfl | rfl | rfl <;> rcases (show v = 25 ∨ v = 26 ∨ v = 27 by omega) with rfl | rfl | rfl <;> decide
  have sg := fun u (h1 : 25 ≤ u) (h2 : u ≤ 27) => tk_sign (c := kcc u) (tf := c.1) (tt := c.2.1) (ti := c.2.2.1) (tu := c.2.2.2) (fr := m.1) (to := m.2.1) (so := m.2.2.1) (wo := m.2.2.2) (kcc_ok u h1 h2) h
  by_cases q : ∃ o, 25 ≤ o ∧ o ≤ 27 ∧ c.2.2.1 = kcc o
  · obtain ⟨o, o1, o2, o3⟩ := q
    have pl : p < C.2.2.1 := by
      rcases sg o o1 o2 with ⟨_, _, s3⟩ | ⟨s1, _⟩
      · exact s3
      · exact absurd o3 s1
    refine Or.inl ⟨o, o1, o2, o3, pl, fun u h1 h2 => ?_⟩
    rcases sg u h1 h2 with ⟨s1, s2, _⟩ | ⟨s1, s2⟩
    · rw [if_pos (inj u h1 h2 o o1 o2 (s1.symm.trans o3))]; exact s2
    · rw [if_neg (fun e => s1 (by rw [e]; exact o3))]; exact s2
  · refine Or.inr ⟨fun u h1 h2 e => q ⟨u, h1, h2, e⟩, fun u h1 h2 => ?_⟩
    rcases sg u h1 h2 with ⟨s1, _, _⟩ | ⟨_, s2⟩
    · exact absurd ⟨u, h1, h2, s1⟩ q
    · exact s2
/-- behind a sum no operator of sums stands -/
theorem nsg_at {C : KC_} {p : Nat} {c : KT4} {m : KM4} (h : TkP C.1 C.2.2.1 p c m) (hn : ¬ KSg c.2.2.1) : ∀ u, 20 ≤ u → u ≤ 24 → E_v_isSign (kch u) m.2.2.1 m.2.2.2 = 0 := by
  rcases tk_op h with ⟨o, o1, o2, o3, _, _⟩ | ⟨_, o2⟩
  · refine absurd ?_ hn
    unfold KSg
    rcases (show o = 20 ∨ o = 21 ∨ o = 22 ∨ o = 23 ∨ o = 24 by omega) with rfl | rfl | rfl | rfl | rfl
    · exact Or.inr (Or.inr (Or.inr (Or.inl o3)))
    · exact Or.inr (Or.inr (Or.inr (Or.inr o3)))
    · exact Or.inl o3
    · exact Or.inr (Or.inl o3)
    · exact Or.inr (Or.inr (Or.inl o3))
  · exact o2
/-- A PLAIN TEST IS READ ALIKE -/
theorem sim_plain {C : KC_} (hC : KCok C) {Es Et : KWf} {d : Nat} (hS : SimSum C Es d) (hTt : d < 8 → SimTest C Et (d + 1)) : SimPlain C (fun d lw pa ln tf tt ti tu fb us fc => E_w_plain Es Et d lw pa ln tf tt ti tu fb us fc) d := by
  intro fau p c m us nl nc pi w fc fo fa fp fq hT hus hnc hpi hnl hd hin htop
  show KNot C fau 0 d p m nl nc pi fo fa fp fq (E_w_plain Es Et (nI d) (klw C.2.2.2.1) (nI nl) (nI C.2.2.1) c.1 c.2.1 c.2.2.1 c.2.2.2 C.1 (nI us) fc) ∨ KRead C KT_ 3 fau 0 2 1 d p m us nl nc pi w fc fo fa fp fq 20 28 (E_w_plain Es Et (nI d) (klw C.2.2.2.1) (nI nl) (nI C.2.2.1) c.1 c.2.1 c.2.2.1 c.2.2.2 C.1 (nI us) fc)
  obtain ⟨k, p1, c1, m1, fp1, fq1, r1, r2, r3, r4, r5, r6, r7⟩ := plain_nots (Es := Es) (Et := Et) (d := d) (us := us) (nl := nl) (nc := nc) (fau := fau) (fc := fc) (fo := fo) (fa := fa) hC (fun _ _ _ _ _ _ => ((0, 0, 0, 0, 0, 0, 0, fun _ => 0) : KW8)) 401 p c m pi 0 0 fp fq (by omega) (by omega) hpi hT
  have e0 : E_w_plain Es Et (nI d) (klw C.2.2.2.1) (nI nl) (nI C.2.2.1) c.1 c.2.1 c.2.2.1 c.2.2.2 C.1 (nI us) fc = E_w_plain_j36 Es Et (nI d) (klw C.2.2.2.1) (nI nl) (nI C.2.2.1) C.1 (nI us) fc (tpar k) c1.1 c1.2.1 c1.2.2.1 c1.2.2.2 := by
    rw [Nat.zero_add] at r1
    rw [E_w_plain.eq_def]; exact r1
  rw [e0]
  have hL := r3.2.1
  have hpL := r3.1
  have fr := TkP.froms (tf := c1.1) (tt := c1.2.1) (ti := c1.2.2.1) (tu := c1.2.2.2) (fr := m1.1) (to := m1.2.1) (so := m1.2.2.1) (wo := m1.2.2.2) r3
  have in1 : KIn C fp1 (pi + k) := hin.up (by omega) (fun j hj => (r5 j hj).1) (fun j a b => ⟨28, by omega, r6 j a b⟩)
  have top1 : KTop2 fp1 (pi + k) := by
    by_cases k0 : k = 0
    · rcases htop with h | ⟨o, o1, o2, o3⟩
      · exact Or.inl (by omega)
      · by_cases z : pi = 0
        · exact Or.inl (by omega)
        · exact Or.inr ⟨o, o1, o2, by rw [show pi + k - 1 = pi - 1 by omega, (r5 (pi - 1) (by omega)).1]; exact o3⟩
    · exact Or.inr ⟨28, by omega, by omega, r6 (pi + k - 1) (by omega) (by omega)⟩
  obtain ⟨q, q1, q2, hQ⟩ := tk_next hC r3
  have hqL := hQ.1
  rw [E_w_plain_j36.eq_def]
  rcases tk_sign (c := 40) (tf := c1.1) (tt := c1.2.1) (ti := c1.2.2.1) (tu := c1.2.2.2) (fr := m1.1) (to := m1.2.1) (so := m1.2.2.1) (wo := m1.2.2.2) (by decide) r3 with ⟨s1, s2, s3⟩ | ⟨s1, s2⟩
  · -- "("
    rw [if_pos s1]
    by_cases cd : d < 8
    case neg =>
      rw [if_neg (kn_nltl (j := 8) rfl (by omega) (by omega))]
      obtain ⟨a, b, e, g, h1, h2, h3, h4, hr⟩ := rpl_open_n (go := C.2.2.2.2.2.2.2.1) (ga := C.2.2.2.2.2.2.2.2) (ft := C.2.1) (fo := fo) (fa := fa) (fp := fp1) (fq := fq1) (wd := C.2.2.2.2.1) (we := C.2.2.2.2.2.1) (ta := nI C.2.2.1) (fr := m1.1) (to := m1.2.1) (fau := fau) (od := kod C.2.2.2.1) (nc := nI nc) (nl := nI nl) (pi := nI (pi + k)) r7 s2 (show 8 ≤ d by omega) (by omega)
      exact Or.inl ⟨rfl, p1, fr.1, r4.bad (KBad.one (fun F => ⟨_, _, _, _, _, _, _, _, _, _, _, _, _, by rw [kL_plain hr, fr.2.1]⟩))⟩
    rw [if_pos (kn_ltl (j := 8) rfl (by omega) cd)]
    have qp : p1 < q := q2 s3
    have ho := rpl_open (go := C.2.2.2.2.2.2.2.1) (ga := C.2.2.2.2.2.2.2.2) (ft := C.2.1) (fo := fo) (fa := fa) (fp := fp1) (fq := fq1) (wd := C.2.2.2.2.1) (we := C.2.2.2.2.2.1) (ta := nI C.2.2.1) (fr := m1.1) (to := m1.2.1) (fau := fau) (od := kod C.2.2.2.1) (nc := nI nc) (nl := nI nl) r7 s2 (show pi + k < 1000 by omega) cd
    have g1 : KGo C fau 0 3 p1 m1 nc nl (pi + k) d fo fa fp1 fq1 0 3 q (E_v_next (nI C.2.2.1) m1.1 m1.2.1 m1.2.2.1 m1.2.2.2 C.2.1) nc nl (pi + k + 1) (d + 1) fo fa (upd fp1 (pi + k) (nI 31)) (upd fq1 (pi + k) 0) :=
      KGo.one (mz_lt qp (by omega) (by omega)) (fun F => by rw [kL_plain ho])
    have ss := hTt cd fau q _ _ us nl nc (pi + k + 1) (w + k) fc fo fa (upd fp1 (pi + k) (nI 31)) (upd fq1 (pi + k) 0) hQ (by omega) (by omega) (by omega) hnl (by omega) (Or.inr ⟨pi + k, by omega, upd_s, fun j a b => by omega⟩) (Or.inr (by rw [show pi + k + 1 - 1 = pi + k by omega, upd_s]))
    simp only [Lt2, Lt]
    rw [kn_p1 (a := d) (by omega)]
    generalize hR : Et (nI (d + 1)) (klw C.2.2.2.1) (nI nl) (nI C.2.2.1) (E_w_step (nI C.2.2.1) c1.1 c1.2.1 c1.2.2.1 c1.2.2.2 C.1).1 (E_w_step (nI C.2.2.1) c1.1 c1.2.1 c1.2.2.1 c1.2.2.2 C.1).2.1 (E_w_step (nI C.2.2.1) c1.1 c1.2.1 c1.2.2.1 c1.2.2.2 C.1).2.2.1 (E_w_step (nI C.2.2.1) c1.1 c1.2.1 c1.2.2.1 c1.2.2.2 C.1).2.2.2 C.1 (nI us) fc = R at ss ⊢
    rcases ss with ⟨n1, q', n2, n3⟩ | ⟨p', c', m', us', nl', k1, pi1, k2, fc', fo1, fa1, fp2, fq2, fo2, fa2, e1, e2, e3, e4, e5, e6, e7, e8, e9, w1, w2⟩
    · rw [if_pos n1]
      exact Or.inl ⟨rfl, q', n2, (r4.trans g1).bad n3⟩
    · subst e1
      rw [if_neg (show ¬ (1 : Int32) = 0 by decide)]
      have fr' := TkP.froms (tf := c'.1) (tt := c'.2.1) (ti := c'.2.2.1) (tu := c'.2.2.2) (fr := m'.1) (to := m'.2.1) (so := m'.2.2.1) (wo := m'.2.2.2) e3
      have hL' := e3.1
      have f31 : fp2 (pi + k) = nI 31 := by rw [(e5.2.2.1 (pi + k) (by omega)).1, upd_s]
      have inn : E_v_inner (nI pi1) fp2 = 31 := inner_top (b := 31) (q := pi + k) (by have := e5.2.1; omega) (by have := e5.1; omega) ⟨by omega, by omega⟩ f31 (fun j h1 h2 => by
        obtain ⟨o, o1, o2, o3⟩ := e5.2.2.2 j (by omega) h2
        exact ⟨o, by omega, o3⟩)
      obtain ⟨r, t1, t2, hR2⟩ := tk_next hC e3
      rcases tk_sign (c := 41) (tf := c'.1) (tt := c'.2.1) (ti := c'.2.2.1) (tu := c'.2.2.2) (fr := m'.1) (to := m'.2.1) (so := m'.2.2.1) (wo := m'.2.2.2) (by decide) e3 with ⟨u1, u2, u3⟩ | ⟨u1, u2⟩
      · rw [if_pos u1]
        have rp := t2 u3
        have hrL := hR2.1
        have kk : kst 1 k1 pi1 fo1 fa1 fp2 fq2 = (nI k2, nI (pi + k + 1), fo2, fa2) := by
          rw [e6 1 (Nat.le_refl _)]
          exact kst_stop (o := 31) (by omega) (by omega) (by omega) f31 (by decide)
        have bt := bt_close (go := C.2.2.2.2.2.2.2.1) (ga := C.2.2.2.2.2.2.2.2) (ft := C.2.1) (ta := nI C.2.2.1) (fr := m'.1) (to := m'.2.1) (fau := fau) (nl := nI nl') w1 w2 inn u2 (show pi1 < 1000 by have := e5.2.1; omega) (show pi + k < 1000 by omega) (show d < 1000 by omega) kk
        have g2 : KGo C fau 2 1 p' m' k1 nl' pi1 (d + 1) fo1 fa1 fp2 fq2 2 1 r (E_v_next (nI C.2.2.1) m'.1 m'.2.1 m'.2.2.1 m'.2.2.2 C.2.1) k2 nl' (pi + k) d fo2 fa2 fp2 fq2 :=
          KGo.one (mz_lt rp (by omega) (by omega)) (fun F => by rw [kL_test bt])
        refine Or.inr (plain_fin (p3 := r) (k := k) (show p < r by omega) hR2 (((r4.trans g1).trans e4).trans g2) ⟨Nat.le_refl _, by omega⟩ (fun j hj => ?_) (fun j a b => ?_) (fun j a b => by omega) KP.rfl e7.1 e7.2 ⟨e8.1, e8.2.1, e8.2.2.1, e8.2.2.2.1, by omega, by omega, by omega⟩ e9)
        · have := e5.2.2.1 j (by omega)
          rw [upd_n (by omega), upd_n (by omega)] at this
          exact ⟨this.1.trans (r5 j hj).1, this.2.trans (r5 j hj).2⟩
        · have := (e5.2.2.1 j (by omega)).1
          rw [upd_n (by omega)] at this
          exact this.trans (r6 j a b)
      · rw [if_neg u1]
        obtain ⟨a, b, e, h1, h2, h3, h4, hb⟩ := bt_close_n (go := C.2.2.2.2.2.2.2.1) (ga := C.2.2.2.2.2.2.2.2) (ft := C.2.1) (fo := fo1) (fa := fa1) (fq := fq2) (ta := nI C.2.2.1) (fr := m'.1) (to := m'.2.1) (fau := fau) (nc := nI k1) (nl := nI nl') (opn := nI (d + 1)) w1 w2 inn u2
        exact Or.inl ⟨rfl, p', fr'.1, ((r4.trans g1).trans e4).bad (KBad.one (fun F => ⟨_, _, _, _, _, _, _, _, _, _, _, _, _, by rw [kL_test hb, fr'.2.1]⟩))⟩
  · -- a comparison
    rw [if_neg s1]
    have swap : ∀ F, kL C (F + 1) 0 m1.1 m1.2.1 m1.2.2.1 m1.2.2.2 fau 0 (nI nc) (nI nl) (nI (pi + k)) (nI d) fo fa fp1 fq1 = kL C (F + 1) 1 m1.1 m1.2.1 m1.2.2.1 m1.2.2.2 fau 0 (nI nc) (nI nl) (nI (pi + k)) (nI d) fo fa fp1 fq1 := fun F => by
      rw [kL_plain (rpl_part r7 s2), kL_part rfl]
    have sBad : ∀ {x : Nat}, KBad C 1 3 p1 m1 fau nc nl (pi + k) d fo fa fp1 fq1 x → KBad C 0 3 p1 m1 fau nc nl (pi + k) d fo fa fp1 fq1 x := fun hb F hF => by
      have := hb F hF
      have e := swap (F - 1)
      rw [show F - 1 + 1 = F by omega] at e
      rw [e]; exact this
    have sGo : ∀ {tn : Int32} {t p' : Nat} {m' : KM4} {n nl' pi' : Nat} {f1 f2 f3 f4 : Nat → Int32}, KGo C fau 1 3 p1 m1 nc nl (pi + k) d fo fa fp1 fq1 tn t p' m' n nl' pi' d f1 f2 f3 f4 → KGo C fau 0 3 p1 m1 nc nl (pi + k) d fo fa fp1 fq1 tn t p' m' n nl' pi' d f1 f2 f3 f4 := fun hg F hF => by
      have := hg F hF
      have e := swap (F - 1)
      rw [show F - 1 + 1 = F by omega] at e
      rw [e]; exact this
    have topS : KTop fp1 (pi + k) := by
      rcases top1 with h | ⟨o, o1, o2, o3⟩
      · exact Or.inl h
      · exact Or.inr ⟨o, by omega, by omega, o3⟩
    have ss := hS fau p1 c1 m1 us nl nc (pi + k) (w + k) fc fo fa fp1 fq1 r3 (by omega) (by omega) (by omega) hnl hd topS
    simp only [Lt2]
    generalize hR : Es (nI d) (klw C.2.2.2.1) (nI nl) (nI C.2.2.1) c1.1 c1.2.1 c1.2.2.1 c1.2.2.2 C.1 (nI us) fc = R at ss ⊢
    rcases ss with ⟨n1, q', n2, n3⟩ | ⟨⟨p', c', m', us', nl', k1, pi1, k2, fc', fo1, fa1, fp2, fq2, fo2, fa2, e1, e2, e3, e4, e5, e6, e7, e8, e9⟩, nsg⟩
    · rw [if_pos n1]
      exact Or.inl ⟨rfl, q', n2, r4.bad (sBad n3)⟩
    subst e1
    rw [if_neg (show ¬ (1 : Int32) = 0 by decide)]
    have nsg : ¬ KSg c'.2.2.1 := nsg
    have h5 := nsg_at e3 nsg
    have fr' := TkP.froms (tf := c'.1) (tt := c'.2.1) (ti := c'.2.2.1) (tu := c'.2.2.2) (fr := m'.1) (to := m'.2.1) (so := m'.2.2.1) (wo := m'.2.2.2) e3
    have hL' := e3.1
    have in2 : KIn C fp2 pi1 := in1.up e5.1 (fun j hj => (e5.2.2.1 j hj).1) (fun j a b => by
      obtain ⟨o, o1, o2, o3⟩ := e5.2.2.2 j a b
      exact ⟨o, by omega, o3⟩)
    have inn2 := in2.inner (by have := e5.2.1; omega)
    have isc0 : E_v_isCompared (nI pi1) fp2 = 0 := by
      have q := isc_at (fp := fp2) (pi := pi1) (q := pi + k) (by have := e5.2.1; omega) e5.1 (fun j a b => e5.2.2.2 j a b)
      rcases top1 with h | ⟨o, o1, o2, o3⟩
      · exact q.1 h
      · by_cases z : pi + k = 0
        · exact q.1 z
        · have := q.2 (pi + k - 1) o (by omega) (by omega) (by rw [(e5.2.2.1 (pi + k - 1) (by omega)).1]; exact o3) (by omega)
          rw [this, if_neg (by omega)]
    obtain ⟨r, t1, t2, hR2⟩ := tk_next hC e3
    have hrL := hR2.1
    rcases tk_cmp e3 with ⟨o, o1, o2, o3, o4, o5⟩ | ⟨o1, o2⟩
    case inr =>
      rw [op8_n o1]
      simp only []
      rw [if_pos (by trivial)]
      obtain ⟨a, b, e, h1, h2, h3, h4, hb⟩ := bs_cmp_n (go := C.2.2.2.2.2.2.2.1) (ga := C.2.2.2.2.2.2.2.2) (ft := C.2.1) (fo := fo1) (fa := fa1) (fq := fq2) (ta := nI C.2.2.1) (fr := m'.1) (to := m'.2.1) (fau := fau) (nc := nI k1) (nl := nI nl') (opn := nI d) h5 o2 inn2 isc0
      exact Or.inl ⟨rfl, p', fr'.1, (r4.trans (sGo e4)).bad (KBad.one (fun F => ⟨_, _, _, _, _, _, _, _, _, _, _, _, _, by rw [kL_sum hb, fr'.2.1]⟩))⟩
    have rp := t2 o4
    rw [op8_p o1 o2 o3]
    simp only []
    rw [if_neg (fun h => by have := congrArg Int32.toInt h; rw [nI_toInt (by omega)] at this; have z1 : (-1 : Int32).toInt = -1 := rfl; omega)]
    have kk : kst 5 k1 pi1 fo1 fa1 fp2 fq2 = (nI k2, nI (pi + k), fo2, fa2) := by
      rw [e6 5 (Nat.le_refl _)]
      rcases top1 with h | ⟨o', p1', p2', p3'⟩
      · rw [h]; exact kst_0
      · by_cases z : pi + k = 0
        · rw [z]; exact kst_0
        · have f0 : fp2 (pi + k - 1) = nI o' := by rw [(e5.2.2.1 (pi + k - 1) (by omega)).1]; exact p3'
          rw [show pi + k = (pi + k - 1) + 1 by omega]
          exact kst_stop (o := o') (by omega) (by omega) (by omega) f0 (by unfold kbd; (repeat' split) <;> omega)
    have bs := bs_cmp (go := C.2.2.2.2.2.2.2.1) (ga := C.2.2.2.2.2.2.2.2) (ft := C.2.1) (ta := nI C.2.2.1) (fr := m'.1) (to := m'.2.1) (fau := fau) (nl := nI nl') (opn := nI d) ⟨o1, o2⟩ h5 o5 inn2 isc0 (show pi1 < 1000 by have := e5.2.1; omega) (show pi + k < 1000 by omega) kk
    have g2 : KGo C fau 3 2 p' m' k1 nl' pi1 d fo1 fa1 fp2 fq2 1 3 r (E_v_next (nI C.2.2.1) m'.1 m'.2.1 m'.2.2.1 m'.2.2.2 C.2.1) k2 nl' (pi + k + 1) d fo2 fa2 (upd fp2 (pi + k) (nI o)) (upd fq2 (pi + k) 0) :=
      KGo.one (mz_lt rp (by omega) (by omega)) (fun F => by rw [kL_sum bs])
    have s2' := hS fau r _ _ us' nl' k2 (pi + k + 1) (w + k + 1) fc' fo2 fa2 (upd fp2 (pi + k) (nI o)) (upd fq2 (pi + k) 0) hR2 (by omega) (by omega) (by omega) e8.2.2.2.1 hd (Or.inr ⟨o, by omega, by omega, by rw [show pi + k + 1 - 1 = pi + k by omega, upd_s]⟩)
    generalize hR3 : Es (nI d) (klw C.2.2.2.1) (nI nl') (nI C.2.2.1) (E_w_step (nI C.2.2.1) c'.1 c'.2.1 c'.2.2.1 c'.2.2.2 C.1).1 (E_w_step (nI C.2.2.1) c'.1 c'.2.1 c'.2.2.1 c'.2.2.2 C.1).2.1 (E_w_step (nI C.2.2.1) c'.1 c'.2.1 c'.2.2.1 c'.2.2.2 C.1).2.2.1 (E_w_step (nI C.2.2.1) c'.1 c'.2.1 c'.2.2.1 c'.2.2.2 C.1).2.2.2 C.1 (nI us') fc' = R3 at s2' ⊢
    have go2 := (r4.trans (sGo e4)).trans g2
    rcases s2' with ⟨n1, q', n2, n3⟩ | ⟨⟨p4, c4, m4, us4, nl4, k4, pi4, k5, fc4, fo4, fa4, fp4, fq4, fo5, fa5, a1, a2, a3, a4, a5, a6, a7, a8, a9⟩, nsg4⟩
    · rw [if_pos n1]
      exact Or.inl ⟨rfl, q', n2, go2.bad n3⟩
    subst a1
    rw [if_neg (show ¬ (1 : Int32) = 0 by decide)]
    have nsg4 : ¬ KSg c4.2.2.1 := nsg4
    have hL4 := a3.1
    have fcmp : fp4 (pi + k) = nI o := by rw [(a5.2.2.1 (pi + k) (by omega)).1, upd_s]
    have in4 : KIn C fp4 pi4 := in1.up (by have := a5.1; omega) (fun j hj => by rw [(a5.2.2.1 j (by omega)).1, upd_n (by omega)]; exact (e5.2.2.1 j hj).1) (fun j a b => by
      by_cases z : j = pi + k
      · exact ⟨o, by omega, by rw [z]; exact fcmp⟩
      · obtain ⟨o', p1', p2', p3'⟩ := a5.2.2.2 j (by omega) b
        exact ⟨o', by omega, p3'⟩)
    have isc1 : E_v_isCompared (nI pi4) fp4 = 1 := by
      have q := isc_at (fp := fp4) (pi := pi4) (q := pi + k + 1) (by have := a5.2.1; omega) a5.1 (fun j a b => a5.2.2.2 j a b)
      rw [q.2 (pi + k) o rfl (by omega) fcmp (by omega), if_pos ⟨o1, o2⟩]
    have bt := bs_told (go := C.2.2.2.2.2.2.2.1) (ga := C.2.2.2.2.2.2.2.2) (ft := C.2.1) (fo := fo4) (fa := fa4) (fq := fq4) (ta := nI C.2.2.1) (fr := m4.1) (to := m4.2.1) (fau := fau) (nc := nI k4) (nl := nI nl4) (opn := nI d) (nsg_at a3 nsg4) (in4.inner (by have := a5.2.1; omega)) isc1
    have g3 : KGo C fau 3 2 p4 m4 k4 nl4 pi4 d fo4 fa4 fp4 fq4 2 1 p4 m4 k4 nl4 pi4 d fo4 fa4 fp4 fq4 :=
      KGo.one (by unfold mz; omega) (fun F => by rw [kL_sum bt])
    rw [emit_at (by omega)]
    simp only []
    have se2 : SE C.2.2.2.1 KA_ 2 (nl4 - nl) fc4 us us4 fo5 fa5 nc k5 := by
      have := (e9.ext (fc' := fc4) (op' := fo5) (ar' := fa5) (fun j _ hj => a7.1 j hj) (fun j _ hj => a7.2 j hj)).app a9 (Nat.le_refl 1)
      rw [show nl' - nl + (nl4 - nl') = nl4 - nl by omega] at this
      exact this
    have se3 : SE C.2.2.2.1 KT_ 1 (nl4 - nl) (upd (upd fc4 us4 (nI (o - 17))) (us4 + 1) 0) us (us4 + 2) (upd fo5 k5 (nI o)) (upd fa5 k5 0) nc (k5 + 1) := by
      refine SE.bin (P := KA_) (o := o - 17) (k := 0) (se2.ext (fun j _ hj => by rw [upd_n (by omega), upd_n (by omega)]) (fun j _ hj => ⟨upd_n (by omega), upd_n (by omega)⟩)) ⟨by omega, by omega⟩ (by rw [upd_n (by omega), upd_s]) (by rw [upd_s, show o - 17 + 17 = o by omega]) (by omega) (by omega) (fun X Y v hv => ?_)
      obtain ⟨v', h1, h2⟩ := kz_bin_t (o := o - 17) (x := X) (y := Y) (by omega)
      rw [h1] at hv
      rw [← Option.some.inj hv]; exact h2
    have kp : KP 3 k4 pi4 fo4 fa4 (k5 + 1) (pi + k) (upd fo5 k5 (nI o)) (upd fa5 k5 0) fp4 fq4 :=
      (a6.low (by omega)).trans (KP.emit (by omega) (by omega) (by omega) fcmp (by rcases (show o = 25 ∨ o = 26 ∨ o = 27 by omega) with rfl | rfl | rfl <;> decide))
    refine Or.inr (plain_fin (p3 := p4) (k := k) (show p < p4 by omega) a3 ((go2.trans a4).trans g3) ⟨by have := a5.1; omega, a5.2.1⟩ (fun j hj => ?_) (fun j a b => ?_) (fun j a b => ?_) kp (fun j hj => ?_) (fun j hj => ?_) ⟨by omega, by omega, by omega, a8.2.2.2.1, by omega, by omega, by omega⟩ se3)
    · have z1 := a5.2.2.1 j (by omega)
      rw [upd_n (by omega), upd_n (by omega)] at z1
      have z2 := e5.2.2.1 j (by omega)
      exact ⟨z1.1.trans (z2.1.trans (r5 j hj).1), z1.2.trans (z2.2.trans (r5 j hj).2)⟩
    · have z1 := (a5.2.2.1 j (by omega)).1
      rw [upd_n (by omega)] at z1
      exact z1.trans ((e5.2.2.1 j (by omega)).1.trans (r6 j a b))
    · by_cases z : j = pi + k
      · exact ⟨o, by omega, by omega, by rw [z]; exact fcmp⟩
      · obtain ⟨o', p1', p2', p3'⟩ := a5.2.2.2 j (by omega) b
        exact ⟨o', by omega, by omega, p3'⟩
    · rw [upd_n (by omega), upd_n (by omega), a7.1 j (by omega)]; exact e7.1 j hj
    · rw [upd_n (by omega), upd_n (by omega)]
      exact ⟨(a7.2 j (by omega)).1.trans (e7.2 j hj).1, (a7.2 j (by omega)).2.trans (e7.2 j hj).2⟩
