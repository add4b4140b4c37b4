/-! a plain test: "not"s, brackets or a comparison -/
theorem pas_p {k : Nat} {lw pa ln tf tt ti tu : Int32} {fb : Nat → Int32} (h : E_w_find k ln tf tt ti tu fb = 0) : E_w_passed k lw pa ln tf tt ti tu fb = (1, E_w_step ln tf tt ti tu fb) := by
  rw [E_w_passed.eq_def, Lt_b, if_pos h, Lt2_b, Lt2_b, Lt2_b]
theorem pas_n {k : Nat} {lw pa ln tf tt ti tu : Int32} {fb : Nat → Int32} (h : E_w_find k ln tf tt ti tu fb ≠ 0) : E_w_passed k lw pa ln tf tt ti tu fb = (0, tf, tt, ti, tu) := by
  rw [E_w_passed.eq_def, Lt_b, if_neg h]
theorem rpl_not {go ga ft fo fa fp fq : Nat → Int32} {wd we : Nat → Int64} {ta fr to so fau od nc nl opn : Int32} {wo : Int64} {pi : Nat} (hw : E_v_isWord 14836 so wo = 1) (hp : pi < 1000) : E_v_readPlain go ga ta fr to so wo fau 0 od nc nl (nI pi) opn ft fo fa fp fq wd we = (0, (E_v_next ta fr to so wo ft).1, (E_v_next ta fr to so wo ft).2.1, (E_v_next ta fr to so wo ft).2.2.1, (E_v_next ta fr to so wo ft).2.2.2, fau, 0, nc, nl, nI (pi + 1), opn, fo, fa, upd fp pi 28, upd fq pi 0) := by
  rw [E_v_readPlain.eq_def, Lt_b, if_pos hw]
  simp only [Lt2, Lt, E_v_push]
  rw [kn_cl (a := pi) (by omega), kn_p1 (a := pi) (by omega)]
theorem rpl_open {go ga ft fo fa fp fq : Nat → Int32} {wd we : Nat → Int64} {ta fr to so fau od nc nl : Int32} {wo : Int64} {pi d : Nat} (hw : E_v_isWord 14836 so wo = 0) (hs : E_v_isSign 40 so wo = 1) (hp : pi < 1000) (hd : d < 8) : E_v_readPlain go ga ta fr to so wo fau 0 od nc nl (nI pi) (nI d) ft fo fa fp fq wd we = (0, (E_v_next ta fr to so wo ft).1, (E_v_next ta fr to so wo ft).2.1, (E_v_next ta fr to so wo ft).2.2.1, (E_v_next ta fr to so wo ft).2.2.2, fau, 0, nc, nl, nI (pi + 1), nI (d + 1), fo, fa, upd fp pi (nI 31), upd fq pi 0) := by
  rw [E_v_readPlain.eq_def, Lt_b, if_neg (by rw [hw]; decide), Lt_b, if_pos hs, open_p hp (by rw [nI_toInt (by omega)]; omega) (by rw [nI_toInt (by omega)]; omega)]
  simp only [Lt2]
  rw [kn_p1 (a := d) (by omega)]
  rfl
theorem rpl_open_n {go ga ft fo fa fp fq : Nat → Int32} {wd we : Nat → Int64} {ta fr to so fau od nc nl pi : Int32} {wo : Int64} {d : Nat} (hw : E_v_isWord 14836 so wo = 0) (hs : E_v_isSign 40 so wo = 1) (hd : 8 ≤ d) (hd2 : d < 1000) : ∃ a b c e h1 h2 h3 h4, E_v_readPlain go ga ta fr to so wo fau 0 od nc nl pi (nI d) ft fo fa fp fq wd we = (0, fr, to, so, wo, fr, 1, a, b, c, e, h1, h2, h3, h4) := by
  rw [E_v_readPlain.eq_def, Lt_b, if_neg (by rw [hw]; decide), Lt_b, if_pos hs, open_n (by rw [nI_toInt (by omega)]; omega)]
  simp only [Lt2]
  exact ⟨_, _, _, _, _, _, _, _, rfl⟩
theorem rpl_part {go ga ft fo fa fp fq : Nat → Int32} {wd we : Nat → Int64} {ta fr to so fau od nc nl pi opn : Int32} {wo : Int64} (hw : E_v_isWord 14836 so wo = 0) (hs : E_v_isSign 40 so wo = 0) : E_v_readPlain go ga ta fr to so wo fau 0 od nc nl pi opn ft fo fa fp fq wd we = E_v_readPart go ga ta fr to so wo fau 0 od nc nl pi opn ft fo fa fp fq wd we := by
  rw [E_v_readPlain.eq_def, Lt_b, if_neg (by rw [hw]; decide), Lt_b, if_neg (by rw [hs]; decide)]
  rfl
theorem SE.evens {od m a b x y : Nat} {fc op ar : Nat → Int32} (h : SE od KT_ 1 m fc a b op ar x y) : ∀ k, (∀ j, y ≤ j → j < y + 2 * k → op j = 28) → y + 2 * k ≤ 1000000 → SE od KT_ 1 m fc a b op ar x (y + 2 * k) := by
  intro k
  induction k with
  | zero => intro _ _; exact h
  | succ k ih =>
    intro h1 h2
    exact (ih (fun j a b => h1 j a (by omega)) (by omega)).not2 (h1 _ (by omega) (by omega)) (h1 _ (by omega) (by omega)) (by omega)
/-- whether an odd number of "not"s stands there -/
noncomputable def tpar (k : Nat) : Int32 := if k % 2 = 0 then 0 else 1
theorem KP.nots {pi : Nat} {fp fq : Nat → Int32} (hp : pi ≤ 400) : ∀ (n nc : Nat) (fo fa : Nat → Int32), pi + n ≤ 400 → nc + n ≤ 900 → (∀ j, pi ≤ j → j < pi + n → fp j = 28) → ∃ fo' fa', KP 3 nc (pi + n) fo fa (nc + n) pi fo' fa' fp fq ∧ (∀ j, j < nc → fo' j = fo j ∧ fa' j = fa j) ∧ ∀ j, nc ≤ j → j < nc + n → fo' j = 28 := by
  intro n
  induction n with
  | zero => intro nc fo fa _ _ _; exact ⟨fo, fa, KP.rfl, fun _ _ => ⟨Eq.refl _, Eq.refl _⟩, fun j a b => by omega⟩
  | succ n ih =>
    intro nc fo fa h1 h2 h3
    obtain ⟨fo', fa', k1, k2, k3⟩ := ih (nc + 1) (upd fo nc (nI 28)) (upd fa nc 0) (by omega) (by omega) (fun j a b => h3 j a (by omega))
    refine ⟨fo', fa', ?_, fun j hj => ?_, fun j a b => ?_⟩
    · have e := KP.emit (K := 3) (nc := nc) (pi := pi + n) (o := 28) (fo := fo) (fa := fa) (fp := fp) (fq := fq) (by omega) (by omega) (by omega) (h3 (pi + n) (by omega) (by omega)) (by decide)
      rw [show nc + (n + 1) = nc + 1 + n by omega]
      exact e.trans k1
    · have := k2 j (by omega)
      rw [upd_n (by omega), upd_n (by omega)] at this
      exact this
    · by_cases e : j = nc
      · rw [e, (k2 nc (by omega)).1, upd_s]; exact Eq.refl _
      · exact k3 j (by omega) (by omega)
/-- the innermost bracket below is round, or there is none and a test is read -/
noncomputable def KIn (C : KC_) (fp : Nat → Int32) (pi : Nat) : Prop := (C.2.2.2.2.2.2.1 ≠ 0 ∧ ∀ j, j < pi → ∃ o : Nat, o < 31 ∧ fp j = nI o) ∨ ∃ q, q < pi ∧ fp q = nI 31 ∧ ∀ j, q < j → j < pi → ∃ o : Nat, o < 31 ∧ fp j = nI o
theorem KIn.up {C : KC_} {fp fp1 : Nat → Int32} {pi pi1 : Nat} (h : KIn C fp pi) (h1 : pi ≤ pi1) (h2 : ∀ j, j < pi → fp1 j = fp j) (h3 : ∀ j, pi ≤ j → j < pi1 → ∃ o : Nat, o < 31 ∧ fp1 j = nI o) : KIn C fp1 pi1 := by
  rcases h with ⟨a, b⟩ | ⟨q, a, b, c⟩
  · refine Or.inl ⟨a, fun j hj => ?_⟩
    by_cases e : j < pi
    · rw [h2 j e]; exact b j e
    · exact h3 j (by omega) hj
  · refine Or.inr ⟨q, by omega, by rw [h2 q a]; exact b, fun j h4 h5 => ?_⟩
    by_cases e : j < pi
    · rw [h2 j e]; exact c j h4 e
    · exact h3 j (by omega) h5
theorem KIn.inner {C : KC_} {fp : Nat → Int32} {pi : Nat} (h : KIn C fp pi) (hp : pi ≤ 400) : (E_v_inner (nI pi) fp = -1 ∧ C.2.2.2.2.2.2.1 ≠ 0) ∨ E_v_inner (nI pi) fp = 31 := by
  rcases h with ⟨a, b⟩ | ⟨q, a, b, c⟩
  · exact Or.inl ⟨inner_none hp b, a⟩
  · exact Or.inr (inner_top (b := 31) hp a ⟨by omega, by omega⟩ b c)
noncomputable def KTop2 (fp : Nat → Int32) (pi : Nat) : Prop := pi = 0 ∨ ∃ o : Nat, 28 ≤ o ∧ o ≤ 31 ∧ fp (pi - 1) = nI o
noncomputable def SimPlain (C : KC_) (Ep : KWf) (d : Nat) : Prop := ∀ (fau : Int32) (p : Nat) (c : KT4) (m : KM4) (us nl nc pi w : Nat) (fc fo fa fp fq : Nat → Int32), TkP C.1 C.2.2.1 p c m → us + 2 * w ≤ 2 * p → nc + w ≤ p → pi ≤ p → nl ≤ 50 → d ≤ 8 → KIn C fp pi → KTop2 fp pi →
  KNot C fau 0 d p m nl nc pi fo fa fp fq (Ep (nI d) (klw C.2.2.2.1) (nI nl) (nI C.2.2.1) c.1 c.2.1 c.2.2.1 c.2.2.2 C.1 (nI us) fc) ∨
  KRead C KT_ 3 fau 0 2 1 d p m us nl nc pi w fc fo fa fp fq 20 28 (Ep (nI d) (klw C.2.2.2.1) (nI nl) (nI C.2.2.1) c.1 c.2.1 c.2.2.1 c.2.2.2 C.1 (nI us) fc)
/-- a test was read: what comes behind is neither "and" nor "or" -/
noncomputable def KReadQ (C : KC_) (K : Nat) (fau tn0 : Int32) (tn : Int32) (t d p : Nat) (m : KM4) (us nl nc pi w : Nat) (fc fo fa fp fq : Nat → Int32) (lo hi : Nat) (r : KW8) : Prop :=
  ∃ (p' : Nat) (c' : KT4) (m' : KM4) (us' nl' n1 pi1 n2 : Nat) (fc' fo1 fa1 fp1 fq1 fo2 fa2 : Nat → Int32),
    r = (1, nI nl', c'.1, c'.2.1, c'.2.2.1, c'.2.2.2, nI us', fc') ∧ p < p' ∧ TkP C.1 C.2.2.1 p' c' m' ∧
    KGo C fau tn0 3 p m nc nl pi d fo fa fp fq tn t p' m' n1 nl' pi1 d fo1 fa1 fp1 fq1 ∧
    (pi ≤ pi1 ∧ pi1 ≤ p' ∧ (∀ j, j < pi → fp1 j = fp j ∧ fq1 j = fq j) ∧ ∀ j, pi ≤ j → j < pi1 → ∃ o : Nat, lo ≤ o ∧ o ≤ hi ∧ fp1 j = nI o) ∧
    KP K n1 pi1 fo1 fa1 n2 pi fo2 fa2 fp1 fq1 ∧
    ((∀ j, j < us → fc' j = fc j) ∧ ∀ j, j < nc → fo2 j = fo j ∧ fa2 j = fa j) ∧
    (us ≤ us' ∧ nc ≤ n2 ∧ nl ≤ nl' ∧ nl' ≤ 50 ∧ us' + 2 * w ≤ 2 * p' ∧ n2 + w ≤ p' ∧ n1 ≤ p') ∧
    SE C.2.2.2.1 KT_ 1 (nl' - nl) fc' us us' fo2 fa2 nc n2 ∧ E_v_isWord 1476 m'.2.2.1 m'.2.2.2 = 0 ∧ E_v_isWord 498 m'.2.2.1 m'.2.2.2 = 0
noncomputable def SimTest (C : KC_) (Et : KWf) (d : Nat) : Prop := ∀ (fau : Int32) (p : Nat) (c : KT4) (m : KM4) (us nl nc pi w : Nat) (fc fo fa fp fq : Nat → Int32), TkP C.1 C.2.2.1 p c m → us + 2 * w ≤ 2 * p → nc + w ≤ p → pi ≤ p → nl ≤ 50 → d ≤ 8 → KIn C fp pi → (pi = 0 ∨ fp (pi - 1) = nI 31) →
  KNot C fau 0 d p m nl nc pi fo fa fp fq (Et (nI d) (klw C.2.2.2.1) (nI nl) (nI C.2.2.1) c.1 c.2.1 c.2.2.1 c.2.2.2 C.1 (nI us) fc) ∨
  KReadQ C 1 fau 0 2 1 d p m us nl nc pi w fc fo fa fp fq 20 30 (Et (nI d) (klw C.2.2.2.1) (nI nl) (nI C.2.2.1) c.1 c.2.1 c.2.2.1 c.2.2.2 C.1 (nI us) fc)
/-- the "not"s -/
theorem plain_nots {C : KC_} (hC : KCok C) {Es Et : KWf} {d us nl nc : Nat} {fau : Int32} {fc fo fa : Nat → Int32} (z : Int32 → Int32 → Int32 → Int32 → Int32 → Int32 → KW8) : ∀ (n p : Nat) (c : KT4) (m : KM4) (pi j i : Nat) (fp fq : Nat → Int32), 401 - p ≤ n → i ≤ p → pi ≤ p → TkP C.1 C.2.2.1 p c m →
    ∃ (k p1 : Nat) (c1 : KT4) (m1 : KM4) (fp1 fq1 : Nat → Int32), Lp (E_w_plain_l4 Es Et (nI d) (klw C.2.2.2.1) (nI nl) (nI C.2.2.1) C.1 (nI us) fc) z (403 - i) (nI i) (tpar j) c.1 c.2.1 c.2.2.1 c.2.2.2 = E_w_plain_j36 Es Et (nI d) (klw C.2.2.2.1) (nI nl) (nI C.2.2.1) C.1 (nI us) fc (tpar (j + k)) c1.1 c1.2.1 c1.2.2.1 c1.2.2.2 ∧ p + k ≤ p1 ∧ TkP C.1 C.2.2.1 p1 c1 m1 ∧ KGo C fau 0 3 p m nc nl pi d fo fa fp fq 0 3 p1 m1 nc nl (pi + k) d fo fa fp1 fq1 ∧ (∀ q, q < pi → fp1 q = fp q ∧ fq1 q = fq q) ∧ (∀ q, pi ≤ q → q < pi + k → fp1 q = 28) ∧ E_v_isWord 14836 m1.2.2.1 m1.2.2.2 = 0 := by
  intro n
  induction n with
  | zero => intro p c m pi j i fp fq hn _ _ hT; have := hT.1; have := hT.2.1; omega
  | succ n ih =>
    intro p c m pi j i fp fq hn hi hpi hT
    have hL := hT.2.1
    have hpL := hT.1
    rw [show 403 - i = (402 - i) + 1 by omega, Lp_s, E_w_plain_l4.eq_def, if_neg (kn_nltl' (by omega) (by omega))]
    rcases tk_one (k := 7) (c := 14836) (tf := c.1) (tt := c.2.1) (ti := c.2.2.1) (tu := c.2.2.2) (fr := m.1) (to := m.2.1) (so := m.2.2.1) (wo := m.2.2.2) (by omega) (by omega) rfl (by decide +kernel) hT (nI C.2.2.1) with ⟨f0, w1, pl⟩ | ⟨f0, w0⟩
    · obtain ⟨q, q1, q2, hQ⟩ := tk_next hC hT
      have qp := q2 pl
      have hqL := hQ.1
      rw [pas_p f0]
      have rr := rpl_not (go := C.2.2.2.2.2.2.2.1) (ga := C.2.2.2.2.2.2.2.2) (ft := C.2.1) (fo := fo) (fa := fa) (fp := fp) (fq := fq) (wd := C.2.2.2.2.1) (we := C.2.2.2.2.2.1) (ta := nI C.2.2.1) (fr := m.1) (to := m.2.1) (fau := fau) (od := kod C.2.2.2.1) (nc := nI nc) (nl := nI nl) (opn := nI d) w1 (show pi < 1000 by omega)
      have g1 : KGo C fau 0 3 p m nc nl pi d fo fa fp fq 0 3 q (E_v_next (nI C.2.2.1) m.1 m.2.1 m.2.2.1 m.2.2.2 C.2.1) nc nl (pi + 1) d fo fa (upd fp pi 28) (upd fq pi 0) :=
        KGo.one (mz_lt qp (by omega) (by omega)) (fun F => by rw [kL_plain rr])
      obtain ⟨k, p1, c1, m1, fp1, fq1, r1, r2, r3, r4, r5, r6, r7⟩ := ih q _ _ (pi + 1) (j + 1) (i + 1) (upd fp pi 28) (upd fq pi 0) (by omega) (by omega) (by omega) hQ
      refine ⟨k + 1, p1, c1, m1, fp1, fq1, ?_, by omega, r3, ?_, fun x hx => ?_, fun x h1 h2 => ?_, r7⟩
      · rw [show j + (k + 1) = j + 1 + k by omega, ← r1]
        simp only [Lt2]
        rw [if_neg (show ¬ (1 : Int32) = 0 by decide)]
        unfold tpar
        by_cases e : j % 2 = 0
        · rw [if_pos e, if_pos (by trivial), if_neg (show ¬ (j + 1) % 2 = 0 by omega), Lt_b, kn_po (by omega), show 402 - i = 403 - (i + 1) by omega]
        · rw [if_neg e, if_neg (show ¬ (1 : Int32) = 0 by decide), if_pos (show (j + 1) % 2 = 0 by omega), Lt_b, kn_po (by omega), show 402 - i = 403 - (i + 1) by omega]
      · rw [show pi + (k + 1) = pi + 1 + k by omega]; exact g1.trans r4
      · have := r5 x (by omega)
        rw [upd_n (by omega), upd_n (by omega)] at this
        exact this
      · by_cases e : x = pi
        · rw [e, (r5 pi (by omega)).1, upd_s]
        · exact r6 x (by omega) (by omega)
    · rw [pas_n f0]
      refine ⟨0, p, c, m, fp, fq, ?_, by omega, hT, fun F hF => ⟨F, hF, rfl⟩, fun _ _ => ⟨rfl, rfl⟩, fun x h1 h2 => by omega, w0⟩
      simp only [Lt2]
      rw [if_pos (by trivial)]
      rfl
