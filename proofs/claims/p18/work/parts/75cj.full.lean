/-! a sum -/
theorem op9_p {lw pa tf tt ti tu ln : Int32} {fb : Nat → Int32} {o : Nat} (h1 : 22 ≤ o) (h2 : o ≤ 24) (h : ti = kch o) : E_w_operator 9 5 lw pa ln tf tt ti tu fb = (nI (o - 17), E_w_step ln tf tt ti tu fb) := by
  have e : ∀ o, 22 ≤ o → o ≤ 24 → ∀ i, i < 3 → kch o = sf 9 i → i = o - 22 := by
    intro o h1 h2
    rcases (show o = 22 ∨ o = 23 ∨ o = 24 by omega) with rfl | rfl | rfl <;> decide
  have e2 : ∀ o, 22 ≤ o → o ≤ 24 → kch o = sf 9 (o - 22) := by
    intro o h1 h2
    rcases (show o = 22 ∨ o = 23 ∨ o = 24 by omega) with rfl | rfl | rfl <;> decide
  rw [show (5 : Int32) = nI 5 from rfl]
  rcases op_at (k := 9) (n := 3) (x0 := 5) (lw := lw) (pa := pa) (tf := tf) (tt := tt) (ti := ti) (tu := tu) (ln := ln) (fb := fb) (by omega) rfl (by omega) with ⟨i, i1, i2, i3⟩ | ⟨i1, _⟩
  · have := e o h1 h2 i i1 (h.symm.trans i2)
    rw [i3, show 5 + i = o - 17 by omega]
  · exact absurd (h.trans (e2 o h1 h2)) (i1 (o - 22) (by omega))
theorem op9_n {lw pa tf tt ti tu ln : Int32} {fb : Nat → Int32} (h : ∀ u, 22 ≤ u → u ≤ 24 → ti ≠ kch u) : E_w_operator 9 5 lw pa ln tf tt ti tu fb = (-1, tf, tt, ti, tu) := by
  rw [show (5 : Int32) = nI 5 from rfl]
  rcases op_at (k := 9) (n := 3) (x0 := 5) (lw := lw) (pa := pa) (tf := tf) (tt := tt) (ti := ti) (tu := tu) (ln := ln) (fb := fb) (by omega) rfl (by omega) with ⟨i, i1, i2, _⟩ | ⟨_, i2⟩
  · have e : ∀ i, i < 3 → sf 9 i = kch (22 + i) := by decide
    exact absurd (i2.trans (e i i1)) (h (22 + i) (by omega) (by omega))
  · exact i2
theorem op10_p {lw pa tf tt ti tu ln : Int32} {fb : Nat → Int32} {o : Nat} (h1 : 20 ≤ o) (h2 : o ≤ 21) (h : ti = kch o) : E_w_operator 10 3 lw pa ln tf tt ti tu fb = (nI (o - 17), E_w_step ln tf tt ti tu fb) := by
  have e : ∀ o, 20 ≤ o → o ≤ 21 → ∀ i, i < 2 → kch o = sf 10 i → i = o - 20 := by
    intro o h1 h2
    rcases (show o = 20 ∨ o = 21 by omega) with rfl | rfl <;> decide
  have e2 : ∀ o, 20 ≤ o → o ≤ 21 → kch o = sf 10 (o - 20) := by
    intro o h1 h2
    rcases (show o = 20 ∨ o = 21 by omega) with rfl | rfl <;> decide
  rw [show (3 : Int32) = nI 3 from rfl]
  rcases op_at (k := 10) (n := 2) (x0 := 3) (lw := lw) (pa := pa) (tf := tf) (tt := tt) (ti := ti) (tu := tu) (ln := ln) (fb := fb) (by omega) rfl (by omega) with ⟨i, i1, i2, i3⟩ | ⟨i1, _⟩
  · have := e o h1 h2 i i1 (h.symm.trans i2)
    rw [i3, show 3 + i = o - 17 by omega]
  · exact absurd (h.trans (e2 o h1 h2)) (i1 (o - 20) (by omega))
theorem op10_n {lw pa tf tt ti tu ln : Int32} {fb : Nat → Int32} (h : ∀ u, 20 ≤ u → u ≤ 21 → ti ≠ kch u) : E_w_operator 10 3 lw pa ln tf tt ti tu fb = (-1, tf, tt, ti, tu) := by
  rw [show (3 : Int32) = nI 3 from rfl]
  rcases op_at (k := 10) (n := 2) (x0 := 3) (lw := lw) (pa := pa) (tf := tf) (tt := tt) (ti := ti) (tu := tu) (ln := ln) (fb := fb) (by omega) rfl (by omega) with ⟨i, i1, i2, _⟩ | ⟨_, i2⟩
  · have e : ∀ i, i < 2 → sf 10 i = kch (20 + i) := by decide
    exact absurd (i2.trans (e i i1)) (h (20 + i) (by omega) (by omega))
  · exact i2
/-- an operator that waits: 0 none -/
noncomputable def kz_v (t : Nat) : Int32 := if t = 0 then -1 else nI t
noncomputable def kb1 (t : Nat) : Nat := if t = 0 then 0 else 1
theorem kz_v0 : kz_v 0 = -1 := rfl
theorem kz_vp {t : Nat} (h : t ≠ 0) : kz_v t = nI t := if_neg h
theorem kz_vn {t : Nat} (h : t ≠ 0) (ht : t < 100) : ¬ kz_v t = -1 := by
  rw [kz_vp h]
  intro q
  have := congrArg Int32.toInt q
  rw [nI_toInt (by omega)] at this
  have z1 : (-1 : Int32).toInt = -1 := rfl
  omega
theorem kb1_0 : kb1 0 = 0 := rfl
theorem kb1_p {t : Nat} (h : t ≠ 0) : kb1 t = 1 := if_neg h
/-- one operator that waits, or none: the class emits it, the reference is to -/
theorem wait_one {od k m us us0 nc nc0 pi t w p K : Nat} {fc fo fa fp fq : Nat → Int32} (hse : SE od KA_ (kb1 t + k + 1) m fc us0 us fo fa nc0 nc) (ht : t ≠ 0 → 3 ≤ t ∧ t ≤ 7 ∧ K ≤ kbd (t + 17) ∧ fp pi = nI (t + 17)) (hus : us + 2 * (w + kb1 t) ≤ 2 * p) (hnc : nc + (w + kb1 t) ≤ p) (hpi : pi ≤ p) (hp : p ≤ 400) :
    ∃ (us1 nc1 : Nat) (fc1 fo1 fa1 : Nat → Int32), (∀ {β : Type} (A : Int32 → (Nat → Int32) → β), (if kz_v t = -1 then A (nI us) fc else A (E_w_emit (kz_v t) 0 (nI us) fc).2.1 (E_w_emit (kz_v t) 0 (nI us) fc).2.2) = A (nI us1) fc1) ∧ KP K nc (pi + kb1 t) fo fa nc1 pi fo1 fa1 fp fq ∧ SE od KA_ (k + 1) m fc1 us0 us1 fo1 fa1 nc0 nc1 ∧ us ≤ us1 ∧ nc ≤ nc1 ∧ us1 + 2 * w ≤ 2 * p ∧ nc1 + w ≤ p ∧ (∀ j, j < us → fc1 j = fc j) ∧ (∀ j, j < nc → fo1 j = fo j ∧ fa1 j = fa j) := by
  by_cases c : t = 0
  · subst c
    refine ⟨us, nc, fc, fo, fa, fun A => if_pos rfl, ?_, ?_, Nat.le_refl _, Nat.le_refl _, by rw [kb1_0] at hus; omega, by rw [kb1_0] at hnc; omega, fun _ _ => rfl, fun _ _ => ⟨rfl, rfl⟩⟩
    · rw [kb1_0, Nat.add_zero]; exact KP.rfl
    · rw [kb1_0, Nat.zero_add] at hse; exact hse
  · obtain ⟨t1, t2, t3, t4⟩ := ht c
    rw [kb1_p c] at hse hus hnc ⊢
    have em := emit_at (us := us) (x := nI t) (y := 0) (fc := fc) (by omega)
    refine ⟨us + 2, nc + 1, upd (upd fc us (nI t)) (us + 1) 0, upd fo nc (nI (t + 17)), upd fa nc 0, fun A => ?_, ?_, ?_, by omega, by omega, by omega, by omega, fun j hj => ?_, fun j hj => ⟨upd_n (by omega), upd_n (by omega)⟩⟩
    · rw [if_neg (kz_vn c (by omega)), kz_vp c, em]
    · exact KP.emit (by omega) (by omega) (by omega) t4 t3
    · refine SE.bin (P := KA_) (o := t) (k := k) ?_ ⟨by omega, by omega⟩ ?_ ?_ (by omega) (by omega) (fun _ _ _ _ => trivial)
      · rw [show k + 2 = 1 + k + 1 by omega]
        exact hse.ext (fun j h1 h2 => by rw [upd_n (by omega), upd_n (by omega)]) (fun j h1 h2 => ⟨upd_n (by omega), upd_n (by omega)⟩)
      · rw [upd_n (by omega), upd_s]
      · rw [upd_s]
    · rw [upd_n (by omega), upd_n (by omega)]
noncomputable def SHd (C : KC_) (us0 nl0 nc0 pi0 w : Nat) (fc0 fo0 fa0 fp0 fq0 : Nat → Int32) (p us nl nc pi ter fac : Nat) (fc fo fa fp fq : Nat → Int32) : Prop :=
  pi = pi0 + kb1 ter + kb1 fac ∧ (ter ≠ 0 → 3 ≤ ter ∧ ter ≤ 4 ∧ fp pi0 = nI (ter + 17)) ∧ (fac ≠ 0 → 5 ≤ fac ∧ fac ≤ 7 ∧ fp (pi0 + kb1 ter) = nI (fac + 17)) ∧ (∀ j, j < pi0 → fp j = fp0 j ∧ fq j = fq0 j) ∧ (∀ j, j < us0 → fc j = fc0 j) ∧ (∀ j, j < nc0 → fo j = fo0 j ∧ fa j = fa0 j) ∧
  (us0 ≤ us ∧ nc0 ≤ nc ∧ nl0 ≤ nl ∧ nl ≤ 50 ∧ us + 2 * (w + kb1 ter + kb1 fac) ≤ 2 * p ∧ nc + (w + kb1 ter + kb1 fac) ≤ p ∧ pi ≤ p) ∧
  ((ter = 0 ∧ fac = 0 ∧ us = us0 ∧ nc = nc0 ∧ nl = nl0) ∨ (1 ≤ kb1 ter + kb1 fac ∧ SE C.2.2.2.1 KA_ (kb1 ter + kb1 fac) (nl - nl0) fc us0 us fo fa nc0 nc))
theorem sum_loop {C : KC_} (hC : KCok C) {Es : KWf} {d : Nat} (hP : SimPart C (fun d lw pa ln tf tt ti tu fb us fc => E_w_part Es d lw pa ln tf tt ti tu fb us fc) d) (hd : d ≤ 8) {fau : Int32} {p0 us0 nl0 nc0 pi0 w : Nat} {m0 : KM4} {fc0 fo0 fa0 fp0 fq0 : Nat → Int32} (htop : KTop fp0 pi0) (z : Int32 → Int32 → Int32 → Int32 → Int32 → Int32 → Int32 → Int32 → Int32 → (Nat → Int32) → KW8) : ∀ (n p : Nat) (c : KT4) (m : KM4) (us nl nc pi ter fac i : Nat) (fc fo fa fp fq : Nat → Int32), 401 - p ≤ n → p0 ≤ p → i ≤ p → TkP C.1 C.2.2.1 p c m → KGo C fau 1 3 p0 m0 nc0 nl0 pi0 d fo0 fa0 fp0 fq0 1 3 p m nc nl pi d fo fa fp fq → SHd C us0 nl0 nc0 pi0 w fc0 fo0 fa0 fp0 fq0 p us nl nc pi ter fac fc fo fa fp fq →
    ∀ R : KW8, Lp (E_w_sum_l7 Es (nI d) (klw C.2.2.2.1) (nI C.2.2.1) C.1) z (403 - i) (nI i) (kz_v ter) (kz_v fac) (nI nl) c.1 c.2.1 c.2.2.1 c.2.2.2 (nI us) fc = R →
    KNot C fau 1 d p0 m0 nl0 nc0 pi0 fo0 fa0 fp0 fq0 R ∨ (KRead C KA_ 5 fau 1 3 2 d p0 m0 us0 nl0 nc0 pi0 w fc0 fo0 fa0 fp0 fq0 20 24 R ∧ ¬ KSg R.2.2.2.2.1) := by
  intro n
  induction n with
  | zero => intro p c m us nl nc pi ter fac i fc fo fa fp fq hn _ _ hT; have := hT.1; have := hT.2.1; omega
  | succ n ih =>
    intro p c m us nl nc pi ter fac i fc fo fa fp fq hn hp0 hi hT hgo hS R hR
    have hL := hT.2.1
    have hpL := hT.1
    obtain ⟨b1, b2, b3, b4, b5, b6, b7, b8⟩ := hS
    have kt : kb1 ter ≤ 1 := by unfold kb1; split <;> omega
    have kf : kb1 fac ≤ 1 := by unfold kb1; split <;> omega
    have pt := hP fau p c m us nl nc pi (w + kb1 ter + kb1 fac) fc fo fa fp fq hT (by omega) (by omega) (by omega) (by omega) hd
    have pt : KNot C fau 1 d p m nl nc pi fo fa fp fq (E_w_part Es (nI d) (klw C.2.2.2.1) (nI nl) (nI C.2.2.1) c.1 c.2.1 c.2.2.1 c.2.2.2 C.1 (nI us) fc) ∨ KPrt C KA_ fau 1 3 2 d p m us nl nc pi (w + kb1 ter + kb1 fac) fc fo fa fp fq (E_w_part Es (nI d) (klw C.2.2.2.1) (nI nl) (nI C.2.2.1) c.1 c.2.1 c.2.2.1 c.2.2.2 C.1 (nI us) fc) := pt
    rw [show 403 - i = (402 - i) + 1 by omega, Lp_s, E_w_sum_l7.eq_def, if_neg (kn_nltl' (by omega) (by omega))] at hR
    rcases pt with ⟨k1, q, k2, k3⟩ | ⟨p1, c1, m1, us1, nl1, n1, fc1, fo1, fa1, fp1, fq1, e1, e2, e3, e4, e5, e6, e7, e8, e9, e10⟩
    · simp only [Lt2] at hR
      rw [if_pos k1] at hR
      rw [← hR]
      exact Or.inl ⟨rfl, q, k2, hgo.bad k3⟩
    rw [e1] at hR
    simp only [Lt2] at hR
    rw [if_neg (by decide)] at hR
    have hL1 := e3.1
    -- the code so far
    have se1 : SE C.2.2.2.1 KA_ (kb1 ter + kb1 fac + 1) (nl1 - nl0) fc1 us0 us1 fo1 fa1 nc0 n1 := by
      rcases b8 with ⟨x1, x2, x3, x4, x5⟩ | ⟨x1, x2⟩
      · rw [x1, x2, ← x3, ← x4, ← x5]; exact e10
      · have := (x2.ext (fc' := fc1) (op' := fo1) (ar' := fa1) (fun j _ h2 => e7 j h2) (fun j _ h2 => e8 j h2)).app e10 (Nat.le_refl 1)
        rw [show nl - nl0 + (nl1 - nl) = nl1 - nl0 by omega] at this
        exact this
    have top1 : KTop fp1 pi0 := by
      rcases htop with h | ⟨o, o1, o2, o3⟩
      · exact Or.inl h
      · by_cases h : pi0 = 0
        · exact Or.inl h
        · exact Or.inr ⟨o, o1, o2, by rw [(e6 (pi0 - 1) (by omega)).1, (b4 (pi0 - 1) (by omega)).1]; exact o3⟩
    have tf1 : ter ≠ 0 → fp1 pi0 = nI (ter + 17) := fun h => by
      have := kb1_p h
      rw [(e6 pi0 (by omega)).1]; exact (b2 h).2.2
    have ff1 : fac ≠ 0 → fp1 (pi0 + kb1 ter) = nI (fac + 17) := fun h => by
      have := kb1_p h
      rw [(e6 (pi0 + kb1 ter) (by omega)).1]; exact (b3 h).2.2
    have kbf : ∀ f, 5 ≤ f → f ≤ 7 → kbd (f + 17) = 6 := by intro f h1 h2; rcases (show f = 5 ∨ f = 6 ∨ f = 7 by omega) with rfl | rfl | rfl <;> rfl
    have kbt : ∀ f, 3 ≤ f → f ≤ 4 → kbd (f + 17) = 5 := by intro f h1 h2; rcases (show f = 3 ∨ f = 4 by omega) with rfl | rfl <;> rfl
    obtain ⟨usA, nA, fcA, foA, faA, a1, a2, a3, a4, a5, a6, a7, a8, a9⟩ := wait_one (k := kb1 ter) (pi := pi0 + kb1 ter) (w := w + kb1 ter) (p := p1) (K := 6) (fp := fp1) (fq := fq1) (t := fac) (by rw [show kb1 fac + kb1 ter + 1 = kb1 ter + kb1 fac + 1 by omega]; exact se1) (fun h => ⟨by have := b3 h; omega, (b3 h).2.1, by rw [kbf fac (b3 h).1 (b3 h).2.1]; exact Nat.le_refl _, ff1 h⟩) (by omega) (by omega) (by omega) (by omega)
    have aa := a1 (fun u f => E_w_sum_j40 (klw C.2.2.2.1) (nI C.2.2.1) C.1 (nI i) (kz_v ter) (Lp (E_w_sum_l7 Es (nI d) (klw C.2.2.2.1) (nI C.2.2.1) C.1) z (402 - i)) (nI nl1) c1.1 c1.2.1 c1.2.2.1 c1.2.2.2 u f)
    rw [show (if kz_v fac = -1 then _ else _) = _ from aa] at hR
    rw [← b1] at a2
    simp only [E_w_sum_j40, Lt2] at hR
    have below : ∀ l, 5 ≤ l → l ≤ 6 → ∀ (nx px : Nat) (fo fa : Nat → Int32), px = pi0 → kst l nx px fo fa fp1 fq1 = (nI nx, nI px, fo, fa) := by
      intro l l1 l2 nx px fo fa hx
      rcases top1 with h | ⟨o, o1, o2, o3⟩
      · rw [hx, h]; exact kst_0
      · by_cases h : pi0 = 0
        · rw [hx, h]; exact kst_0
        · rw [hx, show pi0 = (pi0 - 1) + 1 by omega]
          exact kst_stop (o := o) (by omega) (by omega) (by omega) o3 (by unfold kbd; (repeat' split) <;> omega)
    have fr1 := TkP.froms (tf := c1.1) (tt := c1.2.1) (ti := c1.2.2.1) (tu := c1.2.2.2) (fr := m1.1) (to := m1.2.1) (so := m1.2.2.1) (wo := m1.2.2.2) e3
    obtain ⟨q, q1, q2, hQ⟩ := tk_next hC e3
    have hq := hQ.1
    -- behind the factor
    have hterB := fun (hx : ∀ u, 22 ≤ u → u ≤ 24 → c1.2.2.1 ≠ kch u) => wait_one (k := 0) (pi := pi0) (w := w) (p := p1) (K := 5) (fp := fp1) (fq := fq1) (t := ter) a3 (fun h => ⟨(b2 h).1, by have := (b2 h).2.1; omega, by rw [kbt ter (b2 h).1 (b2 h).2.1]; exact Nat.le_refl _, tf1 h⟩) (by omega) (by omega) (by omega) (by omega)
    rcases tk_op e3 with ⟨o, o1, o2, o3, o4, o5⟩ | ⟨o1, o2⟩
    · have qp : p1 < q := q2 o4
      by_cases c22 : 22 ≤ o
      · -- * / %
        rw [op9_p c22 o2 o3] at hR
        simp only [] at hR
        rw [if_neg (fun h => by have := congrArg Int32.toInt h; rw [nI_toInt (by omega)] at this; have z1 : (-1 : Int32).toInt = -1 := rfl; omega)] at hR
        simp only [E_w_sum_j86, Lt] at hR
        rw [kn_po (by omega)] at hR
        have kk : kst (kbd o) n1 pi fo1 fa1 fp1 fq1 = (nI nA, nI (pi0 + kb1 ter), foA, faA) := by
          rw [show kbd o = 6 by rcases (show o = 22 ∨ o = 23 ∨ o = 24 by omega) with rfl | rfl | rfl <;> rfl, a2 6 (Nat.le_refl _)]
          by_cases ct : ter = 0
          · rw [ct, kb1_0, Nat.add_zero]; exact below 6 (by omega) (by omega) _ _ _ _ rfl
          · rw [kb1_p ct]
            exact kst_stop (o := ter + 17) (by omega) (by have := (b2 ct).2.1; omega) (by omega) (tf1 ct) (by rw [kbt ter (b2 ct).1 (b2 ct).2.1]; omega)
        have bs := bs_op (go := C.2.2.2.2.2.2.2.1) (ga := C.2.2.2.2.2.2.2.2) (ft := C.2.1) (x := C.2.2.2.2.2.2.1) (ta := nI C.2.2.1) (fr := m1.1) (to := m1.2.1) (fau := fau) (nl := nI nl1) (opn := nI d) ⟨o1, o2⟩ o5 (show pi < 1000 by omega) (show pi0 + kb1 ter < 1000 by omega) kk
        have g2 : KGo C fau 3 2 p1 m1 n1 nl1 pi d fo1 fa1 fp1 fq1 1 3 q (E_v_next (nI C.2.2.1) m1.1 m1.2.1 m1.2.2.1 m1.2.2.2 C.2.1) nA nl1 (pi0 + kb1 ter + 1) d foA faA (upd fp1 (pi0 + kb1 ter) (nI o)) (upd fq1 (pi0 + kb1 ter) 0) :=
          KGo.one (mz_lt qp (by omega) (by omega)) (fun F => by rw [kL_sum bs])
        rw [show nI (o - 17) = kz_v (o - 17) from (kz_vp (by omega)).symm, show 402 - i = 403 - (i + 1) by omega] at hR
        refine ih q _ _ usA nl1 nA (pi0 + kb1 ter + 1) ter (o - 17) (i + 1) fcA foA faA _ _ (by omega) (by omega) (by omega) hQ ((hgo.trans e4).trans g2) ⟨?_, fun h => ?_, fun h => ?_, fun j hj => ?_, fun j hj => ?_, fun j hj => ?_, ?_, Or.inr ⟨?_, ?_⟩⟩ R hR
        · rw [kb1_p (show o - 17 ≠ 0 by omega)]
        · have := kb1_p h
          rw [upd_n (by omega)]; exact ⟨(b2 h).1, (b2 h).2.1, tf1 h⟩
        · rw [upd_s, show o - 17 + 17 = o by omega]; exact ⟨by omega, by omega, rfl⟩
        · rw [upd_n (by omega), upd_n (by omega)]
          exact ⟨(e6 j (by omega)).1.trans (b4 j hj).1, (e6 j (by omega)).2.trans (b4 j hj).2⟩
        · rw [a8 j (by omega), e7 j (by omega)]; exact b5 j hj
        · exact ⟨(a9 j (by omega)).1.trans ((e8 j (by omega)).1.trans (b6 j hj).1), (a9 j (by omega)).2.trans ((e8 j (by omega)).2.trans (b6 j hj).2)⟩
        · rw [kb1_p (show o - 17 ≠ 0 by omega)]; omega
        · rw [kb1_p (show o - 17 ≠ 0 by omega)]; omega
        · rw [kb1_p (show o - 17 ≠ 0 by omega)]; exact a3
      · -- + -
        have o21 : o ≤ 21 := by omega
        have inj : ∀ u, 22 ≤ u → u ≤ 24 → c1.2.2.1 ≠ kch u := by
          intro u h1 h2 h
          rw [o3] at h
          rcases (show o = 20 ∨ o = 21 by omega) with rfl | rfl <;> rcases (show u = 22 ∨ u = 23 ∨ u = 24 by omega) with rfl | rfl | rfl <;> exact absurd h (by decide)
        obtain ⟨usB, nB, fcB, foB, faB, d1, d2, d3, d4, d5, d6, d7, d8, d9⟩ := hterB inj
        rw [op9_n inj] at hR
        simp only [] at hR
        rw [if_pos (by trivial)] at hR
        have dd := d1 (fun u f => E_w_sum_j71 (klw C.2.2.2.1) (nI C.2.2.1) C.1 (nI i) (Lp (E_w_sum_l7 Es (nI d) (klw C.2.2.2.1) (nI C.2.2.1) C.1) z (402 - i)) (nI nl1) (-1) c1.1 c1.2.1 c1.2.2.1 c1.2.2.2 u f)
        rw [show (if kz_v ter = -1 then _ else _) = _ from dd] at hR
        simp only [E_w_sum_j71, Lt2] at hR
        rw [op10_p o1 o21 o3] at hR
        simp only [] at hR
        rw [if_neg (fun h => by have := congrArg Int32.toInt h; rw [nI_toInt (by omega)] at this; have z1 : (-1 : Int32).toInt = -1 := rfl; omega)] at hR
        simp only [E_w_sum_j86, Lt] at hR
        rw [kn_po (by omega)] at hR
        have kk : kst (kbd o) n1 pi fo1 fa1 fp1 fq1 = (nI nB, nI pi0, foB, faB) := by
          rw [show kbd o = 5 by rcases (show o = 20 ∨ o = 21 by omega) with rfl | rfl <;> rfl, a2 5 (by omega), d2 5 (Nat.le_refl _)]
          exact below 5 (by omega) (by omega) _ _ _ _ rfl
        have bs := bs_op (go := C.2.2.2.2.2.2.2.1) (ga := C.2.2.2.2.2.2.2.2) (ft := C.2.1) (x := C.2.2.2.2.2.2.1) (ta := nI C.2.2.1) (fr := m1.1) (to := m1.2.1) (fau := fau) (nl := nI nl1) (opn := nI d) ⟨o1, o2⟩ o5 (show pi < 1000 by omega) (show pi0 < 1000 by omega) kk
        have g2 : KGo C fau 3 2 p1 m1 n1 nl1 pi d fo1 fa1 fp1 fq1 1 3 q (E_v_next (nI C.2.2.1) m1.1 m1.2.1 m1.2.2.1 m1.2.2.2 C.2.1) nB nl1 (pi0 + 1) d foB faB (upd fp1 pi0 (nI o)) (upd fq1 pi0 0) :=
          KGo.one (mz_lt qp (by omega) (by omega)) (fun F => by rw [kL_sum bs])
        rw [show nI (o - 17) = kz_v (o - 17) from (kz_vp (by omega)).symm, show (-1 : Int32) = kz_v 0 from rfl, show 402 - i = 403 - (i + 1) by omega] at hR
        refine ih q _ _ usB nl1 nB (pi0 + 1) (o - 17) 0 (i + 1) fcB foB faB _ _ (by omega) (by omega) (by omega) hQ ((hgo.trans e4).trans g2) ⟨?_, fun h => ?_, fun h => absurd rfl h, fun j hj => ?_, fun j hj => ?_, fun j hj => ?_, ?_, Or.inr ⟨?_, ?_⟩⟩ R hR
        · rw [kb1_p (show o - 17 ≠ 0 by omega), kb1_0]
        · rw [upd_s, show o - 17 + 17 = o by omega]; exact ⟨by omega, by omega, rfl⟩
        · rw [upd_n (by omega), upd_n (by omega)]
          exact ⟨(e6 j (by omega)).1.trans (b4 j hj).1, (e6 j (by omega)).2.trans (b4 j hj).2⟩
        · rw [d8 j (by omega), a8 j (by omega), e7 j (by omega)]; exact b5 j hj
        · exact ⟨(d9 j (by omega)).1.trans ((a9 j (by omega)).1.trans ((e8 j (by omega)).1.trans (b6 j hj).1)), (d9 j (by omega)).2.trans ((a9 j (by omega)).2.trans ((e8 j (by omega)).2.trans (b6 j hj).2))⟩
        · rw [kb1_p (show o - 17 ≠ 0 by omega), kb1_0]; omega
        · rw [kb1_p (show o - 17 ≠ 0 by omega), kb1_0]; omega
        · rw [kb1_p (show o - 17 ≠ 0 by omega), kb1_0]; exact d3
    · -- the sum ends
      have inj : ∀ u, 22 ≤ u → u ≤ 24 → c1.2.2.1 ≠ kch u := fun u h1 h2 => o1 u (by omega) h2
      obtain ⟨usB, nB, fcB, foB, faB, d1, d2, d3, d4, d5, d6, d7, d8, d9⟩ := hterB inj
      rw [op9_n inj] at hR
      simp only [] at hR
      rw [if_pos (by trivial)] at hR
      have dd := d1 (fun u f => E_w_sum_j71 (klw C.2.2.2.1) (nI C.2.2.1) C.1 (nI i) (Lp (E_w_sum_l7 Es (nI d) (klw C.2.2.2.1) (nI C.2.2.1) C.1) z (402 - i)) (nI nl1) (-1) c1.1 c1.2.1 c1.2.2.1 c1.2.2.2 u f)
      rw [show (if kz_v ter = -1 then _ else _) = _ from dd] at hR
      simp only [E_w_sum_j71, Lt2] at hR
      rw [op10_n (fun u h1 h2 => o1 u h1 (by omega))] at hR
      simp only [] at hR
      rw [if_pos (by trivial)] at hR
      subst hR
      refine Or.inr ⟨⟨p1, c1, m1, usB, nl1, n1, pi, nB, fcB, fo1, fa1, fp1, fq1, foB, faB, rfl, by omega, e3, hgo.trans e4, ⟨by omega, by omega, fun j hj => ⟨(e6 j (by omega)).1.trans (b4 j hj).1, (e6 j (by omega)).2.trans (b4 j hj).2⟩, fun j h1 h2 => ?_⟩, (a2.low (by omega)).trans d2, ⟨fun j hj => ?_, fun j hj => ?_⟩, ⟨by omega, by omega, by omega, by omega, by omega, by omega, by omega⟩, d3⟩, ?_⟩
      · by_cases ct : ter = 0
        · have cf : fac ≠ 0 := fun h => by rw [ct, h, kb1_0] at b1; omega
          have := b3 cf
          have k1 := kb1_p cf
          rw [ct, kb1_0] at b1
          have hf := ff1 cf
          rw [ct, kb1_0] at hf
          exact ⟨fac + 17, by omega, by omega, by rw [show j = pi0 + 0 by omega]; exact hf⟩
        · have k1 := kb1_p ct
          have t1 := b2 ct
          by_cases e : j = pi0
          · exact ⟨ter + 17, by omega, by omega, by rw [e]; exact tf1 ct⟩
          · have cf : fac ≠ 0 := fun h => by rw [h, kb1_0] at b1; omega
            have k2 := kb1_p cf
            have := b3 cf
            have hf := ff1 cf
            exact ⟨fac + 17, by omega, by omega, by rw [show j = pi0 + kb1 ter by omega]; exact hf⟩
      · rw [d8 j (by omega), a8 j (by omega), e7 j (by omega)]; exact b5 j hj
      · exact ⟨(d9 j (by omega)).1.trans ((a9 j (by omega)).1.trans ((e8 j (by omega)).1.trans (b6 j hj).1)), (d9 j (by omega)).2.trans ((a9 j (by omega)).2.trans ((e8 j (by omega)).2.trans (b6 j hj).2))⟩
      · intro hk
        rcases hk with h | h | h | h | h
        · exact o1 22 (by omega) (by omega) h
        · exact o1 23 (by omega) (by omega) h
        · exact o1 24 (by omega) (by omega) h
        · exact o1 20 (by omega) (by omega) h
        · exact o1 21 (by omega) (by omega) h
theorem sim_sum {C : KC_} (hC : KCok C) {Es : KWf} {d : Nat} (hP : SimPart C (fun d lw pa ln tf tt ti tu fb us fc => E_w_part Es d lw pa ln tf tt ti tu fb us fc) d) : SimSum C (fun d lw pa ln tf tt ti tu fb us fc => E_w_sum Es d lw pa ln tf tt ti tu fb us fc) d := by
  intro fau p c m us nl nc pi w fc fo fa fp fq hT hus hnc hpi hnl hd htop
  have hL := hT.2.1
  have hpL := hT.1
  have := sum_loop (w := w) (us0 := us) (fc0 := fc) (fau := fau) (m0 := m) (nl0 := nl) (nc0 := nc) (fo0 := fo) (fa0 := fa) (fq0 := fq) (p0 := p) hC hP hd htop (fun _ _ _ _ _ _ _ _ _ _ => ((0, 0, 0, 0, 0, 0, 0, fun _ => 0) : KW8)) 401 p c m us nl nc pi 0 0 0 fc fo fa fp fq (by omega) (Nat.le_refl _) (by omega) hT (fun F hF => ⟨F, hF, rfl⟩) ⟨by rw [kb1_0]; omega, fun h => absurd rfl h, fun h => absurd rfl h, fun _ _ => ⟨rfl, rfl⟩, fun _ _ => rfl, fun _ _ => ⟨rfl, rfl⟩, by rw [kb1_0]; omega, Or.inl ⟨rfl, rfl, rfl, rfl, rfl⟩⟩ _ rfl
  exact this
