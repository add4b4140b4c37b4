/-! a whole test -/
theorem KSk.pile {od m a b x y pi pi' : Nat} {v : Bool} {sv : Int32} {fc op ar fp fq : Nat → Int32} (h : KSk od v m sv a b x y pi pi' fc op ar fp fq) : pi' = pi ∨ (pi' = pi + 1 ∧ fp pi = nI (if v then 30 else 29)) := by
  rcases h with ⟨_, _, _, h3, _⟩ | ⟨s, xs, _, _, _, _, _, _, h3, h4, _⟩
  · exact Or.inl h3
  · exact Or.inr ⟨h3, h4⟩
theorem test_loop {C : KC_} (hC : KCok C) {Es Et : KWf} {d : Nat} (hP : SimPlain C (fun d lw pa ln tf tt ti tu fb us fc => E_w_plain Es Et d lw pa ln tf tt ti tu fb us fc) d) (hd : d ≤ 8) {fau : Int32} {us0 nl0 nc0 pi0 w : Nat} (z : Int32 → Int32 → Int32 → Int32 → Int32 → Int32 → Int32 → Int32 → Int32 → (Nat → Int32) → KW8) : ∀ (n p : Nat) (c : KT4) (m : KM4) (us nl nc pi i mo ma : Nat) (so sa : Int32) (b y pib : Nat) (fc fo fa fp fq : Nat → Int32), 401 - p ≤ n → i ≤ p → TkP C.1 C.2.2.1 p c m → us + 2 * w ≤ 2 * p → nc + w ≤ p → pi ≤ p → nl ≤ 50 →
    KSk C.2.2.2.1 true mo so us0 b nc0 y pi0 pib fc fo fa fp fq → KSk C.2.2.2.1 false ma sa b us y nc pib pi fc fo fa fp fq → nl = nl0 + mo + ma → KIn C fp pi0 → (pi0 = 0 ∨ fp (pi0 - 1) = nI 31) →
    KNot C fau 0 d p m nl nc pi fo fa fp fq (Lp (E_w_test_l7 Es Et (nI d) (klw C.2.2.2.1) (nI C.2.2.1) C.1) z (403 - i) (nI i) so sa (nI nl) c.1 c.2.1 c.2.2.1 c.2.2.2 (nI us) fc) ∨
    KTst C fau d p m nl nc pi fc fo fa fp fq us0 nl0 nc0 pi0 w (Lp (E_w_test_l7 Es Et (nI d) (klw C.2.2.2.1) (nI C.2.2.1) C.1) z (403 - i) (nI i) so sa (nI nl) c.1 c.2.1 c.2.2.1 c.2.2.2 (nI us) fc) := by
  intro n
  induction n with
  | zero => intro p c m us nl nc pi i mo ma so sa b y pib fc fo fa fp fq hn _ hT; have := hT.1; have := hT.2.1; omega
  | succ n ih =>
    intro p c m us nl nc pi i mo ma so sa b y pib fc fo fa fp fq hn hi hT hus hnc hpi hnl hO hA hm hin hb
    have hL := hT.2.1
    have hpL := hT.1
    have oL := hO.le
    have aL := hA.le
    have pO := hO.pile
    have pA := hA.pile
    simp only [if_true] at pO
    rw [if_neg (by decide)] at pA
    have in1 : KIn C fp pi := hin.up (by omega) (fun _ _ => rfl) (fun j h1 h2 => by
      rcases pO with a | ⟨a, a'⟩ <;> rcases pA with e | ⟨e, e'⟩
      · omega
      · exact ⟨29, by omega, by rw [show j = pib by omega]; exact e'⟩
      · exact ⟨30, by omega, by rw [show j = pi0 by omega]; exact a'⟩
      · by_cases q : j = pi0
        · exact ⟨30, by omega, by rw [q]; exact a'⟩
        · exact ⟨29, by omega, by rw [show j = pib by omega]; exact e'⟩)
    have top1 : KTop2 fp pi := by
      rcases pA with e | ⟨e, e'⟩
      · rcases pO with a | ⟨a, a'⟩
        · rcases hb with q | q
          · exact Or.inl (by omega)
          · by_cases y0 : pi = 0
            · exact Or.inl y0
            · exact Or.inr ⟨31, by omega, by omega, by rw [show pi - 1 = pi0 - 1 by omega]; exact q⟩
        · exact Or.inr ⟨30, by omega, by omega, by rw [show pi - 1 = pi0 by omega]; exact a'⟩
      · exact Or.inr ⟨29, by omega, by omega, by rw [show pi - 1 = pib by omega]; exact e'⟩
    have ss := hP fau p c m us nl nc pi w fc fo fa fp fq hT hus hnc hpi hnl hd in1 top1
    dsimp only at ss
    rw [show 403 - i = (402 - i) + 1 by omega, Lp_s, E_w_test_l7.eq_def, if_neg (kn_nltl' (by omega) (by omega))]
    generalize hR : E_w_plain Es Et (nI d) (klw C.2.2.2.1) (nI nl) (nI C.2.2.1) c.1 c.2.1 c.2.2.1 c.2.2.2 C.1 (nI us) fc = R at ss ⊢
    simp only [Lt2, Lt]
    rcases ss with ⟨n1, q', n2, n3⟩ | ⟨p1, c1, m1, us1, nl1, n1, pi1, n2, fc1, fo1, fa1, fp1, fq1, fo2, fa2, e1, e2, e3, e4, e5, e6, e7, e8, e9⟩
    · rw [if_pos n1]
      exact Or.inl ⟨rfl, q', n2, n3⟩
    subst e1
    rw [if_neg (show ¬ (1 : Int32) = 0 by decide)]
    simp only []
    have hL1 := e3.1
    have hO1 := hO.ext (fc' := fc1) (op' := fo2) (ar' := fa2) (fp' := fp1) (fq' := fq1) (fun j _ hj => e7.1 j (by omega)) (fun j _ hj => e7.2 j (by omega)) (fun j _ hj => e5.2.2.1 j (by omega))
    have hA1 := hA.ext (fc' := fc1) (op' := fo2) (ar' := fa2) (fp' := fp1) (fq' := fq1) (fun j _ hj => e7.1 j (by omega)) (fun j _ hj => e7.2 j (by omega)) (fun j _ hj => e5.2.2.1 j (by omega))
    obtain ⟨fcA, faA, l1, l2, l3, l4, l5⟩ := hA1.land e9 (by omega) (by omega) (by omega)
    rw [if_neg (by decide)] at l5
    rw [l1]
    have bus := l2.2.1
    have bnc := l2.2.2.1
    obtain ⟨q, q1, q2, hQ⟩ := tk_next hC e3
    have hqL := hQ.1
    rcases tk_one (k := 5) (c := 1476) (tf := c1.1) (tt := c1.2.1) (ti := c1.2.2.1) (tu := c1.2.2.2) (fr := m1.1) (to := m1.2.1) (so := m1.2.2.1) (wo := m1.2.2.2) (by omega) (by omega) rfl (by decide +kernel) e3 (nI C.2.2.1) with ⟨f0, w1, pl⟩ | ⟨f0, w0⟩
    · -- "and"
      have qp := q2 pl
      rw [pas_p f0]
      simp only []
      rw [if_neg (show ¬ (1 : Int32) = 0 by decide), emit_at (by omega)]
      simp only []
      rw [E_w_test_j88.eq_def, Lt_b, kn_po (by omega), show 402 - i = 403 - (i + 1) by omega]
      have hold : kst 2 n1 pi1 fo1 fa1 fp1 fq1 = (nI n2, nI pib, fo2, faA) := by
        rw [e6 2 (by omega), l5 2 (Nat.le_refl _)]
        refine kst_hold (by omega) (by omega) (Nat.le_refl _) ?_
        rcases pO with a | ⟨a, a'⟩
        · rcases hb with h | h
          · exact Or.inl (by omega)
          · by_cases y0 : pib = 0
            · exact Or.inl y0
            · exact Or.inr (Or.inl (by rw [(e5.2.2.1 (pib - 1) (by omega)).1, show pib - 1 = pi0 - 1 by omega]; exact h))
        · exact Or.inr (Or.inr ⟨by rw [(e5.2.2.1 (pib - 1) (by omega)).1, show pib - 1 = pi0 by omega]; exact a', rfl⟩)
      have bt := bt_and (go := C.2.2.2.2.2.2.2.1) (ga := C.2.2.2.2.2.2.2.2) (ft := C.2.1) (ta := nI C.2.2.1) (fr := m1.1) (to := m1.2.1) (fau := fau) (nl := nI nl1) (opn := nI d) w1 (show pi1 < 1000 by have := e5.2.1; omega) (show pib < 1000 by omega) (show n2 < 1000 by omega) hold
      have g2 : KGo C fau 2 1 p1 m1 n1 nl1 pi1 d fo1 fa1 fp1 fq1 0 3 q (E_v_next (nI C.2.2.1) m1.1 m1.2.1 m1.2.2.1 m1.2.2.2 C.2.1) (n2 + 1) nl1 (pib + 1) d (upd fo2 n2 29) (upd faA n2 0) (upd fp1 pib 29) (upd fq1 pib (nI n2)) :=
        KGo.one (mz_lt qp (by omega) (by omega)) (fun F => by rw [kL_test bt])
      have ff : ∀ j, j < b → upd (upd fcA us1 13) (us1 + 1) 0 j = fc1 j := fun j hj => by rw [upd_n (by omega), upd_n (by omega)]; exact l3 j hj
      have rr : ∀ j, j < y → upd fo2 n2 29 j = fo2 j ∧ upd faA n2 0 j = fa2 j := fun j hj => ⟨upd_n (by omega), by rw [upd_n (by omega)]; exact l4 j hj⟩
      have pp : ∀ j, j < pib → upd fp1 pib 29 j = fp1 j ∧ upd fq1 pib (nI n2) j = fq1 j := fun j hj => ⟨upd_n (by omega), upd_n (by omega)⟩
      have sk : KSk C.2.2.2.1 false (ma + (nl1 - nl)) (nI us1) b (us1 + 2) y (n2 + 1) pib (pib + 1) (upd (upd fcA us1 13) (us1 + 1) 0) (upd fo2 n2 29) (upd faA n2 0) (upd fp1 pib 29) (upd fq1 pib (nI n2)) :=
        Or.inr ⟨us1, n2, rfl, l2.ext (fun j _ hj => by rw [upd_n (by omega), upd_n (by omega)]) (fun j _ hj => ⟨upd_n (by omega), upd_n (by omega)⟩), by rw [upd_n (by omega), upd_s]; rfl, rfl, upd_s, rfl, rfl, upd_s, upd_s, bus, bnc⟩
      have rs := ih q _ _ (us1 + 2) nl1 (n2 + 1) (pib + 1) (i + 1) mo (ma + (nl1 - nl)) so (nI us1) b y pib (upd (upd fcA us1 13) (us1 + 1) 0) (upd fo2 n2 29) (upd faA n2 0) (upd fp1 pib 29) (upd fq1 pib (nI n2)) (by omega) (by omega) hQ (by omega) (by omega) (by omega) e8.2.2.2.1 (hO1.ext (fun j _ hj => ff j hj) (fun j _ hj => rr j hj) (fun j _ hj => pp j hj)) sk (by omega) (hin.up (Nat.le_refl _) (fun j hj => by rw [(pp j (by omega)).1]; exact (e5.2.2.1 j (by omega)).1) (fun j h1 h2 => by omega)) (by
        by_cases y0 : pi0 = 0
        · exact Or.inl y0
        · exact hb.imp id (fun h => by rw [(pp (pi0 - 1) (by omega)).1, (e5.2.2.1 (pi0 - 1) (by omega)).1]; exact h))
      rcases rs with ⟨k1, q', k2, k3⟩ | k
      · exact Or.inl ⟨k1, q', k2, (e4.trans g2).bad k3⟩
      · exact Or.inr (k.from (by omega) (e4.trans g2) (fun j hj => (ff j (by omega)).trans (e7.1 j (by omega))) (fun j hj => ⟨(rr j (by omega)).1.trans (e7.2 j (by omega)).1, (rr j (by omega)).2.trans (e7.2 j (by omega)).2⟩) (fun j hj => ⟨(pp j (by omega)).1.trans (e5.2.2.1 j (by omega)).1, (pp j (by omega)).2.trans (e5.2.2.1 j (by omega)).2⟩))
    · rw [pas_n f0]
      simp only []
      rw [if_pos (by trivial)]
      obtain ⟨fcB, faB, k1, k2, k3, k4, k5⟩ := (hO1.ext (fc' := fcA) (op' := fo2) (ar' := faA) (fp' := fp1) (fq' := fq1) (fun j _ hj => l3 j hj) (fun j _ hj => ⟨rfl, l4 j hj⟩) (fun j _ _ => ⟨rfl, rfl⟩)).land l2 (by omega) (by omega) (by omega)
      rw [if_pos rfl] at k5
      rw [k1]
      have kp : KP 1 n1 pi1 fo1 fa1 n2 pi0 fo2 faB fp1 fq1 := (e6.low (by omega)).trans ((l5.low (by omega)).trans k5)
      have below : ∀ j, j < pi0 → fp1 j = fp j ∧ fq1 j = fq j := fun j hj => e5.2.2.1 j (by omega)
      rcases tk_one (k := 6) (c := 498) (tf := c1.1) (tt := c1.2.1) (ti := c1.2.2.1) (tu := c1.2.2.2) (fr := m1.1) (to := m1.2.1) (so := m1.2.2.1) (wo := m1.2.2.2) (by omega) (by omega) rfl (by decide +kernel) e3 (nI C.2.2.1) with ⟨g0, w1, pl⟩ | ⟨g0, w1⟩
      · -- "or"
        have qp := q2 pl
        rw [pas_p g0]
        simp only []
        rw [if_neg (show ¬ (1 : Int32) = 0 by decide), emit_at (by omega)]
        simp only []
        rw [E_w_test_j88.eq_def, Lt_b, kn_po (by omega), show 402 - i = 403 - (i + 1) by omega]
        have hold : kst 1 n1 pi1 fo1 fa1 fp1 fq1 = (nI n2, nI pi0, fo2, faB) := by
          rw [kp 1 (Nat.le_refl _)]
          refine kst_hold (by omega) (by omega) (by omega) ?_
          by_cases y0 : pi0 = 0
          · exact Or.inl y0
          · rcases hb with h | h
            · exact Or.inl h
            · exact Or.inr (Or.inl (by rw [(below (pi0 - 1) (by omega)).1]; exact h))
        have bt := bt_or (go := C.2.2.2.2.2.2.2.1) (ga := C.2.2.2.2.2.2.2.2) (ft := C.2.1) (ta := nI C.2.2.1) (fr := m1.1) (to := m1.2.1) (fau := fau) (nl := nI nl1) (opn := nI d) w0 w1 (show pi1 < 1000 by have := e5.2.1; omega) (show pi0 < 1000 by omega) (show n2 < 1000 by omega) hold
        have g2 : KGo C fau 2 1 p1 m1 n1 nl1 pi1 d fo1 fa1 fp1 fq1 0 3 q (E_v_next (nI C.2.2.1) m1.1 m1.2.1 m1.2.2.1 m1.2.2.2 C.2.1) (n2 + 1) nl1 (pi0 + 1) d (upd fo2 n2 30) (upd faB n2 0) (upd fp1 pi0 30) (upd fq1 pi0 (nI n2)) :=
          KGo.one (mz_lt qp (by omega) (by omega)) (fun F => by rw [kL_test bt])
        have sk : KSk C.2.2.2.1 true (mo + (ma + (nl1 - nl))) (nI us1) us0 (us1 + 2) nc0 (n2 + 1) pi0 (pi0 + 1) (upd (upd fcB us1 12) (us1 + 1) 0) (upd fo2 n2 30) (upd faB n2 0) (upd fp1 pi0 30) (upd fq1 pi0 (nI n2)) :=
          Or.inr ⟨us1, n2, rfl, k2.ext (fun j _ hj => by rw [upd_n (by omega), upd_n (by omega)]) (fun j _ hj => ⟨upd_n (by omega), upd_n (by omega)⟩), by rw [upd_n (by omega), upd_s]; rfl, rfl, upd_s, rfl, rfl, upd_s, upd_s, by omega, by omega⟩
        have fpb : ∀ j, j < pi0 → upd fp1 pi0 30 j = fp j := fun j hj => by rw [upd_n (by omega)]; exact (below j hj).1
        have rs := ih q _ _ (us1 + 2) nl1 (n2 + 1) (pi0 + 1) (i + 1) (mo + (ma + (nl1 - nl))) 0 (nI us1) (-1) (us1 + 2) (n2 + 1) (pi0 + 1) (upd (upd fcB us1 12) (us1 + 1) 0) (upd fo2 n2 30) (upd faB n2 0) (upd fp1 pi0 30) (upd fq1 pi0 (nI n2)) (by omega) (by omega) hQ (by omega) (by omega) (by omega) e8.2.2.2.1 sk (Or.inl ⟨rfl, rfl, rfl, rfl, rfl⟩) (by omega) (hin.up (Nat.le_refl _) fpb (fun j h1 h2 => by omega)) (by
          by_cases y0 : pi0 = 0
          · exact Or.inl y0
          · exact hb.imp id (fun h => by rw [fpb _ (by omega)]; exact h))
        rcases rs with ⟨j1, q', j2, j3⟩ | k
        · exact Or.inl ⟨j1, q', j2, (e4.trans g2).bad j3⟩
        · exact Or.inr (k.from (by omega) (e4.trans g2) (fun j hj => by rw [upd_n (by omega), upd_n (by omega), k3 j hj, l3 j (by omega)]; exact e7.1 j (by omega)) (fun j hj => ⟨by rw [upd_n (by omega)]; exact (e7.2 j (by omega)).1, by rw [upd_n (by omega), k4 j hj, l4 j (by omega)]; exact (e7.2 j (by omega)).2⟩) (fun j hj => ⟨fpb j hj, by rw [upd_n (by omega)]; exact (below j hj).2⟩))
      · rw [pas_n g0]
        simp only []
        rw [if_pos (by trivial)]
        have k2' : SE C.2.2.2.1 KT_ 1 (nl1 - nl0) fcB us0 us1 fo2 faB nc0 n2 := by
          rw [show mo + (ma + (nl1 - nl)) = nl1 - nl0 by omega] at k2
          exact k2
        refine Or.inr ⟨p1, c1, m1, us1, nl1, n1, pi1, n2, fcB, fo1, fa1, fp1, fq1, fo2, faB, rfl, e2, e3, e4, ⟨by have := e5.1; omega, e5.2.1, below, fun j h1 h2 => ?_⟩, kp, ⟨fun j hj => by rw [k3 j hj, l3 j (by omega)]; exact e7.1 j (by omega), fun j hj => ⟨(e7.2 j (by omega)).1, by rw [k4 j hj, l4 j (by omega)]; exact (e7.2 j (by omega)).2⟩⟩, ⟨by omega, by omega, by omega, e8.2.2.2.1, by omega, by omega, by omega⟩, k2', w0, w1⟩
        by_cases jp : pi ≤ j
        · obtain ⟨o, o1, o2, o3⟩ := e5.2.2.2 j jp h2
          exact ⟨o, o1, by omega, o3⟩
        · have fj := (e5.2.2.1 j (by omega)).1
          rcases pA with e | ⟨e, e'⟩ <;> rcases pO with a | ⟨a, a'⟩
          · omega
          · exact ⟨30, by omega, by omega, by rw [fj, show j = pi0 by omega]; exact a'⟩
          · exact ⟨29, by omega, by omega, by rw [fj, show j = pib by omega]; exact e'⟩
          · by_cases q : j = pi0
            · exact ⟨30, by omega, by omega, by rw [fj, q]; exact a'⟩
            · exact ⟨29, by omega, by omega, by rw [fj, show j = pib by omega]; exact e'⟩
/-- A TEST IS READ ALIKE -/
theorem sim_test {C : KC_} (hC : KCok C) {Es Et : KWf} {d : Nat} (hd : d ≤ 8) (hP : SimPlain C (fun d lw pa ln tf tt ti tu fb us fc => E_w_plain Es Et d lw pa ln tf tt ti tu fb us fc) d) : SimTest C (fun d lw pa ln tf tt ti tu fb us fc => E_w_test Es Et d lw pa ln tf tt ti tu fb us fc) d := by
  intro fau p c m us nl nc pi w fc fo fa fp fq hT hus hnc hpi hnl _ hin hb
  have r := test_loop hC hP hd (fau := fau) (us0 := us) (nl0 := nl) (nc0 := nc) (pi0 := pi) (w := w) (fun _ _ _ _ _ _ _ _ _ _ => ((0, 0, 0, 0, 0, 0, 0, fun _ => 0) : KW8)) 401 p c m us nl nc pi 0 0 0 (-1) (-1) us nc pi fc fo fa fp fq (by omega) (by omega) hT hus hnc hpi hnl (Or.inl ⟨rfl, rfl, rfl, rfl, rfl⟩) (Or.inl ⟨rfl, rfl, rfl, rfl, rfl⟩) rfl hin hb
  dsimp only
  rw [E_w_test.eq_def]
  exact r
