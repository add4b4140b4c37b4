section
/-! "and", "or": skips that wait for their place -/
theorem land_none {us : Int32} {fc : Nat → Int32} : E_w_land (-1) us fc = fc := by
  rw [E_w_land.eq_def, if_pos (by decide), E_w_land_j27.eq_def]
theorem land_at {s us : Nat} {fc : Nat → Int32} (h : s + 1 < 800) : E_w_land (nI s) (nI us) fc = upd fc (s + 1) (nI us) := by
  rw [E_w_land.eq_def, if_neg (kn_nl (by omega)), Lt_b, kn_p1 (by omega), if_neg (kn_nlel (j := 800) rfl (by omega) (by omega)), Lt_b, kn_cl (by omega), Lt_b, E_w_land_j27.eq_def]
/-- what waits: nothing, or a piece read, with a skip behind it -/
noncomputable def KSk (od : Nat) (v : Bool) (m : Nat) (sv : Int32) (a b x y pi pi' : Nat) (fc op ar fp fq : Nat → Int32) : Prop :=
  (sv = -1 ∧ b = a ∧ y = x ∧ pi' = pi ∧ m = 0) ∨ ∃ s xs, sv = nI s ∧ SE od KT_ 1 m fc a s op ar x xs ∧ fc s = (if v then 12 else 13) ∧ b = s + 2 ∧ op xs = (if v then 30 else 29) ∧ y = xs + 1 ∧ pi' = pi + 1 ∧ fp pi = nI (if v then 30 else 29) ∧ fq pi = nI xs ∧ a ≤ s ∧ x ≤ xs
theorem KSk.le {od m a b x y pi pi' : Nat} {v : Bool} {sv : Int32} {fc op ar fp fq : Nat → Int32} (h : KSk od v m sv a b x y pi pi' fc op ar fp fq) : a ≤ b ∧ x ≤ y ∧ pi ≤ pi' := by
  rcases h with ⟨_, h1, h2, h3, _⟩ | ⟨s, xs, _, _, _, h1, _, h2, h3, _, _, h4, h5⟩ <;> omega
theorem KSk.ext {od m a b x y pi pi' : Nat} {v : Bool} {sv : Int32} {fc op ar fp fq fc' op' ar' fp' fq' : Nat → Int32} (h : KSk od v m sv a b x y pi pi' fc op ar fp fq) (h1 : ∀ j, a ≤ j → j < b → fc' j = fc j) (h2 : ∀ j, x ≤ j → j < y → op' j = op j ∧ ar' j = ar j) (h3 : ∀ j, pi ≤ j → j < pi' → fp' j = fp j ∧ fq' j = fq j) : KSk od v m sv a b x y pi pi' fc' op' ar' fp' fq' := by
  rcases h with h | ⟨s, xs, e1, e2, e3, e4, e5, e6, e7, e8, e9, e10, e11⟩
  · exact Or.inl h
  · refine Or.inr ⟨s, xs, e1, e2.ext (fun j p q => h1 j p (by omega)) (fun j p q => h2 j p (by omega)), (h1 s e10 (by omega)).trans e3, e4, (h2 xs e11 (by omega)).1.trans e5, e6, e7, (h3 pi (Nat.le_refl _) (by omega)).1.trans e8, (h3 pi (Nat.le_refl _) (by omega)).2.trans e9, e10, e11⟩
/-- the skip lands -/
theorem KSk.land {od m n a b c x y w pi pi' : Nat} {v : Bool} {sv : Int32} {fc op ar fp fq : Nat → Int32} (h : KSk od v m sv a b x y pi pi' fc op ar fp fq) (h2 : SE od KT_ 1 n fc b c op ar y w) (hc : c ≤ 800) (hw : w ≤ 900) (hp : pi < 900) : ∃ fc' ar', E_w_land sv (nI c) fc = fc' ∧ SE od KT_ 1 (m + n) fc' a c op ar' x w ∧ (∀ j, j < a → fc' j = fc j) ∧ (∀ j, j < x → ar' j = ar j) ∧ KP (if v then 1 else 2) w pi' op ar w pi op ar' fp fq := by
  rcases h with ⟨e1, e2, e3, e4, e5⟩ | ⟨s, xs, e1, e2, e3, e4, e5, e6, e7, e8, e9, e10, e11⟩
  · refine ⟨fc, ar, by rw [e1]; exact land_none, ?_, fun _ _ => rfl, fun _ _ => rfl, ?_⟩
    · rw [e5, Nat.zero_add, ← e2, ← e3]; exact h2
    · rw [e4]; exact KP.rfl
  · have b1 := h2.2.1
    have b2 := h2.2.2.1
    refine ⟨upd fc (s + 1) (nI c), upd ar xs (nI w), by rw [e1]; exact land_at (by omega), ?_, fun j hj => upd_n (by omega), fun j hj => upd_n (by omega), ?_⟩
    · rw [e4, e6] at h2
      refine SE.skip v (e2.ext (fun j _ hj => upd_n (by omega)) (fun j _ hj => ⟨rfl, upd_n (by omega)⟩)) (h2.ext (fun j hj _ => upd_n (by omega)) (fun j hj _ => ⟨rfl, upd_n (by omega)⟩)) (by rw [upd_n (by omega)]; exact e3) upd_s e5 upd_s
    · rw [e7]
      cases v with
      | true => exact KP.land (by omega) (Or.inr rfl) (by decide) e8 e9 (by omega)
      | false => exact KP.land (by omega) (Or.inl rfl) (by decide) e8 e9 (by omega)
/-- where a test was read to -/
noncomputable def KTst (C : KC_) (fau : Int32) (d p : Nat) (m : KM4) (nl nc pi : Nat) (fc fo fa fp fq : Nat → Int32) (us0 nl0 nc0 pi0 w : Nat) (r : KW8) : Prop :=
  ∃ (p' : Nat) (c' : KT4) (m' : KM4) (us' nl' n1 pi1 n2 : Nat) (fc' fo1 fa1 fp1 fq1 fo2 fa2 : Nat → Int32),
    r = (1, nI nl', c'.1, c'.2.1, c'.2.2.1, c'.2.2.2, nI us', fc') ∧ p < p' ∧ TkP C.1 C.2.2.1 p' c' m' ∧
    KGo C fau 0 3 p m nc nl pi d fo fa fp fq 2 1 p' m' n1 nl' pi1 d fo1 fa1 fp1 fq1 ∧
    (pi0 ≤ pi1 ∧ pi1 ≤ p' ∧ (∀ j, j < pi0 → fp1 j = fp j ∧ fq1 j = fq j) ∧ ∀ j, pi0 ≤ j → j < pi1 → ∃ o : Nat, 20 ≤ o ∧ o ≤ 30 ∧ fp1 j = nI o) ∧
    KP 1 n1 pi1 fo1 fa1 n2 pi0 fo2 fa2 fp1 fq1 ∧
    ((∀ j, j < us0 → fc' j = fc j) ∧ ∀ j, j < nc0 → fo2 j = fo j ∧ fa2 j = fa j) ∧
    (us0 ≤ us' ∧ nc0 ≤ n2 ∧ nl0 ≤ nl' ∧ nl' ≤ 50 ∧ us' + 2 * w ≤ 2 * p' ∧ n2 + w ≤ p' ∧ n1 ≤ p') ∧
    SE C.2.2.2.1 KT_ 1 (nl' - nl0) fc' us0 us' fo2 fa2 nc0 n2 ∧ E_v_isWord 1476 m'.2.2.1 m'.2.2.2 = 0 ∧ E_v_isWord 498 m'.2.2.1 m'.2.2.2 = 0
theorem KTst.from {C : KC_} {fau : Int32} {d p nl nc pi p2 nl2 nc2 pi2 us0 nl0 nc0 pi0 w : Nat} {m m2 : KM4} {fc fo fa fp fq fc2 fo2 fa2 fp2 fq2 : Nat → Int32} {r : KW8} (h : KTst C fau d p2 m2 nl2 nc2 pi2 fc2 fo2 fa2 fp2 fq2 us0 nl0 nc0 pi0 w r) (hp : p ≤ p2) (g : KGo C fau 0 3 p m nc nl pi d fo fa fp fq 0 3 p2 m2 nc2 nl2 pi2 d fo2 fa2 fp2 fq2) (h1 : ∀ j, j < us0 → fc2 j = fc j) (h2 : ∀ j, j < nc0 → fo2 j = fo j ∧ fa2 j = fa j) (h3 : ∀ j, j < pi0 → fp2 j = fp j ∧ fq2 j = fq j) : KTst C fau d p m nl nc pi fc fo fa fp fq us0 nl0 nc0 pi0 w r := by
  obtain ⟨p', c', m', us', nl', n1, pi1, n2, fc', fo1, fa1, fp1, fq1, fo3, fa3, e1, e2, e3, e4, e5, e6, e7, e8, e9⟩ := h
  exact ⟨p', c', m', us', nl', n1, pi1, n2, fc', fo1, fa1, fp1, fq1, fo3, fa3, e1, by omega, e3, g.trans e4, ⟨e5.1, e5.2.1, fun j hj => ⟨(e5.2.2.1 j hj).1.trans (h3 j hj).1, (e5.2.2.1 j hj).2.trans (h3 j hj).2⟩, e5.2.2.2⟩, e6, ⟨fun j hj => (e7.1 j hj).trans (h1 j hj), fun j hj => ⟨(e7.2 j hj).1.trans (h2 j hj).1, (e7.2 j hj).2.trans (h2 j hj).2⟩⟩, e8, e9⟩
/-- a pile that holds still at a bracket, or under an "or" -/
theorem kst_hold {l nc pi : Nat} {fo fa fp fq : Nat → Int32} (hp : pi < 900) (hl : 1 ≤ l) (hl2 : l ≤ 2) (h : pi = 0 ∨ fp (pi - 1) = nI 31 ∨ (fp (pi - 1) = nI 30 ∧ l = 2)) : kst l nc pi fo fa fp fq = (nI nc, nI pi, fo, fa) := by
  by_cases z : pi = 0
  · rw [z]; exact kst_0
  · rcases h with h | h | ⟨h, h'⟩
    · exact absurd h z
    · have := kst_stop (nc := nc) (fo := fo) (fa := fa) (fq := fq) (l := l) (pi := pi - 1) (o := 31) (by omega) (by omega) (by omega) h (by rw [show kbd 31 = 0 from rfl]; omega)
      rw [show pi - 1 + 1 = pi by omega] at this
      exact this
    · have := kst_stop (nc := nc) (fo := fo) (fa := fa) (fq := fq) (l := l) (pi := pi - 1) (o := 30) (by omega) (by omega) (by omega) h (by rw [show kbd 30 = 1 from rfl]; omega)
      rw [show pi - 1 + 1 = pi by omega] at this
      exact this
end
section
/-! a whole test -/
theorem KSk.pile {od m a b x y pi pi' : Nat} {v : Bool} {sv : Int32} {fc op ar fp fq : Nat → Int32} (h : KSk od v m sv a b x y pi pi' fc op ar fp fq) : pi' = pi ∨ (pi' = pi + 1 ∧ fp pi = nI (if v then 30 else 29)) := by
  rcases h with ⟨_, _, _, h3, _⟩ | ⟨s, xs, _, _, _, _, _, _, h3, h4, _⟩
  · exact Or.inl h3
  · exact Or.inr ⟨h3, h4⟩
theorem test_loop {C : KC_} (hC : KCok C) {Es Et : KWf} {d : Nat} (hP : SimPlain C (fun d lw pa ln tf tt ti tu fb us fc => E_w_plain Es Et d lw pa ln tf tt ti tu fb us fc) d) (hd : d ≤ 8) {fau : Int32} {us0 nl0 nc0 pi0 w : Nat} (z : Int32 → Int32 → Int32 → Int32 → Int32 → Int32 → Int32 → Int32 → Int32 → (Nat → Int32) → KW8) : ∀ (n p : Nat) (c : KT4) (m : KM4) (us nl nc pi i mo ma : Nat) (so sa : Int32) (b y pib : Nat) (fc fo fa fp fq : Nat → Int32), 401 - p ≤ n → i ≤ p → TkP C.1 C.2.2.1 p c m → us + 2 * w ≤ 2 * p → nc + w ≤ p → pi ≤ p → nl ≤ 50 →
    KSk C.2.2.2.1 true mo so us0 b nc0 y pi0 pib fc fo fa fp fq → KSk C.2.2.2.1 false ma sa b us y nc pib pi fc fo fa fp fq → nl = nl0 + mo + ma → KIn C fp pi0 → (pi0 = 0 ∨ fp (pi0 - 1) = nI 31) →
    KNot C fau 0 d p m nl nc pi fo fa fp fq (Lp (E_w_test_l7 Es Et (nI d) (klw C.2.2.2.1) (nI C.2.2.1) C.1) z (403 - i) (nI i) so sa (nI nl) c.1 c.2.1 c.2.2.1 c.2.2.2 (nI us) fc) ∨
    KTst C fau d p m nl nc pi fc fo fa fp fq us0 nl0 nc0 pi0 w (Lp (E_w_test_l7 Es Et (nI d) (klw C.2.2.2.1) (nI C.2.2.1) C.1) z (403 - i) (nI i) so sa (nI nl) c.1 c.2.1 c.2.2.1 c.2.2.2 (nI us) fc) := by
  intro n
  induction n with
  | zero => intro p c m us nl nc pi i mo ma so sa b y pib fc fo fa fp fq hn _ hT; have := hT.1; have := hT.2.1; omega
  | succ n ih =>
    intro p c m us nl nc pi i mo ma so sa b y pib fc fo fa fp fq hn hi hT hus hnc hpi hnl hO hA hm hin hb
    have hL := hT.2.1
    have hpL := hT.1
    have oL := hO.le
    have aL := hA.le
    have pO := hO.pile
    have pA := hA.pile
    simp only [if_true] at pO
    rw [if_neg (by decide)] at pA
    have in1 : KIn C fp pi := hin.up (by omega) (fun _ _ => rfl) (fun j h1 h2 => by
      rcases pO with a | ⟨a, a'⟩ <;> rcases pA with e | ⟨e, e'⟩
      · omega
      · exact ⟨29, by omega, by rw [show j = pib by omega]; exact e'⟩
      · exact ⟨30, by omega, by rw [show j = pi0 by omega]; exact a'⟩
      · by_cases q : j = pi0
        · exact ⟨30, by omega, by rw [q]; exact a'⟩
        · exact ⟨29, by omega, by rw [show j = pib by omega]; exact e'⟩)
    have top1 : KTop2 fp pi := by
      rcases pA with e | ⟨e, e'⟩
      · rcases pO with a | ⟨a, a'⟩
        · rcases hb with q | q
          · exact Or.inl (by omega)
          · by_cases y0 : pi = 0
            · exact Or.inl y0
            · exact Or.inr ⟨31, by omega, by omega, by rw [show pi - 1 = pi0 - 1 by omega]; exact q⟩
        · exact Or.inr ⟨30, by omega, by omega, by rw [show pi - 1 = pi0 by omega]; exact a'⟩
      · exact Or.inr ⟨29, by omega, by omega, by rw [show pi - 1 = pib by omega]; exact e'⟩
    have ss := hP fau p c m us nl nc pi w fc fo fa fp fq hT hus hnc hpi hnl hd in1 top1
    dsimp only at ss
    rw [show 403 - i = (402 - i) + 1 by omega, Lp_s, E_w_test_l7.eq_def, if_neg (kn_nltl' (by omega) (by omega))]
    generalize hR : E_w_plain Es Et (nI d) (klw C.2.2.2.1) (nI nl) (nI C.2.2.1) c.1 c.2.1 c.2.2.1 c.2.2.2 C.1 (nI us) fc = R at ss ⊢
    simp only [Lt2, Lt]
    rcases ss with ⟨n1, q', n2, n3⟩ | ⟨p1, c1, m1, us1, nl1, n1, pi1, n2, fc1, fo1, fa1, fp1, fq1, fo2, fa2, e1, e2, e3, e4, e5, e6, e7, e8, e9⟩
    · rw [if_pos n1]
      exact Or.inl ⟨rfl, q', n2, n3⟩
    subst e1
    rw [if_neg (show ¬ (1 : Int32) = 0 by decide)]
    simp only []
    have hL1 := e3.1
    have hO1 := hO.ext (fc' := fc1) (op' := fo2) (ar' := fa2) (fp' := fp1) (fq' := fq1) (fun j _ hj => e7.1 j (by omega)) (fun j _ hj => e7.2 j (by omega)) (fun j _ hj => e5.2.2.1 j (by omega))
    have hA1 := hA.ext (fc' := fc1) (op' := fo2) (ar' := fa2) (fp' := fp1) (fq' := fq1) (fun j _ hj => e7.1 j (by omega)) (fun j _ hj => e7.2 j (by omega)) (fun j _ hj => e5.2.2.1 j (by omega))
    obtain ⟨fcA, faA, l1, l2, l3, l4, l5⟩ := hA1.land e9 (by omega) (by omega) (by omega)
    rw [if_neg (by decide)] at l5
    rw [l1]
    have bus := l2.2.1
    have bnc := l2.2.2.1
    obtain ⟨q, q1, q2, hQ⟩ := tk_next hC e3
    have hqL := hQ.1
    rcases tk_one (k := 5) (c := 1476) (tf := c1.1) (tt := c1.2.1) (ti := c1.2.2.1) (tu := c1.2.2.2) (fr := m1.1) (to := m1.2.1) (so := m1.2.2.1) (wo := m1.2.2.2) (by omega) (by omega) rfl (by decide +kernel) e3 (nI C.2.2.1) with ⟨f0, w1, pl⟩ | ⟨f0, w0⟩
    · -- "and"
      have qp := q2 pl
      rw [pas_p f0]
      simp only []
      rw [if_neg (show ¬ (1 : Int32) = 0 by decide), emit_at (by omega)]
      simp only []
      rw [E_w_test_j88.eq_def, Lt_b, kn_po (by omega), show 402 - i = 403 - (i + 1) by omega]
      have hold : kst 2 n1 pi1 fo1 fa1 fp1 fq1 = (nI n2, nI pib, fo2, faA) := by
        rw [e6 2 (by omega), l5 2 (Nat.le_refl _)]
        refine kst_hold (by omega) (by omega) (Nat.le_refl _) ?_
        rcases pO with a | ⟨a, a'⟩
        · rcases hb with h | h
          · exact Or.inl (by omega)
          · by_cases y0 : pib = 0
            · exact Or.inl y0
            · exact Or.inr (Or.inl (by rw [(e5.2.2.1 (pib - 1) (by omega)).1, show pib - 1 = pi0 - 1 by omega]; exact h))
        · exact Or.inr (Or.inr ⟨by rw [(e5.2.2.1 (pib - 1) (by omega)).1, show pib - 1 = pi0 by omega]; exact a', rfl⟩)
      have bt := bt_and (go := C.2.2.2.2.2.2.2.1) (ga := C.2.2.2.2.2.2.2.2) (ft := C.2.1) (ta := nI C.2.2.1) (fr := m1.1) (to := m1.2.1) (fau := fau) (nl := nI nl1) (opn := nI d) w1 (show pi1 < 1000 by have := e5.2.1; omega) (show pib < 1000 by omega) (show n2 < 1000 by omega) hold
      have g2 : KGo C fau 2 1 p1 m1 n1 nl1 pi1 d fo1 fa1 fp1 fq1 0 3 q (E_v_next (nI C.2.2.1) m1.1 m1.2.1 m1.2.2.1 m1.2.2.2 C.2.1) (n2 + 1) nl1 (pib + 1) d (upd fo2 n2 29) (upd faA n2 0) (upd fp1 pib 29) (upd fq1 pib (nI n2)) :=
        KGo.one (mz_lt qp (by omega) (by omega)) (fun F => by rw [kL_test bt])
      have ff : ∀ j, j < b → upd (upd fcA us1 13) (us1 + 1) 0 j = fc1 j := fun j hj => by rw [upd_n (by omega), upd_n (by omega)]; exact l3 j hj
      have rr : ∀ j, j < y → upd fo2 n2 29 j = fo2 j ∧ upd faA n2 0 j = fa2 j := fun j hj => ⟨upd_n (by omega), by rw [upd_n (by omega)]; exact l4 j hj⟩
      have pp : ∀ j, j < pib → upd fp1 pib 29 j = fp1 j ∧ upd fq1 pib (nI n2) j = fq1 j := fun j hj => ⟨upd_n (by omega), upd_n (by omega)⟩
      have sk : KSk C.2.2.2.1 false (ma + (nl1 - nl)) (nI us1) b (us1 + 2) y (n2 + 1) pib (pib + 1) (upd (upd fcA us1 13) (us1 + 1) 0) (upd fo2 n2 29) (upd faA n2 0) (upd fp1 pib 29) (upd fq1 pib (nI n2)) :=
        Or.inr ⟨us1, n2, rfl, l2.ext (fun j _ hj => by rw [upd_n (by omega), upd_n (by omega)]) (fun j _ hj => ⟨upd_n (by omega), upd_n (by omega)⟩), by rw [upd_n (by omega), upd_s]; rfl, rfl, upd_s, rfl, rfl, upd_s, upd_s, bus, bnc⟩
      have rs := ih q _ _ (us1 + 2) nl1 (n2 + 1) (pib + 1) (i + 1) mo (ma + (nl1 - nl)) so (nI us1) b y pib (upd (upd fcA us1 13) (us1 + 1) 0) (upd fo2 n2 29) (upd faA n2 0) (upd fp1 pib 29) (upd fq1 pib (nI n2)) (by omega) (by omega) hQ (by omega) (by omega) (by omega) e8.2.2.2.1 (hO1.ext (fun j _ hj => ff j hj) (fun j _ hj => rr j hj) (fun j _ hj => pp j hj)) sk (by omega) (hin.up (Nat.le_refl _) (fun j hj => by rw [(pp j (by omega)).1]; exact (e5.2.2.1 j (by omega)).1) (fun j h1 h2 => by omega)) (by
        by_cases y0 : pi0 = 0
        · exact Or.inl y0
        · exact hb.imp id (fun h => by rw [(pp (pi0 - 1) (by omega)).1, (e5.2.2.1 (pi0 - 1) (by omega)).1]; exact h))
      rcases rs with ⟨k1, q', k2, k3⟩ | k
      · exact Or.inl ⟨k1, q', k2, (e4.trans g2).bad k3⟩
      · exact Or.inr (k.from (by omega) (e4.trans g2) (fun j hj => (ff j (by omega)).trans (e7.1 j (by omega))) (fun j hj => ⟨(rr j (by omega)).1.trans (e7.2 j (by omega)).1, (rr j (by omega)).2.trans (e7.2 j (by omega)).2⟩) (fun j hj => ⟨(pp j (by omega)).1.trans (e5.2.2.1 j (by omega)).1, (pp j (by omega)).2.trans (e5.2.2.1 j (by omega)).2⟩))
    · rw [pas_n f0]
      simp only []
      rw [if_pos (by trivial)]
      obtain ⟨fcB, faB, k1, k2, k3, k4, k5⟩ := (hO1.ext (fc' := fcA) (op' := fo2) (ar' := faA) (fp' := fp1) (fq' := fq1) (fun j _ hj => l3 j hj) (fun j _ hj => ⟨rfl, l4 j hj⟩) (fun j _ _ => ⟨rfl, rfl⟩)).land l2 (by omega) (by omega) (by omega)
      rw [if_pos rfl] at k5
      rw [k1]
      have kp : KP 1 n1 pi1 fo1 fa1 n2 pi0 fo2 faB fp1 fq1 := (e6.low (by omega)).trans ((l5.low (by omega)).trans k5)
      have below : ∀ j, j < pi0 → fp1 j = fp j ∧ fq1 j = fq j := fun j hj => e5.2.2.1 j (by omega)
      rcases tk_one (k := 6) (c := 498) (tf := c1.1) (tt := c1.2.1) (ti := c1.2.2.1) (tu := c1.2.2.2) (fr := m1.1) (to := m1.2.1) (so := m1.2.2.1) (wo := m1.2.2.2) (by omega) (by omega) rfl (by decide +kernel) e3 (nI C.2.2.1) with ⟨g0, w1, pl⟩ | ⟨g0, w1⟩
      · -- "or"
        have qp := q2 pl
        rw [pas_p g0]
        simp only []
        rw [if_neg (show ¬ (1 : Int32) = 0 by decide), emit_at (by omega)]
        simp only []
        rw [E_w_test_j88.eq_def, Lt_b, kn_po (by omega), show 402 - i = 403 - (i + 1) by omega]
        have hold : kst 1 n1 pi1 fo1 fa1 fp1 fq1 = (nI n2, nI pi0, fo2, faB) := by
          rw [kp 1 (Nat.le_refl _)]
          refine kst_hold (by omega) (by omega) (by omega) ?_
          by_cases y0 : pi0 = 0
          · exact Or.inl y0
          · rcases hb with h | h
            · exact Or.inl h
            · exact Or.inr (Or.inl (by rw [(below (pi0 - 1) (by omega)).1]; exact h))
        have bt := bt_or (go := C.2.2.2.2.2.2.2.1) (ga := C.2.2.2.2.2.2.2.2) (ft := C.2.1) (ta := nI C.2.2.1) (fr := m1.1) (to := m1.2.1) (fau := fau) (nl := nI nl1) (opn := nI d) w0 w1 (show pi1 < 1000 by have := e5.2.1; omega) (show pi0 < 1000 by omega) (show n2 < 1000 by omega) hold
        have g2 : KGo C fau 2 1 p1 m1 n1 nl1 pi1 d fo1 fa1 fp1 fq1 0 3 q (E_v_next (nI C.2.2.1) m1.1 m1.2.1 m1.2.2.1 m1.2.2.2 C.2.1) (n2 + 1) nl1 (pi0 + 1) d (upd fo2 n2 30) (upd faB n2 0) (upd fp1 pi0 30) (upd fq1 pi0 (nI n2)) :=
          KGo.one (mz_lt qp (by omega) (by omega)) (fun F => by rw [kL_test bt])
        have sk : KSk C.2.2.2.1 true (mo + (ma + (nl1 - nl))) (nI us1) us0 (us1 + 2) nc0 (n2 + 1) pi0 (pi0 + 1) (upd (upd fcB us1 12) (us1 + 1) 0) (upd fo2 n2 30) (upd faB n2 0) (upd fp1 pi0 30) (upd fq1 pi0 (nI n2)) :=
          Or.inr ⟨us1, n2, rfl, k2.ext (fun j _ hj => by rw [upd_n (by omega), upd_n (by omega)]) (fun j _ hj => ⟨upd_n (by omega), upd_n (by omega)⟩), by rw [upd_n (by omega), upd_s]; rfl, rfl, upd_s, rfl, rfl, upd_s, upd_s, by omega, by omega⟩
        have fpb : ∀ j, j < pi0 → upd fp1 pi0 30 j = fp j := fun j hj => by rw [upd_n (by omega)]; exact (below j hj).1
        have rs := ih q _ _ (us1 + 2) nl1 (n2 + 1) (pi0 + 1) (i + 1) (mo + (ma + (nl1 - nl))) 0 (nI us1) (-1) (us1 + 2) (n2 + 1) (pi0 + 1) (upd (upd fcB us1 12) (us1 + 1) 0) (upd fo2 n2 30) (upd faB n2 0) (upd fp1 pi0 30) (upd fq1 pi0 (nI n2)) (by omega) (by omega) hQ (by omega) (by omega) (by omega) e8.2.2.2.1 sk (Or.inl ⟨rfl, rfl, rfl, rfl, rfl⟩) (by omega) (hin.up (Nat.le_refl _) fpb (fun j h1 h2 => by omega)) (by
          by_cases y0 : pi0 = 0
          · exact Or.inl y0
          · exact hb.imp id (fun h => by rw [fpb _ (by omega)]; exact h))
        rcases rs with ⟨j1, q', j2, j3⟩ | k
        · exact Or.inl ⟨j1, q', j2, (e4.trans g2).bad j3⟩
        · exact Or.inr (k.from (by omega) (e4.trans g2) (fun j hj => by rw [upd_n (by omega), upd_n (by omega), k3 j hj, l3 j (by omega)]; exact e7.1 j (by omega)) (fun j hj => ⟨by rw [upd_n (by omega)]; exact (e7.2 j (by omega)).1, by rw [upd_n (by omega), k4 j hj, l4 j (by omega)]; exact (e7.2 j (by omega)).2⟩) (fun j hj => ⟨fpb j hj, by rw [upd_n (by omega)]; exact (below j hj).2⟩))
      · rw [pas_n g0]
        simp only []
        rw [if_pos (by trivial)]
        have k2' : SE C.2.2.2.1 KT_ 1 (nl1 - nl0) fcB us0 us1 fo2 faB nc0 n2 := by
          rw [show mo + (ma + (nl1 - nl)) = nl1 - nl0 by omega] at k2
          exact k2
        refine Or.inr ⟨p1, c1, m1, us1, nl1, n1, pi1, n2, fcB, fo1, fa1, fp1, fq1, fo2, faB, rfl, e2, e3, e4, ⟨by have := e5.1; omega, e5.2.1, below, fun j h1 h2 => ?_⟩, kp, ⟨fun j hj => by rw [k3 j hj, l3 j (by omega)]; exact e7.1 j (by omega), fun j hj => ⟨(e7.2 j (by omega)).1, by rw [k4 j hj, l4 j (by omega)]; exact (e7.2 j (by omega)).2⟩⟩, ⟨by omega, by omega, by omega, e8.2.2.2.1, by omega, by omega, by omega⟩, k2', w0, w1⟩
        by_cases jp : pi ≤ j
        · obtain ⟨o, o1, o2, o3⟩ := e5.2.2.2 j jp h2
          exact ⟨o, o1, by omega, o3⟩
        · have fj := (e5.2.2.1 j (by omega)).1
          rcases pA with e | ⟨e, e'⟩ <;> rcases pO with a | ⟨a, a'⟩
          · omega
          · exact ⟨30, by omega, by omega, by rw [fj, show j = pi0 by omega]; exact a'⟩
          · exact ⟨29, by omega, by omega, by rw [fj, show j = pib by omega]; exact e'⟩
          · by_cases q : j = pi0
            · exact ⟨30, by omega, by omega, by rw [fj, q]; exact a'⟩
            · exact ⟨29, by omega, by omega, by rw [fj, show j = pib by omega]; exact e'⟩
/-- A TEST IS READ ALIKE -/
theorem sim_test {C : KC_} (hC : KCok C) {Es Et : KWf} {d : Nat} (hd : d ≤ 8) (hP : SimPlain C (fun d lw pa ln tf tt ti tu fb us fc => E_w_plain Es Et d lw pa ln tf tt ti tu fb us fc) d) : SimTest C (fun d lw pa ln tf tt ti tu fb us fc => E_w_test Es Et d lw pa ln tf tt ti tu fb us fc) d := by
  intro fau p c m us nl nc pi w fc fo fa fp fq hT hus hnc hpi hnl _ hin hb
  have r := test_loop hC hP hd (fau := fau) (us0 := us) (nl0 := nl) (nc0 := nc) (pi0 := pi) (w := w) (fun _ _ _ _ _ _ _ _ _ _ => ((0, 0, 0, 0, 0, 0, 0, fun _ => 0) : KW8)) 401 p c m us nl nc pi 0 0 0 (-1) (-1) us nc pi fc fo fa fp fq (by omega) (by omega) hT hus hnc hpi hnl (Or.inl ⟨rfl, rfl, rfl, rfl, rfl⟩) (Or.inl ⟨rfl, rfl, rfl, rfl, rfl⟩) rfl hin hb
  dsimp only
  rw [E_w_test.eq_def]
  exact r
end
section
/-! sums and tests of every depth -/
theorem ss_8 {C : KC_} (hC : KCok C) : SimSum C E_sum_8 8 := sim_sum hC (sim_part hC (fun h => absurd h (by decide)))
theorem st_8 {C : KC_} (hC : KCok C) : SimTest C E_test_8 8 := sim_test hC (by decide) (sim_plain hC (ss_8 hC) (fun h => absurd h (by decide)))
theorem ss_7 {C : KC_} (hC : KCok C) : SimSum C E_sum_7 7 := sim_sum hC (sim_part hC (fun _ => ss_8 hC))
theorem st_7 {C : KC_} (hC : KCok C) : SimTest C E_test_7 7 := sim_test hC (by decide) (sim_plain hC (ss_7 hC) (fun _ => st_8 hC))
theorem ss_6 {C : KC_} (hC : KCok C) : SimSum C E_sum_6 6 := sim_sum hC (sim_part hC (fun _ => ss_7 hC))
theorem st_6 {C : KC_} (hC : KCok C) : SimTest C E_test_6 6 := sim_test hC (by decide) (sim_plain hC (ss_6 hC) (fun _ => st_7 hC))
theorem ss_5 {C : KC_} (hC : KCok C) : SimSum C E_sum_5 5 := sim_sum hC (sim_part hC (fun _ => ss_6 hC))
theorem st_5 {C : KC_} (hC : KCok C) : SimTest C E_test_5 5 := sim_test hC (by decide) (sim_plain hC (ss_5 hC) (fun _ => st_6 hC))
theorem ss_4 {C : KC_} (hC : KCok C) : SimSum C E_sum_4 4 := sim_sum hC (sim_part hC (fun _ => ss_5 hC))
theorem st_4 {C : KC_} (hC : KCok C) : SimTest C E_test_4 4 := sim_test hC (by decide) (sim_plain hC (ss_4 hC) (fun _ => st_5 hC))
theorem ss_3 {C : KC_} (hC : KCok C) : SimSum C E_sum_3 3 := sim_sum hC (sim_part hC (fun _ => ss_4 hC))
theorem st_3 {C : KC_} (hC : KCok C) : SimTest C E_test_3 3 := sim_test hC (by decide) (sim_plain hC (ss_3 hC) (fun _ => st_4 hC))
theorem ss_2 {C : KC_} (hC : KCok C) : SimSum C E_sum_2 2 := sim_sum hC (sim_part hC (fun _ => ss_3 hC))
theorem st_2 {C : KC_} (hC : KCok C) : SimTest C E_test_2 2 := sim_test hC (by decide) (sim_plain hC (ss_2 hC) (fun _ => st_3 hC))
theorem ss_1 {C : KC_} (hC : KCok C) : SimSum C E_sum_1 1 := sim_sum hC (sim_part hC (fun _ => ss_2 hC))
theorem st_1 {C : KC_} (hC : KCok C) : SimTest C E_test_1 1 := sim_test hC (by decide) (sim_plain hC (ss_1 hC) (fun _ => st_2 hC))
theorem ss_0 {C : KC_} (hC : KCok C) : SimSum C E_sum_0 0 := sim_sum hC (sim_part hC (fun _ => ss_1 hC))
theorem st_0 {C : KC_} (hC : KCok C) : SimTest C E_test_0 0 := sim_test hC (by decide) (sim_plain hC (ss_0 hC) (fun _ => st_1 hC))
/-! an expression of its own -/
theorem kL_end {C : KC_} {F : Nat} {fr to so fau nl opn : Int32} {wo : Int64} {nc pi nc' pi' : Nat} {fo fa fp fq fo' fa' : Nat → Int32} (hp : pi < 1000) (hk : kst 1 nc pi fo fa fp fq = (nI nc', nI pi', fo', fa')) : kL C (F + 1) 4 fr to so wo fau 0 (nI nc) nl (nI pi) opn fo fa fp fq = (fr, to, so, wo, fau, 0, nI nc', nl, nI pi', opn, fo', fa', fp, fq) := by
  have stl : E_v_settle C.2.2.2.2.2.2.2.1 C.2.2.2.2.2.2.2.2 1 (nI nc) (nI pi) fo fa fp fq = (nI nc', nI pi', fo', fa') := (settle_at (l := 1) (by omega)).trans hk
  unfold kL
  rw [Lp_s, E_v_readExpression_l20.eq_def, if_pos rfl, if_pos rfl, stl]
  rfl
noncomputable def KExp (C : KC_) (P : Int → Prop) (fau : Int32) (p us nl nc w : Nat) (fc fo fa : Nat → Int32) (r : KW8) (R : KR14) : Prop :=
  (r.1 = 0 ∧ ∃ q : Nat, r.2.2.1 = nI q ∧ R.2.2.2.2.1 = nI q ∧ R.2.2.2.2.2.1 = 1) ∨
  ∃ (p' : Nat) (c' : KT4) (m' : KM4) (us' nl' n2 : Nat) (fc' fo2 fa2 fp2 fq2 : Nat → Int32), r = (1, nI nl', c'.1, c'.2.1, c'.2.2.1, c'.2.2.2, nI us', fc') ∧ p < p' ∧ TkP C.1 C.2.2.1 p' c' m' ∧
    R = (m'.1, m'.2.1, m'.2.2.1, m'.2.2.2, fau, 0, nI n2, nI nl', nI 0, nI 0, fo2, fa2, fp2, fq2) ∧ (∀ j, j < us → fc' j = fc j) ∧ (∀ j, j < nc → fo2 j = fo j ∧ fa2 j = fa j) ∧
    (us ≤ us' ∧ nc ≤ n2 ∧ nl ≤ nl' ∧ nl' ≤ 50 ∧ us' + 2 * w ≤ 2 * p' ∧ n2 + w ≤ p') ∧ SE C.2.2.2.1 P 1 (nl' - nl) fc' us us' fo2 fa2 nc n2
theorem exp_sum {C : KC_} (hC : KCok C) (hx : C.2.2.2.2.2.2.1 = 0) {fau pi0 op0 : Int32} {p us nl nc w : Nat} {c : KT4} {m : KM4} {fc fp fq : Nat → Int32} (hT : TkP C.1 C.2.2.1 p c m) (hus : us + 2 * w ≤ 2 * p) (hnc : nc + w ≤ p) (hnl : nl ≤ 50) : KExp C KA_ fau p us nl nc w fc C.2.2.2.2.2.2.2.1 C.2.2.2.2.2.2.2.2 (E_sum_0 0 (klw C.2.2.2.1) (nI nl) (nI C.2.2.1) c.1 c.2.1 c.2.2.1 c.2.2.2 C.1 (nI us) fc) (E_v_readExpression 0 (nI C.2.2.1) m.1 m.2.1 m.2.2.1 m.2.2.2 fau 0 (kod C.2.2.2.1) (nI nc) (nI nl) pi0 op0 C.2.1 C.2.2.2.2.2.2.2.1 C.2.2.2.2.2.2.2.2 fp fq C.2.2.2.2.1 C.2.2.2.2.2.1) := by
  have hL := hT.2.1
  have hpL := hT.1
  have fr := TkP.froms (tf := c.1) (tt := c.2.1) (ti := c.2.2.1) (tu := c.2.2.2) (fr := m.1) (to := m.2.1) (so := m.2.2.1) (wo := m.2.2.2) hT
  have z0 : (0 : Int32).toInt = 0 := rfl
  have z1 : (1 : Int32).toInt = 1 := rfl
  have e : E_v_readExpression 0 (nI C.2.2.1) m.1 m.2.1 m.2.2.1 m.2.2.2 fau 0 (kod C.2.2.2.1) (nI nc) (nI nl) pi0 op0 C.2.1 C.2.2.2.2.2.2.2.1 C.2.2.2.2.2.2.2.2 fp fq C.2.2.2.2.1 C.2.2.2.2.2.1 = kL C (mz p 3 + 1) 1 m.1 m.2.1 m.2.2.1 m.2.2.2 fau 0 (nI nc) (nI nl) (nI 0) (nI 0) C.2.2.2.2.2.2.2.1 C.2.2.2.2.2.2.2.2 fp fq := by
    rw [E_v_readExpression.eq_def, if_pos rfl, show (8 * (401 - (m.1 : Int32).toInt) + 4 * (1 - (0 : Int32).toInt) + (if (1 : Int32).toInt = 4 then 0 else if (1 : Int32).toInt = 2 then 1 else if (1 : Int32).toInt = 3 then 2 else 3) : Int).toNat + 1 = mz p 3 + 1 by
      rw [fr.2.1, nI_toInt (by omega), z0, z1, if_neg (by decide), if_neg (by decide), if_neg (by decide)]; unfold mz; omega]
    unfold kL
    rw [hx]
    rfl
  rw [e]
  have ss := ss_0 hC fau p c m us nl nc 0 w fc C.2.2.2.2.2.2.2.1 C.2.2.2.2.2.2.2.2 fp fq hT hus hnc (Nat.zero_le _) hnl (by omega) (Or.inl rfl)
  rw [show nI 0 = (0 : Int32) from rfl] at ss
  rcases ss with ⟨n1, q', n2, n3⟩ | ⟨⟨p', c', m', us', nl', k1, pi1, k2, fc', fo1, fa1, fp2, fq2, fo2, fa2, e1, e2, e3, e4, e5, e6, e7, e8, e9⟩, nsg⟩
  · obtain ⟨r, r1, r2, r3⟩ := n3 (mz p 3 + 1) (by omega)
    exact Or.inl ⟨n1, q', n2, (congrArg (fun x : KR14 => x.2.2.2.2.1) r1).trans r2, (congrArg (fun x : KR14 => x.2.2.2.2.2.1) r1).trans r3⟩
  · rw [e1] at nsg
    have nsg : ¬ KSg c'.2.2.1 := nsg
    have hp1 := e5.2.1
    have hL' := e3.1
    have inn : E_v_inner (nI pi1) fp2 = -1 := inner_none (by omega) (fun j hj => by
      obtain ⟨o, o1, o2, o3⟩ := e5.2.2.2 j (by omega) hj
      exact ⟨o, by omega, o3⟩)
    obtain ⟨F', f1, f2⟩ := e4 (mz p 3 + 1) (by omega)
    have f3 : 2 ≤ F' := by unfold mz at f1; omega
    have bo := bs_over (go := C.2.2.2.2.2.2.2.1) (ga := C.2.2.2.2.2.2.2.2) (ft := C.2.1) (fo := fo1) (fa := fa1) (fq := fq2) (x := C.2.2.2.2.2.2.1) (ta := nI C.2.2.1) (fr := m'.1) (to := m'.2.1) (fau := fau) (nc := nI k1) (nl := nI nl') (opn := nI 0) (nsg_at e3 nsg) inn hx
    refine Or.inr ⟨p', c', m', us', nl', k2, fc', fo2, fa2, fp2, fq2, e1, e2, e3, ?_, e7.1, e7.2, ⟨e8.1, e8.2.1, e8.2.2.1, e8.2.2.2.1, e8.2.2.2.2.1, e8.2.2.2.2.2.1⟩, e9⟩
    rw [f2, show F' = F' - 2 + 1 + 1 by omega, kL_sum bo]
    exact kL_end (by omega) ((e6 1 (by omega)).trans kst_0)
theorem exp_test {C : KC_} (hC : KCok C) (hx : C.2.2.2.2.2.2.1 = 1) {fau pi0 op0 : Int32} {p us nl nc w : Nat} {c : KT4} {m : KM4} {fc fp fq : Nat → Int32} (hT : TkP C.1 C.2.2.1 p c m) (hus : us + 2 * w ≤ 2 * p) (hnc : nc + w ≤ p) (hnl : nl ≤ 50) : KExp C KT_ fau p us nl nc w fc C.2.2.2.2.2.2.2.1 C.2.2.2.2.2.2.2.2 (E_test_0 0 (klw C.2.2.2.1) (nI nl) (nI C.2.2.1) c.1 c.2.1 c.2.2.1 c.2.2.2 C.1 (nI us) fc) (E_v_readExpression 1 (nI C.2.2.1) m.1 m.2.1 m.2.2.1 m.2.2.2 fau 0 (kod C.2.2.2.1) (nI nc) (nI nl) pi0 op0 C.2.1 C.2.2.2.2.2.2.2.1 C.2.2.2.2.2.2.2.2 fp fq C.2.2.2.2.1 C.2.2.2.2.2.1) := by
  have hL := hT.2.1
  have hpL := hT.1
  have fr := TkP.froms (tf := c.1) (tt := c.2.1) (ti := c.2.2.1) (tu := c.2.2.2) (fr := m.1) (to := m.2.1) (so := m.2.2.1) (wo := m.2.2.2) hT
  have z0 : (0 : Int32).toInt = 0 := rfl
  have e : E_v_readExpression 1 (nI C.2.2.1) m.1 m.2.1 m.2.2.1 m.2.2.2 fau 0 (kod C.2.2.2.1) (nI nc) (nI nl) pi0 op0 C.2.1 C.2.2.2.2.2.2.2.1 C.2.2.2.2.2.2.2.2 fp fq C.2.2.2.2.1 C.2.2.2.2.2.1 = kL C (mz p 3 + 1) 0 m.1 m.2.1 m.2.2.1 m.2.2.2 fau 0 (nI nc) (nI nl) (nI 0) (nI 0) C.2.2.2.2.2.2.2.1 C.2.2.2.2.2.2.2.2 fp fq := by
    rw [E_v_readExpression.eq_def, if_neg (by decide), show (8 * (401 - (m.1 : Int32).toInt) + 4 * (1 - (0 : Int32).toInt) + (if (0 : Int32).toInt = 4 then 0 else if (0 : Int32).toInt = 2 then 1 else if (0 : Int32).toInt = 3 then 2 else 3) : Int).toNat + 1 = mz p 3 + 1 by
      rw [fr.2.1, nI_toInt (by omega), z0, if_neg (by decide), if_neg (by decide), if_neg (by decide)]; unfold mz; omega]
    unfold kL
    rw [hx]
    rfl
  rw [e]
  have ss := st_0 hC fau p c m us nl nc 0 w fc C.2.2.2.2.2.2.2.1 C.2.2.2.2.2.2.2.2 fp fq hT hus hnc (Nat.zero_le _) hnl (by omega) (Or.inl ⟨by rw [hx]; decide, fun j hj => by omega⟩) (Or.inl rfl)
  rw [show nI 0 = (0 : Int32) from rfl] at ss
  rcases ss with ⟨n1, q', n2, n3⟩ | ⟨p', c', m', us', nl', k1, pi1, k2, fc', fo1, fa1, fp2, fq2, fo2, fa2, e1, e2, e3, e4, e5, e6, e7, e8, e9, w1, w2⟩
  · obtain ⟨r, r1, r2, r3⟩ := n3 (mz p 3 + 1) (by omega)
    exact Or.inl ⟨n1, q', n2, (congrArg (fun x : KR14 => x.2.2.2.2.1) r1).trans r2, (congrArg (fun x : KR14 => x.2.2.2.2.2.1) r1).trans r3⟩
  · have hp1 := e5.2.1
    have hL' := e3.1
    have inn : E_v_inner (nI pi1) fp2 = -1 := inner_none (by omega) (fun j hj => by
      obtain ⟨o, o1, o2, o3⟩ := e5.2.2.2 j (by omega) hj
      exact ⟨o, by omega, o3⟩)
    obtain ⟨F', f1, f2⟩ := e4 (mz p 3 + 1) (by omega)
    have f3 : 2 ≤ F' := by unfold mz at f1; omega
    have bo := bt_over (go := C.2.2.2.2.2.2.2.1) (ga := C.2.2.2.2.2.2.2.2) (ft := C.2.1) (fo := fo1) (fa := fa1) (fq := fq2) (ta := nI C.2.2.1) (fr := m'.1) (to := m'.2.1) (fau := fau) (nc := nI k1) (nl := nI nl') (opn := nI 0) w1 w2 inn
    refine Or.inr ⟨p', c', m', us', nl', k2, fc', fo2, fa2, fp2, fq2, e1, e2, e3, ?_, e7.1, e7.2, ⟨e8.1, e8.2.1, e8.2.2.1, e8.2.2.2.1, e8.2.2.2.2.1, e8.2.2.2.2.2.1⟩, e9⟩
    rw [f2, show F' = F' - 2 + 1 + 1 by omega, kL_test bo]
    exact kL_end (by omega) ((e6 1 (Nat.le_refl _)).trans kst_0)
end
section
/-! a clause of a law, read on both sides -/
noncomputable abbrev KW9 : Type := Int32 × Int32 × Int32 × Int32 × Int32 × Int32 × Int32 × (Nat → Int32) × (Nat → Int32)
noncomputable abbrev KR16 : Type := Int32 × Int32 × Int32 × Int64 × Int32 × Int32 × Int32 × Int32 × Int32 × Int32 × Int32 × (Nat → Int32) × (Nat → Int32) × (Nat → Int32) × (Nat → Int32) × (Nat → Int32)
/-- what tells a value is at least one step long -/
theorem SE.lt {od k m a b x y : Nat} {P : Int → Prop} {fc op ar : Nat → Int32} (h : SE od P k m fc a b op ar x y) (hk : 1 ≤ k) (hm : m ≤ 64) : x < y := by
  obtain ⟨h1, h2, h3, h4, h5, h6⟩ := h
  refine Nat.lt_of_le_of_ne h3 (fun e => ?_)
  subst e
  have he : KEnv od (fun _ => 0) (fun _ => True) (fun o a => if o = 0 then a.toInt64 else 0) := by
    refine ⟨fun a => ?_, fun w op a hl => ?_⟩
    · show (if (0 : Int32) = 0 then a.toInt64 else 0).toInt = a.toInt
      rw [if_pos rfl]; exact wide_at
    · obtain ⟨o, o1, o2, o3⟩ := hl.op
      refine ⟨True.intro, ?_, show (-1000000000 : Int) ≤ (0 : Int32).toInt by decide, show (0 : Int32).toInt ≤ (1000000000 : Int) by decide⟩
      show (if op = 0 then a.toInt64 else 0).toInt = (0 : Int32).toInt
      rw [if_neg (by rw [o3]; exact kn_nz (j := 0) rfl (by omega) (by omega))]; rfl
  have hB : RM x x op ar (fun o a => if o = 0 then a.toInt64 else 0) (fun _ _ _ b f => if b = 0 then (0, 0, f) else (1, 0, f)) :=
    ⟨fun o k t f rc p q => by omega, fun o k t f rc p q => by omega, fun k t f rc p q => by omega, fun e k t f rc p q => by omega, fun e k t f rc p q => by omega, fun k t f rc _ _ => ⟨0, if_neg (by decide)⟩⟩
  rcases h6 _ _ _ he with ⟨_, q⟩ | ⟨g, _, _, _, q⟩
  · obtain ⟨n, n1, n2⟩ := q _ hB (fun _ _ _ f => (0, 0, f)) 0 (fun _ => 0) (by omega)
    obtain ⟨v, f', e⟩ := n2 0
    have n0 : n = 0 := by omega
    subst n0
    rw [Lp_s, if_pos rfl] at e
    exact absurd (show (0 : Int32) = 1 from congrArg (fun r : Int32 × Int64 × (Nat → Int64) => r.1) e) (by decide)
  · obtain ⟨n, f', n1, n2, _⟩ := q _ hB (fun _ t _ f => (t, 0, f)) 0 (fun _ => 0) (by omega)
    have n0 : n = 0 := by omega
    subst n0
    have e : nI 0 = nI (0 + k) := congrArg (fun r : Int32 × Int64 × (Nat → Int64) => r.1) (n2 0)
    have := (kn_eq (a := 0) (b := 0 + k) (by omega) (by omega)).mp e
    omega
noncomputable def KRy (L : Nat) (fb ft : Nat → Int32) (wd we : Nat → Int64) : Prop := L ≤ 400 ∧ (∀ j, j < L → fb j = ft j) ∧ KWt wd we
noncomputable def KX (od : Nat) (fb : Nat → Int32) (L : Nat) (P : Int → Prop) (fau : Int32) (p us nl nc w : Nat) (fc fo fa : Nat → Int32) (r : KW8) (R : KR14) : Prop :=
  (r.1 = 0 ∧ ∃ q : Nat, r.2.2.1 = nI q ∧ R.2.2.2.2.1 = nI q ∧ R.2.2.2.2.2.1 = 1) ∨
  ∃ (p' : Nat) (c' : KT4) (m' : KM4) (us' nl' n2 : Nat) (fc' fo2 fa2 fp2 fq2 : Nat → Int32), r = (1, nI nl', c'.1, c'.2.1, c'.2.2.1, c'.2.2.2, nI us', fc') ∧ p < p' ∧ TkP fb L p' c' m' ∧
    R = (m'.1, m'.2.1, m'.2.2.1, m'.2.2.2, fau, 0, nI n2, nI nl', nI 0, nI 0, fo2, fa2, fp2, fq2) ∧ (∀ j, j < us → fc' j = fc j) ∧ (∀ j, j < nc → fo2 j = fo j ∧ fa2 j = fa j) ∧
    (us ≤ us' ∧ nc ≤ n2 ∧ nl ≤ nl' ∧ nl' ≤ 50 ∧ us' + 2 * w ≤ 2 * p' ∧ n2 + w ≤ p') ∧ SE od P 1 (nl' - nl) fc' us us' fo2 fa2 nc n2
theorem KRy.ok {od L : Nat} {fb ft fo fa : Nat → Int32} {wd we : Nat → Int64} {x : Int32} (h : KRy L fb ft wd we) (ho : od ≤ 1) : KCok (fb, ft, L, od, wd, we, x, fo, fa) := ⟨h.1, h.2.1, ho, h.2.2⟩
theorem x_sum {od L : Nat} {fb ft fo fa : Nat → Int32} {wd we : Nat → Int64} (hR : KRy L fb ft wd we) (ho : od ≤ 1) {fau pi0 op0 : Int32} {p us nl nc w : Nat} {c : KT4} {m : KM4} {fc fp fq : Nat → Int32} (hT : TkP fb L p c m) (hus : us + 2 * w ≤ 2 * p) (hnc : nc + w ≤ p) (hnl : nl ≤ 50) : KX od fb L KA_ fau p us nl nc w fc fo fa (E_sum_0 0 (klw od) (nI nl) (nI L) c.1 c.2.1 c.2.2.1 c.2.2.2 fb (nI us) fc) (E_v_readExpression 0 (nI L) m.1 m.2.1 m.2.2.1 m.2.2.2 fau 0 (kod od) (nI nc) (nI nl) pi0 op0 ft fo fa fp fq wd we) :=
  exp_sum (C := (fb, ft, L, od, wd, we, 0, fo, fa)) (hR.ok ho) rfl hT hus hnc hnl
theorem x_test {od L : Nat} {fb ft fo fa : Nat → Int32} {wd we : Nat → Int64} (hR : KRy L fb ft wd we) (ho : od ≤ 1) {fau pi0 op0 : Int32} {p us nl nc w : Nat} {c : KT4} {m : KM4} {fc fp fq : Nat → Int32} (hT : TkP fb L p c m) (hus : us + 2 * w ≤ 2 * p) (hnc : nc + w ≤ p) (hnl : nl ≤ 50) : KX od fb L KT_ fau p us nl nc w fc fo fa (E_test_0 0 (klw od) (nI nl) (nI L) c.1 c.2.1 c.2.2.1 c.2.2.2 fb (nI us) fc) (E_v_readExpression 1 (nI L) m.1 m.2.1 m.2.2.1 m.2.2.2 fau 0 (kod od) (nI nc) (nI nl) pi0 op0 ft fo fa fp fq wd we) :=
  exp_test (C := (fb, ft, L, od, wd, we, 1, fo, fa)) (hR.ok ho) rfl hT hus hnc hnl
theorem kx_next {L : Nat} {fb ft : Nat → Int32} {wd we : Nat → Int64} (hR : KRy L fb ft wd we) {p : Nat} {c : KT4} {m : KM4} (h : TkP fb L p c m) : ∃ q, p ≤ q ∧ (p < L → p < q) ∧ TkP fb L q (E_w_step (nI L) c.1 c.2.1 c.2.2.1 c.2.2.2 fb) (E_v_next (nI L) m.1 m.2.1 m.2.2.1 m.2.2.2 ft) :=
  tk_next (C := (fb, ft, L, 0, wd, we, 0, fb, fb)) (hR.ok (by omega)) h
/-! the class's heads of clauses -/
theorem kn_m5 {n : Nat} (h : n < 1000) : nI n * 5 = nI (5 * n) := Int32.toInt_inj.mp (by
  rw [i_mul (nI_toInt (by omega)) (show (5 : Int32).toInt = 5 from rfl) (by omega), nI_toInt (by omega)]; omega)
theorem kn_m8 {n : Nat} (h : n < 1000) : 8 * nI n = nI (8 * n) := Int32.toInt_inj.mp (by
  rw [i_mul (show (8 : Int32).toInt = 8 from rfl) (nI_toInt (by omega)) (by omega), nI_toInt (by omega)]; omega)
theorem kn_ac {a k : Nat} {c : Int32} (hc : c.toInt = (k : Int)) (h : a + k < 1000000) : nI a + c = nI (a + k) := at_k (b := a) (i := 0) hc (by omega)
theorem setHead_at {n j : Nat} {y z : Int32} {fh : Nat → Int32} (hy : y.toInt = (j : Int)) (hn : n < 12) (hj : j < 5) : E_w_setHead (nI n) y z fh = upd fh (5 * n + j) z := by
  rw [E_w_setHead.eq_def, Lt_b, kn_m5 (by omega), Lt_b, kn_ac hy (by omega), if_neg (kn_nl (by omega)), if_neg (kn_nl (by omega)), if_neg (kn_nlel (j := 60) rfl (by omega) (by omega)), Lt_b, kn_cl (by omega)]
theorem open_at {n : Nat} {y : Int32} {fh : Nat → Int32} (hn : n < 12) : E_w_open (nI n) y fh = upd (upd (upd (upd (upd fh (5 * n + 0) y) (5 * n + 1) 1) (5 * n + 2) (-1)) (5 * n + 3) (-1)) (5 * n + 4) (-1) := by
  rw [E_w_open.eq_def, Lt_b, Lt_b, Lt_b, Lt_b, Lt_b, setHead_at (y := 0) (j := 0) rfl hn (by omega), setHead_at (y := 1) (j := 1) rfl hn (by omega), setHead_at (y := 2) (j := 2) rfl hn (by omega), setHead_at (y := 3) (j := 3) rfl hn (by omega), setHead_at (y := 4) (j := 4) rfl hn (by omega)]
/-- "if", on the reference's side -/
noncomputable def rIf (ta ord : Int32) (ft : Nat → Int32) (wd we : Nat → Int64) (n1 : Int32) (k6 : Nat) (fr to so : Int32) (wo : Int64) (fau bd nc nl pi opn : Int32) (fo fa fp fq fcl : Nat → Int32) : KR16 :=
  if bd = 0 then (if E_v_isWord 294 so wo = 1 then (fun R : KR14 => ((R.1, R.2.1, R.2.2.1, R.2.2.2.1, R.2.2.2.2.1, R.2.2.2.2.2.1, n1, R.2.2.2.2.2.2.1, R.2.2.2.2.2.2.2.1, R.2.2.2.2.2.2.2.2.1, R.2.2.2.2.2.2.2.2.2.1, R.2.2.2.2.2.2.2.2.2.2.1, R.2.2.2.2.2.2.2.2.2.2.2.1, R.2.2.2.2.2.2.2.2.2.2.2.2.1, R.2.2.2.2.2.2.2.2.2.2.2.2.2, upd fcl k6 R.2.2.2.2.2.2.1) : KR16)) (E_v_readExpression 1 ta (E_v_next ta fr to so wo ft).1 (E_v_next ta fr to so wo ft).2.1 (E_v_next ta fr to so wo ft).2.2.1 (E_v_next ta fr to so wo ft).2.2.2 fau bd ord nc nl pi opn ft fo fa fp fq wd we) else (fr, to, so, wo, fau, bd, n1, nc, nl, pi, opn, fo, fa, fp, fq, upd fcl k6 nc)) else (fr, to, so, wo, fau, bd, n1, nc, nl, pi, opn, fo, fa, fp, fq, upd fcl k6 nc)
noncomputable def KIf (od L n p us nl nc : Nat) (fb : Nat → Int32) (fau n1 : Int32) (k6 : Nat) (fh fc fcl fo fa : Nat → Int32) (r : KW9) (R : KR16) : Prop :=
  (r.1 = 0 ∧ ∃ q : Nat, r.2.2.1 = nI q ∧ R.2.2.2.2.1 = nI q ∧ R.2.2.2.2.2.1 = 1) ∨
  ∃ (p' : Nat) (c' : KT4) (m' : KM4) (us' nl' n2 : Nat) (fh' fc' fo2 fa2 fp2 fq2 : Nat → Int32) (pi' op' : Int32), r = (1, nI nl', c'.1, c'.2.1, c'.2.2.1, c'.2.2.2, nI us', fh', fc') ∧ p ≤ p' ∧ TkP fb L p' c' m' ∧
    R = (m'.1, m'.2.1, m'.2.2.1, m'.2.2.2, fau, 0, n1, nI n2, nI nl', pi', op', fo2, fa2, fp2, fq2, upd fcl k6 (nI n2)) ∧ (∀ j, j < us → fc' j = fc j) ∧ (∀ j, j < nc → fo2 j = fo j ∧ fa2 j = fa j) ∧
    (us ≤ us' ∧ us' ≤ 2 * p' ∧ nc ≤ n2 ∧ n2 ≤ p' ∧ nl ≤ nl' ∧ nl' ≤ 50) ∧
    ((fh' = fh ∧ us' = us ∧ n2 = nc) ∨ (fh' = upd fh (5 * n + 4) (nI us) ∧ nc < n2 ∧ us + 2 ≤ us' ∧ fc' (us' - 2) = 0 ∧ SE od KT_ 1 (nl' - nl) fc' us (us' - 2) fo2 fa2 nc n2))
theorem if_both {od L n p us nl nc k6 : Nat} {fb ft fh fc fcl fo fa fp fq : Nat → Int32} {wd we : Nat → Int64} {c : KT4} {m : KM4} {fau n1 pi op : Int32} (hR : KRy L fb ft wd we) (ho : od ≤ 1) (hT : TkP fb L p c m) (hus : us ≤ 2 * p) (hnc : nc ≤ p) (hnl : nl ≤ 50) (hn : n < 12) : KIf od L n p us nl nc fb fau n1 k6 fh fc fcl fo fa (E_w_clause_j207 (nI n) (klw od) (nI L) fb (nI nl) (nI us) fc c.1 c.2.1 c.2.2.1 c.2.2.2 fh) (rIf (nI L) (kod od) ft wd we n1 k6 m.1 m.2.1 m.2.2.1 m.2.2.2 fau 0 (nI nc) (nI nl) pi op fo fa fp fq fcl) := by
  have hL := hR.1
  have hpL := hT.1
  obtain ⟨q, q1, q2, hQ⟩ := kx_next hR hT
  have hqL := hQ.1
  unfold rIf
  rw [E_w_clause_j207.eq_def, if_pos rfl]
  rcases tk_one (k := 4) (c := 294) (tf := c.1) (tt := c.2.1) (ti := c.2.2.1) (tu := c.2.2.2) (fr := m.1) (to := m.2.1) (so := m.2.2.1) (wo := m.2.2.2) (by omega) (by omega) rfl (by decide +kernel) hT (nI L) with ⟨f0, w1, pl⟩ | ⟨f0, w0⟩
  · have qp := q2 pl
    rw [pas_p f0, if_pos w1]
    have xs := x_test hR ho (fau := fau) (pi0 := pi) (op0 := op) (us := us) (nl := nl) (nc := nc) (w := 1) (fc := fc) (fo := fo) (fa := fa) (fp := fp) (fq := fq) hQ (by omega) (by omega) hnl
    generalize hX : E_v_readExpression 1 (nI L) (E_v_next (nI L) m.1 m.2.1 m.2.2.1 m.2.2.2 ft).1 (E_v_next (nI L) m.1 m.2.1 m.2.2.1 m.2.2.2 ft).2.1 (E_v_next (nI L) m.1 m.2.1 m.2.2.1 m.2.2.2 ft).2.2.1 (E_v_next (nI L) m.1 m.2.1 m.2.2.1 m.2.2.2 ft).2.2.2 fau 0 (kod od) (nI nc) (nI nl) pi op ft fo fa fp fq wd we = X at xs ⊢
    simp only [Lt2, Lt]
    rw [if_neg (show ¬ (1 : Int32) = 0 by decide)]
    generalize hr : E_test_0 0 (klw od) (nI nl) (nI L) (E_w_step (nI L) c.1 c.2.1 c.2.2.1 c.2.2.2 fb).1 (E_w_step (nI L) c.1 c.2.1 c.2.2.1 c.2.2.2 fb).2.1 (E_w_step (nI L) c.1 c.2.1 c.2.2.1 c.2.2.2 fb).2.2.1 (E_w_step (nI L) c.1 c.2.1 c.2.2.1 c.2.2.2 fb).2.2.2 fb (nI us) fc = r at xs ⊢
    rcases xs with ⟨n1, q', n2, n3, n4⟩ | ⟨p', c', m', us', nl', n2, fc', fo2, fa2, fp2, fq2, e1, e2, e3, e4, e5, e6, e7, e8⟩
    · exact Or.inl ⟨n1, q', n2, n3, n4⟩
    · subst e1
      subst e4
      have hp' := e3.1
      have lt := e8.lt (Nat.le_refl 1) (by omega)
      refine Or.inr ⟨p', c', m', us' + 2, nl', n2, upd fh (5 * n + 4) (nI us), upd (upd fc' us' 0) (us' + 1) 0, fo2, fa2, fp2, fq2, nI 0, nI 0, ?_, by omega, e3, rfl, fun j hj => ?_, e6, ⟨by omega, by omega, by omega, by omega, e7.2.2.1, e7.2.2.2.1⟩, Or.inr ⟨rfl, lt, by omega, ?_, ?_⟩⟩
      · simp only []
        rw [emit_at (us := us') (by omega), setHead_at (y := 4) (j := 4) rfl hn (by omega)]
      · rw [upd_n (by omega), upd_n (by omega)]; exact e5 j hj
      · rw [show us' + 2 - 2 = us' by omega, upd_n (by omega), upd_s]
      · rw [show us' + 2 - 2 = us' by omega]
        exact e8.ext (fun j _ hj => by rw [upd_n (by omega), upd_n (by omega)]) (fun _ _ _ => ⟨rfl, rfl⟩)
  · rw [pas_n f0, if_neg (by rw [w0]; decide)]
    simp only [Lt2, Lt]
    rw [if_pos (by trivial)]
    exact Or.inr ⟨p, c, m, us, nl, nc, fh, fc, fo, fa, fp, fq, pi, op, rfl, Nat.le_refl _, hT, rfl, fun _ _ => rfl, fun _ _ => ⟨rfl, rfl⟩, ⟨Nat.le_refl _, hus, Nat.le_refl _, hnc, Nat.le_refl _, hnl⟩, Or.inl ⟨rfl, rfl, rfl⟩⟩
/-! the word that opens a clause -/
theorem hd_in {α : Type} {so : Int32} {wo : Int64} {wd : Nat → Int64} (z : Int32 → Int32 → α) (B : (Int32 → Int32 → α) → Int32 → Int32 → α) (hB : ∀ rc (v : Nat) r, v < 4 → B rc (nI v) r = if E_v_isWord (wd v) so wo = 1 then rc (nI (v + 1)) (nI v) else rc (nI (v + 1)) r) : ∀ (d v : Nat) (F : Nat) (r : Int32), v + d = 4 → ((∀ j, v ≤ j → j < 4 → E_v_isWord (wd j) so wo = 0) → Lp B z (F + d + 1) (nI v) r = Lp B z (F + 1) (nI 4) r) ∧ (∀ i, v ≤ i → i < 4 → E_v_isWord (wd i) so wo = 1 → (∀ j, v ≤ j → j < 4 → j ≠ i → E_v_isWord (wd j) so wo = 0) → Lp B z (F + d + 1) (nI v) r = Lp B z (F + 1) (nI 4) (nI i)) := by
  intro d
  induction d with
  | zero =>
    intro v F r hv
    refine ⟨fun _ => by rw [show v = 4 by omega], fun i h1 h2 => by omega⟩
  | succ d ih =>
    intro v F r hv
    have e : Lp B z (F + (d + 1) + 1) (nI v) r = if E_v_isWord (wd v) so wo = 1 then Lp B z (F + d + 1) (nI (v + 1)) (nI v) else Lp B z (F + d + 1) (nI (v + 1)) r := by
      rw [show F + (d + 1) + 1 = (F + d + 1) + 1 by omega, Lp_s, hB _ _ _ (by omega)]
    rw [e]
    refine ⟨fun h => ?_, fun i h1 h2 h3 h4 => ?_⟩
    · rw [h v (Nat.le_refl _) (by omega), if_neg (by decide)]
      exact (ih (v + 1) F r (by omega)).1 (fun j h1 h2 => h j (by omega) h2)
    · by_cases c : i = v
      · rw [← c, h3, if_pos rfl]
        exact (ih (i + 1) F (nI i) (by omega)).1 (fun j h5 h6 => h4 j (by omega) h6 (by omega))
      · rw [h4 v (Nat.le_refl _) (by omega) (fun q => c q.symm), if_neg (by decide)]
        exact (ih (v + 1) F r (by omega)).2 i (by omega) h2 h3 (fun j h5 h6 h7 => h4 j (by omega) h6 h7)
/-- the word of list k (four words) that a token is, on both sides -/
theorem tk_four {f : Nat → Int32} {L p k : Nat} {c : KT4} {m : KM4} {wd : Nat → Int64} (hk : k = 0 ∨ k = 1) (hw : ∀ j, j < 4 → (wd j).toInt = kwh k j) (h : TkP f L p c m) (ln : Int32) : (∃ i, i < 4 ∧ p < L ∧ E_w_find k ln c.1 c.2.1 c.2.2.1 c.2.2.2 f = nI i ∧ E_v_isWord (wd i) m.2.2.1 m.2.2.2 = 1 ∧ ∀ j, j < 4 → j ≠ i → E_v_isWord (wd j) m.2.2.1 m.2.2.2 = 0) ∨ (E_w_find k ln c.1 c.2.1 c.2.2.1 c.2.2.2 f = -1 ∧ ∀ j, j < 4 → E_v_isWord (wd j) m.2.2.1 m.2.2.2 = 0) := by
  have k4 : kwn k = 4 := by rcases hk with rfl | rfl <;> rfl
  rcases tk_find (k := k) (tf := c.1) (tt := c.2.1) (ti := c.2.2.1) (tu := c.2.2.2) (fr := m.1) (to := m.2.1) (so := m.2.2.1) (wo := m.2.2.2) (by omega) (by omega) h ln with ⟨i, i1, i2, i3, i4⟩ | ⟨i1, i2⟩
  · rw [k4] at i1 i4
    refine Or.inl ⟨i, i1, i2, i3, isWord_at.mpr (by rw [hw i i1]; exact (i4 i i1).mpr rfl), fun j hj hn => ?_⟩
    rcases isWord_01 (c := wd j) (so := m.2.2.1) (wo := m.2.2.2) with q | q
    · exact q
    · have q2 := isWord_at.mp q
      rw [hw j hj] at q2
      exact absurd ((i4 j hj).mp q2) hn
  · rw [k4] at i2
    refine Or.inr ⟨i1, fun j hj => ?_⟩
    rcases isWord_01 (c := wd j) (so := m.2.2.1) (wo := m.2.2.2) with q | q
    · exact q
    · have q2 := isWord_at.mp q
      rw [hw j hj] at q2
      exact absurd q2 (i2 j hj)
/-- eight places are cleared -/
theorem zero_l {α : Type} (z : Int32 → (Nat → Int32) → α) (B : (Int32 → (Nat → Int32) → α) → Int32 → (Nat → Int32) → α) {b : Nat} (hB : ∀ rc (v : Nat) f, v < 8 → B rc (nI v) f = rc (nI (v + 1)) (upd f (b + v) 0)) : ∀ (d v F : Nat) (f : Nat → Int32), v + d = 8 → ∃ f', Lp B z (F + d + 1) (nI v) f = Lp B z (F + 1) (nI 8) f' ∧ (∀ j, j < b + v → f' j = f j) ∧ ∀ j, b + v ≤ j → j < b + 8 → f' j = 0 := by
  intro d
  induction d with
  | zero => intro v F f hv; exact ⟨f, by rw [show v = 8 by omega], fun _ _ => rfl, fun j _ _ => by omega⟩
  | succ d ih =>
    intro v F f hv
    obtain ⟨f', e1, e2, e3⟩ := ih (v + 1) F (upd f (b + v) 0) (by omega)
    refine ⟨f', ?_, fun j hj => ?_, fun j h1 h2 => ?_⟩
    · rw [show F + (d + 1) + 1 = (F + d + 1) + 1 by omega, Lp_s, hB _ _ _ (by omega), e1]
    · rw [e2 j (by omega), upd_n (by omega)]
    · by_cases q : j = b + v
      · rw [e2 j (by omega), q, upd_s]
      · exact e3 j (by omega) h2
end
section
/-! readLaw, the reference's side of a clause -/
theorem rl_b {ta fr to so fau bd ord ncl nc nl pi opn : Int32} {wo : Int64} {ft fo fa fp fq fcl : Nat → Int32} {fwd fwe fhd : Nat → Int64} (rc : Int32 → Int32 → KR16) (v : Nat) (r : Int32) (hv : v < 4) : E_v_readLaw_l4 ta fr to so wo fau bd ord ncl nc nl pi opn ft fo fa fp fq fwd fwe fcl fhd rc (nI v) r = if E_v_isWord (fhd v) so wo = 1 then rc (nI (v + 1)) (nI v) else rc (nI (v + 1)) r := by
  rw [E_v_readLaw_l4.eq_def, if_neg (kn_nlel (j := 4) rfl (by omega) hv)]
  simp only [Lt]
  rw [kn_cl (by omega), kn_po (by omega)]
theorem rl_top {ta fr to so fau bd ord ncl nc nl pi opn : Int32} {wo : Int64} {ft fo fa fp fq fcl : Nat → Int32} {fwd fwe fhd : Nat → Int64} : E_v_readLaw ta fr to so wo fau bd ord ncl nc nl pi opn ft fo fa fp fq fwd fwe fcl fhd = Lp (α := Int32 → Int32 → KR16) (E_v_readLaw_l4 ta fr to so wo fau bd ord ncl nc nl pi opn ft fo fa fp fq fwd fwe fcl fhd) (fun _ _ => ((0, 0, 0, 0, 0, 0, 0, 0, 0, 0, 0, fun _ => 0, fun _ => 0, fun _ => 0, fun _ => 0, fun _ => 0) : KR16)) (1 + 4 + 1) (nI 0) (-1) := by
  rw [E_v_readLaw.eq_def]; rfl
theorem law_no {ta fr to so fau ord ncl nc nl pi opn : Int32} {wo : Int64} {ft fo fa fp fq fcl : Nat → Int32} {fwd fwe fhd : Nat → Int64} (h : ∀ j, j < 4 → E_v_isWord (fhd j) so wo = 0) : E_v_readLaw ta fr to so wo fau 0 ord ncl nc nl pi opn ft fo fa fp fq fwd fwe fcl fhd = (fr, to, so, wo, fr, 1, ncl, nc, nl, pi, opn, fo, fa, fp, fq, fcl) := by
  have hd := hd_in (wd := fhd) (so := so) (wo := wo) (fun _ _ => ((0, 0, 0, 0, 0, 0, 0, 0, 0, 0, 0, fun _ => 0, fun _ => 0, fun _ => 0, fun _ => 0, fun _ => 0) : KR16)) (E_v_readLaw_l4 ta fr to so wo fau 0 ord ncl nc nl pi opn ft fo fa fp fq fwd fwe fcl fhd) (fun rc v r hv => rl_b rc v r hv) 4 0 1 (-1) (by omega)
  rw [rl_top, hd.1 (fun j _ hj => h j hj), Lp_s, E_v_readLaw_l4.eq_def, if_pos (by decide), if_pos rfl, must_0]
  simp only [Lt2]
  rw [if_neg (by decide)]
theorem law_full {ta fr to so fau ord nc nl pi opn : Int32} {wo : Int64} {ft fo fa fp fq fcl : Nat → Int32} {fwd fwe fhd : Nat → Int64} (h : (∃ i, i < 4 ∧ E_v_isWord (fhd i) so wo = 1 ∧ ∀ j, j < 4 → j ≠ i → E_v_isWord (fhd j) so wo = 0) ∨ ∀ j, j < 4 → E_v_isWord (fhd j) so wo = 0) : E_v_readLaw ta fr to so wo fau 0 ord (nI 12) nc nl pi opn ft fo fa fp fq fwd fwe fcl fhd = (fr, to, so, wo, fr, 1, nI 12, nc, nl, pi, opn, fo, fa, fp, fq, fcl) := by
  rcases h with ⟨i, i1, i2, i3⟩ | h
  · have hd := hd_in (wd := fhd) (so := so) (wo := wo) (fun _ _ => ((0, 0, 0, 0, 0, 0, 0, 0, 0, 0, 0, fun _ => 0, fun _ => 0, fun _ => 0, fun _ => 0, fun _ => 0) : KR16)) (E_v_readLaw_l4 ta fr to so wo fau 0 ord (nI 12) nc nl pi opn ft fo fa fp fq fwd fwe fcl fhd) (fun rc v r hv => rl_b rc v r hv) 4 0 1 (-1) (by omega)
    rw [rl_top, hd.2 i (Nat.zero_le _) i1 i2 (fun j _ hj hn => i3 j hj hn), Lp_s, E_v_readLaw_l4.eq_def, if_pos (by decide), if_neg (fun q => by have := congrArg Int32.toInt q; rw [nI_toInt (by omega)] at this; have z1 : (-1 : Int32).toInt = -1 := rfl; omega), if_pos (by decide), must_0]
    simp only [Lt2]
    rw [if_neg (by decide)]
  · exact law_no h
theorem law_go {ta fr to so fau ord nc nl pi opn : Int32} {wo : Int64} {n i : Nat} {ft fo fa fp fq fcl : Nat → Int32} {fwd fwe fhd : Nat → Int64} (hn : n < 12) (i1 : i < 4) (i2 : E_v_isWord (fhd i) so wo = 1) (i3 : ∀ j, j < 4 → j ≠ i → E_v_isWord (fhd j) so wo = 0) : E_v_readLaw ta fr to so wo fau 0 ord (nI n) nc nl pi opn ft fo fa fp fq fwd fwe fcl fhd = Lp (α := Int32 → (Nat → Int32) → KR16) (E_v_readLaw_l75 ta ord (nI n) nc nl pi opn ft fo fa fp fq fwd fwe (nI i) (E_v_next ta fr to so wo ft).1 (E_v_next ta fr to so wo ft).2.1 (E_v_next ta fr to so wo ft).2.2.1 (E_v_next ta fr to so wo ft).2.2.2 fau 0 (nI (8 * n))) (fun _ _ => ((0, 0, 0, 0, 0, 0, 0, 0, 0, 0, 0, fun _ => 0, fun _ => 0, fun _ => 0, fun _ => 0, fun _ => 0) : KR16)) (1 + 8 + 1) (nI 0) fcl := by
  have hd := hd_in (wd := fhd) (so := so) (wo := wo) (fun _ _ => ((0, 0, 0, 0, 0, 0, 0, 0, 0, 0, 0, fun _ => 0, fun _ => 0, fun _ => 0, fun _ => 0, fun _ => 0) : KR16)) (E_v_readLaw_l4 ta fr to so wo fau 0 ord (nI n) nc nl pi opn ft fo fa fp fq fwd fwe fcl fhd) (fun rc v r hv => rl_b rc v r hv) 4 0 1 (-1) (by omega)
  rw [rl_top, hd.2 i (Nat.zero_le _) i1 i2 (fun j _ hj hn => i3 j hj hn), Lp_s, E_v_readLaw_l4.eq_def, if_pos (by decide), if_neg (fun q => by have := congrArg Int32.toInt q; rw [nI_toInt (by omega)] at this; have z1 : (-1 : Int32).toInt = -1 := rfl; omega), if_neg (kn_nlel (j := 12) rfl (by omega) hn), must_1]
  rw [Lt2_b, Lt2_b, Lt2_b, Lt2_b, Lt2_b, if_pos (show (0 : Int32) = 0 from rfl), Lt_b, kn_m8 (by omega), show ((9 - (0 : Int32).toInt : Int).toNat + 1) = 1 + 8 + 1 from rfl, show nI 0 = (0 : Int32) from rfl]
theorem lz_b {ta ord nc nl pi opn fr to so fau bd : Int32} {wo : Int64} {n : Nat} {v0 : Int32} {ft fo fa fp fq : Nat → Int32} {fwd fwe : Nat → Int64} (hn : n < 1000) (rc : Int32 → (Nat → Int32) → KR16) (v : Nat) (f : Nat → Int32) (hv : v < 8) : E_v_readLaw_l75 ta ord (nI n) nc nl pi opn ft fo fa fp fq fwd fwe v0 fr to so wo fau bd (nI (8 * n)) rc (nI v) f = rc (nI (v + 1)) (upd f (8 * n + v) 0) := by
  rw [E_v_readLaw_l75.eq_def, if_neg (kn_nlel (j := 8) rfl (by omega) hv), Lt_b, Lt_b, Lt_b, kn_po (by omega), kn_ac (nI_toInt (by omega)) (by omega), kn_cl (by omega)]
theorem law_rest3 {ta ord nc nl pi opn fr to so fau : Int32} {wo : Int64} {n : Nat} {ft fo fa fp fq f8 : Nat → Int32} {fwd fwe : Nat → Int64} (hn : n < 1000) (z : Int32 → (Nat → Int32) → KR16) : Lp (α := Int32 → (Nat → Int32) → KR16) (E_v_readLaw_l75 ta ord (nI n) nc nl pi opn ft fo fa fp fq fwd fwe (nI 3) fr to so wo fau 0 (nI (8 * n))) z (1 + 1) (nI 8) f8 = rIf ta ord ft fwd fwe (nI (n + 1)) (8 * n + 6) fr to so wo fau 0 nc nl pi opn fo fa fp fq (upd (upd (upd (upd f8 (8 * n) (nI 3)) (8 * n + 3) nc) (8 * n + 4) nc) (8 * n + 5) nc) := by
  have a0 : (nI (8 * n)).toNatClampNeg = 8 * n := kn_cl (by omega)
  have a3 : (nI (8 * n) + 3).toNatClampNeg = 8 * n + 3 := by rw [kn_ac (c := 3) (k := 3) rfl (by omega), kn_cl (by omega)]
  have a4 : (nI (8 * n) + 4).toNatClampNeg = 8 * n + 4 := by rw [kn_ac (c := 4) (k := 4) rfl (by omega), kn_cl (by omega)]
  have a5 : (nI (8 * n) + 5).toNatClampNeg = 8 * n + 5 := by rw [kn_ac (c := 5) (k := 5) rfl (by omega), kn_cl (by omega)]
  have a6 : (nI (8 * n) + 6).toNatClampNeg = 8 * n + 6 := by rw [kn_ac (c := 6) (k := 6) rfl (by omega), kn_cl (by omega)]
  have an : nI n + 1 = nI (n + 1) := kn_p1 (by omega)
  rw [Lp_s, E_v_readLaw_l75.eq_def, if_pos (by decide)]
  rw [Lt_b, Lt_b, Lt_b, Lt_b, if_pos (show nI 3 = (3 : Int32) from rfl), Lt_b, Lt_b, Lt_b, Lt_b, if_pos (show (0 : Int32) = 0 from rfl), Lt_b, a0, a3, a4, a5, an]
  unfold rIf
  rw [if_pos (show (0 : Int32) = 0 from rfl)]
  by_cases w : E_v_isWord 294 so wo = 1
  · rw [if_pos w, if_pos w, Lt2_b, Lt2_b, Lt2_b]
    generalize E_v_readExpression 1 ta (E_v_next ta fr to so wo ft).1 (E_v_next ta fr to so wo ft).2.1 (E_v_next ta fr to so wo ft).2.2.1 (E_v_next ta fr to so wo ft).2.2.2 fau 0 ord nc nl pi opn ft fo fa fp fq fwd fwe = R
    rw [← a6]
    rfl
  · rw [if_neg w, if_neg w, Lt_b, Lt_b, a6]
theorem law_rest {ta ord nc nl pi opn fr to so fau : Int32} {wo : Int64} {n i : Nat} {ft fo fa fp fq f8 : Nat → Int32} {fwd fwe : Nat → Int64} (hn : n < 1000) (hi : i < 3) (z : Int32 → (Nat → Int32) → KR16) : Lp (α := Int32 → (Nat → Int32) → KR16) (E_v_readLaw_l75 ta ord (nI n) nc nl pi opn ft fo fa fp fq fwd fwe (nI i) fr to so wo fau 0 (nI (8 * n))) z (1 + 1) (nI 8) f8 = (fun R : KR14 => rIf ta ord ft fwd fwe (nI (n + 1)) (8 * n + 6) R.1 R.2.1 R.2.2.1 R.2.2.2.1 R.2.2.2.2.1 R.2.2.2.2.2.1 R.2.2.2.2.2.2.1 R.2.2.2.2.2.2.2.1 R.2.2.2.2.2.2.2.2.1 R.2.2.2.2.2.2.2.2.2.1 R.2.2.2.2.2.2.2.2.2.2.1 R.2.2.2.2.2.2.2.2.2.2.2.1 R.2.2.2.2.2.2.2.2.2.2.2.2.1 R.2.2.2.2.2.2.2.2.2.2.2.2.2 (upd (upd (upd (upd f8 (8 * n) (nI i)) (8 * n + 3) nc) (8 * n + 4) R.2.2.2.2.2.2.1) (8 * n + 5) R.2.2.2.2.2.2.1)) (E_v_readExpression 0 ta fr to so wo fau 0 ord nc nl pi opn ft fo fa fp fq fwd fwe) := by
  have a0 : (nI (8 * n)).toNatClampNeg = 8 * n := kn_cl (by omega)
  have a3 : (nI (8 * n) + 3).toNatClampNeg = 8 * n + 3 := by rw [kn_ac (c := 3) (k := 3) rfl (by omega), kn_cl (by omega)]
  have a4 : (nI (8 * n) + 4).toNatClampNeg = 8 * n + 4 := by rw [kn_ac (c := 4) (k := 4) rfl (by omega), kn_cl (by omega)]
  have a5 : (nI (8 * n) + 5).toNatClampNeg = 8 * n + 5 := by rw [kn_ac (c := 5) (k := 5) rfl (by omega), kn_cl (by omega)]
  have a6 : (nI (8 * n) + 6).toNatClampNeg = 8 * n + 6 := by rw [kn_ac (c := 6) (k := 6) rfl (by omega), kn_cl (by omega)]
  have an : nI n + 1 = nI (n + 1) := kn_p1 (by omega)
  rw [Lp_s, E_v_readLaw_l75.eq_def, if_pos (by decide)]
  rw [Lt_b, Lt_b, Lt_b, Lt_b, if_neg (kn_nz (j := 3) rfl (by omega) (by omega)), a0, a3, an]
  generalize E_v_readExpression 0 ta fr to so wo fau 0 ord nc nl pi opn ft fo fa fp fq fwd fwe = R
  obtain ⟨q1, q2, q3, q4, q5, q6, q7, q8, q9, q10, q11, q12, q13, q14⟩ := R
  rw [Lt2_b, Lt2_b, Lt2_b, Lt2_b, Lt2_b, Lt2_b, Lt2_b, Lt2_b, Lt2_b, Lt2_b, Lt2_b, Lt2_b, Lt2_b, Lt_b, Lt_b, Lt_b, Lt_b, a4, a5]
  unfold rIf
  dsimp only
  by_cases b : q6 = 0
  · rw [if_pos b, if_pos b, Lt_b]
    by_cases w : E_v_isWord 294 q3 q4 = 1
    · rw [if_pos w, if_pos w, Lt2_b, Lt2_b, Lt2_b]
      generalize E_v_readExpression 1 ta (E_v_next ta q1 q2 q3 q4 ft).1 (E_v_next ta q1 q2 q3 q4 ft).2.1 (E_v_next ta q1 q2 q3 q4 ft).2.2.1 (E_v_next ta q1 q2 q3 q4 ft).2.2.2 q5 q6 ord q7 q8 q9 q10 ft q11 q12 q13 q14 fwd fwe = R
      rw [← a6]
      rfl
    · rw [if_neg w, if_neg w, Lt_b, Lt_b, a6]
  · rw [if_neg b, if_neg b, Lt_b, Lt_b, a6]
/-! the class's side -/
theorem cl_sum1 {n : Nat} {ln pa tf tt ti tu us : Int32} {fb fc fh : Nat → Int32} (rc : Int32 → Int32 → Int32 → Int32 → Int32 → Int32 → Int32 → (Nat → Int32) → (Nat → Int32) → KW9) : E_w_clause_l76a (nI n) 1 ln fb 1 rc 0 pa tf tt ti tu us fc fh = (fun S : KW8 => if S.1 = 0 then ((0, S.2.1, S.2.2.1, S.2.2.2.1, S.2.2.2.2.1, S.2.2.2.2.2.1, S.2.2.2.2.2.2.1, E_w_setHead (nI n) (2 + 0) us fh, S.2.2.2.2.2.2.2) : KW9) else rc (0 + Int32.ofInt 1) S.2.1 S.2.2.1 S.2.2.2.1 S.2.2.2.2.1 S.2.2.2.2.2.1 (E_w_emit 0 0 S.2.2.2.2.2.2.1 S.2.2.2.2.2.2.2).2.1 (E_w_emit 0 0 S.2.2.2.2.2.2.1 S.2.2.2.2.2.2.2).2.2 (E_w_setHead (nI n) (2 + 0) us fh)) (E_sum_0 0 1 pa ln tf tt ti tu fb us fc) := by
  rw [E_w_clause_l76a.eq_def, if_neg (by decide), if_pos (by decide)]
  generalize E_sum_0 0 1 pa ln tf tt ti tu fb us fc = S
  rfl
theorem cl_if1 {n : Nat} {ln pa tf tt ti tu us x v : Int32} {fb fc fh : Nat → Int32} (h : x ≤ v) (rc : Int32 → Int32 → Int32 → Int32 → Int32 → Int32 → Int32 → (Nat → Int32) → (Nat → Int32) → KW9) : E_w_clause_l76a (nI n) 1 ln fb x rc v pa tf tt ti tu us fc fh = E_w_clause_j207 (nI n) 1 ln fb pa us fc tf tt ti tu fh := by
  rw [E_w_clause_l76a.eq_def, if_pos h, if_neg (by decide), E_w_clause_j207.eq_def]
theorem aF4 : ∀ i, i < 4 → aF 4 i = if i = 3 then 0 else 1 := by decide
theorem cl_top {n i : Nat} {pa ln tf tt ti tu scl us : Int32} {fb fh fc : Nat → Int32} (hn : n < 12) (hi : i < 4) (hf : E_w_find 0 ln tf tt ti tu fb = nI i) : E_w_clause (nI n) 1 pa ln tf tt ti tu fb scl us fh fc = Lp (α := Int32 → Int32 → Int32 → Int32 → Int32 → Int32 → Int32 → (Nat → Int32) → (Nat → Int32) → KW9) (E_w_clause_l76a (nI n) 1 ln fb (if i = 3 then 0 else 1)) (fun _ _ _ _ _ _ _ _ _ => ((0, 0, 0, 0, 0, 0, 0, fun _ => 0, fun _ => 0) : KW9)) (1 + 1 + 1) 0 pa (E_w_step ln tf tt ti tu fb).1 (E_w_step ln tf tt ti tu fb).2.1 (E_w_step ln tf tt ti tu fb).2.2.1 (E_w_step ln tf tt ti tu fb).2.2.2 us fc (upd (upd (upd (upd (upd fh (5 * n + 0) (nI i)) (5 * n + 1) 1) (5 * n + 2) (-1)) (5 * n + 3) (-1)) (5 * n + 4) (-1)) := by
  rw [E_w_clause.eq_def, if_neg (by decide), hf, Lt_b, if_neg (kn_nl (by omega)), if_pos (kn_ltl (j := 4) rfl (by omega) hi), Lt2_b, Lt2_b, Lt2_b, Lt_b, open_at hn, if_neg (by decide), Lt_b, kn_cl (by omega), aF4 i hi]
  rfl
theorem cl_none {n : Nat} {pa ln tf tt ti tu scl us : Int32} {fb fh fc : Nat → Int32} (hf : E_w_find 0 ln tf tt ti tu fb = -1) : E_w_clause (nI n) 1 pa ln tf tt ti tu fb scl us fh fc = (0, pa, tf, tt, ti, tu, us, fh, fc) := by
  rw [E_w_clause.eq_def, if_neg (by decide), hf, Lt_b, if_pos (by decide), E_w_clause_j34.eq_def]
/-! what has been read of a law -/
noncomputable def KTs (od us nc : Nat) (fc op ar : Nat → Int32) (h x y : Int32) : Prop := (h = -1 ∧ x = y ∧ ∃ j : Nat, x = nI j ∧ j ≤ nc) ∨ ∃ a e p q m : Nat, h = nI a ∧ x = nI p ∧ y = nI q ∧ p < q ∧ q ≤ nc ∧ m ≤ 64 ∧ SE od KT_ 1 m fc a e op ar p q ∧ fc e = 0 ∧ e + 2 ≤ us
noncomputable def KSs (od us nc : Nat) (fc op ar : Nat → Int32) (h x y : Int32) : Prop := ∃ a e p q m : Nat, h = nI a ∧ x = nI p ∧ y = nI q ∧ p < q ∧ q ≤ nc ∧ m ≤ 64 ∧ SE od KA_ 1 m fc a e op ar p q ∧ fc e = 0 ∧ e + 2 ≤ us
theorem KTs.ext {od us nc us' nc' : Nat} {fc op ar fc' op' ar' : Nat → Int32} {h x y : Int32} (k : KTs od us nc fc op ar h x y) (h1 : us ≤ us') (h2 : nc ≤ nc') (h3 : ∀ j, j < us → fc' j = fc j) (h4 : ∀ j, j < nc → op' j = op j ∧ ar' j = ar j) : KTs od us' nc' fc' op' ar' h x y := by
  rcases k with ⟨a, b, j, c, d⟩ | ⟨a, e, p, q, m, k1, k2, k3, k4, k5, k6, k7, k8, k9⟩
  · exact Or.inl ⟨a, b, j, c, by omega⟩
  · exact Or.inr ⟨a, e, p, q, m, k1, k2, k3, k4, by omega, k6, k7.ext (fun j _ hj => h3 j (by omega)) (fun j _ hj => h4 j (by omega)), by rw [h3 e (by omega)]; exact k8, by omega⟩
theorem KSs.ext {od us nc us' nc' : Nat} {fc op ar fc' op' ar' : Nat → Int32} {h x y : Int32} (k : KSs od us nc fc op ar h x y) (h1 : us ≤ us') (h2 : nc ≤ nc') (h3 : ∀ j, j < us → fc' j = fc j) (h4 : ∀ j, j < nc → op' j = op j ∧ ar' j = ar j) : KSs od us' nc' fc' op' ar' h x y := by
  obtain ⟨a, e, p, q, m, k1, k2, k3, k4, k5, k6, k7, k8, k9⟩ := k
  exact ⟨a, e, p, q, m, k1, k2, k3, k4, by omega, k6, k7.ext (fun j _ hj => h3 j (by omega)) (fun j _ hj => h4 j (by omega)), by rw [h3 e (by omega)]; exact k8, by omega⟩
noncomputable def KCls (n us nc : Nat) (fh fcl fc op ar : Nat → Int32) : Prop := ∀ i, i < n → ∃ v : Nat, v < 4 ∧ fh (5 * i) = nI v ∧ fcl (8 * i) = nI v ∧ KTs 0 us nc fc op ar (fh (5 * i + 4)) (fcl (8 * i + 5)) (fcl (8 * i + 6)) ∧ (v = 3 ∨ KSs 0 us nc fc op ar (fh (5 * i + 2)) (fcl (8 * i + 3)) (fcl (8 * i + 4)))
theorem KCls.ext {n us nc us' nc' : Nat} {fh fcl fc op ar fh' fcl' fc' op' ar' : Nat → Int32} (h : KCls n us nc fh fcl fc op ar) (h1 : us ≤ us') (h2 : nc ≤ nc') (h3 : ∀ j, j < us → fc' j = fc j) (h4 : ∀ j, j < nc → op' j = op j ∧ ar' j = ar j) (h5 : ∀ j, j < 5 * n → fh' j = fh j) (h6 : ∀ j, j < 8 * n → fcl' j = fcl j) : KCls n us' nc' fh' fcl' fc' op' ar' := fun i hi => by
  obtain ⟨v, v1, v2, v3, v4, v5⟩ := h i hi
  refine ⟨v, v1, (h5 _ (by omega)).trans v2, (h6 _ (by omega)).trans v3, ?_, ?_⟩
  · rw [h5 (5 * i + 4) (by omega), h6 (8 * i + 5) (by omega), h6 (8 * i + 6) (by omega)]; exact v4.ext h1 h2 h3 h4
  · rcases v5 with v5 | v5
    · exact Or.inl v5
    · rw [h5 (5 * i + 2) (by omega), h6 (8 * i + 3) (by omega), h6 (8 * i + 4) (by omega)]; exact Or.inr (v5.ext h1 h2 h3 h4)
noncomputable def KCla (L n : Nat) (fb : Nat → Int32) (p : Nat) (fau : Int32) (r : KW9) (R : KR16) : Prop :=
  (r.1 = 0 ∧ ∃ q : Nat, r.2.2.1 = nI q ∧ R.2.2.2.2.1 = nI q ∧ R.2.2.2.2.2.1 = 1) ∨
  ∃ (p' : Nat) (c' : KT4) (m' : KM4) (us' nl' n2 : Nat) (fh' fc' fo2 fa2 fp2 fq2 fcl' : Nat → Int32) (pi' op' : Int32), r = (1, nI nl', c'.1, c'.2.1, c'.2.2.1, c'.2.2.2, nI us', fh', fc') ∧ p < p' ∧ TkP fb L p' c' m' ∧
    R = (m'.1, m'.2.1, m'.2.2.1, m'.2.2.2, fau, 0, nI (n + 1), nI n2, nI nl', pi', op', fo2, fa2, fp2, fq2, fcl') ∧ (us' ≤ 2 * p' ∧ n2 ≤ p' ∧ nl' ≤ 50) ∧ KCls (n + 1) us' n2 fh' fcl' fc' fo2 fa2
/-- A CLAUSE OF A LAW IS READ ALIKE -/
theorem law_clause {L n p us nl nc : Nat} {fb ft fh fc fcl fo fa fp fq : Nat → Int32} {wd we fhd : Nat → Int64} {c : KT4} {m : KM4} {fau pi op scl : Int32} (hR : KRy L fb ft wd we) (hh : ∀ j, j < 4 → (fhd j).toInt = kwh 0 j) (hT : TkP fb L p c m) (hus : us ≤ 2 * p) (hnc : nc ≤ p) (hnl : nl ≤ 50) (hn : n < 12) (hK : KCls n us nc fh fcl fc fo fa) : KCla L n fb p fau (E_w_clause (nI n) 1 (nI nl) (nI L) c.1 c.2.1 c.2.2.1 c.2.2.2 fb scl (nI us) fh fc) (E_v_readLaw (nI L) m.1 m.2.1 m.2.2.1 m.2.2.2 fau 0 0 (nI n) (nI nc) (nI nl) pi op ft fo fa fp fq wd we fcl fhd) := by
  have hL := hR.1
  have hpL := hT.1
  have fr := TkP.froms (tf := c.1) (tt := c.2.1) (ti := c.2.2.1) (tu := c.2.2.2) (fr := m.1) (to := m.2.1) (so := m.2.2.1) (wo := m.2.2.2) hT
  rcases tk_four (k := 0) (Or.inl rfl) hh hT (nI L) with ⟨i, i1, pl, i3, i4, i5⟩ | ⟨i1, i2⟩
  case inr =>
    rw [cl_none i1, law_no i2]
    exact Or.inl ⟨rfl, p, fr.1, fr.2.1, rfl⟩
  obtain ⟨q, q1, q2, hQ⟩ := kx_next hR hT
  have hqL := hQ.1
  have qp := q2 pl
  rw [cl_top hn i1 i3, law_go hn i1 i4 i5]
  generalize hs : E_w_step (nI L) c.1 c.2.1 c.2.2.1 c.2.2.2 fb = s at hQ ⊢
  generalize hm : E_v_next (nI L) m.1 m.2.1 m.2.2.1 m.2.2.2 ft = mn at hQ ⊢
  obtain ⟨f8, z1, z2, _⟩ := zero_l (b := 8 * n) (fun _ _ => ((0, 0, 0, 0, 0, 0, 0, 0, 0, 0, 0, fun _ => 0, fun _ => 0, fun _ => 0, fun _ => 0, fun _ => 0) : KR16)) (E_v_readLaw_l75 (nI L) 0 (nI n) (nI nc) (nI nl) pi op ft fo fa fp fq wd we (nI i) mn.1 mn.2.1 mn.2.2.1 mn.2.2.2 fau 0 (nI (8 * n))) (fun rc v f hv => lz_b (by omega) rc v f hv) 8 0 1 fcl (by omega)
  rw [z1]
  by_cases i3' : i = 3
  · -- "bars"
    subst i3'
    rw [law_rest3 (by omega), if_pos rfl, Lp_s, cl_if1 (by decide)]
    have ib := if_both (n := n) (k6 := 8 * n + 6) (fau := fau) (n1 := nI (n + 1)) (pi := pi) (op := op) (fh := upd (upd (upd (upd (upd fh (5 * n + 0) (nI 3)) (5 * n + 1) 1) (5 * n + 2) (-1)) (5 * n + 3) (-1)) (5 * n + 4) (-1)) (fc := fc) (fcl := upd (upd (upd (upd f8 (8 * n) (nI 3)) (8 * n + 3) (nI nc)) (8 * n + 4) (nI nc)) (8 * n + 5) (nI nc)) (fo := fo) (fa := fa) (fp := fp) (fq := fq) (us := us) (nl := nl) (nc := nc) hR (show (0 : Nat) ≤ 1 by omega) hQ (by omega) (by omega) hnl hn
    rcases ib with ib | ⟨p', c', m', us', nl', n2, fh', fc', fo2, fa2, fp2, fq2, pi', op', e1, e2, e3, e4, e5, e6, e7, e8⟩
    · exact Or.inl ib
    · refine Or.inr ⟨p', c', m', us', nl', n2, fh', fc', fo2, fa2, fp2, fq2, _, pi', op', e1, by omega, e3, e4, ⟨e7.2.1, e7.2.2.2.1, e7.2.2.2.2.2⟩, fun j hj => ?_⟩
      by_cases jn : j < n
      · exact hK.ext e7.1 e7.2.2.1 e5 e6 (fun k hk => by
          rcases e8 with ⟨e8, _⟩ | ⟨e8, _⟩
          · rw [e8, upd_n (by omega), upd_n (by omega), upd_n (by omega), upd_n (by omega), upd_n (by omega)]
          · rw [e8, upd_n (by omega), upd_n (by omega), upd_n (by omega), upd_n (by omega), upd_n (by omega), upd_n (by omega)]) (fun k hk => by
          rw [upd_n (by omega), upd_n (by omega), upd_n (by omega), upd_n (by omega), upd_n (by omega)]; exact z2 k (by omega)) j jn
      · have jj : j = n := by omega
        subst jj
        refine ⟨3, by omega, ?_, ?_, ?_, Or.inl rfl⟩
        · rcases e8 with ⟨e8, _⟩ | ⟨e8, _⟩
          · rw [e8, upd_n (by omega), upd_n (by omega), upd_n (by omega), upd_n (by omega)]; exact upd_s
          · rw [e8, upd_n (by omega), upd_n (by omega), upd_n (by omega), upd_n (by omega), upd_n (by omega)]; exact upd_s
        · rw [upd_n (by omega), upd_n (by omega), upd_n (by omega), upd_n (by omega), upd_s]
        · rw [upd_n (by omega), upd_s, upd_s]
          rcases e8 with ⟨e8, e9, e10⟩ | ⟨e8, e9, e10, e11, e12⟩
          · exact Or.inl ⟨by rw [e8, upd_s], by rw [e10], nc, rfl, by omega⟩
          · exact Or.inr ⟨us, us' - 2, nc, n2, nl' - nl, by rw [e8, upd_s], rfl, rfl, e9, Nat.le_refl _, by omega, e12, e11, by omega⟩
  · -- with a sum
    have i3n : i < 3 := by omega
    have xs := x_sum hR (show (0 : Nat) ≤ 1 by omega) (fau := fau) (pi0 := pi) (op0 := op) (us := us) (nl := nl) (nc := nc) (w := 1) (fc := fc) (fo := fo) (fa := fa) (fp := fp) (fq := fq) hQ (by omega) (by omega) hnl
    rw [law_rest (by omega) i3n, if_neg i3', Lp_s, cl_sum1, show (2 + 0 : Int32) = 2 from by decide, setHead_at (y := 2) (j := 2) rfl hn (by omega)]
    change KX 0 fb L KA_ fau q us nl nc 1 fc fo fa (E_sum_0 0 1 (nI nl) (nI L) s.1 s.2.1 s.2.2.1 s.2.2.2 fb (nI us) fc) (E_v_readExpression 0 (nI L) mn.1 mn.2.1 mn.2.2.1 mn.2.2.2 fau 0 0 (nI nc) (nI nl) pi op ft fo fa fp fq wd we) at xs
    generalize E_sum_0 0 1 (nI nl) (nI L) s.1 s.2.1 s.2.2.1 s.2.2.2 fb (nI us) fc = S at xs ⊢
    generalize E_v_readExpression 0 (nI L) mn.1 mn.2.1 mn.2.2.1 mn.2.2.2 fau 0 0 (nI nc) (nI nl) pi op ft fo fa fp fq wd we = X at xs ⊢
    generalize hrec : Lp (α := Int32 → Int32 → Int32 → Int32 → Int32 → Int32 → Int32 → (Nat → Int32) → (Nat → Int32) → KW9) (E_w_clause_l76a (nI n) 1 (nI L) fb 1) (fun _ _ _ _ _ _ _ _ _ => ((0, 0, 0, 0, 0, 0, 0, fun _ => 0, fun _ => 0) : KW9)) (1 + 1) = rcc
    dsimp only
    rcases xs with ⟨n1, q', n2, n3, n4⟩ | ⟨p1, c1, m1, us1, nl1, n1, fc1, fo1, fa1, fp1, fq1, e1, e2, e3, e4, e5, e6, e7, e8⟩
    · rw [if_pos n1]
      refine Or.inl ⟨rfl, q', n2, ?_, ?_⟩
      · unfold rIf; rw [if_neg (by rw [n4]; decide)]; exact n3
      · unfold rIf; rw [if_neg (by rw [n4]; decide)]; exact n4
    subst e1
    subst e4
    dsimp only
    have hp1 := e3.1
    rw [if_neg (show ¬ (1 : Int32) = 0 by decide), emit_at (us := us1) (by omega)]
    dsimp only
    rw [show (0 : Int32) + Int32.ofInt 1 = 1 from by decide, ← hrec, Lp_s, cl_if1 (by decide)]
    have lt := e8.lt (Nat.le_refl 1) (by omega)
    have ib := if_both (n := n) (k6 := 8 * n + 6) (fau := fau) (n1 := nI (n + 1)) (pi := nI 0) (op := nI 0) (fh := upd (upd (upd (upd (upd (upd fh (5 * n + 0) (nI i)) (5 * n + 1) 1) (5 * n + 2) (-1)) (5 * n + 3) (-1)) (5 * n + 4) (-1)) (5 * n + 2) (nI us)) (fc := upd (upd fc1 us1 0) (us1 + 1) 0) (fcl := upd (upd (upd (upd f8 (8 * n) (nI i)) (8 * n + 3) (nI nc)) (8 * n + 4) (nI n1)) (8 * n + 5) (nI n1)) (fo := fo1) (fa := fa1) (fp := fp1) (fq := fq1) (us := us1 + 2) (nl := nl1) (nc := n1) hR (show (0 : Nat) ≤ 1 by omega) e3 (by omega) (by omega) e7.2.2.2.1 hn
    rcases ib with ib | ⟨p', c', m', us', nl', n2, fh', fc', fo2, fa2, fp2, fq2, pi', op', b1, b2, b3, b4, b5, b6, b7, b8⟩
    · exact Or.inl ib
    · have fcs : ∀ j, j < us → fc' j = fc j := fun j hj => by rw [b5 j (by omega), upd_n (by omega), upd_n (by omega)]; exact e5 j hj
      have ops : ∀ j, j < nc → fo2 j = fo j ∧ fa2 j = fa j := fun j hj => ⟨(b6 j (by omega)).1.trans (e6 j hj).1, (b6 j (by omega)).2.trans (e6 j hj).2⟩
      refine Or.inr ⟨p', c', m', us', nl', n2, fh', fc', fo2, fa2, fp2, fq2, _, pi', op', b1, by omega, b3, b4, ⟨b7.2.1, b7.2.2.2.1, b7.2.2.2.2.2⟩, fun j hj => ?_⟩
      by_cases jn : j < n
      · exact hK.ext (by omega) (by omega) fcs ops (fun k hk => by
          rcases b8 with ⟨b8, _⟩ | ⟨b8, _⟩
          · rw [b8, upd_n (by omega), upd_n (by omega), upd_n (by omega), upd_n (by omega), upd_n (by omega), upd_n (by omega)]
          · rw [b8, upd_n (by omega), upd_n (by omega), upd_n (by omega), upd_n (by omega), upd_n (by omega), upd_n (by omega), upd_n (by omega)]) (fun k hk => by
          rw [upd_n (by omega), upd_n (by omega), upd_n (by omega), upd_n (by omega), upd_n (by omega)]; exact z2 k (by omega)) j jn
      · have jj : j = n := by omega
        subst jj
        refine ⟨i, by omega, ?_, ?_, ?_, Or.inr ⟨us, us1, nc, n1, nl1 - nl, ?_, ?_, ?_, lt, by omega, by omega, ?_, ?_, by omega⟩⟩
        · rcases b8 with ⟨b8, _⟩ | ⟨b8, _⟩
          · rw [b8, upd_n (by omega), upd_n (by omega), upd_n (by omega), upd_n (by omega), upd_n (by omega)]; exact upd_s
          · rw [b8, upd_n (by omega), upd_n (by omega), upd_n (by omega), upd_n (by omega), upd_n (by omega), upd_n (by omega)]; exact upd_s
        · rw [upd_n (by omega), upd_n (by omega), upd_n (by omega), upd_n (by omega), upd_s]
        · rw [upd_n (by omega), upd_s, upd_s]
          rcases b8 with ⟨b8, b9, b10⟩ | ⟨b8, b9, b10, b11, b12⟩
          · exact Or.inl ⟨by rw [b8, upd_n (by omega), upd_s], by rw [b10], n1, rfl, by omega⟩
          · exact Or.inr ⟨us1 + 2, us' - 2, n1, n2, nl' - nl1, by rw [b8, upd_s], rfl, rfl, b9, Nat.le_refl _, by omega, b12, b11, by omega⟩
        · rcases b8 with ⟨b8, _⟩ | ⟨b8, _⟩
          · rw [b8, upd_s]
          · rw [b8, upd_n (by omega), upd_s]
        · rw [upd_n (by omega), upd_n (by omega), upd_n (by omega), upd_s]
        · rw [upd_n (by omega), upd_n (by omega), upd_s]
        · exact e8.ext (fun j _ hj => by rw [b5 j (by omega), upd_n (by omega), upd_n (by omega)]) (fun j _ hj => b6 j (by omega))
        · rw [b5 us1 (by omega), upd_n (by omega), upd_s]
end
section
/-! a whole law is read alike -/
noncomputable abbrev KW11 : Type := Int32 × Int32 × Int32 × Int32 × Int32 × Int32 × Int32 × Int32 × Int32 × (Nat → Int32) × (Nat → Int32)
noncomputable abbrev KR20 : Type := Int32 × Int32 × Int32 × Int32 × Int32 × Int64 × Int32 × Int32 × Int32 × Int32 × Int32 × Int32 × Int32 × (Nat → Int32) × (Nat → Int32) × (Nat → Int32) × (Nat → Int32) × (Nat → Int32) × (Nat → Int32) × (Nat → Int32)
noncomputable abbrev KL45 : Type := Int32 → Int32 → Int32 → Int32 → Int32 → Int32 → Int32 → Int32 → Int32 → (Nat → Int32) → (Nat → Int32) → KW11
noncomputable abbrev KL37 : Type := Int32 → Int32 → Int32 → Int64 → Int32 → Int32 → Int32 → Int32 → Int32 → Int32 → Int32 → (Nat → Int32) → (Nat → Int32) → (Nat → Int32) → (Nat → Int32) → (Nat → Int32) → KR20
theorem tk_start {f g : Nat → Int32} {L : Nat} (hL : L ≤ 400) (h0 : ∀ j, j < L → 0 ≤ (f j).toInt) (hg : ∀ j, j < L → f j = g j) {fr2 fi2 nu2 fr3 so3 : Int32} {wo3 : Int64} : ∃ q, TkP f L q (E_w_step (nI L) fr2 0 fi2 nu2 f) (E_v_next (nI L) fr3 0 so3 wo3 g) := by
  have s1 := step_at (ln := nI L) (fr := fr2) (to := 0) (fi := fi2) (nu := nu2) (f := f) (p := 0) rfl hL rfl (Nat.zero_le _)
  have s2 := next_at (ta := nI L) (fr := fr3) (to := 0) (so := so3) (wo := wo3) (f := g) (p := 0) rfl hL rfl (Nat.zero_le _)
  rw [← skp_ext hg (L - 0) 0 (by omega)] at s2
  have le := skp_le (f := f) (L - 0) 0
  exact ⟨_, by omega, hL, h0, s1, s2.same (fun j hj => (hg j hj).symm)⟩
/-- the class behind a clause -/
noncomputable def cAft (x : Int32) (L n : Nat) (fb : Nat → Int32) (z : KL45) (pa tf tt ti tu us : Int32) (fh fc : Nat → Int32) : KW11 :=
  if ti = -1 then E_w_reads_j112 (nI L) fb (nI (n - 1)) (Lp (α := KL45) (E_w_reads_l45 x (nI L) fb) z (14 - n)) pa tf tt ti tu us fh fc (nI n) 1 else if ti = 59 then E_w_reads_j112 (nI L) fb (nI (n - 1)) (Lp (α := KL45) (E_w_reads_l45 x (nI L) fb) z (14 - n)) pa tf tt ti tu us fh fc (nI n) 0 else E_w_reads_j125 0 pa (nI n) us tf tt ti tu fh fc
theorem rd_1 {x : Int32} {L i : Nat} {fb fh fc : Nat → Int32} {pa scl us tf tt ti tu : Int32} (z : KL45) (hi : i < 12) : Lp (α := KL45) (E_w_reads_l45 x (nI L) fb) z (14 - i) (nI i) 0 pa scl us tf tt ti tu fh fc = (fun r : KW9 => if r.1 = 0 then E_w_reads_j125 0 r.2.1 scl r.2.2.2.2.2.2.1 r.2.2.1 r.2.2.2.1 r.2.2.2.2.1 r.2.2.2.2.2.1 r.2.2.2.2.2.2.2.1 r.2.2.2.2.2.2.2.2 else cAft x L (i + 1) fb z r.2.1 r.2.2.1 r.2.2.2.1 r.2.2.2.2.1 r.2.2.2.2.2.1 r.2.2.2.2.2.2.1 r.2.2.2.2.2.2.2.1 r.2.2.2.2.2.2.2.2) (E_w_clause (nI i) x pa (nI L) tf tt ti tu fb scl us fh fc) := by
  rw [show 14 - i = (14 - (i + 1)) + 1 by omega, Lp_s, E_w_reads_l45.eq_def, if_neg (kn_nlel (j := 12) rfl (by omega) hi), if_pos rfl]
  generalize E_w_clause (nI i) x pa (nI L) tf tt ti tu fb scl us fh fc = r
  unfold cAft
  simp only [Lt2, Lt]
  rw [kn_p1 (by omega), show i + 1 - 1 = i by omega]
/-- the last look: twelve clauses, or the end -/
theorem rd_2 {x ok : Int32} {L i : Nat} {fb fh fc : Nat → Int32} {pa scl us tf tt ti tu : Int32} (z : KL45) (hi : i ≤ 12) (h : i = 12 ∨ ok = 1) : Lp (α := KL45) (E_w_reads_l45 x (nI L) fb) z (14 - i) (nI i) ok pa scl us tf tt ti tu fh fc = E_w_reads_j125 ok pa scl us tf tt ti tu fh fc := by
  rw [show 14 - i = (14 - (i + 1)) + 1 by omega, Lp_s, E_w_reads_l45.eq_def]
  by_cases c : i = 12
  · rw [if_pos (kn_lel (j := 12) rfl (by omega) (by omega))]
  · rw [if_neg (kn_nlel (j := 12) rfl (by omega) (by omega)), if_neg (by rw [h.resolve_left c]; decide)]
theorem j112_at {L n : Nat} {fb fh fc : Nat → Int32} {pa tf tt ti tu us x ok : Int32} (hn : 1 ≤ n) (hn2 : n ≤ 12) (rc : KL45) : E_w_reads_j112 (nI L) fb (nI (n - 1)) rc pa tf tt ti tu us fh fc x ok = rc (nI n) ok pa x us (E_w_step (nI L) tf tt ti tu fb).1 (E_w_step (nI L) tf tt ti tu fb).2.1 (E_w_step (nI L) tf tt ti tu fb).2.2.1 (E_w_step (nI L) tf tt ti tu fb).2.2.2 fh fc := by
  rw [E_w_reads_j112.eq_def]
  simp only [Lt2, Lt]
  rw [kn_po (by omega), show n - 1 + 1 = n by omega]
theorem j125_0 {pa scl us tf tt ti tu : Int32} {fh fc : Nat → Int32} : E_w_reads_j125 0 pa scl us tf tt ti tu fh fc = (0, pa, tf, tf, tt, ti, tu, scl, us, fh, fc) := by
  rw [E_w_reads_j125.eq_def, if_pos rfl]
theorem j125_1 {pa scl us tf tt ti tu : Int32} {fh fc : Nat → Int32} : E_w_reads_j125 1 pa scl us tf tt ti tu fh fc = (1, pa, -1, tf, tt, ti, tu, scl, us, fh, fc) := by
  rw [E_w_reads_j125.eq_def, if_neg (by decide)]
/-! the reference: behind a clause -/
theorem et_bad {ta fr to so fau ord : Int32} {wo : Int64} {ft : Nat → Int32} : E_v_endText ta fr to so wo fau 1 ord ft = (fr, to, so, wo, fau, 1) := by
  rw [E_v_endText.eq_def, if_neg (by decide)]
theorem et_end {ta fr to fau ord : Int32} {wo : Int64} {ft : Nat → Int32} : E_v_endText ta fr to 0 wo fau 0 ord ft = (fr, to, 0, wo, fau, 0) := by
  rw [E_v_endText.eq_def, if_pos rfl, if_pos rfl]
theorem et_more {ta fr to so fau ord : Int32} {wo : Int64} {ft : Nat → Int32} (h : so ≠ 0) : E_v_endText ta fr to so wo fau 0 ord ft = (fr, to, so, wo, fr, 1) := by
  rw [E_v_endText.eq_def, if_pos rfl, if_neg h, must_0]
  rfl
/-- the law is written into its row -/
noncomputable def rAcc (sta : Int32) (frf fw : Nat → Int32) (fr to so : Int32) (wo : Int64) (fau bd ncl nc nl pi opn : Int32) (fo fa fp fq fcl : Nat → Int32) : KR20 :=
  Lp (α := Int32 → (Nat → Int32) → KR20) (E_v_law_l110 sta frf ncl nc nl pi opn fo fa fp fq fcl fr to so wo fau bd (100 + 900 * fw 2)) (fun _ _ => ((0, 0, 0, 0, 0, 0, 0, 0, 0, 0, 0, 0, 0, fun _ => 0, fun _ => 0, fun _ => 0, fun _ => 0, fun _ => 0, fun _ => 0, fun _ => 0) : KR20)) ((97 - (0 : Int32).toInt : Int).toNat + 1) 0 (upd fw (100 + 900 * fw 2 + 1).toNatClampNeg ncl)
theorem l37_bad {sta ta fr to so fau ncl nc nl pi opn : Int32} {wo : Int64} {ft fw frf fo fa fp fq fcl : Nat → Int32} {fwd fwe fhd : Nat → Int64} (z : KL37) (F : Nat) : Lp (α := KL37) (E_v_law_l37 sta ta ft fwd fwe fhd fw frf) z (F + 1) fr to so wo fau 1 ncl nc nl pi opn fo fa fp fq fcl = ((E_v_tell (-6) sta frf).1, (E_v_tell (-6) sta frf).2.1, fr, to, so, wo, fau, 1, ncl, nc, nl, pi, opn, fo, fa, fp, fq, fcl, fw, (E_v_tell (-6) sta frf).2.2) := by
  rw [Lp_s, E_v_law_l37.eq_def, if_neg (by decide), et_bad]
  simp only [Lt2]
  rw [if_neg (show ¬ (1 : Int32) = 0 by decide)]
theorem l37_end {sta ta fr to fau ncl nc nl pi opn : Int32} {wo : Int64} {ft fw frf fo fa fp fq fcl : Nat → Int32} {fwd fwe fhd : Nat → Int64} (z : KL37) (F : Nat) (h : E_v_isSign 59 0 wo = 0) : Lp (α := KL37) (E_v_law_l37 sta ta ft fwd fwe fhd fw frf) z (F + 1) fr to 0 wo fau 0 ncl nc nl pi opn fo fa fp fq fcl = rAcc sta frf fw fr to 0 wo fau 0 ncl nc nl pi opn fo fa fp fq fcl := by
  rw [Lp_s, E_v_law_l37.eq_def, if_pos rfl, Lt_b, if_neg (by rw [h]; decide), et_end, Lt2_b, Lt2_b, Lt2_b, Lt2_b, Lt2_b, if_pos (by rfl), Lt_b, Lt_b, Lt_b, Lt_b, Lt_b]
  rfl
theorem l37_stop {sta ta fr to so fau ncl nc nl pi opn : Int32} {wo : Int64} {ft fw frf fo fa fp fq fcl : Nat → Int32} {fwd fwe fhd : Nat → Int64} (z : KL37) (F : Nat) (h : E_v_isSign 59 so wo = 0) (h0 : so ≠ 0) : Lp (α := KL37) (E_v_law_l37 sta ta ft fwd fwe fhd fw frf) z (F + 1) fr to so wo fau 0 ncl nc nl pi opn fo fa fp fq fcl = ((E_v_tell (-6) sta frf).1, (E_v_tell (-6) sta frf).2.1, fr, to, so, wo, fr, 1, ncl, nc, nl, pi, opn, fo, fa, fp, fq, fcl, fw, (E_v_tell (-6) sta frf).2.2) := by
  rw [Lp_s, E_v_law_l37.eq_def, if_pos rfl, Lt_b, if_neg (by rw [h]; decide), et_more h0]
  simp only [Lt2]
  rw [if_neg (show ¬ (1 : Int32) = 0 by decide)]
theorem l37_sep {sta ta fr to so fau ncl nc nl pi opn : Int32} {wo : Int64} {ft fw frf fo fa fp fq fcl : Nat → Int32} {fwd fwe fhd : Nat → Int64} (z : KL37) (F : Nat) (h : E_v_isSign 59 so wo = 1) : Lp (α := KL37) (E_v_law_l37 sta ta ft fwd fwe fhd fw frf) z (F + 1) fr to so wo fau 0 ncl nc nl pi opn fo fa fp fq fcl = (fun R : KR16 => Lp (α := KL37) (E_v_law_l37 sta ta ft fwd fwe fhd fw frf) z F R.1 R.2.1 R.2.2.1 R.2.2.2.1 R.2.2.2.2.1 R.2.2.2.2.2.1 R.2.2.2.2.2.2.1 R.2.2.2.2.2.2.2.1 R.2.2.2.2.2.2.2.2.1 R.2.2.2.2.2.2.2.2.2.1 R.2.2.2.2.2.2.2.2.2.2.1 R.2.2.2.2.2.2.2.2.2.2.2.1 R.2.2.2.2.2.2.2.2.2.2.2.2.1 R.2.2.2.2.2.2.2.2.2.2.2.2.2.1 R.2.2.2.2.2.2.2.2.2.2.2.2.2.2.1 R.2.2.2.2.2.2.2.2.2.2.2.2.2.2.2) (E_v_readLaw ta (E_v_next ta fr to so wo ft).1 (E_v_next ta fr to so wo ft).2.1 (E_v_next ta fr to so wo ft).2.2.1 (E_v_next ta fr to so wo ft).2.2.2 fau 0 0 ncl nc nl pi opn ft fo fa fp fq fwd fwe fcl fhd) := by
  rw [Lp_s, E_v_law_l37.eq_def, if_pos rfl, Lt_b, if_pos h, Lt2_b, Lt2_b, Lt2_b]
  generalize E_v_readLaw ta (E_v_next ta fr to so wo ft).1 (E_v_next ta fr to so wo ft).2.1 (E_v_next ta fr to so wo ft).2.2.1 (E_v_next ta fr to so wo ft).2.2.2 fau 0 0 ncl nc nl pi opn ft fo fa fp fq fwd fwe fcl fhd = R
  generalize hz : Lp (α := KL37) (E_v_law_l37 sta ta ft fwd fwe fhd fw frf) z F = rcc
  rfl
/-- what comes of it: the same fault, or the same law -/
noncomputable def KRes (sta : Int32) (frf fw : Nat → Int32) (fau : Int32) (r : KW11) (R : KR20) : Prop :=
  (r.1 = 0 ∧ ∃ (q : Nat) (a b c : Int32) (e : Int64) (n1 n2 n3 n4 n5 : Int32) (h1 h2 h3 h4 h5 : Nat → Int32), r.2.2.1 = nI q ∧ R = ((E_v_tell (-6) sta frf).1, (E_v_tell (-6) sta frf).2.1, a, b, c, e, nI q, 1, n1, n2, n3, n4, n5, h1, h2, h3, h4, h5, fw, (E_v_tell (-6) sta frf).2.2)) ∨
  ∃ (n us nc nl : Nat) (t1 t2 t3 t4 a b : Int32) (e : Int64) (pi op : Int32) (fh fc fo fa fp fq fcl : Nat → Int32), r = (1, nI nl, -1, t1, t2, t3, t4, nI n, nI us, fh, fc) ∧ R = rAcc sta frf fw a b 0 e fau 0 (nI n) (nI nc) (nI nl) pi op fo fa fp fq fcl ∧ (1 ≤ n ∧ n ≤ 12 ∧ us ≤ 800 ∧ nc ≤ 400 ∧ nl ≤ 50) ∧ KCls n us nc fh fcl fc fo fa
theorem aft_law {L : Nat} {fb ft fw frf : Nat → Int32} {wd we fhd : Nat → Int64} {sta : Int32} (hR : KRy L fb ft wd we) (hh : ∀ j, j < 4 → (fhd j).toInt = kwh 0 j) (zc : KL45) (zr : KL37) : ∀ (d n p us nl nc : Nat) (c : KT4) (m : KM4) (fh fc fcl fo fa fp fq : Nat → Int32) (fau pi op : Int32) (F : Nat), n + d = 12 → 1 ≤ n → TkP fb L p c m → us ≤ 2 * p → nc ≤ p → nl ≤ 50 → KCls n us nc fh fcl fc fo fa → 2 * (401 - p) + 2 ≤ F →
    KRes sta frf fw fau (cAft 1 L n fb zc (nI nl) c.1 c.2.1 c.2.2.1 c.2.2.2 (nI us) fh fc) (Lp (α := KL37) (E_v_law_l37 sta (nI L) ft wd we fhd fw frf) zr F m.1 m.2.1 m.2.2.1 m.2.2.2 fau 0 (nI n) (nI nc) (nI nl) pi op fo fa fp fq fcl) := by
  intro d
  induction d with
  | zero =>
    intro n p us nl nc c m fh fc fcl fo fa fp fq fau pi op F hd hn hT hus hnc hnl hK hF
    have hn12 : n = 12 := by omega
    have hpL := hT.1
    have hL := hT.2.1
    have fr := TkP.froms (tf := c.1) (tt := c.2.1) (ti := c.2.2.1) (tu := c.2.2.2) (fr := m.1) (to := m.2.1) (so := m.2.2.1) (wo := m.2.2.2) hT
    unfold cAft
    rcases tk_sign (c := 59) (tf := c.1) (tt := c.2.1) (ti := c.2.2.1) (tu := c.2.2.2) (fr := m.1) (to := m.2.1) (so := m.2.2.1) (wo := m.2.2.2) (by decide) hT with ⟨s1, s2, s3⟩ | ⟨s1, s2⟩
    · obtain ⟨q, q1, q2, hQ⟩ := kx_next hR hT
      have frq := TkP.froms (tf := (E_w_step (nI L) c.1 c.2.1 c.2.2.1 c.2.2.2 fb).1) (tt := (E_w_step (nI L) c.1 c.2.1 c.2.2.1 c.2.2.2 fb).2.1) (ti := (E_w_step (nI L) c.1 c.2.1 c.2.2.1 c.2.2.2 fb).2.2.1) (tu := (E_w_step (nI L) c.1 c.2.1 c.2.2.1 c.2.2.2 fb).2.2.2) (fr := (E_v_next (nI L) m.1 m.2.1 m.2.2.1 m.2.2.2 ft).1) (to := (E_v_next (nI L) m.1 m.2.1 m.2.2.1 m.2.2.2 ft).2.1) (so := (E_v_next (nI L) m.1 m.2.1 m.2.2.1 m.2.2.2 ft).2.2.1) (wo := (E_v_next (nI L) m.1 m.2.1 m.2.2.1 m.2.2.2 ft).2.2.2) hQ
      rw [if_neg (by rw [s1]; decide), if_pos s1, j112_at hn (by omega), rd_2 zc (by omega) (Or.inl hn12), j125_0, show F = (F - 2 + 1) + 1 by omega, l37_sep zr _ s2]
      have w4 : (∃ i, i < 4 ∧ E_v_isWord (fhd i) (E_v_next (nI L) m.1 m.2.1 m.2.2.1 m.2.2.2 ft).2.2.1 (E_v_next (nI L) m.1 m.2.1 m.2.2.1 m.2.2.2 ft).2.2.2 = 1 ∧ ∀ j, j < 4 → j ≠ i → E_v_isWord (fhd j) (E_v_next (nI L) m.1 m.2.1 m.2.2.1 m.2.2.2 ft).2.2.1 (E_v_next (nI L) m.1 m.2.1 m.2.2.1 m.2.2.2 ft).2.2.2 = 0) ∨ ∀ j, j < 4 → E_v_isWord (fhd j) (E_v_next (nI L) m.1 m.2.1 m.2.2.1 m.2.2.2 ft).2.2.1 (E_v_next (nI L) m.1 m.2.1 m.2.2.1 m.2.2.2 ft).2.2.2 = 0 := by
        rcases tk_four (k := 0) (Or.inl rfl) hh hQ (nI L) with ⟨i, i1, _, _, i4, i5⟩ | ⟨_, i2⟩
        · exact Or.inl ⟨i, i1, i4, i5⟩
        · exact Or.inr i2
      rw [hn12, law_full w4]
      dsimp only
      rw [l37_bad]
      exact Or.inl ⟨rfl, q, _, _, _, _, _, _, _, _, _, _, _, _, _, _, frq.1, by rw [frq.2.1]⟩
    · rcases tk_end (tf := c.1) (tt := c.2.1) (ti := c.2.2.1) (tu := c.2.2.2) (fr := m.1) (to := m.2.1) (so := m.2.2.1) (wo := m.2.2.2) hT with ⟨t1, t2, t3⟩ | ⟨t1, t2, t3⟩
      · rw [if_pos t2, j112_at hn (by omega), rd_2 zc (by omega) (Or.inr rfl), j125_1, show F = F - 1 + 1 by omega, t3, l37_end zr _ (by have s3 := s2; rw [t3] at s3; exact s3)]
        exact Or.inr ⟨n, us, nc, nl, _, _, _, _, _, _, _, _, _, _, _, _, _, _, _, _, rfl, rfl, ⟨hn, by omega, by omega, by omega, hnl⟩, hK⟩
      · rw [if_neg t2, if_neg s1, j125_0, show F = F - 1 + 1 by omega, l37_stop zr _ s2 t3]
        exact Or.inl ⟨rfl, p, _, _, _, _, _, _, _, _, _, _, _, _, _, _, fr.1, by rw [fr.2.1]⟩
  | succ d ih =>
    intro n p us nl nc c m fh fc fcl fo fa fp fq fau pi op F hd hn hT hus hnc hnl hK hF
    have hpL := hT.1
    have hL := hT.2.1
    have fr := TkP.froms (tf := c.1) (tt := c.2.1) (ti := c.2.2.1) (tu := c.2.2.2) (fr := m.1) (to := m.2.1) (so := m.2.2.1) (wo := m.2.2.2) hT
    unfold cAft
    rcases tk_sign (c := 59) (tf := c.1) (tt := c.2.1) (ti := c.2.2.1) (tu := c.2.2.2) (fr := m.1) (to := m.2.1) (so := m.2.2.1) (wo := m.2.2.2) (by decide) hT with ⟨s1, s2, s3⟩ | ⟨s1, s2⟩
    · obtain ⟨q, q1, q2, hQ⟩ := kx_next hR hT
      have qp := q2 s3
      have hqL := hQ.1
      rw [if_neg (by rw [s1]; decide), if_pos s1, j112_at hn (by omega), rd_1 zc (by omega), show F = (F - 1) + 1 by omega, l37_sep zr _ s2]
      have lc := law_clause hR hh (fau := fau) (pi := pi) (op := op) (scl := nI n) (fh := fh) (fc := fc) (fcl := fcl) (fo := fo) (fa := fa) (fp := fp) (fq := fq) (us := us) (nl := nl) (nc := nc) (n := n) hQ (by omega) (by omega) hnl (by omega) hK
      generalize E_w_clause (nI n) 1 (nI nl) (nI L) (E_w_step (nI L) c.1 c.2.1 c.2.2.1 c.2.2.2 fb).1 (E_w_step (nI L) c.1 c.2.1 c.2.2.1 c.2.2.2 fb).2.1 (E_w_step (nI L) c.1 c.2.1 c.2.2.1 c.2.2.2 fb).2.2.1 (E_w_step (nI L) c.1 c.2.1 c.2.2.1 c.2.2.2 fb).2.2.2 fb (nI n) (nI us) fh fc = r at lc ⊢
      generalize E_v_readLaw (nI L) (E_v_next (nI L) m.1 m.2.1 m.2.2.1 m.2.2.2 ft).1 (E_v_next (nI L) m.1 m.2.1 m.2.2.1 m.2.2.2 ft).2.1 (E_v_next (nI L) m.1 m.2.1 m.2.2.1 m.2.2.2 ft).2.2.1 (E_v_next (nI L) m.1 m.2.1 m.2.2.1 m.2.2.2 ft).2.2.2 fau 0 0 (nI n) (nI nc) (nI nl) pi op ft fo fa fp fq wd we fcl fhd = X at lc ⊢
      dsimp only
      rcases lc with ⟨n1, q', n2, n3, n4⟩ | ⟨p', c', m', us', nl', n2, fh', fc', fo2, fa2, fp2, fq2, fcl', pi', op', e1, e2, e3, e4, e5, e6⟩
      · rw [if_pos n1, j125_0, n4, n3, show F - 1 = (F - 2) + 1 by omega, l37_bad]
        exact Or.inl ⟨rfl, q', _, _, _, _, _, _, _, _, _, _, _, _, _, _, n2, rfl⟩
      · subst e1
        subst e4
        dsimp only
        rw [if_neg (show ¬ (1 : Int32) = 0 by decide)]
        exact ih (n + 1) p' us' nl' n2 c' m' fh' fc' fcl' fo2 fa2 fp2 fq2 fau pi' op' (F - 1) (by omega) (by omega) e3 e5.1 e5.2.1 e5.2.2 e6 (by omega)
    · rcases tk_end (tf := c.1) (tt := c.2.1) (ti := c.2.2.1) (tu := c.2.2.2) (fr := m.1) (to := m.2.1) (so := m.2.2.1) (wo := m.2.2.2) hT with ⟨t1, t2, t3⟩ | ⟨t1, t2, t3⟩
      · rw [if_pos t2, j112_at hn (by omega), rd_2 zc (by omega) (Or.inr rfl), j125_1, show F = F - 1 + 1 by omega, t3, l37_end zr _ (by have s3 := s2; rw [t3] at s3; exact s3)]
        exact Or.inr ⟨n, us, nc, nl, _, _, _, _, _, _, _, _, _, _, _, _, _, _, _, _, rfl, rfl, ⟨hn, by omega, by omega, by omega, hnl⟩, hK⟩
      · rw [if_neg t2, if_neg s1, j125_0, show F = F - 1 + 1 by omega, l37_stop zr _ s2 t3]
        exact Or.inl ⟨rfl, p, _, _, _, _, _, _, _, _, _, _, _, _, _, _, fr.1, by rw [fr.2.1]⟩
end
section
/-! law(): read, and written down -/
theorem reads_law {L : Nat} {fb ft fw frf fh fc fo fa fp fq fcl : Nat → Int32} {wd we fhd : Nat → Int64} {lw pa fl tf tt ti tu scl us thr sta fr to so fau bd ncl nc nl pi opn : Int32} {wo : Int64} (hR : KRy L fb ft wd we) (h0 : ∀ j, j < L → 0 ≤ (fb j).toInt) (hh : ∀ j, j < 4 → (fhd j).toInt = kwh 0 j) (h6 : fw 2 ≠ 6) : KRes sta frf fw (-1) (E_w_reads 1 lw pa fl (nI L) tf tt ti tu fb scl us fh fc) (E_v_law thr sta (nI L) fr to so wo fau bd ncl nc nl pi opn ft fo fa fp fq wd we fcl fhd fw frf) := by
  have hL := hR.1
  have z0 : (0 : Int32).toInt = 0 := rfl
  obtain ⟨q, hQ⟩ := tk_start hL h0 hR.2.1 (fr2 := tf) (fi2 := ti) (nu2 := tu) (fr3 := fr) (so3 := so) (wo3 := wo)
  have e1 : E_w_reads 1 lw pa fl (nI L) tf tt ti tu fb scl us fh fc = Lp (α := KL45) (E_w_reads_l45 1 (nI L) fb) (fun _ _ _ _ _ _ _ _ _ _ _ => ((0, 0, 0, 0, 0, 0, 0, 0, 0, fun _ => 0, fun _ => 0) : KW11)) (14 - 0) (nI 0) 0 (nI 0) 0 (nI 0) (E_w_step (nI L) tf 0 ti tu fb).1 (E_w_step (nI L) tf 0 ti tu fb).2.1 (E_w_step (nI L) tf 0 ti tu fb).2.2.1 (E_w_step (nI L) tf 0 ti tu fb).2.2.2 fh fc := by
    rw [E_w_reads.eq_def, Lt2_b, Lt2_b, Lt2_b]; rfl
  have eb : E_v_beginText 0 (nI L) fr to so wo fau bd 0 ncl nc nl ft = E_v_next (nI L) fr 0 so wo ft := by
    rw [E_v_beginText.eq_def, E_v_begin.eq_def]; rfl
  rw [e1, rd_1 _ (by omega), E_v_law.eq_def, Lt_b, if_neg (show ¬ fw (2 : Int32).toNatClampNeg = 6 from h6), eb, Lt2_b, Lt2_b, Lt2_b]
  have lc := law_clause hR hh (n := 0) (us := 0) (nl := 0) (nc := 0) (fau := -1) (pi := pi) (op := opn) (scl := 0) (fh := fh) (fc := fc) (fcl := fcl) (fo := fo) (fa := fa) (fp := fp) (fq := fq) hQ (Nat.zero_le _) (Nat.zero_le _) (by omega) (by omega) (fun i hi => absurd hi (Nat.not_lt_zero _))
  change KCla L 0 fb q (-1) _ (E_v_readLaw (nI L) (E_v_next (nI L) fr 0 so wo ft).1 (E_v_next (nI L) fr 0 so wo ft).2.1 (E_v_next (nI L) fr 0 so wo ft).2.2.1 (E_v_next (nI L) fr 0 so wo ft).2.2.2 (-1) 0 0 0 0 0 pi opn ft fo fa fp fq wd we fcl fhd) at lc
  generalize E_w_clause (nI 0) 1 (nI 0) (nI L) (E_w_step (nI L) tf 0 ti tu fb).1 (E_w_step (nI L) tf 0 ti tu fb).2.1 (E_w_step (nI L) tf 0 ti tu fb).2.2.1 (E_w_step (nI L) tf 0 ti tu fb).2.2.2 fb 0 (nI 0) fh fc = r at lc ⊢
  generalize E_v_readLaw (nI L) (E_v_next (nI L) fr 0 so wo ft).1 (E_v_next (nI L) fr 0 so wo ft).2.1 (E_v_next (nI L) fr 0 so wo ft).2.2.1 (E_v_next (nI L) fr 0 so wo ft).2.2.2 (-1) 0 0 0 0 0 pi opn ft fo fa fp fq wd we fcl fhd = X at lc ⊢
  simp only [Lt2]
  rcases lc with ⟨n1, q', n2, n3, n4⟩ | ⟨p', c', m', us', nl', n2, fh', fc', fo2, fa2, fp2, fq2, fcl', pi', op', x1, x2, x3, x4, x5, x6⟩
  · rw [if_pos n1, j125_0, n4, n3, l37_bad]
    exact Or.inl ⟨rfl, q', _, _, _, _, _, _, _, _, _, _, _, _, _, _, n2, rfl⟩
  · subst x1
    subst x4
    have hp' := x3.1
    have frp := TkP.froms (tf := c'.1) (tt := c'.2.1) (ti := c'.2.2.1) (tu := c'.2.2.2) (fr := m'.1) (to := m'.2.1) (so := m'.2.2.1) (wo := m'.2.2.2) x3
    dsimp only
    rw [if_neg (show ¬ (1 : Int32) = 0 by decide)]
    exact aft_law hR hh _ _ 11 1 p' us' nl' n2 c' m' fh' fc' fcl' fo2 fa2 fp2 fq2 (-1) pi' op' _ (by omega) (by omega) x3 x5.1 x5.2.1 x5.2.2 x6 (by rw [frp.2.1, nI_toInt (by omega), z0]; omega)
/-! copies -/
theorem copy1 {α : Type} (z : Int32 → (Nat → Int32) → α) (B : (Int32 → (Nat → Int32) → α) → Int32 → (Nat → Int32) → α) {b N : Nat} {g : Nat → Int32} (hB : ∀ rc (v : Nat) f, v < N → B rc (nI v) f = rc (nI (v + 1)) (upd f (b + v) (g v))) : ∀ (d v F : Nat) (f : Nat → Int32), v + d = N → ∃ f', Lp B z (F + d + 1) (nI v) f = Lp B z (F + 1) (nI N) f' ∧ (∀ j, j < b + v ∨ b + N ≤ j → f' j = f j) ∧ ∀ j, v ≤ j → j < N → f' (b + j) = g j := by
  intro d
  induction d with
  | zero => intro v F f hv; exact ⟨f, by rw [show v = N by omega], fun _ _ => rfl, fun j _ _ => by omega⟩
  | succ d ih =>
    intro v F f hv
    obtain ⟨f', e1, e2, e3⟩ := ih (v + 1) F (upd f (b + v) (g v)) (by omega)
    refine ⟨f', ?_, fun j hj => ?_, fun j h1 h2 => ?_⟩
    · rw [show F + (d + 1) + 1 = (F + d + 1) + 1 by omega, Lp_s, hB _ _ _ (by omega), e1]
    · rw [e2 j (by omega), upd_n (by omega)]
    · by_cases q : j = v
      · rw [e2 (b + j) (by omega), q, upd_s]
      · exact e3 j (by omega) h2
theorem copy2 {α : Type} (z : Int32 → (Nat → Int32) → α) (B : (Int32 → (Nat → Int32) → α) → Int32 → (Nat → Int32) → α) {b N : Nat} {g h : Nat → Int32} (hB : ∀ rc (v : Nat) f, v < N → B rc (nI v) f = rc (nI (v + 1)) (upd (upd f (b + 2 * v) (g v)) (b + 2 * v + 1) (h v))) : ∀ (d v F : Nat) (f : Nat → Int32), v + d = N → ∃ f', Lp B z (F + d + 1) (nI v) f = Lp B z (F + 1) (nI N) f' ∧ (∀ j, j < b + 2 * v ∨ b + 2 * N ≤ j → f' j = f j) ∧ ∀ j, v ≤ j → j < N → f' (b + 2 * j) = g j ∧ f' (b + 2 * j + 1) = h j := by
  intro d
  induction d with
  | zero => intro v F f hv; exact ⟨f, by rw [show v = N by omega], fun _ _ => rfl, fun j _ _ => by omega⟩
  | succ d ih =>
    intro v F f hv
    obtain ⟨f', e1, e2, e3⟩ := ih (v + 1) F (upd (upd f (b + 2 * v) (g v)) (b + 2 * v + 1) (h v)) (by omega)
    refine ⟨f', ?_, fun j hj => ?_, fun j h1 h2 => ?_⟩
    · rw [show F + (d + 1) + 1 = (F + d + 1) + 1 by omega, Lp_s, hB _ _ _ (by omega), e1]
    · rw [e2 j (by omega), upd_n (by omega), upd_n (by omega)]
    · by_cases q : j = v
      · rw [e2 (b + 2 * j) (by omega), e2 (b + 2 * j + 1) (by omega), q, upd_n (by omega), upd_s, upd_s]; exact ⟨rfl, rfl⟩
      · exact e3 j (by omega) h2
theorem kn_m900 {n : Nat} (h : n < 1000) : 900 * nI n = nI (900 * n) := Int32.toInt_inj.mp (by
  rw [i_mul (show (900 : Int32).toInt = 900 from rfl) (nI_toInt (by omega)) (by omega), nI_toInt (by omega)]; omega)
theorem kn_ca {a k : Nat} {c : Int32} (hc : c.toInt = (k : Int)) (h : a + k < 1000000) : c + nI a = nI (k + a) := Int32.toInt_inj.mp (by
  rw [i_add hc (nI_toInt (by omega)) (by omega), nI_toInt (by omega)]; omega)
theorem kn_t2 {n : Nat} (h : n < 1000) : 2 * nI n = nI (2 * n) := Int32.toInt_inj.mp (by
  rw [i_mul (show (2 : Int32).toInt = 2 from rfl) (nI_toInt (by omega)) (by omega), nI_toInt (by omega)]; omega)
/-- the row behind law(): one law more -/
theorem racc_at {sta a b fau pi op : Int32} {e : Int64} {t n nc : Nat} {nl : Int32} {frf fw fo fa fp fq fcl : Nat → Int32} (ht : fw 2 = nI t) (h6 : t < 6) (hn : n ≤ 12) (hc : nc ≤ 400) : ∃ fw', rAcc sta frf fw a b 0 e fau 0 (nI n) (nI nc) nl pi op fo fa fp fq fcl = ((E_v_tell (nI t) sta frf).1, (E_v_tell (nI t) sta frf).2.1, a, b, 0, e, fau, 0, nI n, nI nc, nl, pi, op, fo, fa, fp, fq, fcl, fw', (E_v_tell (nI t) sta frf).2.2) ∧ fw' 2 = nI (t + 1) ∧ (∀ j, j ≠ 2 → j < 100 + 900 * t ∨ 100 + 900 * t + 900 ≤ j → fw' j = fw j) ∧ fw' (100 + 900 * t + 1) = nI n ∧ (∀ j, j < 8 * n → fw' (100 + 900 * t + 2 + j) = fcl j) ∧ ∀ j, j < nc → fw' (100 + 900 * t + 98 + 2 * j) = fo j ∧ fw' (100 + 900 * t + 98 + 2 * j + 1) = fa j := by
  have hb : 100 + 900 * fw 2 = nI (100 + 900 * t) := by rw [ht, kn_m900 (by omega), kn_ca (c := 100) (k := 100) rfl (by omega)]
  have b1 : (100 + 900 * fw 2 + 1).toNatClampNeg = 100 + 900 * t + 1 := by rw [hb, kn_ac (c := 1) (k := 1) rfl (by omega), kn_cl (by omega)]
  have e1 : rAcc sta frf fw a b 0 e fau 0 (nI n) (nI nc) nl pi op fo fa fp fq fcl = Lp (α := Int32 → (Nat → Int32) → KR20) (E_v_law_l110 sta frf (nI n) (nI nc) nl pi op fo fa fp fq fcl a b 0 e fau 0 (nI (100 + 900 * t))) (fun _ _ => ((0, 0, 0, 0, 0, 0, 0, 0, 0, 0, 0, 0, 0, fun _ => 0, fun _ => 0, fun _ => 0, fun _ => 0, fun _ => 0, fun _ => 0, fun _ => 0) : KR20)) ((97 - 8 * n) + 8 * n + 1) (nI 0) (upd fw (100 + 900 * t + 1) (nI n)) := by
    unfold rAcc
    rw [b1, hb, show (97 - 8 * n) + 8 * n + 1 = (97 - (0 : Int32).toInt : Int).toNat + 1 by rw [show (0 : Int32).toInt = 0 from rfl]; omega]
    rfl
  obtain ⟨f1, c1, c2, c3⟩ := copy1 (fun _ _ => ((0, 0, 0, 0, 0, 0, 0, 0, 0, 0, 0, 0, 0, fun _ => 0, fun _ => 0, fun _ => 0, fun _ => 0, fun _ => 0, fun _ => 0, fun _ => 0) : KR20)) (E_v_law_l110 sta frf (nI n) (nI nc) nl pi op fo fa fp fq fcl a b 0 e fau 0 (nI (100 + 900 * t))) (b := 100 + 900 * t + 2) (N := 8 * n) (g := fcl) (fun rc v f hv => by
    rw [E_v_law_l110.eq_def, Lt_b, kn_m8 (by omega), if_neg (fun q => by have := (kn_le (by omega) (by omega)).mp q; omega)]
    simp only [Lt]
    rw [kn_ac (c := 2) (k := 2) rfl (by omega), kn_ac (nI_toInt (by omega)) (by omega), kn_cl (by omega), kn_cl (by omega), kn_po (by omega)]) (8 * n) 0 (97 - 8 * n) (upd fw (100 + 900 * t + 1) (nI n)) (by omega)
  rw [e1, c1, Lp_s, E_v_law_l110.eq_def, Lt_b, kn_m8 (by omega), if_pos ((kn_le (by omega) (by omega)).mpr (Nat.le_refl _))]
  obtain ⟨f2, d1, d2, d3⟩ := copy2 (fun _ _ => ((0, 0, 0, 0, 0, 0, 0, 0, 0, 0, 0, 0, 0, fun _ => 0, fun _ => 0, fun _ => 0, fun _ => 0, fun _ => 0, fun _ => 0, fun _ => 0) : KR20)) (E_v_law_l145 sta frf (nI n) (nI nc) nl pi op fo fa fp fq fcl a b 0 e fau 0 (nI (100 + 900 * t))) (b := 100 + 900 * t + 98) (N := nc) (g := fo) (h := fa) (fun rc v f hv => by
    rw [E_v_law_l145.eq_def, if_neg (fun q => by have := (kn_le (by omega) (by omega)).mp q; omega)]
    simp only [Lt]
    rw [kn_ac (c := 98) (k := 98) rfl (by omega), kn_t2 (by omega), kn_ac (nI_toInt (by omega)) (by omega), kn_ac (c := 1) (k := 1) rfl (by omega), kn_cl (by omega), kn_cl (by omega), kn_cl (by omega), kn_po (by omega)]) nc 0 (401 - nc) f1 (by omega)
  have fu : ((401 - (0 : Int32).toInt : Int).toNat + 1) = (401 - nc) + nc + 1 := by rw [show (0 : Int32).toInt = 0 from rfl]; omega
  rw [show nI 0 = (0 : Int32) from rfl] at d1
  rw [fu, d1, Lp_s, E_v_law_l145.eq_def, if_pos ((kn_le (by omega) (by omega)).mpr (Nat.le_refl _))]
  have f22 : f2 2 = nI t := by rw [d2 2 (by omega), c2 2 (by omega), upd_n (by omega)]; exact ht
  simp only [Lt, Lt2]
  rw [show (2 : Int32).toNatClampNeg = 2 from rfl, upd_s, f22, kn_p1 (by omega), kn_m1 (by omega) (by omega), show t + 1 - 1 = t by omega]
  refine ⟨_, rfl, upd_s, fun j h1 h2 => ?_, ?_, fun j hj => ?_, fun j hj => ?_⟩
  · rw [upd_n h1, d2 j (by omega), c2 j (by omega), upd_n (by omega)]
  · rw [upd_n (by omega), d2 _ (by omega), c2 _ (by omega), upd_s]
  · rw [upd_n (by omega), d2 _ (by omega)]; exact c3 j (Nat.zero_le _) hj
  · rw [upd_n (by omega), upd_n (by omega)]; exact d3 j (Nat.zero_le _) hj
/-- THE LAW MADE IS THE TEXT WRITTEN -/
theorem law_text {n us nc : Nat} {fh fcl fc fo fa T : Nat → Int32} {x : LC} (hK : KCls n us nc fh fcl fc fo fa) (hn : n ≤ 12) (hu : us ≤ 800) (hc : nc ≤ 400) (hx : TrX (nI n) (nI us) fh fc x) (h1 : T 1 = nI n) (h2 : ∀ j, j < 8 * n → T (2 + j) = fcl j) (h3 : ∀ j, j < nc → T (98 + 2 * j) = fo j ∧ T (98 + 2 * j + 1) = fa j) : KLaw x T := by
  obtain ⟨x1, x2, x3, x4, x5⟩ := hx
  rw [nI_toInt (by omega)] at x2 x3
  have op : ∀ (p q : Nat), q ≤ nc → ∀ j, p ≤ j → j < q → kop T 0 j = fo j ∧ kar T 0 j = fa j := fun p q hq j _ hj => by
    have := h3 j (by omega)
    unfold kop kar
    rw [show 0 + 98 + 2 * j = 98 + 2 * j by omega]; exact this
  refine ⟨n, hn, x1, h1, by omega, by omega, by omega, fun i hi => ?_⟩
  obtain ⟨v, v1, v2, v3, v4, v5⟩ := hK i hi
  refine ⟨v, v1, by rw [x4 _ (by omega)]; exact v2, by rw [h2 (8 * i) (by omega)]; exact v3, ?_, ?_⟩
  · rw [x4 (5 * i + 4) (by omega), show 2 + 8 * i + 5 = 2 + (8 * i + 5) by omega, show 2 + 8 * i + 6 = 2 + (8 * i + 6) by omega, h2 (8 * i + 5) (by omega), h2 (8 * i + 6) (by omega)]
    rcases v4 with ⟨a, b, j, c, d⟩ | ⟨a, e, p, q, m, k1, k2, k3, k4, k5, k6, k7, k8, k9⟩
    · exact Or.inl ⟨a, b, j, c, by omega⟩
    · exact Or.inr ⟨a, e, p, q, m, k1, k2, k3, k4, by omega, k6, k7.ext (fun j _ hj => x5 j (by omega)) (op p q k5), by rw [x5 e (by omega)]; exact k8, by omega⟩
  · rcases v5 with v5 | ⟨a, e, p, q, m, k1, k2, k3, k4, k5, k6, k7, k8, k9⟩
    · exact Or.inl v5
    · rw [x4 (5 * i + 2) (by omega), show 2 + 8 * i + 3 = 2 + (8 * i + 3) by omega, show 2 + 8 * i + 4 = 2 + (8 * i + 4) by omega, h2 (8 * i + 3) (by omega), h2 (8 * i + 4) (by omega)]
      exact Or.inr ⟨a, e, p, q, m, k1, k2, k3, by omega, k6, k7.ext (fun j _ hj => x5 j (by omega)) (op p q k5), by rw [x5 e (by omega)]; exact k8, by omega⟩
end
