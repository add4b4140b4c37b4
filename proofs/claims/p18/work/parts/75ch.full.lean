theorem z32 {c : Int32} {x : Int} (h : c.toInt = x) (hz : x < 0) : c < 0 := il_iff.mpr (by have z : (0 : Int32).toInt = 0 := rfl; omega)
/-- a leaf of the code: one word, or number, on both sides -/
theorem leaf_go {C : KC_} {fau : Int32} {p p' d nc nl pi : Nat} {m m' : KM4} {fo fa fp fq : Nat → Int32} {y z : Int32} (hp : p < p') (hp2 : p' ≤ 400) (h : E_v_readPart C.2.2.2.2.2.2.2.1 C.2.2.2.2.2.2.2.2 (nI C.2.2.1) m.1 m.2.1 m.2.2.1 m.2.2.2 fau 0 (kod C.2.2.2.1) (nI nc) (nI nl) (nI pi) (nI d) C.2.1 fo fa fp fq C.2.2.2.2.1 C.2.2.2.2.2.1 = (3, m'.1, m'.2.1, m'.2.2.1, m'.2.2.2, fau, 0, nI (nc + 1), nI (nl + 1), nI pi, nI d, upd fo nc y, upd fa nc z, fp, fq)) : KGo C fau 1 3 p m nc nl pi d fo fa fp fq 3 2 p' m' (nc + 1) (nl + 1) pi d (upd fo nc y) (upd fa nc z) fp fq :=
  KGo.one (mz_lt hp hp2 (by omega)) (fun F => by rw [kL_part h])
theorem leaf_read {C : KC_} {fau : Int32} {p p' d nc nl pi us w : Nat} {c' : KT4} {m m' : KM4} {fc fo fa fp fq : Nat → Int32} {x1 x2 y z : Int32} (hp : p < p') (hT : TkP C.1 C.2.2.1 p' c' m') (hus : us + 2 * w ≤ 2 * p) (hnc : nc + w ≤ p) (hpi : pi ≤ p) (hnl : nl < 50) (h : E_v_readPart C.2.2.2.2.2.2.2.1 C.2.2.2.2.2.2.2.2 (nI C.2.2.1) m.1 m.2.1 m.2.2.1 m.2.2.2 fau 0 (kod C.2.2.2.1) (nI nc) (nI nl) (nI pi) (nI d) C.2.1 fo fa fp fq C.2.2.2.2.1 C.2.2.2.2.2.1 = (3, m'.1, m'.2.1, m'.2.2.1, m'.2.2.2, fau, 0, nI (nc + 1), nI (nl + 1), nI pi, nI d, upd fo nc y, upd fa nc z, fp, fq)) (hs : SE C.2.2.2.1 KA_ 1 1 (upd (upd fc us x1) (us + 1) x2) us (us + 2) (upd fo nc y) (upd fa nc z) nc (nc + 1)) : KPrt C KA_ fau 1 3 2 d p m us nl nc pi w fc fo fa fp fq (1, nI (nl + 1), c'.1, c'.2.1, c'.2.2.1, c'.2.2.2, nI (us + 2), upd (upd fc us x1) (us + 1) x2) := by
  have hL := hT.2.1
  have hpL := hT.1
  refine ⟨p', c', m', us + 2, nl + 1, nc + 1, _, _, _, fp, fq, rfl, hp, hT, leaf_go hp (by omega) h, by omega, fun _ _ => ⟨rfl, rfl⟩, fun j hj => ?_, fun j hj => ?_, ⟨by omega, by omega, by omega, by omega, by omega, by omega, by omega⟩, ?_⟩
  · rw [upd_n (by omega), upd_n (by omega)]
  · exact ⟨upd_n (by omega), upd_n (by omega)⟩
  · rw [show nl + 1 - nl = 1 by omega]; exact hs
/-- A PART IS READ ALIKE -/
theorem sim_part {C : KC_} (hC : KCok C) {Es : KWf} {d : Nat} (hS : d < 8 → SimSum C Es (d + 1)) : SimPart C (fun d lw pa ln tf tt ti tu fb us fc => E_w_part Es d lw pa ln tf tt ti tu fb us fc) d := by
  intro fau p c m us nl nc pi w fc fo fa fp fq hT hus hnc hpi hnl hd
  show KNot C fau 1 d p m nl nc pi fo fa fp fq (E_w_part Es (nI d) (klw C.2.2.2.1) (nI nl) (nI C.2.2.1) c.1 c.2.1 c.2.2.1 c.2.2.2 C.1 (nI us) fc) ∨ KPrt C KA_ fau 1 3 2 d p m us nl nc pi w fc fo fa fp fq (E_w_part Es (nI d) (klw C.2.2.2.1) (nI nl) (nI C.2.2.1) c.1 c.2.1 c.2.2.1 c.2.2.2 C.1 (nI us) fc)
  have hL := hT.2.1
  have hpL := hT.1
  have fr := TkP.froms (tf := c.1) (tt := c.2.1) (ti := c.2.2.1) (tu := c.2.2.2) (fr := m.1) (to := m.2.1) (so := m.2.2.1) (wo := m.2.2.2) hT
  obtain ⟨q, q1, q2, hQ⟩ := tk_next hC hT
  have hqL := hQ.1
  rw [E_w_part.eq_def]
  rcases tk_sign (c := 91) (tf := c.1) (tt := c.2.1) (ti := c.2.2.1) (tu := c.2.2.2) (fr := m.1) (to := m.2.1) (so := m.2.2.1) (wo := m.2.2.2) (by decide) hT with ⟨s1, s2, s3⟩ | ⟨s1, s2⟩
  · -- "["
    rw [if_pos s1]
    by_cases cd : d < 8
    case neg =>
      rw [if_neg (kn_nltl (j := 8) rfl (by omega) (by omega))]
      obtain ⟨a, b, e, g, h1, h2, h3, h4, hr⟩ := rp_open_n (go := C.2.2.2.2.2.2.2.1) (ga := C.2.2.2.2.2.2.2.2) (ft := C.2.1) (fo := fo) (fa := fa) (fp := fp) (fq := fq) (wd := C.2.2.2.2.1) (we := C.2.2.2.2.2.1) (ta := nI C.2.2.1) (fr := m.1) (to := m.2.1) (fau := fau) (od := kod C.2.2.2.1) (nc := nI nc) (nl := nI nl) (pi := nI pi) s2 (show 8 ≤ d by omega) (by omega)
      exact Or.inl ⟨rfl, p, fr.1, KBad.one (fun F => ⟨_, _, _, _, _, _, _, _, _, _, _, _, _, by rw [kL_part hr, fr.2.1]⟩)⟩
    rw [if_pos (kn_ltl (j := 8) rfl (by omega) cd)]
    have qp : p < q := q2 s3
    have ho := rp_open (go := C.2.2.2.2.2.2.2.1) (ga := C.2.2.2.2.2.2.2.2) (ft := C.2.1) (fo := fo) (fa := fa) (fp := fp) (fq := fq) (wd := C.2.2.2.2.1) (we := C.2.2.2.2.2.1) (ta := nI C.2.2.1) (fr := m.1) (to := m.2.1) (fau := fau) (od := kod C.2.2.2.1) (nc := nI nc) (nl := nI nl) s2 (show pi < 1000 by omega) cd
    have g1 : KGo C fau 1 3 p m nc nl pi d fo fa fp fq 1 3 q (E_v_next (nI C.2.2.1) m.1 m.2.1 m.2.2.1 m.2.2.2 C.2.1) nc nl (pi + 1) (d + 1) fo fa (upd fp pi (nI 32)) (upd fq pi 0) :=
      KGo.one (mz_lt qp (by omega) (by omega)) (fun F => by rw [kL_part ho])
    have ss := hS cd fau q _ _ us nl nc (pi + 1) w fc fo fa (upd fp pi (nI 32)) (upd fq pi 0) hQ (by omega) (by omega) (by omega) hnl (by omega) (Or.inr ⟨32, by omega, by omega, by rw [show pi + 1 - 1 = pi by omega, upd_s]⟩)
    simp only [Lt2, Lt]
    rw [kn_p1 (by omega)]
    generalize hR : Es (nI (d + 1)) (klw C.2.2.2.1) (nI nl) (nI C.2.2.1) (E_w_step (nI C.2.2.1) c.1 c.2.1 c.2.2.1 c.2.2.2 C.1).1 (E_w_step (nI C.2.2.1) c.1 c.2.1 c.2.2.1 c.2.2.2 C.1).2.1 (E_w_step (nI C.2.2.1) c.1 c.2.1 c.2.2.1 c.2.2.2 C.1).2.2.1 (E_w_step (nI C.2.2.1) c.1 c.2.1 c.2.2.1 c.2.2.2 C.1).2.2.2 C.1 (nI us) fc = R at ss ⊢
    rcases ss with ⟨n1, q', n2, n3⟩ | ⟨⟨p', c', m', us', nl', k1, pi1, k2, fc', fo1, fa1, fp1, fq1, fo2, fa2, e1, e2, e3, e4, e5, e6, e7, e8, e9⟩, nsg⟩
    · rw [if_pos n1]
      exact Or.inl ⟨rfl, q', n2, g1.bad n3⟩
    · subst e1
      rw [if_neg (show ¬ (1 : Int32) = 0 by decide)]
      have fr' := TkP.froms (tf := c'.1) (tt := c'.2.1) (ti := c'.2.2.1) (tu := c'.2.2.2) (fr := m'.1) (to := m'.2.1) (so := m'.2.2.1) (wo := m'.2.2.2) e3
      have hL' := e3.1
      have nsg : ¬ KSg c'.2.2.1 := nsg
      have sg : ∀ z : Int32, (z = 42 ∨ z = 47 ∨ z = 37 ∨ z = 43 ∨ z = 45) → E_v_isSign z m'.2.2.1 m'.2.2.2 = 0 := by
        intro z hz
        have hc : 0 ≤ z.toInt ∧ ¬ (97 ≤ z.toInt ∧ z.toInt ≤ 122) ∧ ¬ (48 ≤ z.toInt ∧ z.toInt ≤ 57) := by
          rcases hz with rfl | rfl | rfl | rfl | rfl <;> decide
        rcases tk_sign (c := z) (tf := c'.1) (tt := c'.2.1) (ti := c'.2.2.1) (tu := c'.2.2.2) (fr := m'.1) (to := m'.2.1) (so := m'.2.2.1) (wo := m'.2.2.2) hc e3 with ⟨t1, _⟩ | ⟨_, t2⟩
        · exact absurd (by rw [← t1] at hz; exact hz) nsg
        · exact t2
      have f32 : fp1 pi = nI 32 := by rw [(e5.2.2.1 pi (by omega)).1, upd_s]
      have inn : E_v_inner (nI pi1) fp1 = nI 32 := inner_top (by have := e5.2.1; omega) (by have := e5.1; omega) ⟨by omega, by omega⟩ f32 (fun j h1 h2 => by
        obtain ⟨o, o1, o2, o3⟩ := e5.2.2.2 j (by omega) h2
        exact ⟨o, by omega, o3⟩)
      obtain ⟨r, r1, r2, hR2⟩ := tk_next hC e3
      rcases tk_sign (c := 93) (tf := c'.1) (tt := c'.2.1) (ti := c'.2.2.1) (tu := c'.2.2.2) (fr := m'.1) (to := m'.2.1) (so := m'.2.2.1) (wo := m'.2.2.2) (by decide) e3 with ⟨t1, t2, t3⟩ | ⟨t1, t2⟩
      · rw [if_pos t1]
        have st : E_v_settle C.2.2.2.2.2.2.2.1 C.2.2.2.2.2.2.2.2 5 (nI k1) (nI pi1) fo1 fa1 fp1 fq1 = (nI k2, nI (pi + 1), fo2, fa2) := by
          rw [show (5 : Int32) = nI 5 from rfl, settle_at (by have := e5.2.1; omega), e6 5 (Nat.le_refl _)]
          exact kst_stop (o := 32) (by omega) (by omega) (by omega) f32 (by decide)
        have bs : E_v_behindSum C.2.2.2.2.2.2.2.1 C.2.2.2.2.2.2.2.2 C.2.2.2.2.2.2.1 (nI C.2.2.1) m'.1 m'.2.1 m'.2.2.1 m'.2.2.2 fau 0 (nI k1) (nI nl') (nI pi1) (nI (d + 1)) C.2.1 fo1 fa1 fp1 fq1 = (3, (E_v_next (nI C.2.2.1) m'.1 m'.2.1 m'.2.2.1 m'.2.2.2 C.2.1).1, (E_v_next (nI C.2.2.1) m'.1 m'.2.1 m'.2.2.1 m'.2.2.2 C.2.1).2.1, (E_v_next (nI C.2.2.1) m'.1 m'.2.1 m'.2.2.1 m'.2.2.2 C.2.1).2.2.1, (E_v_next (nI C.2.2.1) m'.1 m'.2.1 m'.2.2.1 m'.2.2.2 C.2.1).2.2.2, fau, 0, nI k2, nI pi, nI d, fo2, fa2, fp1, fq1) := by
          rw [E_v_behindSum.eq_def, Lt_b, if_neg (by rw [sg 43 (by decide)]; decide), Lt_b, if_neg (by rw [sg 45 (by decide)]; decide), Lt_b, if_neg (by rw [sg 42 (by decide)]; decide), Lt_b, if_neg (by rw [sg 47 (by decide)]; decide), Lt_b, if_neg (by rw [sg 37 (by decide)]; decide), Lt_b, if_pos (show E_v_inner (nI pi1) fp1 = 32 from inn), Lt_b, if_pos t2, must_1]
          simp only [Lt2, Lt]
          rw [if_pos (by trivial), st, kn_m1 (a := pi + 1) (by omega) (by omega), kn_m1 (a := d + 1) (by omega) (by omega)]
          rfl
        have g2 : KGo C fau 3 2 p' m' k1 nl' pi1 (d + 1) fo1 fa1 fp1 fq1 3 2 r (E_v_next (nI C.2.2.1) m'.1 m'.2.1 m'.2.2.1 m'.2.2.2 C.2.1) k2 nl' pi d fo2 fa2 fp1 fq1 :=
          KGo.one (mz_lt (r2 t3) (by have := hR2.1; omega) (by omega)) (fun F => by rw [kL_sum bs])
        have rp := r2 t3
        refine Or.inr ⟨r, _, _, us', nl', k2, fc', fo2, fa2, fp1, fq1, rfl, by omega, hR2, (g1.trans e4).trans g2, by omega, fun j hj => ?_, e7.1, e7.2, ⟨e8.1, e8.2.1, e8.2.2.1, e8.2.2.2.1, by omega, by omega, by omega⟩, e9⟩
        have := e5.2.2.1 j (by omega)
        rw [upd_n (by omega), upd_n (by omega)] at this
        exact this
      · rw [if_neg t1]
        have bs : ∃ a b e g h1 h2 h3, E_v_behindSum C.2.2.2.2.2.2.2.1 C.2.2.2.2.2.2.2.2 C.2.2.2.2.2.2.1 (nI C.2.2.1) m'.1 m'.2.1 m'.2.2.1 m'.2.2.2 fau 0 (nI k1) (nI nl') (nI pi1) (nI (d + 1)) C.2.1 fo1 fa1 fp1 fq1 = (3, m'.1, m'.2.1, m'.2.2.1, m'.2.2.2, m'.1, 1, a, b, e, g, h1, h2, h3) := by
          rw [E_v_behindSum.eq_def, Lt_b, if_neg (by rw [sg 43 (by decide)]; decide), Lt_b, if_neg (by rw [sg 45 (by decide)]; decide), Lt_b, if_neg (by rw [sg 42 (by decide)]; decide), Lt_b, if_neg (by rw [sg 47 (by decide)]; decide), Lt_b, if_neg (by rw [sg 37 (by decide)]; decide), Lt_b, if_pos (show E_v_inner (nI pi1) fp1 = 32 from inn), Lt_b, if_neg (by rw [t2]; decide), must_0]
          simp only [Lt2, Lt]
          rw [if_neg (by decide)]
          exact ⟨_, _, _, _, _, _, _, rfl⟩
        obtain ⟨a, b, e, g, h1, h2, h3, hb⟩ := bs
        refine Or.inl ⟨rfl, p', fr'.1, (g1.trans e4).bad (KBad.one (fun F => ⟨_, _, _, _, _, _, _, _, _, _, _, _, _, by rw [kL_sum hb, fr'.2.1]⟩))⟩
  · -- no bracket
    rw [if_neg s1]
    have wd := tk_word hC hT
    have od01 := kod_0 hC.2.2.1
    have od01' : kod C.2.2.2.1 = 0 ∨ kod C.2.2.2.1 = 1 := by rcases od01 with h | h; exact Or.inl h.2.1; exact Or.inr h.2.1
    by_cases cl : 50 ≤ nl
    · rw [if_pos (kn_lel (j := 50) rfl (by omega) cl)]
      obtain ⟨a, b, e, g, h1, h2, h3, h4, hr⟩ := rp_full (go := C.2.2.2.2.2.2.2.1) (ga := C.2.2.2.2.2.2.2.2) (ft := C.2.1) (fo := fo) (fa := fa) (fp := fp) (fq := fq) (wd := C.2.2.2.2.1) (we := C.2.2.2.2.2.1) (ta := nI C.2.2.1) (fr := m.1) (to := m.2.1) (fau := fau) (od := kod C.2.2.2.1) (nc := nI nc) (pi := nI pi) (opn := nI d) s2 od01' (by rcases wd with ⟨i, i1, _, _, i4, _, i6⟩ | ⟨_, i6⟩; exact Or.inr ⟨i4, i, by omega, i6⟩; exact Or.inl i6) cl (by omega)
      exact Or.inl ⟨rfl, p, fr.1, KBad.one (fun F => ⟨_, _, _, _, _, _, _, _, _, _, _, _, _, by rw [kL_part hr, fr.2.1]⟩)⟩
    rw [if_neg (kn_nlel (j := 50) rfl (by omega) (by omega))]
    have none : (if kod C.2.2.2.1 = 0 then E_v_partAt m.2.2.1 m.2.2.2 C.2.2.2.2.1 else E_v_orderPartAt m.2.2.1 m.2.2.2 C.2.2.2.2.2.1) = -1 → (m.2.2.1 ≠ 2 ∨ 1000 < m.2.2.2.toInt) → ∀ r : KW8, r.1 = 0 → r.2.2.1 = c.1 → KNot C fau 1 d p m nl nc pi fo fa fp fq r := by
      intro hn h2 r r1 r2
      obtain ⟨a, b, e, g, h1, h2, h3, h4, hr⟩ := rp_none (go := C.2.2.2.2.2.2.2.1) (ga := C.2.2.2.2.2.2.2.2) (ft := C.2.1) (fo := fo) (fa := fa) (fp := fp) (fq := fq) (ta := nI C.2.2.1) (fr := m.1) (to := m.2.1) (fau := fau) (nc := nI nc) (nl := nI nl) (pi := nI pi) (opn := nI d) s2 hn h2
      exact ⟨r1, p, r2.trans fr.1, KBad.one (fun F => ⟨_, _, _, _, _, _, _, _, _, _, _, _, _, by rw [kL_part hr, fr.2.1]⟩)⟩
    have z1 : (1000 : Int32).toInt = 1000 := rfl
    have zm : (-1 : Int32).toInt = -1 := rfl
    rcases tk_num (tf := c.1) (tt := c.2.1) (ti := c.2.2.1) (tu := c.2.2.2) (fr := m.1) (to := m.2.1) (so := m.2.2.1) (wo := m.2.2.2) hT with ⟨n0, n1, _, _, n4, n5⟩ | ⟨n1, n2⟩
    · have hn : (if kod C.2.2.2.1 = 0 then E_v_partAt m.2.2.1 m.2.2.2 C.2.2.2.2.1 else E_v_orderPartAt m.2.2.1 m.2.2.2 C.2.2.2.2.2.1) = -1 := by
        rcases wd with ⟨i, _, _, _, i4, _, _⟩ | ⟨_, i6⟩
        · exact absurd (i4.symm.trans n1) (by decide)
        · exact i6
      by_cases ct : c.2.2.2 ≤ 1000
      · have ct2 := ie_iff.mp ct
        rw [if_pos ct, Lt_b, if_neg (fun h => by rw [h] at n4; omega), emit_at (by omega)]
        simp only [Lt2]
        rw [kn_p1 (by omega)]
        have wv : m.2.2.2.toInt = c.2.2.2.toInt := by omega
        have wt : m.2.2.2.toInt32 = c.2.2.2 := Int32.toInt_inj.mp (by rw [l_nar (Eq.refl m.2.2.2.toInt) (by omega)]; exact wv)
        have hr := rp_num (go := C.2.2.2.2.2.2.2.1) (ga := C.2.2.2.2.2.2.2.2) (ft := C.2.1) (fo := fo) (fa := fa) (fp := fp) (fq := fq) (ta := nI C.2.2.1) (fr := m.1) (to := m.2.1) (fau := fau) (pi := nI pi) (opn := nI d) (nc := nc) (nl := nl) s2 hn n1 (by omega) (by omega) (by omega)
        rw [wt] at hr
        refine Or.inr (leaf_read (q2 n0) hQ hus hnc hpi (by omega) hr ?_)
        refine SE.num (by omega) (by omega) ?_ upd_s ?_ ?_
        · rw [upd_n (by omega), upd_s]
        · rw [upd_s, upd_s]
        · rw [upd_s]; omega
      · have ct2 : ¬ c.2.2.2.toInt ≤ (1000 : Int32).toInt := fun q => ct (ie_iff.mpr q)
        rw [if_neg ct]
        exact Or.inl (none hn (Or.inr (by omega)) _ rfl rfl)
    · rw [if_pos (show c.2.2.2 ≤ 1000 by rw [n2]; decide), Lt_b, if_pos n2]
      have pre : ∀ {z : Int32}, klw C.2.2.2.1 = z → klw C.2.2.2.1 = z := fun h => h
      rcases od01 with ⟨o1, o2, o3⟩ | ⟨o1, o2, o3⟩
      · -- a law
        rw [o3, if_neg (by decide)] at wd ⊢
        rw [Lt_b]
        rcases wd with ⟨i, i1, _, i3, i4, i5, i6⟩ | ⟨i5, i6⟩
        · have i9 : ¬ nI i = -1 := fun h => by have := congrArg Int32.toInt h; rw [nI_toInt (by omega)] at this; omega
          rw [i5, if_neg i9]
          simp only [Lt2]
          rw [if_neg (by decide), E_w_part_j241.eq_def, emit_at (by omega)]
          simp only [Lt2]
          rw [kn_p1 (by omega)]
          have hr := rp_word (go := C.2.2.2.2.2.2.2.1) (ga := C.2.2.2.2.2.2.2.2) (ft := C.2.1) (fo := fo) (fa := fa) (fp := fp) (fq := fq) (ta := nI C.2.2.1) (fr := m.1) (to := m.2.1) (fau := fau) (pi := nI pi) (opn := nI d) (nc := nc) (nl := nl) s2 (show i < 10 by omega) i6 i4 (Or.inl o2) (by omega) (by omega)
          refine Or.inr (leaf_read (q2 i3) hQ hus hnc hpi (by omega) hr ?_)
          refine SE.word (by omega) (by omega) (by rw [upd_n (by omega), upd_s]) ?_
          rw [upd_s, upd_s]
          unfold KL
          rw [if_pos o1]
          exact ⟨i, i1, rfl, rfl⟩
        · rw [i5, if_pos rfl]
          exact Or.inl (none i6 (Or.inl n1) _ rfl rfl)
      · -- orders
        rw [o3, if_pos rfl] at wd ⊢
        rw [Lt_b]
        rcases wd with ⟨i, i1, i1', i3, i4, i5, i6⟩ | ⟨i5, i6⟩
        case inr =>
          rw [i5, if_pos rfl]
          exact Or.inl (none i6 (Or.inl n1) _ rfl rfl)
        have i8 : i < 8 := i1' o1
        have i9 : ¬ nI i = -1 := fun h => by have := congrArg Int32.toInt h; rw [nI_toInt (by omega)] at this; omega
        rw [i5, if_neg i9]
        simp only [Lt2, Lt]
        rw [if_pos (by trivial)]
        have x5 : (nI i - 5).toInt = (i : Int) - 5 := i_sub (nI_toInt (by omega)) (show (5 : Int32).toInt = 5 from rfl) (by omega)
        by_cases c5 : i < 5
        · rw [if_pos (z32 x5 (by omega)), E_w_part_j241.eq_def, emit_at (by omega)]
          simp only [Lt2]
          rw [kn_p1 (by omega)]
          have hr := rp_word (go := C.2.2.2.2.2.2.2.1) (ga := C.2.2.2.2.2.2.2.2) (ft := C.2.1) (fo := fo) (fa := fa) (fp := fp) (fq := fq) (ta := nI C.2.2.1) (fr := m.1) (to := m.2.1) (fau := fau) (pi := nI pi) (opn := nI d) (nc := nc) (nl := nl) s2 (show i < 10 by omega) i6 i4 (Or.inr c5) (by omega) (by omega)
          refine Or.inr (leaf_read (q2 i3) hQ hus hnc hpi (by omega) hr ?_)
          refine SE.word (by omega) (by omega) (by rw [upd_n (by omega), upd_s]) ?_
          rw [upd_s, upd_s]
          unfold KL
          rw [if_neg (by omega)]
          exact Or.inl ⟨i, c5, rfl, rfl⟩
        · have x5n : nI i - 5 = nI (i - 5) := Int32.toInt_inj.mp (by rw [x5, nI_toInt (by omega)]; omega)
          rw [x5n, if_neg (kn_nl (by omega)), if_neg (kn_nlel (j := 3) rfl (by omega) (by omega)), kn_cl (by omega)]
          rw [if_neg (by rw [o2]; decide)] at i6
          obtain ⟨a6, a7⟩ := aF67 (i - 5) (by omega)
          have hr := rp_tell (go := C.2.2.2.2.2.2.2.1) (ga := C.2.2.2.2.2.2.2.2) (ft := C.2.1) (fo := fo) (fa := fa) (fp := fp) (fq := fq) (wd := C.2.2.2.2.1) (ta := nI C.2.2.1) (fr := m.1) (to := m.2.1) (fau := fau) (pi := nI pi) (opn := nI d) (nc := nc) (nl := nl) s2 i8 i6 o2 i4 (by omega) (by omega) (by omega)
          have qp := q2 i3
          generalize hc1 : E_w_step (nI C.2.2.1) c.1 c.2.1 c.2.2.1 c.2.2.2 C.1 = c1 at hQ ⊢
          generalize hm1 : E_v_next (nI C.2.2.1) m.1 m.2.1 m.2.2.1 m.2.2.2 C.2.1 = m1 at hQ hr
          obtain ⟨s, s3, s4, hS2⟩ := tk_next hC hQ
          have fr1 := TkP.froms (tf := c1.1) (tt := c1.2.1) (ti := c1.2.2.1) (tu := c1.2.2.2) (fr := m1.1) (to := m1.2.1) (so := m1.2.2.1) (wo := m1.2.2.2) hQ
          have lim : aF 7 (i - 5) = nI (if i = 7 then 6 else 7) := by
            rw [a7]
            by_cases e : i = 7
            · rw [if_pos (by omega), if_pos e]
            · rw [if_neg (by omega), if_neg e]
          have limL : ((if i = 7 then 6 else 7 : Int64)).toInt = ((if i = 7 then 6 else 7 : Nat) : Int) := by
            by_cases e : i = 7
            · rw [if_pos e, if_pos e]; rfl
            · rw [if_neg e, if_neg e]; rfl
          have lt7 : (if i = 7 then 6 else 7 : Nat) ≤ 7 := by split <;> omega
          have zL : (0 : Int64).toInt = 0 := rfl
          have inq : E_v_in m1.2.2.2 0 (if i = 7 then 6 else 7) = 1 ↔ 0 ≤ m1.2.2.2.toInt ∧ m1.2.2.2.toInt ≤ ((if i = 7 then 6 else 7 : Nat) : Int) := by
            unfold E_v_in
            by_cases c0 : lg_cmp m1.2.2.2 0 < 0
            · have c1 := jl_iff.mp ((lg_cmp_lt _ _).mp c0)
              rw [if_pos c0]; exact ⟨fun h => absurd h (by decide), fun h => by omega⟩
            · have c1 : ¬ m1.2.2.2.toInt < (0 : Int64).toInt := fun h => c0 ((lg_cmp_lt _ _).mpr (jl_iff.mpr h))
              rw [if_neg c0]
              by_cases d0 : 0 < lg_cmp m1.2.2.2 (if i = 7 then 6 else 7)
              · have d1 := jl_iff.mp ((lg_cmp_gt _ _).mp d0)
                rw [if_pos d0]; exact ⟨fun h => absurd h (by decide), fun h => by omega⟩
              · have d1 : ¬ (if i = 7 then 6 else 7 : Int64).toInt < m1.2.2.2.toInt := fun h => d0 ((lg_cmp_gt _ _).mpr (jl_iff.mpr h))
                rw [if_neg d0]; exact ⟨fun _ => by omega, fun _ => rfl⟩
          have bad : (m1.2.2.1 ≠ 2 ∨ E_v_in m1.2.2.2 0 (if i = 7 then 6 else 7) ≠ 1) → ∀ r : KW8, r.1 = 0 → r.2.2.1 = c1.1 → KNot C fau 1 d p m nl nc pi fo fa fp fq r := by
            intro hb r r1 r2
            rw [number_n hb] at hr
            exact ⟨r1, q, r2.trans fr1.1, KBad.one (fun F => ⟨_, _, _, _, _, _, _, _, _, _, _, _, _, by rw [kL_part hr, fr1.2.1]⟩)⟩
          rcases tk_num (tf := c1.1) (tt := c1.2.1) (ti := c1.2.2.1) (tu := c1.2.2.2) (fr := m1.1) (to := m1.2.1) (so := m1.2.2.1) (wo := m1.2.2.2) hQ with ⟨n0, n1, _, _, n4, n5⟩ | ⟨n1, n2⟩
          case inr =>
            rw [if_pos (show c1.2.2.2 < 0 by rw [n2]; decide)]
            exact Or.inl (bad (Or.inl n1) _ rfl rfl)
          rw [if_neg (fun h => by have := il_iff.mp h; have z : (0 : Int32).toInt = 0 := rfl; omega), lim]
          by_cases cm : c1.2.2.2 ≤ nI (if i = 7 then 6 else 7)
          · have cm2 := ie_iff.mp cm
            rw [nI_toInt (by omega)] at cm2
            have wv : m1.2.2.2.toInt = c1.2.2.2.toInt := by omega
            have wt : m1.2.2.2.toInt32 = c1.2.2.2 := Int32.toInt_inj.mp (by rw [l_nar (Eq.refl m1.2.2.2.toInt) (by omega)]; exact wv)
            rw [if_pos cm]
            rw [number_p n1 (inq.mpr (by omega)), wt] at hr
            rw [E_w_part_j241.eq_def, emit_at (by omega)]
            simp only [Lt2]
            rw [kn_p1 (by omega)]
            have sp := s4 n0
            have u2 : upd (upd fa nc 0) nc c1.2.2.2 = upd fa nc c1.2.2.2 := by
              funext j
              by_cases e : j = nc
              · rw [upd_e e, upd_e e]
              · rw [upd_n e, upd_n e, upd_n e]
            refine Or.inr (leaf_read (y := nI (i + 1)) (z := c1.2.2.2) (show p < s by omega) hS2 hus hnc hpi (by omega) (by rw [← u2]; exact hr) ?_)
            · refine SE.word (by omega) (by omega) (by rw [upd_n (by omega), upd_s]) ?_
              rw [upd_s, upd_s, upd_s, a6]
              obtain ⟨h, hh, hz⟩ : ∃ h : Nat, c1.2.2.2 = nI h ∧ (h : Int) = c1.2.2.2.toInt := ⟨c1.2.2.2.toInt.toNat, i_ofN rfl n4, by omega⟩
              have hb : h ≤ (if i = 7 then 6 else 7 : Nat) := by omega
              have ad : nI (5 + 8 * (i - 5)) + nI h = nI (5 + 8 * (i - 5) + h) := Int32.toInt_inj.mp (by rw [i_add (nI_toInt (by omega)) (nI_toInt (by omega)) (by omega), nI_toInt (by omega)]; omega)
              rw [hh, ad]
              unfold KL
              rw [if_neg (by omega)]
              rcases (show i = 5 ∨ i = 6 ∨ i = 7 by omega) with rfl | rfl | rfl
              · exact Or.inr (Or.inl ⟨h, by have : h ≤ 7 := hb; omega, rfl, rfl, rfl⟩)
              · exact Or.inr (Or.inr (Or.inl ⟨h, by have : h ≤ 7 := hb; omega, rfl, rfl, rfl⟩))
              · exact Or.inr (Or.inr (Or.inr ⟨h, by have : h ≤ 6 := hb; omega, rfl, rfl, rfl⟩))
          · have cm2 : ¬ c1.2.2.2.toInt ≤ (nI (if i = 7 then 6 else 7)).toInt := fun h => cm (ie_iff.mpr h)
            rw [nI_toInt (by omega)] at cm2
            rw [if_neg cm]
            exact Or.inl (bad (Or.inr (fun h => by have := inq.mp h; omega)) _ rfl rfl)
