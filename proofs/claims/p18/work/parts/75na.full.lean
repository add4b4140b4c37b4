/-! undo -/
theorem undo_tw {n lt nf fi q1 q2 q3 : Int32} {f1 f2 fw sl fu fs f1' fw' : Nat → Int32} {fl : Nat → Option Nat} {G : Nat → LC} (h : TW n lt nf fi f1 f2 fl G fw) {q u : Nat} (e : HE n sl fu fs fw q u) (p1 : q1 = sl (28 * q + 1)) (p2 : q2 = sl (28 * q + 2)) (p3 : q3 = sl (28 * q + 3)) (c1 : ∀ j, j < 8 → f1' (16 + j) = sl (28 * q + 4 + j) ∧ f1' (40 + j) = sl (28 * q + 12 + j) ∧ f1' (48 + j) = sl (28 * q + 20 + j)) (c2 : ∀ j, j < 16 → f1' j = f1 j) (c3 : ∀ j, fw' j = if 4 ≤ j ∧ j < 35 then fu (31 * u + (j - 4)) else fw j) : TW n lt nf q1 f1' (upd (upd f2 0 q2) 1 q3) fl G fw' := by
  obtain ⟨⟨s0, s1, s2, s3, s4⟩, b, _, z, g⟩ := e
  have i4 : ∀ j, j < 31 → fw' (4 + j) = fu (31 * u + j) := fun j hj => by
    rw [c3, if_pos (by omega), show 4 + j - 4 = j by omega]
  have t1 := h.1.1
  refine h.step ⟨fun j hj => ?_, ?_, fun j hj => ⟨?_, ?_, ?_⟩, fun k hk h8 => ⟨?_, ?_⟩, g.ext (fun j h1 h2 => by rw [c3, if_pos (by omega)])⟩ (fun j hj => by rw [c3, if_neg (by omega)]) c2
  · rw [i4 j (by omega)]
    rcases (show j = 0 ∨ j = 1 ∨ 2 ≤ j by omega) with rfl | rfl | q
    · rw [upd_n (by omega), upd_s, p2, s2, Nat.add_zero]
    · rw [upd_s, p3, s3]
    · rw [upd_n (by omega), upd_n (by omega), b j q hj]; exact t1 j hj
  · rw [show fw' 10 = fw' (4 + 6) from rfl, i4 6 (by omega), p1, s1]
  · rw [(c1 j hj).2.1, (s4 j hj).2.1, snf_f hj, show 11 + j = 4 + (7 + j) by omega, i4 _ (by omega)]
  · rw [(c1 j hj).1, (s4 j hj).1, snf_c hj, show 19 + j = 4 + (15 + j) by omega, i4 _ (by omega)]
  · rw [(c1 j hj).2.2, (s4 j hj).2.2, snf_w hj, show 27 + j = 4 + (23 + j) by omega, i4 _ (by omega)]
  · rw [show 11 + k = 4 + (7 + k) by omega, i4 _ (by omega), ← Nat.add_assoc]; exact (z k hk h8).1
  · rw [show 27 + k = 4 + (23 + k) by omega, i4 _ (by omega), ← Nat.add_assoc]; exact (z k hk h8).2
theorem rel_undo {n lt nf fi nu dr kp rb sta thr : Int32} {f1 f2 fw fu fsr sl frf frm : Nat → Int32} {fl : Nat → Option Nat} {G : Nat → LC} {r1 rb' dr' kp' fi' r2 sta' nu' : Int32} {frf' f1' f2' fw' frm' : Nat → Int32} (k1 : (r1, rb', frf', dr', kp', fi', f1', f2') = E_w_undo rb frf dr kp sl n lt nf fi f1 f2) (k2 : (r2, sta', nu', fw', frm') = E_v_undo thr sta nu fw fu fsr frm) (h : TW n lt nf fi f1 f2 fl G fw) (hr : HR n dr kp nu sl fu fsr fw) (q : RfR rb sta frf frm) : r1 = r2 ∧ RfR rb' sta' frf' frm' ∧ TW n lt nf fi' f1' f2' fl G fw' ∧ HR n dr' kp' nu' sl fu fsr fw' := by
  have hr0 := hr
  obtain ⟨d, u, ⟨d1, d2⟩, rfl, rfl, rfl, e4⟩ := hr
  rw [E_w_undo.eq_def] at k1
  rw [E_v_undo.eq_def] at k2
  by_cases c : u = 0
  · subst c
    rw [E_w_takeBack.eq_def, if_pos (show nI 0 = 0 from rfl)] at k1
    rw [if_pos (show nI 0 = 0 from rfl)] at k2
    simp only [Lt2] at k1 k2
    rw [if_pos (by trivial)] at k1
    simp only [Prod.mk.injEq] at k1 k2
    obtain ⟨rfl, rfl, rfl, rfl, rfl, rfl, rfl, rfl⟩ := k1
    obtain ⟨rfl, rfl, rfl, rfl, rfl⟩ := k2
    have g := q.no (x := -3) (by decide)
    exact ⟨g.1.trans g.2.1.symm, g.2.2, h, hr0⟩
  · obtain ⟨v, rfl⟩ : ∃ v, u = v + 1 := ⟨u - 1, by omega⟩
    obtain ⟨g1, t1, t2, t3⟩ := takeBack_at (d := d) (u := v) d1 (by omega) (f := sl) (f1 := f1) (f2 := f2) (fi := fi)
    have he := e4 v (by omega)
    rw [show (d + 17 - (v + 1) + v) % 17 = (d + 16) % 17 by omega] at he
    obtain ⟨s, s4, s5⟩ := he.2.2.1
    have s6 : sl (28 * ((d + 16) % 17)) = nI s := he.1.1.trans s5
    rw [t1] at k1
    simp only [Lt2] at k1
    rw [s6, if_neg (fun q => by have := congrArg Int32.toInt q; rw [nI_toInt (by omega)] at this; have z : (-1 : Int32).toInt = -1 := rfl; omega), Lt_b, E_w_accept.eq_def] at k1
    rw [if_neg (kn_nz (j := 0) rfl (by omega) (by omega)), Lt_b, Lt_b, Lt_b, kn_m1 (by omega) (by omega), show v + 1 - 1 = v by omega, kn_cl (by omega), s5, tell_p (by rw [nI_toInt (by omega)]; omega)] at k2
    simp only [Lt2, Prod.mk.injEq] at k1 k2
    obtain ⟨rfl, rfl, rfl, rfl, rfl, rfl, rfl, rfl⟩ := k1
    obtain ⟨rfl, rfl, rfl, rfl, rfl⟩ := k2
    have c3 := fun j => putBack_at (k := v) (by omega) (fw := fw) (fu := fu) j
    refine ⟨rfl, q.ok, undo_tw h he rfl rfl rfl t2 (fun j hj => t3 j (by omega)) c3, (d + 16) % 17, v, ⟨by omega, by omega⟩, rfl, rfl, rfl, fun i hi => ?_⟩
    rw [show ((d + 16) % 17 + 17 - v + i) % 17 = (d + 17 - (v + 1) + i) % 17 by omega]
    refine (e4 i (by omega)).ext (fun _ _ _ => rfl) (fun _ _ => rfl) rfl (fun j h1 h2 => ?_)
    rw [c3, if_pos (by omega)]
    have b := he.2.1 (j - 4) (by omega) (by omega)
    rw [b]
    exact congrArg fw (by omega)
/-! terms -/
theorem canBe_at {j : Nat} (hj : j < 6) (y : Int32) : E_v_canBe (nI j) y = E_w_within y (aF 0 j) (aF 1 j) := by
  have go : ∀ {lo hi : Int64} {lo' hi' : Int32}, lo.toInt = lo'.toInt → hi.toInt = hi'.toInt → (Lt ((y : Int32).toInt64 : Int64) (fun x => Lt (E_v_in x lo hi) (fun r => if r = 1 then (1 : Int32) else 0))) = E_w_within y lo' hi' := by
    intro lo hi lo' hi' h1 h2
    rw [Lt_b, Lt_b]
    by_cases c : lo'.toInt ≤ y.toInt ∧ y.toInt ≤ hi'.toInt
    · rw [within_p c, ifi_p (by rw [h1, h2]; exact c)]
    · rw [within_n c, ifi_n (by rw [h1, h2]; exact c)]
  have nz : ∀ {a b : Nat}, a < 10 → b < 10 → a ≠ b → ¬ (nI a).toInt = (b : Int) := fun h1 h2 h3 => by rw [nI_toInt (by omega)]; omega
  have ez : ∀ {a : Nat}, a < 10 → (nI a).toInt = (a : Int) := fun h1 => nI_toInt (by omega)
  rw [E_v_canBe.eq_def]
  rcases (show j = 0 ∨ j = 1 ∨ j = 2 ∨ j = 3 ∨ j = 4 ∨ j = 5 by omega) with rfl | rfl | rfl | rfl | rfl | rfl
  · rw [if_pos (by decide)]; exact go (by decide) (by decide)
  · rw [if_neg (by decide), if_pos (by decide)]; exact go (by decide) (by decide)
  · rw [if_neg (by decide), if_neg (by decide), if_pos (by decide)]; exact go (by decide) (by decide)
  · rw [if_neg (by decide), if_neg (by decide), if_neg (by decide), if_pos (by decide)]; exact go (by decide) (by decide)
  · rw [if_neg (by decide), if_neg (by decide), if_neg (by decide), if_neg (by decide), if_pos (by decide)]; exact go (by decide) (by decide)
  · rw [if_neg (by decide), if_neg (by decide), if_neg (by decide), if_neg (by decide), if_neg (by decide), if_pos (by decide)]; exact go (by decide) (by decide)
theorem canBe_n {x y : Int32} (hx : ¬ (0 ≤ x.toInt ∧ x.toInt ≤ 5)) : E_v_canBe x y = 0 := by
  rw [E_v_canBe.eq_def, if_neg (by omega), if_neg (by omega), if_neg (by omega), if_neg (by omega), if_neg (by omega), if_neg (fun q => by have := congrArg Int32.toInt q; have z : (5 : Int32).toInt = 5 := rfl; omega)]
theorem tm_rng : ∀ j, j < 6 → -1000 ≤ (aF 0 j).toInt ∧ (aF 1 j).toInt ≤ 1000 := by decide
theorem TW.term {n lt nf fi y : Int32} {f1 f2 fw : Nat → Int32} {fl : Nat → Option Nat} {G : Nat → LC} (h : TW n lt nf fi f1 f2 fl G fw) {j : Nat} (hj : j < 6) (hy : (aF 0 j).toInt ≤ y.toInt ∧ y.toInt ≤ (aF 1 j).toInt) : TW n lt nf fi f1 (upd f2 j y) fl G (upd fw (4 + j) y) := by
  have hs := h
  obtain ⟨⟨t1, t2, t3, t4, g1, g2, g3, g4, g5, g6, g7, g8⟩, _⟩ := h
  have sel : ∀ {i : Nat} {a b : Int}, i < 6 → (a ≤ (fw (4 + i)).toInt ∧ (fw (4 + i)).toInt ≤ b) → (aF 0 i).toInt = a → (aF 1 i).toInt = b → a ≤ (upd fw (4 + j) y (4 + i)).toInt ∧ (upd fw (4 + j) y (4 + i)).toInt ≤ b := by
    intro i a b hi q1 q2 q3
    by_cases c : i = j
    · subst c
      rw [upd_s, ← q2, ← q3]; exact hy
    · rw [upd_n (by omega)]; exact q1
  refine hs.step ⟨fun i hi => ?_, ?_, fun i hi => ?_, fun k hk h8 => ?_, sel (i := 0) (by omega) g1 (by decide) (by decide), sel (i := 1) (by omega) g2 (by decide) (by decide), sel (i := 2) (by omega) g3 (by decide) (by decide), sel (i := 3) (by omega) g4 (by decide) (by decide), sel (i := 4) (by omega) g5 (by decide) (by decide), sel (i := 5) (by omega) g6 (by decide) (by decide), ?_, fun i hi => ?_⟩ (fun i hi => upd_n (by omega)) (fun _ _ => rfl)
  · by_cases c : i = j
    · rw [c, upd_s, upd_s]
    · rw [upd_n c, upd_n (by omega)]; exact t1 i hi
  · rw [upd_n (by omega)]; exact t2
  · rw [upd_n (by omega), upd_n (by omega), upd_n (by omega)]; exact t3 i hi
  · rw [upd_n (by omega), upd_n (by omega)]; exact t4 k hk h8
  · rw [upd_n (by omega)]; exact g7
  · rw [upd_n (by omega), upd_n (by omega), upd_n (by omega)]; exact g8 i hi
theorem rel_terms {x y n lt nf fi nu dr kp rb sta thr : Int32} {f1 f2 fw fu fsr sl frf frm : Nat → Int32} {fl : Nat → Option Nat} {G : Nat → LC} {r1 rb' kp' r2 sta' nu' : Int32} {frf' f2' fw' frm' : Nat → Int32} (k1 : (r1, rb', frf', kp', f2') = E_w_terms x y rb frf dr kp f2) (k2 : (r2, sta', nu', fw', frm') = E_v_terms x y thr sta nu fw frm) (h : TW n lt nf fi f1 f2 fl G fw) (hr : HR n dr kp nu sl fu fsr fw) (q : RfR rb sta frf frm) : r1 = r2 ∧ RfR rb' sta' frf' frm' ∧ TW n lt nf fi f1 f2' fl G fw' ∧ HR n dr kp' nu' sl fu fsr fw' := by
  have z0 : (0 : Int32).toInt = 0 := rfl
  have z5 : (5 : Int32).toInt = 5 := rfl
  have no : (r1, rb', frf', kp', f2') = E_w_terms_j26 rb frf kp f2 → (r2, sta', nu', fw', frm') = Lt2 (E_v_tell (-1) sta frm) (fun r_104 q0_r_104 => Lt2 q0_r_104 (fun u_105_2_2_2_1_0 u_105_2_1_0 => ((r_104, u_105_2_2_2_1_0, nu, fw, u_105_2_1_0) : Int32 × Int32 × Int32 × (Nat → Int32) × (Nat → Int32)))) → r1 = r2 ∧ RfR rb' sta' frf' frm' ∧ TW n lt nf fi f1 f2' fl G fw' ∧ HR n dr kp' nu' sl fu fsr fw' := by
    intro k1 k2
    rw [E_w_terms_j26.eq_def] at k1
    simp only [Lt2, Prod.mk.injEq] at k1 k2
    obtain ⟨rfl, rfl, rfl, rfl, rfl⟩ := k1
    obtain ⟨rfl, rfl, rfl, rfl, rfl⟩ := k2
    have g := q.no (x := -1) (by decide)
    exact ⟨g.1.trans g.2.1.symm, g.2.2, h, hr⟩
  rw [E_w_terms.eq_def, Lt_b] at k1
  rw [E_v_terms.eq_def, Lt_b] at k2
  by_cases c : 0 ≤ x.toInt ∧ x.toInt ≤ 5
  · obtain ⟨j, hj, hz⟩ : ∃ j : Nat, x = nI j ∧ (j : Int) = x.toInt := ⟨x.toInt.toNat, i_ofN rfl c.1, by omega⟩
    subst hj
    have j6 : j < 6 := by omega
    rw [ifw_p (by omega), Lt_b, Lt_b, Lt_b, kn_cl (by omega)] at k1
    rw [canBe_at j6] at k2
    by_cases d : (aF 0 j).toInt ≤ y.toInt ∧ y.toInt ≤ (aF 1 j).toInt
    · rw [ifw_p d, Lt_b, Lt_b, Lt_b, E_w_accept.eq_def] at k1
      rw [ifw_p d, n_ladd (m := 4) rfl (by omega), Lt_b, E_v_changeF.eq_def, Lt_b, Lt_b, kn_cl (by omega)] at k2
      simp only [Lt2, Prod.mk.injEq] at k1 k2
      obtain ⟨rfl, rfl, rfl, rfl, rfl⟩ := k1
      obtain ⟨rfl, rfl, rfl, rfl, rfl⟩ := k2
      exact ⟨h.1.1 j j6, q.ok, h.term j6 d, hr.clear⟩
    · rw [ifw_n d] at k1 k2
      exact no k1 k2
  · rw [ifw_n (by omega)] at k1
    rw [canBe_n c, if_neg (by decide)] at k2
    exact no k1 k2
/-! force -/
theorem isLaw_at {x lt : Int32} {fw : Nat → Int32} (hl : lt = fw 2) (h6 : 0 ≤ lt.toInt ∧ lt.toInt ≤ 6) : E_v_isLaw x fw = if -1 ≤ x.toInt ∧ x.toInt < lt.toInt then 1 else 0 := by
  have z0 : (0 : Int64).toInt = 0 := rfl
  have zm : (-1 : Int32).toInt = -1 := rfl
  have z1 : ((fw 2).toInt64 - 1).toInt = lt.toInt - 1 := by
    rw [← hl, l_sub (show lt.toInt64.toInt = lt.toInt from wide_at) (show (1 : Int64).toInt = 1 from rfl) (by omega)]
  rw [E_v_isLaw.eq_def]
  by_cases c : x = -1
  · rw [if_pos c, c, if_pos (by omega)]
  · have c1 : x.toInt ≠ -1 := fun q => c (i_lit q zm)
    rw [if_neg c, Lt_b, Lt_b, Lt_b, Lt_b, Lt_b, show fw (2 : Int32).toNatClampNeg = fw 2 from rfl]
    by_cases d : 0 ≤ x.toInt ∧ x.toInt < lt.toInt
    · rw [ifi_p (by rw [z1]; omega), if_pos (by omega)]
    · rw [ifi_n (by rw [z1]; omega), if_neg (by omega)]
theorem TW.forced {n lt nf fi x : Int32} {f1 f2 fw : Nat → Int32} {fl : Nat → Option Nat} {G : Nat → LC} (h : TW n lt nf fi f1 f2 fl G fw) (hx : -1 ≤ x.toInt ∧ x.toInt < lt.toInt) : TW n lt x fi f1 f2 fl G (upd fw 3 x) := by
  obtain ⟨a, b1, b2, b3, b4, b5, b6, b7⟩ := h
  exact ⟨a.ext (fun _ _ => rfl) (fun _ _ => rfl) (fun j _ _ => upd_n (by omega)), by rw [upd_n (by omega)]; exact b1, upd_s.symm, hx, fun j hj => by rw [upd_n (by omega), upd_n (by omega)]; exact b4 j hj, b5.ext (fun j _ _ => upd_n (by omega)), ⟨by rw [upd_n (by omega)]; exact b6.1, b6.2⟩, fun j hj => by rw [upd_n (by omega)]; exact b7 j hj⟩
theorem rel_force {x n lt nf fi nu dr kp rb sta thr : Int32} {f1 f2 fw fu fsr sl frf frm : Nat → Int32} {fl : Nat → Option Nat} {G : Nat → LC} {r1 rb' nf' r2 sta' : Int32} {frf' fw' frm' : Nat → Int32} (k1 : (r1, rb', frf', nf') = E_w_force x rb frf lt nf) (k2 : (r2, sta', fw', frm') = E_v_force x thr sta fw frm) (h : TW n lt nf fi f1 f2 fl G fw) (hr : HR n dr kp nu sl fu fsr fw) (q : RfR rb sta frf frm) : r1 = r2 ∧ RfR rb' sta' frf' frm' ∧ TW n lt nf' fi f1 f2 fl G fw' ∧ HR n dr kp nu sl fu fsr fw' := by
  have h6 := h.2.2.2.2.2.1.1
  have z0 : (0 : Int32).toInt = 0 := rfl
  have zm : (-1 : Int32).toInt = -1 := rfl
  have zl : (lt - 1).toInt = lt.toInt - 1 := i_sub rfl (show (1 : Int32).toInt = 1 from rfl) (by omega)
  rw [E_w_force.eq_def] at k1
  rw [E_v_force.eq_def, Lt_b, isLaw_at h.2.1 h6] at k2
  by_cases c : -1 ≤ x.toInt ∧ x.toInt < lt.toInt
  · have k3 : (r1, rb', frf', nf') = E_w_force_j29 x rb frf nf := by
      by_cases d : x = -1
      · rw [if_pos d] at k1; exact k1
      · have d1 : x.toInt ≠ -1 := fun q => d (i_lit q zm)
        rw [if_neg d, Lt_b, Lt_b, ifw_p (by omega)] at k1; exact k1
    rw [E_w_force_j29.eq_def, Lt_b, E_w_accept.eq_def] at k3
    rw [if_pos c, if_pos rfl, E_v_changeF.eq_def, Lt_b, Lt_b, Lt2_b] at k2
    simp only [Prod.mk.injEq] at k2 k3
    obtain ⟨rfl, rfl, rfl, rfl⟩ := k3
    obtain ⟨rfl, rfl, rfl, rfl⟩ := k2
    exact ⟨h.2.2.1, q.ok, h.forced c, hr.keep (fun _ _ => rfl) (fun _ _ => rfl) (fun j h1 _ => upd_n (show ¬ j = 3 by omega))⟩
  · have d : ¬ x = -1 := fun e => by rw [e] at c; omega
    rw [if_neg d, Lt_b, Lt_b, ifw_n (by omega)] at k1
    rw [if_neg c, if_neg (by decide)] at k2
    simp only [Lt2, Prod.mk.injEq] at k1 k2
    obtain ⟨rfl, rfl, rfl, rfl⟩ := k1
    obtain ⟨rfl, rfl, rfl, rfl⟩ := k2
    have g := q.no (x := -2) (by decide)
    exact ⟨g.1.trans g.2.1.symm, g.2.2, h, hr⟩
