/-- what stands of a clause -/
noncomputable def KClz (i us nc : Nat) (fh fod fc fo fa : Nat → Int32) (v t : Nat) : Prop := (v < 4 ∧ 1 ≤ t ∧ t ≤ 20) ∧ fh (5 * i) = nI v ∧ fod (8 * i) = nI v ∧ fh (5 * i + 1) = nI t ∧ fod (8 * i + 7) = nI t ∧ KTs 1 us nc fc fo fa (fh (5 * i + 4)) (fod (8 * i + 5)) (fod (8 * i + 6)) ∧ KSn (v < 3) 1 us nc fc fo fa (fh (5 * i + 2)) (fod (8 * i + 1)) (fod (8 * i + 2)) ∧ KSn (v = 1 ∨ v = 2) 1 us nc fc fo fa (fh (5 * i + 3)) (fod (8 * i + 3)) (fod (8 * i + 4))
/-- what comes of a turn -/
noncomputable def TurnR (n lt nf : Int32) (fl : Nat → Option Nat) (G : Nat → LC) (dn : Int32) (fw fu : Nat → Int32) (A1 A2 A3 A7 A8 A13 r2 nu' dn' me' : Int32) (A9 A14 A15 fw' fu' fsr' : Nat → Int32) : Prop :=
  (A1 = 0 ∧ r2 = -3 ∧ (∀ j, 496 ≤ j → fu' j = fu j) ∧ ∀ j, j < 4 ∨ 35 ≤ j → fw' j = fw j) ∨
  (A1 = 1 ∧ r2 = 0 ∧ A2 = dn' ∧ A3 = me' ∧ (0 ≤ dn'.toInt ∧ dn'.toInt ≤ dn.toInt + 1) ∧ (-1 ≤ me'.toInt ∧ me'.toInt ≤ 1) ∧ TW n lt nf A13 A14 A15 fl G fw' ∧ HR n A7 A8 nu' A9 fu' fsr' fw' ∧ (∀ j, 496 ≤ j → fu' j = fu j) ∧ ∀ j, j < 4 ∨ 35 ≤ j → fw' j = fw j)
/-- the sums and the act -/
theorem turn_do {i v t us nc : Nat} {n lt nf fi nu dr kp dn me xb br lw bro : Int32} {val sm : Int64} {f1 f2 f3 fw fu fsr sl W fx fs cw fb fh fc fo fa fod : Nat → Int32} {fe frs fnw : Nat → Int64} {fl : Nat → Option Nat} {G : Nat → LC} {A1 A2 A3 A4 A7 A8 A10 A13 : Int32} {A5 A6 A9 A11 A12 A14 A15 : Nat → Int32} {r2 nu' lw' bro' dn' me' of' : Int32} {val' sm' : Int64} {fw' fu' fsr' fb' : Nat → Int32} {fe' frs' fnw' : Nat → Int64} (hi : i < 12) (hK : KClz i us nc fh fod fc fo fa v t) (hus : us ≤ 800) (hnc : nc ≤ 400) (henv : KEnv 1 (fun w => W w.toNatClampNeg) (fun w => 0 ≤ w.toInt ∧ w.toInt < ((28 : Nat) : Int)) (lfo fw fnw))
    (k1 : (A1, A2, A3, A4, A5, A6, A7, A8, A9, A10, A11, A12, A13, A14, A15) = E_w_turn_j51 G (nI i) dn me fh fc dr kp sl br fs cw n lt nf fi f1 f2 f3 fl W xb fx) (k2 : (r2, nu', lw', bro', val', sm', dn', me', of', fw', fe', frs', fu', fsr', fb', fnw') = E_v_run_j106 (nI (8 * i)) nu lw sm dn me fw fe fu fsr fb fo fa fod fnw bro val 0 frs) (h : TW n lt nf fi f1 f2 fl G fw) (hr : HR n dr kp nu sl fu fsr fw) (h3 : ∀ j, j < 24 → f3 j = fw (67 + j)) (hd : 0 ≤ dn.toInt ∧ dn.toInt ≤ 10000) (hm : -1 ≤ me.toInt ∧ me.toInt ≤ 1) :
    TurnR n lt nf fl G dn fw fu A1 A2 A3 A7 A8 A13 r2 nu' dn' me' A9 A14 A15 fw' fu' fsr' := by
  obtain ⟨⟨v4, t1, t2⟩, c1, c2, c3, c4, c5, c6, c7⟩ := hK
  have h0 : E_w_head (nI i) 0 60 fh = nI v := (head_at (j := 0) rfl (by omega) (by omega) (by omega) (by omega)).trans c1
  have h2 : E_w_head (nI i) 2 60 fh = fh (5 * i + 2) := head_at (j := 2) rfl (by omega) (by omega) (by omega) (by omega)
  have h3' : E_w_head (nI i) 3 60 fh = fh (5 * i + 3) := head_at (j := 3) rfl (by omega) (by omega) (by omega) (by omega)
  rw [E_w_turn_j51.eq_def, Lt_b, h0] at k1
  rw [E_v_run_j106.eq_def, Lt_b, kn_p1 (by omega)] at k2
  have z3 : (fod (nI (8 * i)).toNatClampNeg) = nI v := by rw [kn_cl (by omega)]; exact c2
  -- the reference, behind its sums
  have tail : ∀ (one two broX : Int32) (valX : Int64) (frsX : Nat → Int64) (house by_ xbX : Int32) (fxX : Nat → Int32), (v < 3 → one = house) → (v = 1 ∨ v = 2 → two = by_) → (A1, A2, A3, A4, A5, A6, A7, A8, A9, A10, A11, A12, A13, A14, A15) = E_w_turn_j178 G dn me dr kp sl br fs cw n lt nf fi f1 f2 f3 fl W (nI v) house by_ xbX fxX → (r2, nu', lw', bro', val', sm', dn', me', of', fw', fe', frs', fu', fsr', fb', fnw') = (fun B : Int32 × Int32 × Int32 × Int32 × Int64 × Int64 × (Nat → Int32) × (Nat → Int64) × (Nat → Int64) × (Nat → Int32) × (Nat → Int32) × (Nat → Int32) => if 0 ≤ B.1 then (if nI v = 3 then ((0, B.2.1, B.2.2.1, B.2.2.2.1, B.2.2.2.2.1, B.2.2.2.2.2.1, dn + 1, B.1, 0, B.2.2.2.2.2.2.1, B.2.2.2.2.2.2.2.1, B.2.2.2.2.2.2.2.2.1, B.2.2.2.2.2.2.2.2.2.1, B.2.2.2.2.2.2.2.2.2.2.1, B.2.2.2.2.2.2.2.2.2.2.2, fnw) : Int32 × Int32 × Int32 × Int32 × Int64 × Int64 × Int32 × Int32 × Int32 × (Nat → Int32) × (Nat → Int64) × (Nat → Int64) × (Nat → Int32) × (Nat → Int32) × (Nat → Int32) × (Nat → Int64)) else (0, B.2.1, B.2.2.1, B.2.2.2.1, B.2.2.2.2.1, B.2.2.2.2.2.1, dn + 1, me, 0, B.2.2.2.2.2.2.1, B.2.2.2.2.2.2.2.1, B.2.2.2.2.2.2.2.2.1, B.2.2.2.2.2.2.2.2.2.1, B.2.2.2.2.2.2.2.2.2.2.1, B.2.2.2.2.2.2.2.2.2.2.2, fnw)) else (-3, B.2.1, B.2.2.1, B.2.2.2.1, B.2.2.2.2.1, B.2.2.2.2.2.1, dn, me, 0, B.2.2.2.2.2.2.1, B.2.2.2.2.2.2.2.1, B.2.2.2.2.2.2.2.2.1, B.2.2.2.2.2.2.2.2.2.1, B.2.2.2.2.2.2.2.2.2.2.1, B.2.2.2.2.2.2.2.2.2.2.2, fnw)) (E_v_act (nI v) one two nu lw broX valX sm fw fe frsX fu fsr fb) → TurnR n lt nf fl G dn fw fu A1 A2 A3 A7 A8 A13 r2 nu' dn' me' A9 A14 A15 fw' fu' fsr' := by
    intro one two broX valX frsX house by_ xbX fxX g1 g2 g3 g4
    generalize hB : E_v_act (nI v) one two nu lw broX valX sm fw fe frsX fu fsr fb = B at g4
    obtain ⟨B1, B2, B3, B4, B5, B6, B7, B8, B9, B10, B11, B12⟩ := B
    have a := acts_at v4 g3 hB.symm g1 g2 h hr h3
    have s1 := i_add (Eq.refl dn.toInt) (show (1 : Int32).toInt = 1 from rfl) (by omega)
    dsimp only at g4
    rcases a with ⟨q1, q2, q3, q4⟩ | ⟨q1, q2, q3, q4, q5, q6, q7, q8, q9⟩
    · rw [if_neg (fun q => by have := ie_iff.mp q; have z : (0 : Int32).toInt = 0 := rfl; omega)] at g4
      simp only [Prod.mk.injEq] at g4
      obtain ⟨rfl, rfl, rfl, rfl, rfl, rfl, rfl, rfl, rfl, rfl, rfl, rfl, rfl, rfl, rfl, rfl⟩ := g4
      exact Or.inl ⟨q2, rfl, fun j _ => by rw [q4], fun j _ => by rw [q3]⟩
    · rw [if_pos (show (0 : Int32) ≤ B1 from ie_iff.mpr q1)] at g4
      by_cases e3 : v = 3
      · rw [if_pos (show nI v = 3 by rw [e3]; rfl)] at g4
        rw [if_pos e3] at q4
        have q5' := q5 e3
        simp only [Prod.mk.injEq] at g4
        obtain ⟨rfl, rfl, rfl, rfl, rfl, rfl, rfl, rfl, rfl, rfl, rfl, rfl, rfl, rfl, rfl, rfl⟩ := g4
        exact Or.inr ⟨q2, rfl, q3, q4, by omega, by rcases q5' with rfl | rfl <;> decide, q6, q7, q8, q9⟩
      · rw [if_neg (kn_nz (j := 3) rfl (by omega) e3)] at g4
        rw [if_neg e3] at q4
        simp only [Prod.mk.injEq] at g4
        obtain ⟨rfl, rfl, rfl, rfl, rfl, rfl, rfl, rfl, rfl, rfl, rfl, rfl, rfl, rfl, rfl, rfl⟩ := g4
        exact Or.inr ⟨q2, rfl, q3, q4, by omega, hm, q6, q7, q8, q9⟩
  have bad : A1 = 0 → (∃ (x1 : Int32) (x2 : Int64) (x3 : Int32) (x4 : Nat → Int64), (r2, nu', lw', bro', val', sm', dn', me', of', fw', fe', frs', fu', fsr', fb', fnw') = (-3, nu, lw, x1, x2, sm, dn, me, x3, fw, fe, x4, fu, fsr, fb, fnw)) → TurnR n lt nf fl G dn fw fu A1 A2 A3 A7 A8 A13 r2 nu' dn' me' A9 A14 A15 fw' fu' fsr' := by
    intro g1 ⟨x1, x2, x3, x4, g2⟩
    simp only [Prod.mk.injEq] at g2
    obtain ⟨rfl, rfl, rfl, rfl, rfl, rfl, rfl, rfl, rfl, rfl, rfl, rfl, rfl, rfl, rfl, rfl⟩ := g2
    exact Or.inl ⟨g1, rfl, fun _ _ => rfl, fun _ _ => rfl⟩
  by_cases e3 : v = 3
  · -- an hour: no sums
    subst e3
    rcases c6 with ⟨_, n1, n2⟩ | ⟨bb, _⟩
    case inr => exact absurd bb (by decide)
    rcases c7 with ⟨_, n3, n4⟩ | ⟨bb, _⟩
    case inr => exact absurd bb (by decide)
    rw [sumOf_n (by omega) n2, Lt2_b, Lt2_b, Lt2_b, Lt2_b, Lt_b] at k2
    rw [n_addl (m := 3) rfl (by omega)] at k2
    dsimp only at k2
    rw [sumOf_n (by omega) n4, Lt2_b, Lt2_b, Lt2_b, Lt2_b] at k2
    dsimp only at k2
    rw [if_pos rfl, Lt_b, z3] at k2
    rw [if_pos (show nI 3 = 3 from rfl), if_pos (show nI 3 = 3 from rfl), E_w_turn_j110.eq_def, if_neg (by decide), if_neg (by decide)] at k1
    exact tail _ _ _ _ _ _ _ _ _ (fun q => absurd q (by decide)) (fun q => absurd q (by decide)) k1 k2
  have v3 : v < 3 := by omega
  rcases c6 with ⟨bb, _⟩ | ⟨_, a, e, p, q, m, x1, x2, x3, x4, x5, x6, x7, x8, x9⟩
  · exact absurd v3 bb
  rw [if_neg (kn_nz (j := 3) rfl (by omega) e3), Lt_b, h2, x1] at k1
  rcases sumOf_p (at_ := 8 * i + 1) (by omega) x2 x3 x4 x5 hnc x6 x7 x8 x9 hus henv with ⟨p1, p2⟩ | ⟨r, _, p1, p2⟩
  · obtain ⟨f', y1⟩ := p1 xb fx
    obtain ⟨w1, w2, w3, y2⟩ := p2 bro val frs
    rw [y1, Lt2_b, Lt2_b] at k1
    dsimp only at k1
    rw [if_neg (kn_nz (j := 3) rfl (by omega) e3), if_neg (show ¬ (1 : Int32) = 0 by decide)] at k1
    rw [y2, Lt2_b, Lt2_b, Lt2_b, Lt2_b, Lt_b] at k2
    dsimp only at k2
    rw [sumOf_off (show (1 : Int32) ≠ 0 by decide), Lt2_b, Lt2_b, Lt2_b, Lt2_b] at k2
    dsimp only at k2
    rw [if_neg (show ¬ (1 : Int32) = 0 by decide)] at k2
    exact bad (Prod.mk.inj k1).1 ⟨_, _, _, _, k2⟩
  obtain ⟨f', y1⟩ := p1 xb fx
  obtain ⟨w2, w3, y2⟩ := p2 bro val frs
  rw [y1, Lt2_b, Lt2_b] at k1
  dsimp only at k1
  rw [if_neg (kn_nz (j := 3) rfl (by omega) e3), if_pos (show (0 : Int32) = 0 from rfl), E_w_turn_j110.eq_def] at k1
  rw [y2, Lt2_b, Lt2_b, Lt2_b, Lt2_b, Lt_b, n_addl (m := 3) rfl (by omega)] at k2
  dsimp only at k2
  rcases c7 with ⟨nb, n3, n4⟩ | ⟨bb, a, e, p, q, m, x1, x2, x3, x4, x5, x6, x7, x8, x9⟩
  · rw [sumOf_n (by omega) n4, Lt2_b, Lt2_b, Lt2_b, Lt2_b] at k2
    dsimp only at k2
    rw [if_pos rfl, Lt_b, z3] at k2
    rw [if_neg (kn_nz (j := 1) rfl (by omega) (by omega)), if_neg (kn_nz (j := 2) rfl (by omega) (by omega))] at k1
    exact tail _ _ _ _ _ _ _ _ _ (fun _ => rfl) (fun q => absurd q nb) k1 k2
  have j122 : (A1, A2, A3, A4, A5, A6, A7, A8, A9, A10, A11, A12, A13, A14, A15) = E_w_turn_j122 G (nI i) dn me fh fc dr kp sl br fs cw n lt nf fi f1 f2 f3 fl W (nI v) r 0 f' := by
    rcases bb with rfl | rfl
    · rw [if_pos (show nI 1 = 1 from rfl)] at k1; exact k1
    · rw [if_neg (by decide), if_pos (show nI 2 = 2 from rfl)] at k1; exact k1
  rw [E_w_turn_j122.eq_def, Lt_b, h3', x1] at j122
  rcases sumOf_p (at_ := 8 * i + 3) (by omega) x2 x3 x4 x5 hnc x6 x7 x8 x9 hus henv with ⟨p1, p2⟩ | ⟨r', _, p1, p2⟩
  · obtain ⟨f3', y3⟩ := p1 0 f'
    obtain ⟨u1, u2, u3, y4⟩ := p2 0 w2 w3
    rw [y3, Lt2_b, Lt2_b] at j122
    dsimp only at j122
    rw [if_neg (show ¬ (1 : Int32) = 0 by decide)] at j122
    rw [y4, Lt2_b, Lt2_b, Lt2_b, Lt2_b] at k2
    dsimp only at k2
    rw [if_neg (show ¬ (1 : Int32) = 0 by decide)] at k2
    exact bad (Prod.mk.inj j122).1 ⟨_, _, _, _, k2⟩
  · obtain ⟨f3', y3⟩ := p1 0 f'
    obtain ⟨u2, u3, y4⟩ := p2 0 w2 w3
    rw [y3, Lt2_b, Lt2_b] at j122
    dsimp only at j122
    rw [if_pos (show (0 : Int32) = 0 from rfl)] at j122
    rw [y4, Lt2_b, Lt2_b, Lt2_b, Lt2_b] at k2
    dsimp only at k2
    rw [if_pos rfl, Lt_b, z3] at k2
    exact tail _ _ _ _ _ _ _ _ _ (fun _ => rfl) (fun _ => rfl) j122 k2
/-- ONE TURN, both sides -/
theorem turn_run {i v t us nc : Nat} {n lt nf fi nu dr kp dn me xb br lw bro scl sus ofm : Int32} {val sm : Int64} {f1 f2 f3 fw fu fsr sl fv fx fs cw fb fh fc fo fa fod : Nat → Int32} {fe frs fnw : Nat → Int64} {fl : Nat → Option Nat} {G : Nat → LC} {A1 A2 A3 A4 A7 A8 A10 A13 : Int32} {A5 A6 A9 A11 A12 A14 A15 : Nat → Int32} {r2 nu' lw' bro' dn' me' of' : Int32} {val' sm' : Int64} {fw' fu' fsr' fb' : Nat → Int32} {fe' frs' fnw' : Nat → Int64} (hi : i < 12) (hK : KClz i us nc fh fod fc fo fa v t) (hus : us ≤ 800) (hnc : nc ≤ 400)
    (k1 : (A1, A2, A3, A4, A5, A6, A7, A8, A9, A10, A11, A12, A13, A14, A15) = E_w_turn G (nI i) dn me xb fx fv scl sus fh fc dr kp sl br fs cw n lt nf fi f1 f2 f3 fl) (k2 : (r2, nu', lw', bro', val', sm', dn', me', of', fw', fe', frs', fu', fsr', fb', fnw') = E_v_run (nI (8 * i)) nu lw bro val sm dn me ofm fw fe frs fu fsr fb fnw fo fa fod) (h : TW n lt nf fi f1 f2 fl G fw) (hr : HR n dr kp nu sl fu fsr fw) (h3 : ∀ j, j < 24 → f3 j = fw (67 + j)) (hd : 0 ≤ dn.toInt ∧ dn.toInt ≤ 10000) (hm : -1 ≤ me.toInt ∧ me.toInt ≤ 1) :
    TurnR n lt nf fl G dn fw fu A1 A2 A3 A7 A8 A13 r2 nu' dn' me' A9 A14 A15 fw' fu' fsr' := by
  have hK0 := hK
  obtain ⟨⟨v4, t1, t2⟩, c1, c2, c3, c4, c5, c6, c7⟩ := hK
  have h4 : E_w_head (nI i) 4 60 fh = fh (5 * i + 4) := head_at (j := 4) rfl (by omega) (by omega) (by omega) (by omega)
  obtain ⟨N5, hN5⟩ : ∃ N5 : Nat → Int64, N5 = vp_updL (vp_updL (vp_updL (vp_updL (vp_updL fnw 1 (fw 4).toInt64) 2 (fw 5).toInt64) 3 (fw 10).toInt64) 4 dn.toInt64) 5 me.toInt64 := ⟨_, rfl⟩
  have henv := look_env h (dn := dn) (me := me) fv (fnw := N5) ⟨by omega, by omega⟩ ⟨by omega, by omega⟩ (by rw [hN5]; exact wide_at) (by rw [hN5]; exact wide_at) (by rw [hN5]; exact wide_at) (by rw [hN5]; exact wide_at) (by rw [hN5]; exact wide_at)
  rw [E_w_turn.eq_def, Lt_b, Lt_b, h4] at k1
  generalize E_w_look dn me fv n fi f1 f2 = W at k1 henv
  have k3 : (r2, nu', lw', bro', val', sm', dn', me', of', fw', fe', frs', fu', fsr', fb', fnw') = if fod (8 * i + 6) ≤ fod (8 * i + 5) then E_v_run_j106 (nI (8 * i)) nu lw sm dn me fw fe fu fsr fb fo fa fod N5 bro val 0 frs else (fun S : Int32 × Int32 × Int64 × Int32 × (Nat → Int64) => if S.2.2.2.1 = 0 then (if S.1 = 0 then E_v_run_j104 nu lw sm dn me fw fe fu fsr fb N5 S.2.1 S.2.2.1 S.2.2.2.1 S.2.2.2.2 else E_v_run_j106 (nI (8 * i)) nu lw sm dn me fw fe fu fsr fb fo fa fod N5 S.2.1 S.2.2.1 S.2.2.2.1 S.2.2.2.2) else E_v_run_j104 nu lw sm dn me fw fe fu fsr fb N5 S.2.1 S.2.2.1 S.2.2.2.1 S.2.2.2.2) (E_v_sumOf (nI (8 * i + 5)) bro val 0 fw N5 frs fo fa fod) := by
    rw [k2, E_v_run.eq_def, Lt_b, Lt_b, Lt_b, Lt_b, Lt_b, Lt_b, Lt_b, Lt_b, Lt_b, Lt_b, Lt_b, Lt_b, Lt_b, Lt_b, Lt_b, Lt_b, Lt_b, n_addl (m := 6) rfl (by omega), n_addl (m := 5) rfl (by omega), kn_cl (by omega), kn_cl (by omega), Lt_b, hN5]
    rfl
  have skip : A1 = 1 ∧ A2 = dn ∧ A3 = me ∧ A7 = dr ∧ A8 = kp ∧ A9 = sl ∧ A13 = fi ∧ A14 = f1 ∧ A15 = f2 → (∃ (x1 : Int32) (x2 : Int64) (x3 : Int32) (x4 : Nat → Int64), (r2, nu', lw', bro', val', sm', dn', me', of', fw', fe', frs', fu', fsr', fb', fnw') = E_v_run_j104 nu lw sm dn me fw fe fu fsr fb N5 x1 x2 x3 x4) → TurnR n lt nf fl G dn fw fu A1 A2 A3 A7 A8 A13 r2 nu' dn' me' A9 A14 A15 fw' fu' fsr' := by
    intro ⟨g1, g2, g3, g4, g5, g6, g7, g8, g9⟩ ⟨x1, x2, x3, x4, g⟩
    rw [E_v_run_j104.eq_def] at g
    simp only [Prod.mk.injEq] at g
    obtain ⟨rfl, rfl, rfl, rfl, rfl, rfl, rfl, rfl, rfl, rfl, rfl, rfl, rfl, rfl, rfl, rfl⟩ := g
    subst g4 g5 g6 g7 g8 g9
    exact Or.inr ⟨g1, rfl, g2, g3, by omega, hm, h, hr, fun _ _ => rfl, fun _ _ => rfl⟩
  have j49 : ∀ {xb' : Int32} {fx' : Nat → Int32}, (A1, A2, A3, A4, A5, A6, A7, A8, A9, A10, A11, A12, A13, A14, A15) = E_w_turn_j49 dn me dr kp sl br fs cw fi f1 f2 W xb' fx' → A1 = 1 ∧ A2 = dn ∧ A3 = me ∧ A7 = dr ∧ A8 = kp ∧ A9 = sl ∧ A13 = fi ∧ A14 = f1 ∧ A15 = f2 := by
    intro xb' fx' g
    rw [E_w_turn_j49.eq_def] at g
    simp only [Prod.mk.injEq] at g
    obtain ⟨rfl, rfl, rfl, rfl, rfl, rfl, rfl, rfl, rfl, rfl, rfl, rfl, rfl, rfl, rfl⟩ := g
    exact ⟨rfl, rfl, rfl, rfl, rfl, rfl, rfl, rfl, rfl⟩
  rcases c5 with ⟨n1, n2, _⟩ | ⟨a, e, p, q, m, x1, x2, x3, x4, x5, x6, x7, x8, x9⟩
  · rw [if_pos n1] at k1
    rw [n2, if_pos (ie_iff.mpr (Int.le_refl _))] at k3
    exact turn_do hi hK0 hus hnc henv k1 k3 h hr h3 hd hm
  · have a1 : ¬ fh (5 * i + 4) = -1 := fun z => by
      rw [x1] at z
      have := congrArg Int32.toInt z
      have z1 : (-1 : Int32).toInt = -1 := rfl
      have := x7.2.1
      have := x7.2.2.2.1
      rw [nI_toInt (by omega)] at *
      omega
    rw [if_neg a1, x1] at k1
    rw [if_neg (fun z => by rw [x2, x3] at z; have := (kn_le (by omega) (by omega)).mp z; omega)] at k3
    rcases sumOf_p (at_ := 8 * i + 5) (by omega) x2 x3 x4 x5 hnc x6 x7 x8 x9 hus henv with ⟨p1, p2⟩ | ⟨r, rt, p1, p2⟩
    · obtain ⟨f', y1⟩ := p1 xb fx
      obtain ⟨w1, w2, w3, y2⟩ := p2 bro val frs
      rw [y1, Lt2_b, Lt2_b] at k1
      dsimp only at k1
      rw [if_pos (show (0 : Int32) = 0 from rfl)] at k1
      rw [y2] at k3
      dsimp only at k3
      rw [if_neg (show ¬ (1 : Int32) = 0 by decide)] at k3
      exact skip (j49 k1) ⟨_, _, _, _, k3⟩
    · obtain ⟨f', y1⟩ := p1 xb fx
      obtain ⟨w2, w3, y2⟩ := p2 bro val frs
      rw [y1, Lt2_b, Lt2_b] at k1
      dsimp only at k1
      rw [y2] at k3
      dsimp only at k3
      rw [if_pos (show (0 : Int32) = 0 from rfl)] at k3
      by_cases r0 : r = 0
      · rw [if_pos r0] at k1 k3
        exact skip (j49 k1) ⟨_, _, _, _, k3⟩
      · rw [if_neg r0] at k1 k3
        rw [if_pos (show (0 : Int32) = 0 from rfl)] at k1
        exact turn_do hi hK0 hus hnc henv k1 k3 h hr h3 hd hm
