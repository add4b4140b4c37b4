/-! one turn of a clause, both sides -/
theorem remember_far {s : Nat} {nu : Int32} {fw fu fs : Nat → Int32} {u : Nat} (hu : u ≤ 16) (e : nu = nI u) : ∀ j, 496 ≤ j → (E_v_remember (nI s) nu fw fu fs).2.1 j = fu j := by
  intro j hj
  subst e
  by_cases c : u < 16
  · rw [remember_lt c]
    dsimp only
    rw [keepAll_at (by omega), if_neg (by omega)]
  · have : u = 16 := by omega
    subst this
    rw [remember_16]
    dsimp only
    rw [keepAll_at (by omega), if_neg (by omega), kitf_sh (by omega), if_neg (by omega)]
theorem nextHour_r {n lt nf fi : Int32} {f1 f2 f3 fw : Nat → Int32} {fl : Nat → Option Nat} {G : Nat → LC} (h : TW n lt nf fi f1 f2 fl G fw) (h3 : ∀ j, j < 24 → f3 j = fw (67 + j)) (br : Int32) (fs cw : Nat → Int32) : (E_w_nextHour G br fs cw n lt nf fi f1 f2 f3 fl).1 = -3 ∨ (E_w_nextHour G br fs cw n lt nf fi f1 f2 f3 fl).1 = 0 ∨ (E_w_nextHour G br fs cw n lt nf fi f1 f2 f3 fl).1 = 1 := by
  by_cases c : (fw 4).toInt < 23 ∨ (fw 5).toInt < 999
  · obtain ⟨b1, b2, b3, b4, b5, b6, b7, b8, b9, b10, b11, b12, b13, b14, p1, _⟩ := pass_at h h3 c br fs cw 0 0 0 0 (fun _ => 0) (fun _ => 0) (fun _ => 0)
    rw [p1]
    exact Or.inr met_01
  · rw [noPass_at h c]
    exact Or.inl rfl
theorem j277_at {r r2 n lt nf fi fi' nu nu' dr kp dn me0 xb br' : Int32} {v : Nat} {f1 f2 f1' f2' fw fw' fu fsr fu' fsr' sl W fx fs' cw' : Nat → Int32} {fl : Nat → Option Nat} {G : Nat → LC} {A1 A2 A3 A4 A7 A8 A10 A13 : Int32} {A5 A6 A9 A11 A12 A14 A15 : Nat → Int32} (k : (A1, A2, A3, A4, A5, A6, A7, A8, A9, A10, A11, A12, A13, A14, A15) = E_w_turn_j277 dn dr kp W (nI v) xb fx (E_w_draft dr sl fi f1 f2) r me0 br' fi' fs' cw' f1' f2') (a : ActR r r2 v n lt nf fi fi' f1 f2 f1' f2' fl G fw fw' nu nu' fu fsr fu' fsr') (hr : HR n dr kp nu sl fu fsr fw) (h : TW n lt nf fi f1 f2 fl G fw) (hv : v < 4) :
    r = r2 ∧ ((r.toInt < 0 ∧ A1 = 0 ∧ fw' = fw ∧ fu' = fu) ∨ (0 ≤ r.toInt ∧ A1 = 1 ∧ A2 = dn + 1 ∧ A3 = me0 ∧ TW n lt nf A13 A14 A15 fl G fw' ∧ HR n A7 A8 nu' A9 fu' fsr' fw' ∧ (∀ j, 496 ≤ j → fu' j = fu j) ∧ ∀ j, j < 4 ∨ 35 ≤ j → fw' j = fw j)) := by
  obtain ⟨e, a⟩ := a
  refine ⟨e, ?_⟩
  rw [E_w_turn_j277.eq_def] at k
  rcases a with ⟨c, q1, q2, q3, q4, q5, q6, q7⟩ | ⟨c, t', k3, k4⟩
  · have c1 : ¬ (0 : Int32) ≤ r := by rcases c with rfl | rfl | rfl <;> decide
    have c2 : r.toInt < 0 := by rcases c with rfl | rfl | rfl <;> decide
    rw [if_neg c1] at k
    exact Or.inl ⟨c2, (Prod.mk.inj k).1, q4, q6⟩
  · have c1 : (0 : Int32) ≤ r := ie_iff.mpr c
    rw [if_pos c1, Lt2_b, Lt2_b, Lt_b] at k
    simp only [Prod.mk.injEq] at k
    obtain ⟨rfl, rfl, rfl, rfl, rfl, rfl, rfl, rfl, rfl, rfl, rfl, rfl, rfl, rfl, rfl⟩ := k
    have hp := hr.push (fw' := fw') h.1 hv rfl k3 (fun j h1 h2 => k4 j (by omega))
    obtain ⟨d, u, ⟨d1, d2⟩, e1, e2, e3, e4⟩ := hr
    refine Or.inr ⟨c, rfl, rfl, rfl, t', hp, fun j hj => ?_, fun j hj => k4 j (by omega)⟩
    have q := remember_far (s := v) (fw := fw) (fu := fu) (fs := fsr) d2 e3 j hj
    rw [← k3] at q
    exact q
theorem acts_at {n lt nf fi nu dr kp dn me xb br lw bro house by_ one two : Int32} {v : Nat} {val sm : Int64} {f1 f2 f3 fw fu fsr sl W fx fs cw fb : Nat → Int32} {fe frs : Nat → Int64} {fl : Nat → Option Nat} {G : Nat → LC} {A1 A2 A3 A4 A7 A8 A10 A13 : Int32} {A5 A6 A9 A11 A12 A14 A15 : Nat → Int32} {r2 nu' lw' bro' : Int32} {val' sm' : Int64} {fw' fu' fsr' fb' : Nat → Int32} {fe' frs' : Nat → Int64} (hv : v < 4) (k1 : (A1, A2, A3, A4, A5, A6, A7, A8, A9, A10, A11, A12, A13, A14, A15) = E_w_turn_j178 G dn me dr kp sl br fs cw n lt nf fi f1 f2 f3 fl W (nI v) house by_ xb fx) (k2 : (r2, nu', lw', bro', val', sm', fw', fe', frs', fu', fsr', fb') = E_v_act (nI v) one two nu lw bro val sm fw fe frs fu fsr fb) (h1 : v < 3 → one = house) (h2 : v = 1 ∨ v = 2 → two = by_) (h : TW n lt nf fi f1 f2 fl G fw) (hr : HR n dr kp nu sl fu fsr fw) (h3 : ∀ j, j < 24 → f3 j = fw (67 + j)) :
    (r2.toInt < 0 ∧ A1 = 0 ∧ fw' = fw ∧ fu' = fu) ∨ (0 ≤ r2.toInt ∧ A1 = 1 ∧ A2 = dn + 1 ∧ A3 = (if v = 3 then r2 else me) ∧ (v = 3 → r2 = 0 ∨ r2 = 1) ∧ TW n lt nf A13 A14 A15 fl G fw' ∧ HR n A7 A8 nu' A9 fu' fsr' fw' ∧ (∀ j, 496 ≤ j → fu' j = fu j) ∧ ∀ j, j < 4 ∨ 35 ≤ j → fw' j = fw j) := by
  have ez : (nI v).toInt = (v : Int) := nI_toInt (by omega)
  rw [E_w_turn_j178.eq_def, Lt_b] at k1
  rw [E_v_act.eq_def] at k2
  have fin : ∀ {r me0 : Int32}, r = r2 ∧ ((r.toInt < 0 ∧ A1 = 0 ∧ fw' = fw ∧ fu' = fu) ∨ (0 ≤ r.toInt ∧ A1 = 1 ∧ A2 = dn + 1 ∧ A3 = me0 ∧ TW n lt nf A13 A14 A15 fl G fw' ∧ HR n A7 A8 nu' A9 fu' fsr' fw' ∧ (∀ j, 496 ≤ j → fu' j = fu j) ∧ ∀ j, j < 4 ∨ 35 ≤ j → fw' j = fw j)) → (v ≠ 3 → me0 = me) → (v = 3 → me0 = r ∧ (r = -3 ∨ r = 0 ∨ r = 1)) → (r2.toInt < 0 ∧ A1 = 0 ∧ fw' = fw ∧ fu' = fu) ∨ (0 ≤ r2.toInt ∧ A1 = 1 ∧ A2 = dn + 1 ∧ A3 = (if v = 3 then r2 else me) ∧ (v = 3 → r2 = 0 ∨ r2 = 1) ∧ TW n lt nf A13 A14 A15 fl G fw' ∧ HR n A7 A8 nu' A9 fu' fsr' fw' ∧ (∀ j, 496 ≤ j → fu' j = fu j) ∧ ∀ j, j < 4 ∨ 35 ≤ j → fw' j = fw j) := by
    intro r me0 q m1 m2
    obtain ⟨rfl, q⟩ := q
    rcases q with q | ⟨q1, q2, q3, q4, q5⟩
    · exact Or.inl q
    · refine Or.inr ⟨q1, q2, q3, ?_, fun c => ?_, q5⟩
      · by_cases c : v = 3
        · rw [if_pos c, q4]; exact (m2 c).1
        · rw [if_neg c, q4]; exact m1 c
      · rcases (m2 c).2 with m | m
        · rw [m] at q1; exact absurd q1 (by decide)
        · exact m
  rcases (show v = 0 ∨ v = 1 ∨ v = 2 ∨ v = 3 by omega) with rfl | rfl | rfl | rfl
  · rw [if_pos (by rw [ez]; rfl)] at k1 k2
    rw [h1 (by omega)] at k2
    generalize hA : E_w_kindle G house br fs cw n lt nf fi f1 f2 f3 fl = A at k1
    generalize hB : E_v_stokeNow house nu lw bro val sm fw fe frs fu fsr = B at k2
    obtain ⟨C1, C2, C3, C4, C5⟩ := A
    obtain ⟨B1, B2, B3, B4, B5, B6, B7, B8, B9, B10, B11⟩ := B
    have a := act_stoke h hA.symm hB.symm
    rw [Lt2_b, Lt2_b, Lt2_b, Lt2_b] at k1
    simp only [Lt2, Prod.mk.injEq] at k2
    obtain ⟨rfl, rfl, rfl, rfl, rfl, rfl, rfl, rfl, rfl, rfl, rfl, rfl⟩ := k2
    exact fin (j277_at k1 a hr h (by omega)) (fun _ => rfl) (fun c => absurd c (by decide))
  · rw [if_neg (by rw [ez]; decide), if_pos (by rw [ez]; rfl)] at k1 k2
    rw [h1 (by omega), h2 (by omega)] at k2
    generalize hA : E_w_quench house by_ n f1 = A at k1
    generalize hB : E_v_dampNow house by_ nu fw fu fsr = B at k2
    obtain ⟨C1, C2⟩ := A
    obtain ⟨B1, B2, B3, B4, B5⟩ := B
    have a := act_damp h hA.symm hB.symm
    rw [Lt2_b] at k1
    simp only [Lt2, Prod.mk.injEq] at k2
    obtain ⟨rfl, rfl, rfl, rfl, rfl, rfl, rfl, rfl, rfl, rfl, rfl, rfl⟩ := k2
    exact fin (j277_at k1 a hr h (by omega)) (fun _ => rfl) (fun c => absurd c (by decide))
  · rw [if_neg (by rw [ez]; decide), if_neg (by rw [ez]; decide), if_pos (by rw [ez]; rfl)] at k1 k2
    rw [h1 (by omega), h2 (by omega)] at k2
    generalize hA : E_w_supply house by_ n f1 = A at k1
    generalize hB : E_v_buyNow house by_ nu fw fu fsr = B at k2
    obtain ⟨C1, C2⟩ := A
    obtain ⟨B1, B2, B3, B4, B5⟩ := B
    have a := act_buy h hA.symm hB.symm
    rw [Lt2_b] at k1
    simp only [Lt2, Prod.mk.injEq] at k2
    obtain ⟨rfl, rfl, rfl, rfl, rfl, rfl, rfl, rfl, rfl, rfl, rfl, rfl⟩ := k2
    exact fin (j277_at k1 a hr h (by omega)) (fun _ => rfl) (fun c => absurd c (by decide))
  · rw [if_neg (by rw [ez]; decide), if_neg (by rw [ez]; decide), if_neg (by rw [ez]; decide)] at k1 k2
    have r3 := nextHour_r h h3 br fs cw
    generalize hA : E_w_nextHour G br fs cw n lt nf fi f1 f2 f3 fl = A at k1 r3
    generalize hB : E_v_passNow nu lw bro val sm fw fe frs fu fsr fb = B at k2
    obtain ⟨C1, C2, C3, C4, C5, C6, C7⟩ := A
    obtain ⟨B1, B2, B3, B4, B5, B6, B7, B8, B9, B10, B11, B12⟩ := B
    have a := act_pass h h3 hA.symm hB.symm
    rw [Lt2_b, Lt2_b, Lt2_b, Lt2_b, Lt2_b, Lt2_b] at k1
    simp only [Lt2, Prod.mk.injEq] at k2
    obtain ⟨rfl, rfl, rfl, rfl, rfl, rfl, rfl, rfl, rfl, rfl, rfl, rfl⟩ := k2
    exact fin (j277_at k1 a hr h (by omega)) (fun c => absurd rfl c) (fun _ => ⟨rfl, r3⟩)
/-- a sum or a test of a clause -/
theorem sumOf_p {P : Int → Prop} {at_ us nc a e p q m : Nat} {fc fo fa fw cw fod : Nat → Int32} {fnw : Nat → Int64} (ha : at_ < 1000) (hx : fod at_ = nI p) (hy : fod (at_ + 1) = nI q) (hpq : p < q) (hq : q ≤ nc) (hnc : nc ≤ 400) (hm : m ≤ 64) (h : SE 1 P 1 m fc a e fo fa p q) (h0 : fc e = 0) (he : e + 2 ≤ us) (hus : us ≤ 800) (henv : KEnv 1 (fun w => cw w.toNatClampNeg) (fun w => 0 ≤ w.toInt ∧ w.toInt < ((28 : Nat) : Int)) (lfo fw fnw)) :
    ((∀ br fs, ∃ f', E_w_run (nI a) br fs 28 cw 800 fc = (0, 1, f')) ∧ ∀ bro val frs, ∃ v val' frs', E_v_sumOf (nI at_) bro val 0 fw fnw frs fo fa fod = (v, 1, val', 1, frs')) ∨
    (∃ r : Int32, P r.toInt ∧ (∀ br fs, ∃ f', E_w_run (nI a) br fs 28 cw 800 fc = (r, 0, f')) ∧ ∀ bro val frs, ∃ val' frs', E_v_sumOf (nI at_) bro val 0 fw fnw frs fo fa fod = (r, 0, val', 0, frs')) := by
  have st : ∀ bro val frs, E_v_sumOf (nI at_) bro val 0 fw fnw frs fo fa fod = ((E_v_reckonOrd (nI p) (nI q) bro val fw fnw frs fo fa).2.1.toInt32, (E_v_reckonOrd (nI p) (nI q) bro val fw fnw frs fo fa).1, (E_v_reckonOrd (nI p) (nI q) bro val fw fnw frs fo fa).2.1, (E_v_reckonOrd (nI p) (nI q) bro val fw fnw frs fo fa).1, (E_v_reckonOrd (nI p) (nI q) bro val fw fnw frs fo fa).2.2) := fun bro val frs => by
    rw [E_v_sumOf.eq_def, if_pos rfl, kn_p1 (by omega), kn_cl (by omega), Lt_b, Lt_b, Lt_b, kn_cl (by omega), hx, hy, if_neg (kn_ne (by omega) (by omega) (by omega)), Lt_b, Lt_b, Lt_b, Lt2_b, Lt2_b, Lt_b, kn_cl (by omega), hy]
  rcases reck_ord (nc := 800) h hm h0 (by omega) (by omega) (by omega) (by omega) henv with ⟨p1, p2⟩ | ⟨g, g1, g2, p1, p2⟩
  · refine Or.inl ⟨p1, fun bro val frs => ?_⟩
    obtain ⟨v, f', q1⟩ := p2 bro val frs
    rw [st, q1]
    exact ⟨_, _, _, rfl⟩
  · obtain ⟨r, f', q1, q2⟩ := p1 0 (fun _ => 0)
    refine Or.inr ⟨r, by rw [q2]; exact g2, fun br fs => ?_, fun bro val frs => ?_⟩
    · obtain ⟨r', f2, q3, q4⟩ := p1 br fs
      have : r' = r := Int32.toInt_inj.mp (q4.trans q2.symm)
      subst this
      exact ⟨f2, q3⟩
    · obtain ⟨v, f2, q3, q4⟩ := p2 bro val frs
      have e : v.toInt32 = r := Int32.toInt_inj.mp (by rw [l_nar q4 (by omega)]; exact q2.symm)
      rw [st, q3]
      exact ⟨v, f2, by rw [e]⟩
theorem sumOf_n {at_ : Nat} {bro : Int32} {val : Int64} {fw fo fa fod : Nat → Int32} {fnw frs : Nat → Int64} (ha : at_ < 1000) (h : fod at_ = fod (at_ + 1)) : E_v_sumOf (nI at_) bro val 0 fw fnw frs fo fa fod = (-1, bro, val, 0, frs) := by
  rw [E_v_sumOf.eq_def, if_pos rfl, kn_p1 (by omega), kn_cl (by omega), Lt_b, Lt_b, Lt_b, kn_cl (by omega), if_pos h]
theorem sumOf_off {at_ bro ofm : Int32} {val : Int64} {fw fo fa fod : Nat → Int32} {fnw frs : Nat → Int64} (h : ofm ≠ 0) : E_v_sumOf at_ bro val ofm fw fnw frs fo fa fod = (-1, bro, val, ofm, frs) := by
  rw [E_v_sumOf.eq_def, if_neg h]
