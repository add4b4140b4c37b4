/-! the town and the reference's row, whole (what is told of them apart from the score and what was heard) -/
noncomputable def TW (n lt nf fi : Int32) (f1 f2 : Nat → Int32) (fl : Nat → Option Nat) (G : Nat → LC) (fw : Nat → Int32) : Prop :=
  KNow n fi f1 f2 fw ∧ lt = fw 2 ∧ nf = fw 3 ∧ (-1 ≤ nf.toInt ∧ nf.toInt < lt.toInt) ∧ (∀ j, j < 8 → (0 ≤ (fw (35 + j)).toInt ∧ (fw (35 + j)).toInt ≤ 6) ∧ 0 ≤ (fw (43 + j)).toInt ∧ (fw (43 + j)).toInt ≤ 3) ∧ KLs lt fl G fw ∧ (n = fw 0 ∧ 0 ≤ n.toInt ∧ n.toInt ≤ 8) ∧ ∀ j, j < 16 → f1 j = fw (35 + j)
theorem TW.of {n lt nf fi ht ho : Int32} {f1 f2 f3 fw : Nat → Int32} {fl : Nat → Option Nat} {G : Nat → LC} (h : TQ 0 n lt nf fi f1 f2 fl G fw) (r : RF 0 n ht ho f1 f3 fw) (hn : 0 ≤ n.toInt ∧ n.toInt ≤ 8) (hl : 0 ≤ lt.toInt ∧ lt.toInt ≤ 6) : TW n lt nf fi f1 f2 fl G fw := by
  obtain ⟨a, b1, b2, b3, b4, b5⟩ := h
  obtain ⟨r1, r2, r3, r4, r5, r6⟩ := r
  have z : ∀ j, fw (0 + j) = fw j := fun j => congrArg fw (Nat.zero_add j)
  refine ⟨a.ext (fun _ _ => rfl) (fun _ _ => rfl) (fun j _ _ => (z j).symm), by rw [b1, z], by rw [b2, z], b3, fun j hj => ?_, ⟨hl, fun i hi => ?_⟩, ⟨by rw [r1, z], hn⟩, fun j hj => by rw [r3 j hj, z]⟩
  · have q := b4 j hj
    rw [z, z] at q; exact q
  · have q := b5 i hi
    rw [Nat.zero_add] at q; exact q
theorem TW.tq {n lt nf fi : Int32} {f1 f2 fw : Nat → Int32} {fl : Nat → Option Nat} {G : Nat → LC} (h : TW n lt nf fi f1 f2 fl G fw) : TQ 0 n lt nf fi f1 f2 fl G fw := by
  obtain ⟨a, b1, b2, b3, b4, b5, b6, b7⟩ := h
  have z : ∀ j, fw (0 + j) = fw j := fun j => congrArg fw (Nat.zero_add j)
  refine ⟨a.ext (fun _ _ => rfl) (fun _ _ => rfl) (fun j _ _ => z j), by rw [b1, z], by rw [b2, z], b3, fun j hj => by rw [z, z]; exact b4 j hj, fun i hi => ?_⟩
  rw [Nat.zero_add]; exact b5.2 i hi
theorem KLs.ext {lt : Int32} {fl : Nat → Option Nat} {G : Nat → LC} {fw fw' : Nat → Int32} (h : KLs lt fl G fw) (e : ∀ j, 100 ≤ j → j < 5500 → fw' j = fw j) : KLs lt fl G fw' := by
  refine ⟨h.1, fun i hi => ?_⟩
  obtain ⟨a, q1, q2⟩ := h.2 i hi
  have h6 := h.1
  exact ⟨a, q1, q2.ext (fun j hj => e _ (by omega) (by omega))⟩
theorem TW.step {n lt nf fi fi' : Int32} {f1 f2 fw f1' f2' fw' : Nat → Int32} {fl : Nat → Option Nat} {G : Nat → LC} (h : TW n lt nf fi f1 f2 fl G fw) (k : KNow n fi' f1' f2' fw') (e : ∀ j, j < 4 ∨ (35 ≤ j ∧ j < 51) ∨ 100 ≤ j → fw' j = fw j) (e1 : ∀ j, j < 16 → f1' j = f1 j) : TW n lt nf fi' f1' f2' fl G fw' := by
  obtain ⟨a, b1, b2, b3, b4, b5, b6, b7⟩ := h
  refine ⟨k, by rw [e 2 (by omega)]; exact b1, by rw [e 3 (by omega)]; exact b2, b3, fun j hj => by rw [e _ (by omega), e _ (by omega)]; exact b4 j hj, b5.ext (fun j h1 _ => e j (by omega)), ⟨by rw [e 0 (by omega)]; exact b6.1, b6.2⟩, fun j hj => by rw [e1 j hj, e _ (by omega)]; exact b7 j hj⟩
/-- a house that changed alone -/
theorem KNow.one {n fi : Int32} {f1 f2 fw f1' fw' : Nat → Int32} {h : Nat} (k : KNow n fi f1 f2 fw) (hh : h < 8) (hn : (h : Int) < n.toInt) (e1 : ∀ j, j ≠ 16 + h → j ≠ 40 + h → j ≠ 48 + h → f1' j = f1 j) (e2 : ∀ j, j ≠ 11 + h → j ≠ 19 + h → j ≠ 27 + h → fw' j = fw j) (c : f1' (16 + h) = fw' (19 + h) ∧ f1' (40 + h) = fw' (11 + h) ∧ f1' (48 + h) = fw' (27 + h)) (r : (0 ≤ (fw' (11 + h)).toInt ∧ (fw' (11 + h)).toInt ≤ 20) ∧ (0 ≤ (fw' (19 + h)).toInt ∧ (fw' (19 + h)).toInt ≤ 999) ∧ (0 ≤ (fw' (27 + h)).toInt ∧ (fw' (27 + h)).toInt ≤ 9999)) : KNow n fi f1' f2 fw' := by
  obtain ⟨t1, t2, t3, t4, g1, g2, g3, g4, g5, g6, g7, g8⟩ := k
  refine ⟨fun j hj => ?_, ?_, fun j hj => ?_, fun i hi h8 => ⟨?_, ?_⟩, ?_, ?_, ?_, ?_, ?_, ?_, ?_, fun j hj => ?_⟩
  · rw [e2 _ (by omega) (by omega) (by omega)]; exact t1 j hj
  · rw [e2 _ (by omega) (by omega) (by omega)]; exact t2
  · by_cases q : j = h
    · rw [q]; exact ⟨c.2.1, c.1, c.2.2⟩
    · rw [e1 _ (by omega) (by omega) (by omega), e1 _ (by omega) (by omega) (by omega), e1 _ (by omega) (by omega) (by omega), e2 _ (by omega) (by omega) (by omega), e2 _ (by omega) (by omega) (by omega), e2 _ (by omega) (by omega) (by omega)]
      exact t3 j hj
  · rw [e2 _ (by omega) (by omega) (by omega)]; exact (t4 i hi h8).1
  · rw [e2 _ (by omega) (by omega) (by omega)]; exact (t4 i hi h8).2
  · rw [e2 _ (by omega) (by omega) (by omega)]; exact g1
  · rw [e2 _ (by omega) (by omega) (by omega)]; exact g2
  · rw [e2 _ (by omega) (by omega) (by omega)]; exact g3
  · rw [e2 _ (by omega) (by omega) (by omega)]; exact g4
  · rw [e2 _ (by omega) (by omega) (by omega)]; exact g5
  · rw [e2 _ (by omega) (by omega) (by omega)]; exact g6
  · rw [e2 _ (by omega) (by omega) (by omega)]; exact g7
  · by_cases q : j = h
    · rw [q]; exact r
    · rw [e2 _ (by omega) (by omega) (by omega), e2 _ (by omega) (by omega) (by omega), e2 _ (by omega) (by omega) (by omega)]
      exact g8 j hj
theorem KBd_of {v : Int32} {a b : Int} (h : a ≤ v.toInt ∧ v.toInt ≤ b) (ha : -1000000 ≤ a) (hb : b ≤ 1000000) : KBd v := ⟨by omega, by omega⟩
theorem TW.bw {n lt nf fi : Int32} {f1 f2 fw : Nat → Int32} {fl : Nat → Option Nat} {G : Nat → LC} (h : TW n lt nf fi f1 f2 fl G fw) {k : Nat} (hk : k < 8) {o : Int32} (ho : -1 ≤ o.toInt ∧ o.toInt ≤ 6) : KBw fw k o := by
  obtain ⟨⟨_, _, _, _, g1, g2, g3, g4, g5, g6, g7, g8⟩, b1, b2, b3, b4, b5, b6, b7⟩ := h
  exact ⟨KBd_of (b4 k hk).1 (by decide) (by decide), KBd_of (b4 k hk).2 (by decide) (by decide), KBd_of (g8 k hk).1 (by decide) (by decide), KBd_of (g8 k hk).2.1 (by decide) (by decide), KBd_of g1 (by decide) (by decide), KBd_of g2 (by decide) (by decide), KBd_of g6 (by decide) (by decide), KBd_of ho (by decide) (by decide)⟩
theorem TW.ask {n lt nf fi : Int32} {f1 f2 fw : Nat → Int32} {fl : Nat → Option Nat} {G : Nat → LC} (h : TW n lt nf fi f1 f2 fl G fw) {k : Nat} (hk : k < 8) {o : Int32} (ho : -1 ≤ o.toInt ∧ o.toInt ≤ 6) : KAsk (fw 3) lt fl G fw k o :=
  ⟨by rw [← h.2.2.1]; exact h.2.2.2.1, hk, h.2.2.2.2.2.1, h.bw hk ho⟩
theorem m1_rng : -1 ≤ (-1 : Int32).toInt ∧ (-1 : Int32).toInt ≤ 6 := by decide
theorem TW.hour {n lt nf fi : Int32} {f1 f2 fw : Nat → Int32} {fl : Nat → Option Nat} {G : Nat → LC} (h : TW n lt nf fi f1 f2 fl G fw) : ∃ hr : Nat, hr ≤ 23 ∧ fw 4 = nI hr ∧ f2 0 = nI hr := by
  obtain ⟨⟨t1, _, _, _, g1, _⟩, _⟩ := h
  exact ⟨(fw 4).toInt.toNat, by omega, i_ofN rfl g1.1, (t1 0 (by omega)).trans (i_ofN rfl g1.1)⟩
/-- the class's words for a house as it stands now -/
theorem TW.words {n lt nf fi : Int32} {f1 f2 fw cw : Nat → Int32} {fl : Nat → Option Nat} {G : Nat → LC} (h : TW n lt nf fi f1 f2 fl G fw) {k : Nat} (hk : k < 8) : KWo (E_w_face (nI k) (fw (11 + k)) 0 cw f1 f2) fw k (-1) := by
  obtain ⟨hr, r1, r2, r3⟩ := h.hour
  obtain ⟨q0, q1, q2, q3, q4, q5, q6, q7, q8⟩ := face_at (h := k) (z := 0) (hr := hr) (y := fw (11 + k)) (cw := cw) (f1 := f1) (f2 := f2) hk (by omega) r1 r3
  obtain ⟨⟨t1, _, t3, _⟩, _, _, _, _, _, _, b7⟩ := h
  refine ⟨q0, q1.trans (b7 k (by omega)), q2.trans ((b7 _ (by omega)).trans (congrArg fw (by omega))), q3, q4.trans (t3 k hk).2.1, q5.trans ?_, q6.trans ?_, q7.trans (t1 5 (by omega)), q8⟩
  · rw [r2, show (hr + 0) % 24 = hr by omega]
  · rw [show (hr + 0) / 24 = 0 by omega, t1 1 (by omega)]
    exact Int32.toInt_inj.mp (by rw [i_add rfl (show (nI 0).toInt = 0 from rfl) (by have := i_rng (Eq.refl (fw (4 + 1)).toInt); omega), Int.add_zero])
theorem put5_at {x z : Int32} {f : Nat → Int32} (hx : 0 ≤ x.toInt ∧ x.toInt < 8) : E_w_put_5 x z f = upd f (40 + x.toInt.toNat) z := by
  have z0 : (0 : Int32).toInt = 0 := rfl
  have z7 : (7 : Int32).toInt = 7 := rfl
  rw [E_w_put_5.eq_def, Lt_b, ifw_p (by omega), Lt_b, ifw_p (by decide), Lt_b, Lt_b, add_c (k := 40) rfl (by omega) (by omega)]
theorem put6_at {x z : Int32} {f : Nat → Int32} (hx : 0 ≤ x.toInt ∧ x.toInt < 8) : E_w_put_6 x z f = upd f (48 + x.toInt.toNat) z := by
  have z0 : (0 : Int32).toInt = 0 := rfl
  have z7 : (7 : Int32).toInt = 7 := rfl
  rw [E_w_put_6.eq_def, Lt_b, ifw_p (by omega), Lt_b, ifw_p (by decide), Lt_b, Lt_b, add_c (k := 48) rfl (by omega) (by omega)]
theorem has_p {x n : Int32} (h : 0 ≤ x.toInt ∧ x.toInt < n.toInt) : E_w_has x n = 1 := by
  have z0 : (0 : Int32).toInt = 0 := rfl
  rw [E_w_has.eq_def, if_neg (fun q => by have := il_iff.mp q; omega), if_neg (fun q => by have := ie_iff.mp q; omega)]
theorem has_n {x n : Int32} (h : ¬ (0 ≤ x.toInt ∧ x.toInt < n.toInt)) : E_w_has x n = 0 := by
  have z0 : (0 : Int32).toInt = 0 := rfl
  rw [E_w_has.eq_def]
  by_cases c : x < 0
  · rw [if_pos c]
  · have c2 : ¬ x.toInt < (0 : Int32).toInt := fun q => c (il_iff.mpr q)
    rw [if_neg c, if_pos (ie_iff.mpr (by omega))]
theorem isHouse_at {x n : Int32} {fw : Nat → Int32} (hn : n = fw 0 ∧ 0 ≤ n.toInt ∧ n.toInt ≤ 8) : E_v_isHouse x fw = E_w_has x n := by
  have z0 : (0 : Int64).toInt = 0 := rfl
  have z1 : ((fw 0).toInt64 - 1).toInt = n.toInt - 1 := by
    rw [← hn.1, l_sub (show n.toInt64.toInt = n.toInt from wide_at) (show (1 : Int64).toInt = 1 from rfl) (by omega)]
  rw [E_v_isHouse.eq_def, Lt_b, Lt_b, Lt_b, Lt_b, Lt_b, show fw (0 : Int32).toNatClampNeg = fw 0 from rfl]
  by_cases c : 0 ≤ x.toInt ∧ x.toInt < n.toInt
  · rw [has_p c, if_pos (in_p (by rw [z1]; omega))]
  · rw [has_n c, if_neg (by rw [in_n (by rw [z1]; omega)]; decide)]
