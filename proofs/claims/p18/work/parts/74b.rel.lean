/-! hear, forget, score, chord -/
theorem rel_hear {n x rb hea ho thr sta : Int32} {f1 f3 frf fw frm : Nat → Int32} {r1 b1 hea' ho' r2 s2 : Int32} {g1 fw' g2 : Nat → Int32} (k1 : (r1, b1, g1, hea', ho') = E_w_hear x rb frf hea ho) (k2 : (r2, s2, fw', g2) = E_v_hear x thr sta fw frm) (h : RF 0 n hea ho f1 f3 fw) (hz : 0 ≤ hea.toInt ∧ hea.toInt ≤ 6) : r1 = r2 ∧ RF 0 n hea' ho' f1 f3 fw' := by
  simp only [E_w_hear, Lt, Lt2, E_w_accept] at k1
  simp only [E_v_hear, Lt, Lt2] at k2
  by_cases hx : (0 : Int32).toInt ≤ x.toInt ∧ x.toInt ≤ (127 : Int32).toInt
  · rw [ifw_p hx] at k1
    rw [ifi_p (by exact hx)] at k2
    have e1 : fw (1 : Int32).toNatClampNeg = hea := h.2.1.symm
    rw [e1] at k2
    by_cases h6 : hea < 6
    · have h7 : hea.toInt < 6 := il_iff.mp h6
      rw [if_pos h6] at k1
      rw [if_neg (fun q => by have := congrArg Int32.toInt q; have z : (6 : Int32).toInt = 6 := rfl; omega)] at k2
      simp only [Prod.mk.injEq] at k1 k2
      obtain ⟨a1, a2, a3, a4, a5⟩ := k1
      obtain ⟨b1, b2, b3, b4⟩ := k2
      rw [tell_1] at b1
      have hc : (91 + hea).toNatClampNeg = 91 + hea.toInt.toNat := add_c (k := 91) rfl (by omega) (by omega)
      have hi : (hea + 1).toInt = hea.toInt + 1 := inc_1 (by omega)
      have u1 : upd fw (91 + hea).toNatClampNeg x (1 : Int32).toNatClampNeg = hea := by
        rw [hc]
        rw [show (1 : Int32).toNatClampNeg = 1 from rfl, upd_n (by omega)]
        exact e1
      rw [u1] at b3
      refine ⟨a1.trans b1.symm, ?_⟩
      obtain ⟨q0, q1, q2, q3, q4, q5⟩ := h
      have key : ∀ j, j ≠ 1 → j ≠ 91 + hea.toInt.toNat → fw' j = fw j := fun j n1 n2 => by
        rw [b3, show (1 : Int32).toNatClampNeg = 1 from rfl, upd_n n1, hc, upd_n n2]
      refine ⟨?_, ?_, fun j hj => ?_, fun j hj hk => ?_, fun j hj => ?_, ?_⟩
      · rw [key _ (by omega) (by omega)]; exact q0
      · rw [b3, a4]; exact upd_s.symm
      · rw [key _ (by omega) (by omega)]; exact q2 j hj
      · rw [key _ (by omega) (by omega)]; exact q3 j hj hk
      · rw [key _ (by omega) (by omega)]; exact q4 j hj
      · rw [a4, hi, show (hea.toInt + 1).toNat = hea.toInt.toNat + 1 by omega]
        show ho' = orr _ hea.toInt.toNat ||| fw' (0 + (91 + hea.toInt.toNat))
        rw [orr_same (g := fun k => fw (0 + (91 + k))) hea.toInt.toNat (fun j hj => key _ (by omega) (by omega)), ← q5, a5, b3, Nat.zero_add, show (1 : Int32).toNatClampNeg = 1 from rfl, upd_n (by omega), hc]
        rw [upd_s]
    · have h7 : ¬ hea.toInt < 6 := fun q => h6 (il_iff.mpr q)
      rw [if_neg h6] at k1
      rw [if_pos (i_lit (x := 6) (by omega) rfl)] at k2
      simp only [Prod.mk.injEq] at k1 k2
      obtain ⟨a1, a2, a3, a4, a5⟩ := k1
      obtain ⟨b1, b2, b3, b4⟩ := k2
      rw [refuse_1] at a1
      rw [tell_1] at b1
      rw [a4, a5, b3]
      exact ⟨a1.trans b1.symm, h⟩
  · rw [ifw_n hx] at k1
    rw [ifi_n (by exact hx)] at k2
    simp only [Prod.mk.injEq] at k1 k2
    obtain ⟨a1, a2, a3, a4, a5⟩ := k1
    obtain ⟨b1, b2, b3, b4⟩ := k2
    rw [refuse_1] at a1
    rw [tell_1] at b1
    rw [a4, a5, b3]
    exact ⟨a1.trans b1.symm, h⟩
theorem rel_forget {n hea ho thr : Int32} {f1 f3 fw : Nat → Int32} {r1 r2 : Int32} {fw' : Nat → Int32} (k1 : r1 = E_w_forget hea ho) (k2 : (r2, fw') = E_v_forget thr fw) (h : RF 0 n hea ho f1 f3 fw) : r1 = r2 ∧ RF 0 n 0 0 f1 f3 fw' := by
  simp only [E_v_forget, Lt, Prod.mk.injEq] at k2
  obtain ⟨b1, b2⟩ := k2
  obtain ⟨q0, q1, q2, q3, q4, q5⟩ := h
  have key : ∀ j, j ≠ 1 → fw' j = fw j := fun j n1 => by
    rw [b2, show (1 : Int32).toNatClampNeg = 1 from rfl, upd_n n1]
  refine ⟨k1.trans (q1.trans b1.symm), ?_, ?_, fun j hj => ?_, fun j hj hk => ?_, fun j hj => ?_, rfl⟩
  · rw [key _ (by omega)]; exact q0
  · rw [b2]; exact upd_s.symm
  · rw [key _ (by omega)]; exact q2 j hj
  · rw [key _ (by omega)]; exact q3 j hj hk
  · rw [key _ (by omega)]; exact q4 j hj
theorem rel_chord {n ht ho x thr : Int32} {f1 f3 fw : Nat → Int32} {r1 r2 : Int32} (k1 : r1 = E_w_chord x f3) (k2 : r2 = E_v_chord x thr fw) (h : RF 0 n ht ho f1 f3 fw) : r1 = r2 := by
  simp only [E_w_chord, E_w_chordAt, E_w_chordAt_j19, Lt] at k1
  simp only [E_v_chord, Lt] at k2
  by_cases hx : (0 : Int64).toInt ≤ x.toInt ∧ x.toInt ≤ (23 : Int64).toInt
  · have hx2 : 0 ≤ x.toInt ∧ x.toInt ≤ 23 := hx
    rw [ifi_p (by exact hx)] at k2
    rw [if_neg (fun q => by have := il_iff.mp q; have z : (0 : Int32).toInt = 0 := rfl; omega), if_neg (fun q => by have := ie_iff.mp q; have z : (24 : Int32).toInt = 24 := rfl; omega)] at k1
    rw [k1, k2, add_c (k := 67) rfl (by omega) (by omega)]
    have q := h.2.2.2.2.1 x.toInt.toNat (by omega)
    rw [Nat.zero_add] at q
    exact q
  · have hx2 : ¬ (0 ≤ x.toInt ∧ x.toInt ≤ 23) := hx
    rw [ifi_n (by exact hx)] at k2
    rw [k2]
    by_cases c : x < 0
    · rw [if_pos c] at k1; exact k1
    · have c2 : ¬ x.toInt < 0 := fun q => c (il_iff.mpr q)
      rw [if_neg c, if_pos (ie_iff.mpr (show (24 : Int32).toInt ≤ _ by have z : (24 : Int32).toInt = 24 := rfl; omega))] at k1
      exact k1
theorem rel_score {n ht ho x y rb thr sta : Int32} {f1 f3 frf fw frm : Nat → Int32} {r1 b1 r2 s2 : Int32} {g1 f3' fw' g2 : Nat → Int32} (k1 : (r1, b1, g1, f3') = E_w_score x y rb frf f3) (k2 : (r2, s2, fw', g2) = E_v_score x y thr sta fw frm) (h : RF 0 n ht ho f1 f3 fw) (hz : 0 ≤ ht.toInt ∧ ht.toInt ≤ 6) : r1 = r2 ∧ RF 0 n ht ho f1 f3' fw' := by
  simp only [E_w_score, E_w_score_j20, Lt, Lt2, E_w_accept, E_w_chordAt] at k1
  simp only [E_v_score, E_v_score_j41, E_v_change, Lt, Lt2] at k2
  by_cases hx : (0 : Int32).toInt ≤ x.toInt ∧ x.toInt ≤ (23 : Int32).toInt
  · have hx2 : 0 ≤ x.toInt ∧ x.toInt ≤ 23 := hx
    rw [ifw_p hx] at k1
    rw [ifi_p (by exact hx)] at k2
    by_cases hy : (0 : Int32).toInt ≤ y.toInt ∧ y.toInt ≤ (127 : Int32).toInt
    · rw [ifw_p hy, if_neg (fun q => by have := il_iff.mp q; have z : (0 : Int32).toInt = 0 := rfl; omega), if_neg (fun q => by have := ie_iff.mp q; have z : (24 : Int32).toInt = 24 := rfl; omega)] at k1
      rw [ifi_p (by exact hy), add_c (k := 67) rfl (by omega) (by omega)] at k2
      simp only [Prod.mk.injEq] at k1 k2
      obtain ⟨a1, a2, a3, a4⟩ := k1
      obtain ⟨b1, b2, b3, b4⟩ := k2
      rw [toInt_n hx2.1] at a1 a4
      obtain ⟨q0, q1, q2, q3, q4, q5⟩ := h
      have key : ∀ j, j ≠ 67 + x.toInt.toNat → fw' j = fw j := fun j n1 => by rw [b3, upd_n n1]
      refine ⟨?_, ?_, ?_, fun j hj => ?_, fun j hj hk => ?_, fun j hj => ?_, ?_⟩
      · rw [a1, b1]
        have q := q4 x.toInt.toNat (by omega)
        rw [Nat.zero_add] at q
        exact q
      · rw [key _ (by omega)]; exact q0
      · rw [key _ (by omega)]; exact q1
      · rw [key _ (by omega)]; exact q2 j hj
      · rw [key _ (by omega)]; exact q3 j hj hk
      · by_cases e : j = x.toInt.toNat
        · rw [a4, b3, e, upd_s, Nat.zero_add, upd_s]
        · rw [a4, upd_n e, key _ (by omega)]; exact q4 j hj
      · rw [q5]
        exact orr_same _ (fun j hj => (key _ (by omega)).symm)
    · rw [ifw_n hy] at k1
      rw [ifi_n (by exact hy)] at k2
      simp only [Prod.mk.injEq] at k1 k2
      obtain ⟨a1, a2, a3, a4⟩ := k1
      obtain ⟨b1, b2, b3, b4⟩ := k2
      rw [refuse_1] at a1
      rw [tell_1] at b1
      rw [a4, b3]
      exact ⟨a1.trans b1.symm, h⟩
  · rw [ifw_n hx] at k1
    rw [ifi_n (by exact hx)] at k2
    simp only [Prod.mk.injEq] at k1 k2
    obtain ⟨a1, a2, a3, a4⟩ := k1
    obtain ⟨b1, b2, b3, b4⟩ := k2
    rw [refuse_1] at a1
    rw [tell_1] at b1
    rw [a4, b3]
    exact ⟨a1.trans b1.symm, h⟩
