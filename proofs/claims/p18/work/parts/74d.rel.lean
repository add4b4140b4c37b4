theorem upd_e {f : Nat → Int32} {k j : Nat} {x : Int32} (h : j = k) : upd f k x j = x := if_pos h
theorem rel_house {x0 x1 x2 x3 x4 rb dr kp n ht ho thr sta nu : Int32} {f1 f3 frf fw frm : Nat → Int32} {r1 b1 kp' n' r2 s2 nu' : Int32} {g1 f1' fw' g2 : Nat → Int32} (k1 : (r1, b1, g1, kp', n', f1') = E_w_house x0 x1 x2 x3 x4 rb frf dr kp n f1) (k2 : (r2, s2, nu', fw', g2) = E_v_houseN x0 x1 x2 x3 x4 thr sta nu fw frm) (h : RF 0 n ht ho f1 f3 fw) (hn : 0 ≤ n.toInt ∧ n.toInt ≤ 8) (hz : 0 ≤ ht.toInt ∧ ht.toInt ≤ 6) : r1 = r2 ∧ RF 0 n' ht ho f1' f3 fw' := by
  have bad : ∀ {r b kp2 n2 : Int32} {g f : Nat → Int32}, (r, b, g, kp2, n2, f) = E_w_house_j76 rb frf kp n f1 → ∀ {r' s' nu2 : Int32} {f' g' : Nat → Int32}, (r', s', nu2, f', g') = E_v_houseN_j67 sta nu fw frm → r = r' ∧ RF 0 n2 ht ho f f3 f' := by
    intro r b kp2 n2 g f q1 r' s' nu2 f' g' q2
    simp only [E_w_house_j76, E_v_houseN_j67, Lt2, Prod.mk.injEq] at q1 q2
    obtain ⟨a1, a2, a3, a4, a5, a6⟩ := q1
    obtain ⟨c1, c2, c3, c4, c5⟩ := q2
    rw [refuse_1] at a1
    rw [tell_1] at c1
    rw [a5, a6, c4]
    exact ⟨a1.trans c1.symm, h⟩
  have j52 : ∀ v : Int32, E_w_house_j52 rb frf kp n f1 v = E_w_house_j76 rb frf kp n f1 := fun v => by
    unfold E_w_house_j52
    split <;> rfl
  have j23 : E_w_house_j23 x3 x4 rb frf kp n f1 = E_w_house_j76 rb frf kp n f1 := by
    simp only [E_w_house_j23, Lt, j52]
    split
    · split <;> rfl
    · rfl
  simp only [E_w_house, Lt, j52, j23] at k1
  simp only [E_v_houseN, Lt] at k2
  by_cases p0 : (0 : Int32).toInt ≤ x0.toInt ∧ x0.toInt ≤ (6 : Int32).toInt
  case neg => rw [ifw_n p0] at k1; rw [ifi_n (by exact p0)] at k2; exact bad k1 k2
  rw [ifw_p p0] at k1
  rw [ifi_p (by exact p0)] at k2
  by_cases p1 : (0 : Int32).toInt ≤ x1.toInt ∧ x1.toInt ≤ (3 : Int32).toInt
  case neg => rw [ifw_n p1] at k1; rw [ifi_n (by exact p1)] at k2; exact bad k1 k2
  rw [ifw_p p1] at k1
  rw [ifi_p (by exact p1)] at k2
  by_cases p2 : (0 : Int32).toInt ≤ x2.toInt ∧ x2.toInt ≤ (999 : Int32).toInt
  case neg =>
    rw [ifi_n (by exact p2)] at k2
    by_cases p3 : (0 : Int32).toInt ≤ x3.toInt ∧ x3.toInt ≤ (7 : Int32).toInt
    case neg => rw [ifw_n p3] at k1; exact bad k1 k2
    by_cases p4 : (0 : Int32).toInt ≤ x4.toInt ∧ x4.toInt ≤ (7 : Int32).toInt
    case neg => rw [ifw_p p3, ifw_n p4] at k1; exact bad k1 k2
    rw [ifw_p p3, ifw_p p4, ifw_n p2] at k1
    exact bad k1 k2
  rw [ifi_p (by exact p2)] at k2
  by_cases p3 : (0 : Int32).toInt ≤ x3.toInt ∧ x3.toInt ≤ (7 : Int32).toInt
  case neg => rw [ifw_n p3] at k1; rw [ifi_n (by exact p3)] at k2; exact bad k1 k2
  rw [ifw_p p3] at k1
  rw [ifi_p (by exact p3)] at k2
  by_cases p4 : (0 : Int32).toInt ≤ x4.toInt ∧ x4.toInt ≤ (7 : Int32).toInt
  case neg => rw [ifw_n p4] at k1; rw [ifi_n (by exact p4)] at k2; exact bad k1 k2
  rw [ifw_p p4, ifw_p p2] at k1
  rw [ifi_p (by exact p4)] at k2
  have e0 : fw (0 : Int32).toNatClampNeg = n := h.1.symm
  rw [e0] at k2
  have z0 : (0 : Int32).toInt = 0 := rfl
  unfold E_w_dinerOf at k1
  generalize hN9 : (9 - (0 : Int32).toInt : Int).toNat + 1 = N9 at k1 k2
  have dn := diner (x := x3) (n := n) (f := f1) hn (fun _ => ((0) : Int32)) N9 0 (by decide) (by rw [← hN9]; exact Nat.lt_succ_self _)
  have hl := hl_in (x0 := x0) (x1 := x1) (x2 := x2) (x3 := x3) (x4 := x4) (sta := sta) (nu := nu) (n := n) (fw := fw) (frf := frm) hn (fun _ => ((0, 0, 0, fun _ => 0, fun _ => 0) : Int32 × Int32 × Int32 × (Nat → Int32) × (Nat → Int32))) N9 0 (by decide) (by rw [← hN9]; exact Nat.lt_succ_self _)
  have ed : ∀ j : Nat, (j : Int) < n.toInt → f1 (24 + j) = fw (51 + j) := fun j hj => by
    have q := h.2.2.2.1 (24 + j) (by omega) (by omega)
    rw [Nat.zero_add, show 27 + (24 + j) = 51 + j by omega] at q
    exact q
  rcases dn with ⟨d1, d2⟩ | ⟨d1, j, j1, j2, j3⟩
  · rw [if_pos d1] at k1
    rw [hl.1 (fun j j1 j2 => by rw [← ed j j2]; exact d2 j j1 j2)] at k2
    unfold E_v_houseN_l84 at k2
    rw [if_pos (show n ≤ n from ie_iff.mpr (Int.le_refl _))] at k2
    by_cases c : n < 8
    · have c2 : n.toInt < 8 := il_iff.mp c
      rw [if_pos c] at k1
      rw [if_neg (fun q => by have := congrArg Int32.toInt q; have z : (8 : Int32).toInt = 8 := rfl; omega)] at k2
      have hN : ∀ (m : Int32) (k : Nat), m.toInt = (k : Int) → k ≤ 100 → (m + n).toNatClampNeg = k + n.toInt.toNat := fun m k hm hk => add_c hm (by omega) (by omega)
      simp only [Lt2, Lt, E_w_build, E_w_accept, put_at (k := 0) (y := 0) (show 0 ≤ n.toInt ∧ n.toInt < 8 by omega) rfl (by omega), put_at (k := 1) (y := 1) (show 0 ≤ n.toInt ∧ n.toInt < 8 by omega) rfl (by omega), put2_at (show 0 ≤ n.toInt ∧ n.toInt < 8 by omega), put_at (k := 3) (y := 3) (show 0 ≤ n.toInt ∧ n.toInt < 8 by omega) rfl (by omega), put_at (k := 4) (y := 4) (show 0 ≤ n.toInt ∧ n.toInt < 8 by omega) rfl (by omega), Prod.mk.injEq] at k1
      simp only [Lt2, Lt, hN 35 35 rfl (by decide), hN 43 43 rfl (by decide), hN 19 19 rfl (by decide), hN 51 51 rfl (by decide), hN 59 59 rfl (by decide), hN 11 11 rfl (by decide), hN 27 27 rfl (by decide), show (0 : Int32).toNatClampNeg = 0 from rfl, Prod.mk.injEq] at k2
      obtain ⟨a1, a2, a3, a4, a5, a6⟩ := k1
      obtain ⟨c1, c3, c4, c5, c6⟩ := k2
      rw [tell_1] at c1
      obtain ⟨N, hN2⟩ : ∃ N, N = n.toInt.toNat := ⟨_, rfl⟩
      rw [← hN2] at a6 c5
      have hN8 : N < 8 := by omega
      obtain ⟨q0, q1, q2, q3, q4, q5⟩ := h
      have mk : ∀ i, i ≠ 0 → i ≠ 27 + N → i ≠ 11 + N → i ≠ 59 + N → i ≠ 51 + N → i ≠ 19 + N → i ≠ 43 + N → i ≠ 35 + N → fw' i = fw i := fun i h1 h2 h3 h4 h5 h6 h7 h8 => by
        rw [c5, upd_n h1, upd_n h2, upd_n h3, upd_n h4, upd_n h5, upd_n h6, upd_n h7, upd_n h8]
      have ck : ∀ i, i ≠ 32 + N → i ≠ 24 + N → i ≠ 16 + N → i ≠ 8 + N → i ≠ N → f1' i = f1 i := fun i h1 h2 h3 h4 h5 => by
        rw [a6, upd_n (by omega), upd_n (by omega), upd_n (by omega), upd_n (by omega), upd_n (by omega)]
      refine ⟨a1.trans c1.symm, ?_, ?_, fun j hj => ?_, fun j hj hk => ?_, fun j hj => ?_, ?_⟩
      · rw [a5, c5]
        show _ = upd _ 0 _ 0
        rw [upd_s, upd_n (by omega), upd_n (by omega), upd_n (by omega), upd_n (by omega), upd_n (by omega), upd_n (by omega), upd_n (by omega)]
        exact congrArg (· + 1) q0
      · rw [mk _ (by omega) (by omega) (by omega) (by omega) (by omega) (by omega) (by omega) (by omega)]; exact q1
      · by_cases e1 : j = N
        · rw [a6, upd_n (by omega), upd_n (by omega), upd_n (by omega), upd_n (by omega), upd_e (by omega), c5, upd_n (by omega), upd_n (by omega), upd_n (by omega), upd_n (by omega), upd_n (by omega), upd_n (by omega), upd_n (by omega), upd_e (by omega)]
        · by_cases e2 : j = 8 + N
          · rw [a6, upd_n (by omega), upd_n (by omega), upd_n (by omega), upd_e (by omega), c5, upd_n (by omega), upd_n (by omega), upd_n (by omega), upd_n (by omega), upd_n (by omega), upd_n (by omega), upd_e (by omega)]
          · rw [ck _ (by omega) (by omega) (by omega) (by omega) (by omega), mk _ (by omega) (by omega) (by omega) (by omega) (by omega) (by omega) (by omega) (by omega)]; exact q2 j hj
      · by_cases e1 : j = 24 + N
        · rw [a6, upd_n (by omega), upd_e (by omega), c5, upd_n (by omega), upd_n (by omega), upd_n (by omega), upd_n (by omega), upd_e (by omega)]
        · by_cases e2 : j = 32 + N
          · rw [a6, upd_e (by omega), c5, upd_n (by omega), upd_n (by omega), upd_n (by omega), upd_e (by omega)]
          · rw [ck _ (by omega) (by omega) (by omega) (by omega) (by omega), mk _ (by omega) (by omega) (by omega) (by omega) (by omega) (by omega) (by omega) (by omega)]; exact q3 j hj hk
      · rw [mk _ (by omega) (by omega) (by omega) (by omega) (by omega) (by omega) (by omega) (by omega)]; exact q4 j hj
      · rw [q5]
        exact orr_same _ (fun j hj => (mk _ (by omega) (by omega) (by omega) (by omega) (by omega) (by omega) (by omega) (by omega)).symm)
    · have c2 : ¬ n.toInt < 8 := fun q => c (il_iff.mpr q)
      rw [if_neg c] at k1
      rw [if_pos (i_lit (x := 8) (by omega) rfl)] at k2
      simp only [Lt2, Prod.mk.injEq] at k1 k2
      obtain ⟨a1, a2, a3, a4, a5, a6⟩ := k1
      obtain ⟨c1, c3, c4, c5, c6⟩ := k2
      rw [refuse_1] at a1
      rw [tell_1] at c1
      rw [a5, a6, c5]
      exact ⟨a1.trans c1.symm, h⟩
  · rw [if_neg d1] at k1
    rw [hl.2 ⟨j, j1, j2, by rw [← ed j j2]; exact j3⟩] at k2
    simp only [Lt2, Prod.mk.injEq] at k1 k2
    obtain ⟨a1, a2, a3, a4, a5, a6⟩ := k1
    obtain ⟨c1, c3, c4, c5, c6⟩ := k2
    rw [refuse_1] at a1
    rw [tell_1] at c1
    rw [a5, a6, c5]
    exact ⟨a1.trans c1.symm, h⟩
