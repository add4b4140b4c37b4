section
/-! the rest of the calls: what they leave -/
theorem tellX_eq {x sta : Int32} {f : Nat → Int32} : E_v_tellX x sta f = E_v_tell x sta f := rfl
theorem refuseX_eq {x rb : Int32} {f : Nat → Int32} : E_w_refuseX x rb f = E_w_refuse x rb f := rfl
theorem TQ.same {n lt nf fi : Int32} {f1 f2 fw fw' : Nat → Int32} {fl : Nat → Option Nat} {G : Nat → LC} (h : TQ 0 n lt nf fi f1 f2 fl G fw) (e : ∀ j, (2 ≤ j ∧ j < 51) ∨ 100 ≤ j → fw' j = fw j) : TQ 0 n lt nf fi f1 f2 fl G fw' := by
  obtain ⟨a, b1, b2, b3, b4, b5⟩ := h
  have z : ∀ j, (2 ≤ j ∧ j < 51) ∨ 100 ≤ j → fw' (0 + j) = fw (0 + j) := fun j hj => by rw [Nat.zero_add]; exact e j hj
  refine ⟨a.ext (fun _ _ => rfl) (fun _ _ => rfl) (fun j h1 h2 => z j (by omega)), b1.trans (z 2 (by omega)).symm, b2.trans (z 3 (by omega)).symm, b3, fun j hj => by rw [z _ (by omega), z _ (by omega)]; exact b4 j hj, fun i hi => ?_⟩
  obtain ⟨q, q1, q2⟩ := b5 i hi
  refine ⟨q, q1, q2.ext (fun j hj => ?_)⟩
  unfold ktx
  rw [Nat.add_assoc, z _ (by omega)]
theorem HR.same {n dr kp nu : Int32} {sl fu fs fw fw' : Nat → Int32} (h : HR n dr kp nu sl fu fs fw) (e : ∀ j, (2 ≤ j ∧ j < 51) ∨ 100 ≤ j → fw' j = fw j) : HR n dr kp nu sl fu fs fw' := h.keep (fun _ _ => rfl) (fun _ _ => rfl) (fun j _ _ => e j (by omega))
theorem rq_hear {n x rb hea ho thr sta : Int32} {f1 f3 frf fw frm : Nat → Int32} {r1 b1 hea' ho' r2 s2 : Int32} {g1 fw' g2 : Nat → Int32} (k1 : (r1, b1, g1, hea', ho') = E_w_hear x rb frf hea ho) (k2 : (r2, s2, fw', g2) = E_v_hear x thr sta fw frm) (h : RF 0 n hea ho f1 f3 fw) (hz : 0 ≤ hea.toInt ∧ hea.toInt ≤ 6) (q : RfR rb sta frf frm) : RfR b1 s2 g1 g2 ∧ ∀ j, (2 ≤ j ∧ j < 51) ∨ 100 ≤ j → fw' j = fw j := by
  simp only [E_w_hear, Lt, Lt2, E_w_accept] at k1
  simp only [E_v_hear, Lt, Lt2] at k2
  by_cases hx : (0 : Int32).toInt ≤ x.toInt ∧ x.toInt ≤ (127 : Int32).toInt
  · rw [ifw_p hx] at k1
    rw [ifi_p (by exact hx)] at k2
    have e1 : fw (1 : Int32).toNatClampNeg = hea := h.2.1.symm
    rw [e1] at k2
    by_cases h6 : hea < 6
    · have h7 : hea.toInt < 6 := il_iff.mp h6
      have hi : (hea + 1).toInt = hea.toInt + 1 := inc_1 (by omega)
      rw [if_pos h6] at k1
      rw [if_neg (fun q => by have := congrArg Int32.toInt q; have z : (6 : Int32).toInt = 6 := rfl; omega), tell_p (by omega)] at k2
      simp only [Prod.mk.injEq] at k1 k2
      obtain ⟨a1, a2, a3, a4, a5⟩ := k1
      obtain ⟨b1, b2, b3, b4⟩ := k2
      have hc : (91 + hea).toNatClampNeg = 91 + hea.toInt.toNat := add_c (k := 91) rfl (by omega) (by omega)
      rw [a2, a3, b2, b4]
      refine ⟨q.ok, fun j hj => ?_⟩
      rw [b3, show (1 : Int32).toNatClampNeg = 1 from rfl, upd_n (by omega), hc, upd_n (by omega)]
    · have h7 : ¬ hea.toInt < 6 := fun q => h6 (il_iff.mpr q)
      rw [if_neg h6] at k1
      rw [if_pos (i_lit (x := 6) (by omega) rfl)] at k2
      simp only [Prod.mk.injEq] at k1 k2
      obtain ⟨a1, a2, a3, a4, a5⟩ := k1
      obtain ⟨b1, b2, b3, b4⟩ := k2
      rw [a2, a3, b2, b3, b4]
      exact ⟨(q.no (by decide)).2.2, fun _ _ => rfl⟩
  · rw [ifw_n hx] at k1
    rw [ifi_n (by exact hx)] at k2
    simp only [Prod.mk.injEq] at k1 k2
    obtain ⟨a1, a2, a3, a4, a5⟩ := k1
    obtain ⟨b1, b2, b3, b4⟩ := k2
    rw [a2, a3, b2, b3, b4]
    exact ⟨(q.no (by decide)).2.2, fun _ _ => rfl⟩
theorem rq_forget {thr : Int32} {fw : Nat → Int32} {r2 : Int32} {fw' : Nat → Int32} (k2 : (r2, fw') = E_v_forget thr fw) : ∀ j, (2 ≤ j ∧ j < 51) ∨ 100 ≤ j → fw' j = fw j := by
  simp only [E_v_forget, Lt, Prod.mk.injEq] at k2
  intro j hj
  rw [k2.2, show (1 : Int32).toNatClampNeg = 1 from rfl, upd_n (by omega)]
theorem rq_score {x y rb thr sta : Int32} {f3 frf fw frm : Nat → Int32} {r1 b1 r2 s2 : Int32} {g1 f3' fw' g2 : Nat → Int32} (k1 : (r1, b1, g1, f3') = E_w_score x y rb frf f3) (k2 : (r2, s2, fw', g2) = E_v_score x y thr sta fw frm) (q : RfR rb sta frf frm) : RfR b1 s2 g1 g2 ∧ ∀ j, (2 ≤ j ∧ j < 51) ∨ 100 ≤ j → fw' j = fw j := by
  simp only [E_w_score, E_w_score_j20, Lt, Lt2, E_w_accept] at k1
  simp only [E_v_score, E_v_score_j41, E_v_change, Lt, Lt2] at k2
  by_cases hx : (0 : Int32).toInt ≤ x.toInt ∧ x.toInt ≤ (23 : Int32).toInt
  · have hx2 : 0 ≤ x.toInt ∧ x.toInt ≤ 23 := hx
    rw [ifw_p hx] at k1
    rw [ifi_p (by exact hx)] at k2
    by_cases hy : (0 : Int32).toInt ≤ y.toInt ∧ y.toInt ≤ (127 : Int32).toInt
    · rw [ifw_p hy] at k1
      rw [ifi_p (by exact hy), add_c (k := 67) rfl (by omega) (by omega)] at k2
      simp only [Prod.mk.injEq] at k1 k2
      obtain ⟨a1, a2, a3, a4⟩ := k1
      obtain ⟨b1, b2, b3, b4⟩ := k2
      rw [a2, a3, b2, b4]
      exact ⟨q.ok, fun j hj => by rw [b3, upd_n (by omega)]⟩
    · rw [ifw_n hy] at k1
      rw [ifi_n (by exact hy)] at k2
      simp only [Prod.mk.injEq] at k1 k2
      obtain ⟨a1, a2, a3, a4⟩ := k1
      obtain ⟨b1, b2, b3, b4⟩ := k2
      rw [a2, a3, b2, b3, b4]
      exact ⟨(q.no (by decide)).2.2, fun _ _ => rfl⟩
  · rw [ifw_n hx] at k1
    rw [ifi_n (by exact hx)] at k2
    simp only [Prod.mk.injEq] at k1 k2
    obtain ⟨a1, a2, a3, a4⟩ := k1
    obtain ⟨b1, b2, b3, b4⟩ := k2
    rw [a2, a3, b2, b3, b4]
    exact ⟨(q.no (by decide)).2.2, fun _ _ => rfl⟩
theorem row_w {rb ln : Int32} {frf fb : Nat → Int32} (hl : 0 ≤ ln.toInt ∧ ln.toInt ≤ 400) (z1 : Int32 → Int32 → (Nat → Int32) → (Int32 × Int32 × Int32 × (Nat → Int32) × Int32 × (Nat → Int32))) : ∀ (k : Nat) (v c : Int32) (f : Nat → Int32), 0 ≤ v.toInt ∧ v.toInt ≤ 400 → (401 - v.toInt).toNat < k → (Lp (E_w_rowX_l21 rb frf ln fb) z1 k v c f).2.1 = 0 ∧ (Lp (E_w_rowX_l21 rb frf ln fb) z1 k v c f).2.2.2.1 = frf := by
  intro k
  induction k with
  | zero => intro v c f hv hk; exact absurd hk (Nat.not_lt_zero _)
  | succ k ih =>
    intro v c f hv hk
    rw [Lp_s]
    simp only [E_w_rowX_l21, Lt]
    by_cases e : ln ≤ v
    · rw [if_pos e]; exact ⟨rfl, rfl⟩
    · have e2 : v.toInt < ln.toInt := by
        have : ¬ ln.toInt ≤ v.toInt := fun q => e (ie_iff.mpr q)
        omega
      have hi := inc_o (a := v) (by omega)
      rw [if_neg e]
      split
      · exact ih _ _ _ (by omega) (by omega)
      · split
        · exact ih _ _ _ (by omega) (by omega)
        · exact ih _ _ _ (by omega) (by omega)
theorem row_v {ln sta : Int32} {ft frm fw : Nat → Int32} (hl : 0 ≤ ln.toInt ∧ ln.toInt ≤ 400) (z2 : Int32 → Int32 → Int32 → (Nat → Int32) → (Int32 × Int32 × Int32 × (Nat → Int32) × (Nat → Int32))) : ∀ (k : Nat) (v d a : Int32) (g : Nat → Int32), 0 ≤ v.toInt ∧ v.toInt ≤ 400 → (401 - v.toInt).toNat < k → 0 ≤ d.toInt ∧ d.toInt ≤ v.toInt → (∀ j, j < 67 ∨ 91 ≤ j → g j = fw j) → (Lp (E_v_rowX_l35 sta ln ft frm) z2 k v d a g).2.1 = 0 ∧ (Lp (E_v_rowX_l35 sta ln ft frm) z2 k v d a g).2.2.2.2 = frm ∧ ∀ j, j < 67 ∨ 91 ≤ j → (Lp (E_v_rowX_l35 sta ln ft frm) z2 k v d a g).2.2.2.1 j = fw j := by
  intro k
  induction k with
  | zero => intro v d a g hv hk; exact absurd hk (Nat.not_lt_zero _)
  | succ k ih =>
    intro v d a g hv hk hd hg
    rw [Lp_s]
    simp only [E_v_rowX_l35, Lt, Lt2]
    by_cases e : ln ≤ v
    · rw [if_pos e, tellX_eq, tell_p hd.1]; exact ⟨rfl, rfl, hg⟩
    · have e2 : v.toInt < ln.toInt := by
        have : ¬ ln.toInt ≤ v.toInt := fun q => e (ie_iff.mpr q)
        omega
      have hi := inc_o (a := v) (by omega)
      have hj := inc_o (a := d) (by omega)
      rw [if_neg e]
      by_cases e4 : 24 ≤ v
      · rw [if_pos e4]; exact ih _ _ _ _ (by omega) (by omega) (by omega) hg
      · have e5 : v.toInt < 24 := by
          have : ¬ (24 : Int32).toInt ≤ v.toInt := fun q => e4 (ie_iff.mpr q)
          have z : (24 : Int32).toInt = 24 := rfl
          omega
        rw [if_neg e4, add_c (k := 67) rfl (by omega) (by omega)]
        split
        · exact ih _ _ _ _ (by omega) (by omega) (by omega) hg
        · exact ih _ _ _ _ (by omega) (by omega) (by omega) (fun j hj => by rw [upd_n (by omega)]; exact hg j hj)
theorem rq_row {rb ato ln thr sta as_ ta : Int32} {f3 frf fb fw ft frm : Nat → Int32} {r1 b1 ato' ln' r2 s2 as' : Int32} {g1 f3' fw' g2 : Nat → Int32} (k1 : (r1, b1, ato', g1, ln', f3') = E_w_rowX rb ato frf ln fb f3) (k2 : (r2, s2, as', fw', g2) = E_v_rowX thr sta as_ ta fw ft frm) (hl : 0 ≤ ln.toInt ∧ ln.toInt ≤ 400) (hlt : ln.toInt = ta.toInt) (q : RfR rb sta frf frm) : RfR b1 s2 g1 g2 ∧ ∀ j, (2 ≤ j ∧ j < 51) ∨ 100 ≤ j → fw' j = fw j := by
  obtain rfl : ln = ta := Int32.toInt_inj.mp hlt
  simp only [E_w_rowX, Lt, Lt2] at k1
  simp only [E_v_rowX, Lt, Lt2] at k2
  by_cases e : ln = 0
  · rw [if_pos e, refuseX_eq] at k1
    rw [if_pos e, tellX_eq] at k2
    simp only [Prod.mk.injEq] at k1 k2
    rw [k1.2.1, k1.2.2.2.1, k2.2.1, k2.2.2.2.1, k2.2.2.2.2]
    exact ⟨(q.no (by decide)).2.2, fun _ _ => rfl⟩
  · rw [if_neg e] at k1 k2
    generalize hN : (401 - (0 : Int32).toInt : Int).toNat + 1 = N at k1 k2
    have p1 := row_w (rb := rb) (frf := frf) (fb := fb) hl (fun _ _ _ => ((0, 0, 0, fun _ => 0, 0, fun _ => 0) : Int32 × Int32 × Int32 × (Nat → Int32) × Int32 × (Nat → Int32))) N 0 0 f3 (by decide) (by rw [← hN]; exact Nat.lt_succ_self _)
    have p2 := row_v (sta := sta) (ft := ft) (frm := frm) (fw := fw) hl (fun _ _ _ _ => ((0, 0, 0, fun _ => 0, fun _ => 0) : Int32 × Int32 × Int32 × (Nat → Int32) × (Nat → Int32))) N 0 0 0 fw (by decide) (by rw [← hN]; exact Nat.lt_succ_self _) (by decide) (fun _ _ => rfl)
    rw [← k1] at p1
    rw [← k2] at p2
    dsimp only at p1 p2
    rw [p1.1, p1.2, p2.1, p2.2.1]
    exact ⟨q.ok, fun j hj => p2.2.2 j (by omega)⟩
theorem rq_house {x0 x1 x2 x3 x4 rb dr kp n ht ho thr sta nu lt nf fi : Int32} {f1 f2 f3 frf fw frm sl fu fsr : Nat → Int32} {fl : Nat → Option Nat} {G : Nat → LC} {r1 b1 kp' n' r2 s2 nu' : Int32} {g1 f1' fw' g2 : Nat → Int32} (k1 : (r1, b1, g1, kp', n', f1') = E_w_house x0 x1 x2 x3 x4 rb frf dr kp n f1) (k2 : (r2, s2, nu', fw', g2) = E_v_houseN x0 x1 x2 x3 x4 thr sta nu fw frm) (h : RF 0 n ht ho f1 f3 fw) (hn : 0 ≤ n.toInt ∧ n.toInt ≤ 8) (hz : 0 ≤ ht.toInt ∧ ht.toInt ≤ 6) (hq : TQ 0 n lt nf fi f1 f2 fl G fw) (hl6 : 0 ≤ lt.toInt ∧ lt.toInt ≤ 6) (q : RfR rb sta frf frm) (hr : HR n dr kp nu sl fu fsr fw) : RfR b1 s2 g1 g2 ∧ TQ 0 n' lt nf fi f1' f2 fl G fw' ∧ HR n' dr kp' nu' sl fu fsr fw' := by
  have hRF := (rel_house k1 k2 h hn hz).2
  have hW := TW.of hq h hn hl6
  have bad : ∀ {r b kp2 n2 : Int32} {g f : Nat → Int32}, (r, b, g, kp2, n2, f) = E_w_house_j76 rb frf kp n f1 → ∀ {r' s' nu2 : Int32} {f' g' : Nat → Int32}, (r', s', nu2, f', g') = E_v_houseN_j67 sta nu fw frm → RfR b s' g g' ∧ TQ 0 n2 lt nf fi f f2 fl G f' ∧ HR n2 dr kp2 nu2 sl fu fsr f' := by
    intro r b kp2 n2 g f q1 r' s' nu2 f' g' q2
    simp only [E_w_house_j76, E_v_houseN_j67, Lt2, Prod.mk.injEq] at q1 q2
    obtain ⟨a1, a2, a3, a4, a5, a6⟩ := q1
    obtain ⟨c1, c2, c3, c4, c5⟩ := q2
    rw [a2, a3, a4, a5, a6, c2, c3, c4, c5]
    exact ⟨(q.no (by decide)).2.2, hq, hr⟩
  have j52 : ∀ v : Int32, E_w_house_j52 rb frf kp n f1 v = E_w_house_j76 rb frf kp n f1 := fun v => by
    unfold E_w_house_j52
    split <;> rfl
  have j23 : E_w_house_j23 x3 x4 rb frf kp n f1 = E_w_house_j76 rb frf kp n f1 := by
    simp only [E_w_house_j23, Lt, j52]
    split
    · split <;> rfl
    · rfl
  simp only [E_w_house, Lt, j52, j23] at k1
  simp only [E_v_houseN, Lt] at k2
  by_cases p0 : (0 : Int32).toInt ≤ x0.toInt ∧ x0.toInt ≤ (6 : Int32).toInt
  case neg => rw [ifw_n p0] at k1; rw [ifi_n (by exact p0)] at k2; exact bad k1 k2
  rw [ifw_p p0] at k1
  rw [ifi_p (by exact p0)] at k2
  by_cases p1 : (0 : Int32).toInt ≤ x1.toInt ∧ x1.toInt ≤ (3 : Int32).toInt
  case neg => rw [ifw_n p1] at k1; rw [ifi_n (by exact p1)] at k2; exact bad k1 k2
  rw [ifw_p p1] at k1
  rw [ifi_p (by exact p1)] at k2
  by_cases p2 : (0 : Int32).toInt ≤ x2.toInt ∧ x2.toInt ≤ (999 : Int32).toInt
  case neg =>
    rw [ifi_n (by exact p2)] at k2
    by_cases p3 : (0 : Int32).toInt ≤ x3.toInt ∧ x3.toInt ≤ (7 : Int32).toInt
    case neg => rw [ifw_n p3] at k1; exact bad k1 k2
    by_cases p4 : (0 : Int32).toInt ≤ x4.toInt ∧ x4.toInt ≤ (7 : Int32).toInt
    case neg => rw [ifw_p p3, ifw_n p4] at k1; exact bad k1 k2
    rw [ifw_p p3, ifw_p p4, ifw_n p2] at k1
    exact bad k1 k2
  rw [ifi_p (by exact p2)] at k2
  by_cases p3 : (0 : Int32).toInt ≤ x3.toInt ∧ x3.toInt ≤ (7 : Int32).toInt
  case neg => rw [ifw_n p3] at k1; rw [ifi_n (by exact p3)] at k2; exact bad k1 k2
  rw [ifw_p p3] at k1
  rw [ifi_p (by exact p3)] at k2
  by_cases p4 : (0 : Int32).toInt ≤ x4.toInt ∧ x4.toInt ≤ (7 : Int32).toInt
  case neg => rw [ifw_n p4] at k1; rw [ifi_n (by exact p4)] at k2; exact bad k1 k2
  rw [ifw_p p4, ifw_p p2] at k1
  rw [ifi_p (by exact p4)] at k2
  have e0 : fw (0 : Int32).toNatClampNeg = n := h.1.symm
  rw [e0] at k2
  have z0 : (0 : Int32).toInt = 0 := rfl
  unfold E_w_dinerOf at k1
  generalize hN9 : (9 - (0 : Int32).toInt : Int).toNat + 1 = N9 at k1 k2
  have dn := diner (x := x3) (n := n) (f := f1) hn (fun _ => ((0) : Int32)) N9 0 (by decide) (by rw [← hN9]; exact Nat.lt_succ_self _)
  have hl := hl_in (x0 := x0) (x1 := x1) (x2 := x2) (x3 := x3) (x4 := x4) (sta := sta) (nu := nu) (n := n) (fw := fw) (frf := frm) hn (fun _ => ((0, 0, 0, fun _ => 0, fun _ => 0) : Int32 × Int32 × Int32 × (Nat → Int32) × (Nat → Int32))) N9 0 (by decide) (by rw [← hN9]; exact Nat.lt_succ_self _)
  have ed : ∀ j : Nat, (j : Int) < n.toInt → f1 (24 + j) = fw (51 + j) := fun j hj => by
    have q := h.2.2.2.1 (24 + j) (by omega) (by omega)
    rw [Nat.zero_add, show 27 + (24 + j) = 51 + j by omega] at q
    exact q
  rcases dn with ⟨d1, d2⟩ | ⟨d1, j, j1, j2, j3⟩
  · rw [if_pos d1] at k1
    rw [hl.1 (fun j j1 j2 => by rw [← ed j j2]; exact d2 j j1 j2)] at k2
    unfold E_v_houseN_l84 at k2
    rw [if_pos (show n ≤ n from ie_iff.mpr (Int.le_refl _))] at k2
    by_cases c : n < 8
    · have c2 : n.toInt < 8 := il_iff.mp c
      rw [if_pos c] at k1
      rw [if_neg (fun q => by have := congrArg Int32.toInt q; have z : (8 : Int32).toInt = 8 := rfl; omega)] at k2
      have hN : ∀ (m : Int32) (k : Nat), m.toInt = (k : Int) → k ≤ 100 → (m + n).toNatClampNeg = k + n.toInt.toNat := fun m k hm hk => add_c hm (by omega) (by omega)
      simp only [Lt2, Lt, E_w_build, E_w_accept, put_at (k := 0) (y := 0) (show 0 ≤ n.toInt ∧ n.toInt < 8 by omega) rfl (by omega), put_at (k := 1) (y := 1) (show 0 ≤ n.toInt ∧ n.toInt < 8 by omega) rfl (by omega), put2_at (show 0 ≤ n.toInt ∧ n.toInt < 8 by omega), put_at (k := 3) (y := 3) (show 0 ≤ n.toInt ∧ n.toInt < 8 by omega) rfl (by omega), put_at (k := 4) (y := 4) (show 0 ≤ n.toInt ∧ n.toInt < 8 by omega) rfl (by omega), Prod.mk.injEq] at k1
      simp only [Lt2, Lt, hN 35 35 rfl (by decide), hN 43 43 rfl (by decide), hN 19 19 rfl (by decide), hN 51 51 rfl (by decide), hN 59 59 rfl (by decide), hN 11 11 rfl (by decide), hN 27 27 rfl (by decide), show (0 : Int32).toNatClampNeg = 0 from rfl, Prod.mk.injEq] at k2
      obtain ⟨a1, a2, a3, a4, a5, a6⟩ := k1
      obtain ⟨c1, c3, c4, c5, c6⟩ := k2
      obtain ⟨N, hN2⟩ : ∃ N, N = n.toInt.toNat := ⟨_, rfl⟩
      rw [← hN2] at a6 c5
      have hN8 : N < 8 := by omega
      obtain ⟨⟨t1, t2, t3, t4, w1, w2, w3, w4, w5, w6, w7, w8⟩, b1, b2, b3, b4, b5, b6, b7⟩ := hW
      have mk : ∀ i, i ≠ 0 → i ≠ 27 + N → i ≠ 11 + N → i ≠ 59 + N → i ≠ 51 + N → i ≠ 19 + N → i ≠ 43 + N → i ≠ 35 + N → fw' i = fw i := fun i h1 h2 h3 h4 h5 h6 h7 h8 => by
        rw [c5, upd_n h1, upd_n h2, upd_n h3, upd_n h4, upd_n h5, upd_n h6, upd_n h7, upd_n h8]
      have ck : ∀ i, i ≠ 32 + N → i ≠ 24 + N → i ≠ 16 + N → i ≠ 8 + N → i ≠ N → f1' i = f1 i := fun i h1 h2 h3 h4 h5 => by
        rw [a6, upd_n (by omega), upd_n (by omega), upd_n (by omega), upd_n (by omega), upd_n (by omega)]
      rw [a2, a3, c3, c6, tell_p (by omega)]
      have z0 : (0 : Int32).toInt = 0 := rfl
      have p0 := p0
      have v19 : fw' (19 + N) = x2 := by rw [c5, upd_n (by omega), upd_n (by omega), upd_n (by omega), upd_n (by omega), upd_n (by omega), upd_e (by omega)]
      have v11 : fw' (11 + N) = 0 := by rw [c5, upd_n (by omega), upd_n (by omega), upd_e (by omega)]
      have v27 : fw' (27 + N) = 0 := by rw [c5, upd_n (by omega), upd_e (by omega)]
      have v35 : fw' (35 + N) = x0 := by rw [c5, upd_n (by omega), upd_n (by omega), upd_n (by omega), upd_n (by omega), upd_n (by omega), upd_n (by omega), upd_n (by omega), upd_e (by omega)]
      have v43 : fw' (43 + N) = x1 := by rw [c5, upd_n (by omega), upd_n (by omega), upd_n (by omega), upd_n (by omega), upd_n (by omega), upd_n (by omega), upd_e (by omega)]
      have u16 : f1' (16 + N) = x2 := by rw [a6, upd_n (by omega), upd_n (by omega), upd_e (by omega)]
      have mk2 : ∀ i, (2 ≤ i ∧ i < 51) ∨ 100 ≤ i → i ≠ 27 + N → i ≠ 11 + N → i ≠ 19 + N → i ≠ 43 + N → i ≠ 35 + N → fw' i = fw i := fun i h1 h2 h3 h4 h5 h6 => mk i (by omega) h2 h3 (by omega) (by omega) h4 h5 h6
      have ck2 : ∀ i, 16 ≤ i → i < 24 ∨ 40 ≤ i → i ≠ 16 + N → f1' i = f1 i := fun i h1 h2 h3 => ck i (by omega) (by omega) h3 (by omega) (by omega)
      have i1 := inc_1 (a := n) (by omega)
      refine ⟨q.ok, TW.tq ⟨⟨fun j hj => ?_, ?_, fun j hj => ?_, fun k hk h8 => ?_, ?_, ?_, ?_, ?_, ?_, ?_, ?_, fun j hj => ?_⟩, ?_, ?_, b3, fun j hj => ⟨?_, ?_⟩, b5.ext (fun j h1 _ => mk2 j (by omega) (by omega) (by omega) (by omega) (by omega) (by omega)), ⟨by have := hRF.1; rwa [Nat.zero_add] at this, by rw [a5, i1]; omega⟩, fun j hj => by have := hRF.2.2.1 j hj; rwa [Nat.zero_add] at this⟩, by rw [a4, c4]; exact hr.clear⟩
      · rw [mk2 _ (by omega) (by omega) (by omega) (by omega) (by omega) (by omega)]; exact t1 j hj
      · rw [mk2 _ (by omega) (by omega) (by omega) (by omega) (by omega) (by omega)]; exact t2
      · by_cases e : j = N
        · rw [e, v11, v19, v27, u16, ck2 _ (by omega) (by omega) (by omega), ck2 _ (by omega) (by omega) (by omega), (t3 N hN8).1, (t3 N hN8).2.2, (t4 N (by omega) hN8).1, (t4 N (by omega) hN8).2]
          exact ⟨rfl, rfl, rfl⟩
        · rw [mk2 _ (by omega) (by omega) (by omega) (by omega) (by omega) (by omega), mk2 _ (by omega) (by omega) (by omega) (by omega) (by omega) (by omega), mk2 _ (by omega) (by omega) (by omega) (by omega) (by omega) (by omega), ck2 _ (by omega) (by omega) (by omega), ck2 _ (by omega) (by omega) (by omega), ck2 _ (by omega) (by omega) (by omega)]
          exact t3 j hj
      · rw [a5, i1] at hk
        rw [mk2 _ (by omega) (by omega) (by omega) (by omega) (by omega) (by omega), mk2 _ (by omega) (by omega) (by omega) (by omega) (by omega) (by omega)]
        exact t4 k (by omega) h8
      · rw [mk2 _ (by omega) (by omega) (by omega) (by omega) (by omega) (by omega)]; exact w1
      · rw [mk2 _ (by omega) (by omega) (by omega) (by omega) (by omega) (by omega)]; exact w2
      · rw [mk2 _ (by omega) (by omega) (by omega) (by omega) (by omega) (by omega)]; exact w3
      · rw [mk2 _ (by omega) (by omega) (by omega) (by omega) (by omega) (by omega)]; exact w4
      · rw [mk2 _ (by omega) (by omega) (by omega) (by omega) (by omega) (by omega)]; exact w5
      · rw [mk2 _ (by omega) (by omega) (by omega) (by omega) (by omega) (by omega)]; exact w6
      · rw [mk2 _ (by omega) (by omega) (by omega) (by omega) (by omega) (by omega)]; exact w7
      · by_cases e : j = N
        · rw [e, v11, v19, v27, z0]
          exact ⟨by omega, p2, by omega⟩
        · rw [mk2 _ (by omega) (by omega) (by omega) (by omega) (by omega) (by omega), mk2 _ (by omega) (by omega) (by omega) (by omega) (by omega) (by omega), mk2 _ (by omega) (by omega) (by omega) (by omega) (by omega) (by omega)]
          exact w8 j hj
      · rw [mk2 _ (by omega) (by omega) (by omega) (by omega) (by omega) (by omega)]; exact b1
      · rw [mk2 _ (by omega) (by omega) (by omega) (by omega) (by omega) (by omega)]; exact b2
      · by_cases e : j = N
        · rw [e, v35]; exact p0
        · rw [mk2 _ (by omega) (by omega) (by omega) (by omega) (by omega) (by omega)]; exact (b4 j hj).1
      · by_cases e : j = N
        · rw [e, v43]; exact p1
        · rw [mk2 _ (by omega) (by omega) (by omega) (by omega) (by omega) (by omega)]; exact (b4 j hj).2
    · have c2 : ¬ n.toInt < 8 := fun q => c (il_iff.mpr q)
      rw [if_neg c] at k1
      rw [if_pos (i_lit (x := 8) (by omega) rfl)] at k2
      simp only [Lt2, Prod.mk.injEq] at k1 k2
      obtain ⟨a1, a2, a3, a4, a5, a6⟩ := k1
      obtain ⟨c1, c3, c4, c5, c6⟩ := k2
      rw [a2, a3, a4, a5, a6, c3, c4, c5, c6]
      exact ⟨(q.no (by decide)).2.2, hq, hr⟩
  · rw [if_neg d1] at k1
    rw [hl.2 ⟨j, j1, j2, by rw [← ed j j2]; exact j3⟩] at k2
    simp only [Lt2, Prod.mk.injEq] at k1 k2
    obtain ⟨a1, a2, a3, a4, a5, a6⟩ := k1
    obtain ⟨c1, c3, c4, c5, c6⟩ := k2
    rw [a2, a3, a4, a5, a6, c3, c4, c5, c6]
    exact ⟨(q.no (by decide)).2.2, hq, hr⟩
end
section
/-! image and back: the whole towns are copied, on both sides -/
theorem img0_s {sta : Int32} {fw fk frm : Nat → Int32} (z : Int32 → (Nat → Int32) → (Int32 × Int32 × (Nat → Int32) × (Nat → Int32) × (Nat → Int32))) : ∀ (k : Nat) (v : Int32) (f : Nat → Int32), 0 ≤ v.toInt ∧ v.toInt ≤ 5500 → (5501 - v.toInt).toNat < k → (Lp (E_v_imageX_l23 sta fw fk frm) z k v f).2.1 = 0 ∧ (Lp (E_v_imageX_l23 sta fw fk frm) z k v f).2.2.2.2 = frm := by
  intro k
  induction k with
  | zero => intro v f hv hk; exact absurd hk (Nat.not_lt_zero _)
  | succ k ih =>
    intro v f hv hk
    rw [Lp_s]
    simp only [E_v_imageX_l23, Lt, Lt2]
    have z5 : (5500 : Int32).toInt = 5500 := rfl
    by_cases e : 5500 ≤ v
    · rw [if_pos e, tellX_eq, tell_p (by decide)]
      exact ⟨rfl, rfl⟩
    · have e2 : v.toInt < 5500 := by
        have : ¬ (5500 : Int32).toInt ≤ v.toInt := fun q => e (ie_iff.mpr q)
        omega
      have hi := inc_o (a := v) (by omega)
      rw [if_neg e]
      exact ih _ _ (by omega) (by omega)
theorem img1_s {sta : Int32} {fw fk frm : Nat → Int32} (z : Int32 → (Nat → Int32) → (Int32 × Int32 × (Nat → Int32) × (Nat → Int32) × (Nat → Int32))) : ∀ (k : Nat) (v : Int32) (f : Nat → Int32), 0 ≤ v.toInt ∧ v.toInt ≤ 5500 → (5501 - v.toInt).toNat < k → (Lp (E_v_imageX_l23a sta fw fk frm) z k v f).2.1 = 0 ∧ (Lp (E_v_imageX_l23a sta fw fk frm) z k v f).2.2.2.2 = frm := by
  intro k
  induction k with
  | zero => intro v f hv hk; exact absurd hk (Nat.not_lt_zero _)
  | succ k ih =>
    intro v f hv hk
    rw [Lp_s]
    simp only [E_v_imageX_l23a, Lt, Lt2]
    have z5 : (5500 : Int32).toInt = 5500 := rfl
    by_cases e : 5500 ≤ v
    · rw [if_pos e, tellX_eq, tell_p (by decide)]
      exact ⟨rfl, rfl⟩
    · have e2 : v.toInt < 5500 := by
        have : ¬ (5500 : Int32).toInt ≤ v.toInt := fun q => e (ie_iff.mpr q)
        omega
      have hi := inc_o (a := v) (by omega)
      rw [if_neg e]
      exact ih _ _ (by omega) (by omega)
theorem bak0_s {sta : Int32} {fi frm : Nat → Int32} (z : Int32 → (Nat → Int32) → (Int32 × Int32 × Int32 × (Nat → Int32) × (Nat → Int32))) : ∀ (k : Nat) (v : Int32) (f : Nat → Int32), 0 ≤ v.toInt ∧ v.toInt ≤ 5500 → (5501 - v.toInt).toNat < k → (Lp (E_v_backX_l39 sta fi frm) z k v f).2.1 = 0 ∧ (Lp (E_v_backX_l39 sta fi frm) z k v f).2.2.1 = 0 ∧ (Lp (E_v_backX_l39 sta fi frm) z k v f).2.2.2.2 = frm := by
  intro k
  induction k with
  | zero => intro v f hv hk; exact absurd hk (Nat.not_lt_zero _)
  | succ k ih =>
    intro v f hv hk
    rw [Lp_s]
    simp only [E_v_backX_l39, Lt, Lt2]
    have z5 : (5500 : Int32).toInt = 5500 := rfl
    by_cases e : 5500 ≤ v
    · rw [if_pos e, tellX_eq, tell_p (by decide)]
      exact ⟨rfl, rfl, rfl⟩
    · have e2 : v.toInt < 5500 := by
        have : ¬ (5500 : Int32).toInt ≤ v.toInt := fun q => e (ie_iff.mpr q)
        omega
      have hi := inc_o (a := v) (by omega)
      rw [if_neg e]
      exact ih _ _ (by omega) (by omega)
theorem bak1_s {sta : Int32} {fi frm : Nat → Int32} (z : Int32 → (Nat → Int32) → (Int32 × Int32 × Int32 × (Nat → Int32) × (Nat → Int32))) : ∀ (k : Nat) (v : Int32) (f : Nat → Int32), 0 ≤ v.toInt ∧ v.toInt ≤ 5500 → (5501 - v.toInt).toNat < k → (Lp (E_v_backX_l39a sta fi frm) z k v f).2.1 = 0 ∧ (Lp (E_v_backX_l39a sta fi frm) z k v f).2.2.1 = 0 ∧ (Lp (E_v_backX_l39a sta fi frm) z k v f).2.2.2.2 = frm := by
  intro k
  induction k with
  | zero => intro v f hv hk; exact absurd hk (Nat.not_lt_zero _)
  | succ k ih =>
    intro v f hv hk
    rw [Lp_s]
    simp only [E_v_backX_l39a, Lt, Lt2]
    have z5 : (5500 : Int32).toInt = 5500 := rfl
    by_cases e : 5500 ≤ v
    · rw [if_pos e, tellX_eq, tell_p (by decide)]
      exact ⟨rfl, rfl, rfl⟩
    · have e2 : v.toInt < 5500 := by
        have : ¬ (5500 : Int32).toInt ≤ v.toInt := fun q => e (ie_iff.mpr q)
        omega
      have hi := inc_o (a := v) (by omega)
      rw [if_neg e]
      exact ih _ _ (by omega) (by omega)
theorem rq_image {x rb dr kp thr sta : Int32} {frf fik fw fi fk frm : Nat → Int32} {Bn Bl Bf Bi Bh Bo : Int32} {Ba Bb Bc : Nat → Int32} {Bd : Nat → Option Nat} {In Il If Ii Ih Io : Int32} {Ia Ib Ic : Nat → Int32} {Id : Nat → Option Nat} {Jn Jl Jf Ji Jh Jo : Int32} {Ja Jb Jc : Nat → Int32} {Jd : Nat → Option Nat} {G : Nat → LC} {r1 b1 r2 s2 : Int32} {g1 ik' fi' fk' g2 : Nat → Int32} {In' Il' If' Ii' Ih' Io' : Int32} {Ia' Ib' Ic' : Nat → Int32} {Id' : Nat → Option Nat} {Jn' Jl' Jf' Ji' Jh' Jo' : Int32} {Ja' Jb' Jc' : Nat → Int32} {Jd' : Nat → Option Nat} (k1 : (r1, b1, g1, ik', In', Il', If', Ii', Ih', Io', Ia', Ib', Ic', Id', Jn', Jl', Jf', Ji', Jh', Jo', Ja', Jb', Jc', Jd') = E_w_imageX x rb frf dr kp fik Bn Bl Bf Bi Bh Bo Ba Bb Bc Bd In Il If Ii Ih Io Ia Ib Ic Id Jn Jl Jf Ji Jh Jo Ja Jb Jc Jd) (k2 : (r2, s2, fi', fk', g2) = E_v_imageX x thr sta fw fi fk frm) (q : RfR rb sta frf frm) (hk : KF fik fk) (h : TQ 0 Bn Bl Bf Bi Ba Bb Bd G fw) (hi : fik 0 ≠ 0 → TQ 0 In Il If Ii Ia Ib Id G fi) (hj : fik 1 ≠ 0 → TQ 5500 Jn Jl Jf Ji Ja Jb Jd G fi) (hz : 0 ≤ Bl.toInt ∧ Bl.toInt ≤ 6) (hz2 : 0 ≤ Il.toInt ∧ Il.toInt ≤ 6) (hz3 : 0 ≤ Jl.toInt ∧ Jl.toInt ≤ 6) : RfR b1 s2 g1 g2 ∧ (ik' 0 ≠ 0 → TQ 0 In' Il' If' Ii' Ia' Ib' Id' G fi') ∧ (ik' 1 ≠ 0 → TQ 5500 Jn' Jl' Jf' Ji' Ja' Jb' Jd' G fi') := by
  simp only [E_w_imageX, Lt, Lt2] at k1
  rw [E_v_imageX.eq_def] at k2
  have z0 : (0 : Int32).toNatClampNeg = 0 := rfl
  have z1 : (1 : Int32).toNatClampNeg = 1 := rfl
  by_cases c0 : x.toInt < 0
  · rw [if_pos c0] at k1 k2
    rw [ifw_n (by have z : (0 : Int32).toInt = 0 := rfl; omega)] at k1
    rw [Lt_b, Lt_b, ifi_n (by have z : (0 : Int64).toInt = 0 := rfl; omega)] at k2
    simp only [Lt2, Prod.mk.injEq] at k1 k2
    obtain ⟨-, e_b, e_g, e_k, rfl, rfl, rfl, rfl, -, -, rfl, rfl, -, rfl, rfl, rfl, rfl, rfl, -, -, rfl, rfl, -, rfl⟩ := k1
    obtain ⟨-, d2, d3, -, d5⟩ := k2
    rw [e_b, e_g, e_k, d2, d3, d5]
    exact ⟨(q.no (by decide)).2.2, hi, hj⟩
  rw [if_neg c0] at k1 k2
  by_cases c1 : x.toInt = 0
  · rw [if_pos c1] at k1 k2
    rw [ifw_p (by decide)] at k1
    rw [Lt_b, if_pos (show E_v_in 0 0 1 = 1 by decide)] at k2
    generalize hN : (5501 - (0 : Int32).toInt : Int).toNat + 1 = N at k2
    have w := img0_in (sta := sta) (fw := fw) (fk := fk) (frm := frm) (fi := fi) (fun _ _ => ((0, 0, fun _ => 0, fun _ => 0, fun _ => 0) : Int32 × Int32 × (Nat → Int32) × (Nat → Int32) × (Nat → Int32))) N 0 fi (by decide) (by rw [← hN]; exact Nat.lt_succ_self _) CpU.base
    have y := img0_s (sta := sta) (fw := fw) (fk := fk) (frm := frm) (fun _ _ => ((0, 0, fun _ => 0, fun _ => 0, fun _ => 0) : Int32 × Int32 × (Nat → Int32) × (Nat → Int32) × (Nat → Int32))) N 0 fi (by decide) (by rw [← hN]; exact Nat.lt_succ_self _)
    rw [← k2] at w y
    obtain ⟨y1, y2⟩ := y
    dsimp only at w y1 y2
    simp only [Prod.mk.injEq] at k1
    obtain ⟨-, e_b, e_g, e_k, rfl, rfl, rfl, rfl, -, -, e1, e2, -, e4, rfl, rfl, rfl, rfl, -, -, rfl, rfl, -, rfl⟩ := k1
    obtain ⟨m1, -, m2⟩ := become_at (An := In) (Al := Il) (Af := If) (Ai := Ii) (Ah := Ih) (Ao := Io) (Aa := Ia) (Ab := Ib) (Ac := Ic) (Ad := Id) (Bn := In') (Bl := Il') (Bf := If') (Bi := Ii') (Bh := Bh) (Bo := Bo) (Ba := Ba) (Bb := Bb) (Bc := Bc) (Bd := Bd)
    have m3 := become_laws (An := In) (Al := Il) (Af := If) (Ai := Ii) (Ah := Ih) (Ao := Io) (Aa := Ia) (Ab := Ib) (Ac := Ic) (Ad := Id) (Bn := In') (Bl := Il') (Bf := If') (Bi := Ii') (Bh := Bh) (Bo := Bo) (Ba := Ba) (Bb := Bb) (Bc := Bc) (Bd := Bd)
    rw [← e1] at m1
    rw [← e2] at m2
    rw [← e4] at m3
    rw [e_b, e_g, e_k, y1, y2]
    refine ⟨q.ok, fun _ => h.move hz (fun j hj => (w.1 j (by omega)).trans (by rw [Nat.zero_add])) m1 m2 m3, fun g => ?_⟩
    rw [z0, upd_n (by omega)] at g
    exact (hj g).move hz3 (fun j hj => w.2 _ (by omega)) (fun _ _ => rfl) (fun _ _ => rfl) (fun _ _ => rfl)
  rw [if_neg c1] at k1 k2
  by_cases c2 : x.toInt = 1
  · rw [if_pos c2] at k1 k2
    rw [ifw_p (by decide)] at k1
    rw [Lt_b, if_pos (show E_v_in 1 0 1 = 1 by decide)] at k2
    generalize hN : (5501 - (0 : Int32).toInt : Int).toNat + 1 = N at k2
    have w := img1_in (sta := sta) (fw := fw) (fk := fk) (frm := frm) (fi := fi) (fun _ _ => ((0, 0, fun _ => 0, fun _ => 0, fun _ => 0) : Int32 × Int32 × (Nat → Int32) × (Nat → Int32) × (Nat → Int32))) N 0 fi (by decide) (by rw [← hN]; exact Nat.lt_succ_self _) CpU.base
    have y := img1_s (sta := sta) (fw := fw) (fk := fk) (frm := frm) (fun _ _ => ((0, 0, fun _ => 0, fun _ => 0, fun _ => 0) : Int32 × Int32 × (Nat → Int32) × (Nat → Int32) × (Nat → Int32))) N 0 fi (by decide) (by rw [← hN]; exact Nat.lt_succ_self _)
    rw [← k2] at w y
    obtain ⟨y1, y2⟩ := y
    dsimp only at w y1 y2
    simp only [Prod.mk.injEq] at k1
    obtain ⟨-, e_b, e_g, e_k, rfl, rfl, rfl, rfl, -, -, rfl, rfl, -, rfl, rfl, rfl, rfl, rfl, -, -, e1, e2, -, e4⟩ := k1
    obtain ⟨m1, -, m2⟩ := become_at (An := Jn) (Al := Jl) (Af := Jf) (Ai := Ji) (Ah := Jh) (Ao := Jo) (Aa := Ja) (Ab := Jb) (Ac := Jc) (Ad := Jd) (Bn := Jn') (Bl := Jl') (Bf := Jf') (Bi := Ji') (Bh := Bh) (Bo := Bo) (Ba := Ba) (Bb := Bb) (Bc := Bc) (Bd := Bd)
    have m3 := become_laws (An := Jn) (Al := Jl) (Af := Jf) (Ai := Ji) (Ah := Jh) (Ao := Jo) (Aa := Ja) (Ab := Jb) (Ac := Jc) (Ad := Jd) (Bn := Jn') (Bl := Jl') (Bf := Jf') (Bi := Ji') (Bh := Bh) (Bo := Bo) (Ba := Ba) (Bb := Bb) (Bc := Bc) (Bd := Bd)
    rw [← e1] at m1
    rw [← e2] at m2
    rw [← e4] at m3
    rw [e_b, e_g, e_k, y1, y2]
    refine ⟨q.ok, fun g => ?_, fun _ => h.move hz (fun j hj => by rw [Nat.zero_add]; exact w.1 j (by omega)) m1 m2 m3⟩
    rw [z1, upd_n (by omega)] at g
    exact (hi g).move hz2 (fun j hj => by rw [Nat.zero_add]; exact w.2 _ (by omega)) (fun _ _ => rfl) (fun _ _ => rfl) (fun _ _ => rfl)
  rw [if_neg c2] at k1 k2
  rw [ifw_n (by have z : (1 : Int32).toInt = 1 := rfl; omega)] at k1
  rw [Lt_b, Lt_b, ifi_n (by have z : (1 : Int64).toInt = 1 := rfl; omega)] at k2
  simp only [Lt2, Prod.mk.injEq] at k1 k2
  obtain ⟨-, e_b, e_g, e_k, rfl, rfl, rfl, rfl, -, -, rfl, rfl, -, rfl, rfl, rfl, rfl, rfl, -, -, rfl, rfl, -, rfl⟩ := k1
  obtain ⟨-, d2, d3, -, d5⟩ := k2
  rw [e_b, e_g, e_k, d2, d3, d5]
  exact ⟨(q.no (by decide)).2.2, hi, hj⟩
theorem rq_back {x rb dr kp thr sta nu : Int32} {frf fik fw fi fk frm : Nat → Int32} {Bn Bl Bf Bi Bh Bo : Int32} {Ba Bb Bc : Nat → Int32} {Bd : Nat → Option Nat} {In Il If Ii Ih Io : Int32} {Ia Ib Ic : Nat → Int32} {Id : Nat → Option Nat} {Jn Jl Jf Ji Jh Jo : Int32} {Ja Jb Jc : Nat → Int32} {Jd : Nat → Option Nat} {G : Nat → LC} {sl fu fsr : Nat → Int32} {r1 b1 kp' r2 s2 nu' : Int32} {g1 fw' g2 : Nat → Int32} {Bn' Bl' Bf' Bi' Bh' Bo' : Int32} {Ba' Bb' Bc' : Nat → Int32} {Bd' : Nat → Option Nat} (k1 : (r1, b1, g1, kp', Bn', Bl', Bf', Bi', Bh', Bo', Ba', Bb', Bc', Bd') = E_w_backX x rb frf dr kp fik Bn Bl Bf Bi Bh Bo Ba Bb Bc Bd In Il If Ii Ih Io Ia Ib Ic Id Jn Jl Jf Ji Jh Jo Ja Jb Jc Jd) (k2 : (r2, s2, nu', fw', g2) = E_v_backX x thr sta nu fw fi fk frm) (q : RfR rb sta frf frm) (hk : KF fik fk) (h : TQ 0 Bn Bl Bf Bi Ba Bb Bd G fw) (hi : fik 0 ≠ 0 → TQ 0 In Il If Ii Ia Ib Id G fi) (hj : fik 1 ≠ 0 → TQ 5500 Jn Jl Jf Ji Ja Jb Jd G fi) (hz2 : 0 ≤ Il.toInt ∧ Il.toInt ≤ 6) (hz3 : 0 ≤ Jl.toInt ∧ Jl.toInt ≤ 6) (hr : HR Bn dr kp nu sl fu fsr fw) : RfR b1 s2 g1 g2 ∧ TQ 0 Bn' Bl' Bf' Bi' Ba' Bb' Bd' G fw' ∧ HR Bn' dr kp' nu' sl fu fsr fw' := by
  simp only [E_w_backX, Lt, Lt2] at k1
  rw [E_v_backX.eq_def] at k2
  by_cases c0 : x.toInt < 0
  · rw [if_pos c0] at k1 k2
    rw [ifw_n (by have z : (0 : Int32).toInt = 0 := rfl; omega)] at k1
    rw [Lt_b, Lt_b, ifi_n (by have z : (0 : Int64).toInt = 0 := rfl; omega)] at k2
    simp only [Lt2, Prod.mk.injEq] at k1 k2
    obtain ⟨-, e_b, e_g, e_p, rfl, rfl, rfl, rfl, -, -, rfl, rfl, -, rfl⟩ := k1
    obtain ⟨-, d2, d3, d4, d5⟩ := k2
    rw [e_b, e_g, e_p, d2, d3, d4, d5]
    exact ⟨(q.no (by decide)).2.2, h, hr⟩
  rw [if_neg c0] at k1 k2
  by_cases c1 : x.toInt = 0
  · rw [if_pos c1] at k1 k2
    rw [ifw_p (by decide)] at k1
    rw [Lt_b, if_pos (show E_v_in 0 0 1 = 1 by decide)] at k2
    have ek : fik (0 : Int32).toNatClampNeg = fk (0 : Int32).toNatClampNeg := Int32.toInt_inj.mp hk.1
    rw [Lt_b, ← ek] at k2
    by_cases g : fik (0 : Int32).toNatClampNeg = 0
    · rw [if_pos g] at k1 k2
      simp only [Lt2, Prod.mk.injEq] at k1 k2
      obtain ⟨-, e_b, e_g, e_p, rfl, rfl, rfl, rfl, -, -, rfl, rfl, -, rfl⟩ := k1
      obtain ⟨-, d2, d3, d4, d5⟩ := k2
      rw [e_b, e_g, e_p, d2, d3, d4, d5]
      exact ⟨(q.no (by decide)).2.2, h, hr⟩
    · rw [if_neg g] at k1 k2
      generalize hN : (5501 - (0 : Int32).toInt : Int).toNat + 1 = N at k2
      have w := bak0_in (sta := sta) (fi := fi) (frm := frm) (fun _ _ => ((0, 0, 0, fun _ => 0, fun _ => 0) : Int32 × Int32 × Int32 × (Nat → Int32) × (Nat → Int32))) N 0 fw (by decide) (by rw [← hN]; exact Nat.lt_succ_self _) CpV.base
      have y := bak0_s (sta := sta) (fi := fi) (frm := frm) (fun _ _ => ((0, 0, 0, fun _ => 0, fun _ => 0) : Int32 × Int32 × Int32 × (Nat → Int32) × (Nat → Int32))) N 0 fw (by decide) (by rw [← hN]; exact Nat.lt_succ_self _)
      rw [← k2] at w y
      obtain ⟨y1, y2, y3⟩ := y
      dsimp only at w y1 y2 y3
      simp only [Prod.mk.injEq] at k1
      obtain ⟨-, e_b, e_g, e_p, rfl, rfl, rfl, rfl, -, -, e1, e2, -, e4⟩ := k1
      obtain ⟨m1, -, m2⟩ := become_at (An := Bn) (Al := Bl) (Af := Bf) (Ai := Bi) (Ah := Bh) (Ao := Bo) (Aa := Ba) (Ab := Bb) (Ac := Bc) (Ad := Bd) (Bn := Bn') (Bl := Bl') (Bf := Bf') (Bi := Bi') (Bh := Ih) (Bo := Io) (Ba := Ia) (Bb := Ib) (Bc := Ic) (Bd := Id)
      have m3 := become_laws (An := Bn) (Al := Bl) (Af := Bf) (Ai := Bi) (Ah := Bh) (Ao := Bo) (Aa := Ba) (Ab := Bb) (Ac := Bc) (Ad := Bd) (Bn := Bn') (Bl := Bl') (Bf := Bf') (Bi := Bi') (Bh := Ih) (Bo := Io) (Ba := Ia) (Bb := Ib) (Bc := Ic) (Bd := Id)
      rw [← e1] at m1
      rw [← e2] at m2
      rw [← e4] at m3
      rw [e_b, e_g, e_p, y1, y2, y3]
      exact ⟨q.ok, (hi g).move hz2 (fun j hj => by have q9 := w j (by omega); simpa only [Nat.zero_add] using q9) m1 m2 m3, hr.clear⟩
  rw [if_neg c1] at k1 k2
  by_cases c2 : x.toInt = 1
  · rw [if_pos c2] at k1 k2
    rw [ifw_p (by decide)] at k1
    rw [Lt_b, if_pos (show E_v_in 1 0 1 = 1 by decide)] at k2
    have ek : fik (1 : Int32).toNatClampNeg = fk (1 : Int32).toNatClampNeg := Int32.toInt_inj.mp hk.2
    rw [Lt_b, ← ek] at k2
    by_cases g : fik (1 : Int32).toNatClampNeg = 0
    · rw [if_pos g] at k1 k2
      simp only [Lt2, Prod.mk.injEq] at k1 k2
      obtain ⟨-, e_b, e_g, e_p, rfl, rfl, rfl, rfl, -, -, rfl, rfl, -, rfl⟩ := k1
      obtain ⟨-, d2, d3, d4, d5⟩ := k2
      rw [e_b, e_g, e_p, d2, d3, d4, d5]
      exact ⟨(q.no (by decide)).2.2, h, hr⟩
    · rw [if_neg g] at k1 k2
      generalize hN : (5501 - (0 : Int32).toInt : Int).toNat + 1 = N at k2
      have w := bak1_in (sta := sta) (fi := fi) (frm := frm) (fun _ _ => ((0, 0, 0, fun _ => 0, fun _ => 0) : Int32 × Int32 × Int32 × (Nat → Int32) × (Nat → Int32))) N 0 fw (by decide) (by rw [← hN]; exact Nat.lt_succ_self _) CpV.base
      have y := bak1_s (sta := sta) (fi := fi) (frm := frm) (fun _ _ => ((0, 0, 0, fun _ => 0, fun _ => 0) : Int32 × Int32 × Int32 × (Nat → Int32) × (Nat → Int32))) N 0 fw (by decide) (by rw [← hN]; exact Nat.lt_succ_self _)
      rw [← k2] at w y
      obtain ⟨y1, y2, y3⟩ := y
      dsimp only at w y1 y2 y3
      simp only [Prod.mk.injEq] at k1
      obtain ⟨-, e_b, e_g, e_p, rfl, rfl, rfl, rfl, -, -, e1, e2, -, e4⟩ := k1
      obtain ⟨m1, -, m2⟩ := become_at (An := Bn) (Al := Bl) (Af := Bf) (Ai := Bi) (Ah := Bh) (Ao := Bo) (Aa := Ba) (Ab := Bb) (Ac := Bc) (Ad := Bd) (Bn := Bn') (Bl := Bl') (Bf := Bf') (Bi := Bi') (Bh := Jh) (Bo := Jo) (Ba := Ja) (Bb := Jb) (Bc := Jc) (Bd := Jd)
      have m3 := become_laws (An := Bn) (Al := Bl) (Af := Bf) (Ai := Bi) (Ah := Bh) (Ao := Bo) (Aa := Ba) (Ab := Bb) (Ac := Bc) (Ad := Bd) (Bn := Bn') (Bl := Bl') (Bf := Bf') (Bi := Bi') (Bh := Jh) (Bo := Jo) (Ba := Ja) (Bb := Jb) (Bc := Jc) (Bd := Jd)
      rw [← e1] at m1
      rw [← e2] at m2
      rw [← e4] at m3
      rw [e_b, e_g, e_p, y1, y2, y3]
      exact ⟨q.ok, (hj g).move hz3 (fun j hj => by have q9 := w j (by omega); simpa only [Nat.zero_add] using q9) m1 m2 m3, hr.clear⟩
  rw [if_neg c2] at k1 k2
  rw [ifw_n (by have z : (1 : Int32).toInt = 1 := rfl; omega)] at k1
  rw [Lt_b, Lt_b, ifi_n (by have z : (1 : Int64).toInt = 1 := rfl; omega)] at k2
  simp only [Lt2, Prod.mk.injEq] at k1 k2
  obtain ⟨-, e_b, e_g, e_p, rfl, rfl, rfl, rfl, -, -, rfl, rfl, -, rfl⟩ := k1
  obtain ⟨-, d2, d3, d4, d5⟩ := k2
  rw [e_b, e_g, e_p, d2, d3, d4, d5]
  exact ⟨(q.no (by decide)).2.2, h, hr⟩
end
section
/-! law(): what it leaves of the towns -/
theorem TQ.pool {b : Nat} {n lt nf fi : Int32} {f1 f2 fw : Nat → Int32} {fl : Nat → Option Nat} {G G2 : Nat → LC} {L : Nat → Prop} (h : TQ b n lt nf fi f1 f2 fl G fw) (hL : InL L fl) (hG : ∀ q, L q → G2 q = G q) : TQ b n lt nf fi f1 f2 fl G2 fw := by
  obtain ⟨a, b1, b2, b3, b4, b5⟩ := h
  refine ⟨a, b1, b2, b3, b4, fun i hi => ?_⟩
  obtain ⟨q, q1, q2⟩ := b5 i hi
  have hq : L q := by
    have hz := hL i
    rw [q1] at hz
    exact hz
  exact ⟨q, q1, by rw [hG q hq]; exact q2⟩
theorem TQ.enact {n lt nf fi : Int32} {f1 f2 fw fw' : Nat → Int32} {fl : Nat → Option Nat} {G : Nat → LC} {t q : Nat} (h : TQ 0 n lt nf fi f1 f2 fl G fw) (hl : lt = nI t) (h6 : t < 6) (e2 : fw' 2 = nI (t + 1)) (e : ∀ j, j ≠ 2 → j < 100 + 900 * t ∨ 100 + 900 * t + 900 ≤ j → fw' j = fw j) (hk : KLaw (G q) (ktx fw' (100 + 900 * t))) : TQ 0 n (nI (t + 1)) nf fi f1 f2 (va_up fl lt.toNatClampNeg (some q)) G fw' := by
  subst hl
  obtain ⟨a, b1, b2, b3, b4, b5⟩ := h
  have z : ∀ j, j ≠ 2 → j < 100 + 900 * t → fw' (0 + j) = fw (0 + j) := fun j h1 h2 => by rw [Nat.zero_add]; exact e j h1 (Or.inl h2)
  have t1 : (nI t).toInt = (t : Int) := nI_toInt (by omega)
  have t2 : (nI (t + 1)).toInt = ((t + 1 : Nat) : Int) := nI_toInt (by omega)
  have tc : (nI t).toNatClampNeg = t := kn_cl (by omega)
  refine ⟨a.ext (fun _ _ => rfl) (fun _ _ => rfl) (fun j h1 h2 => z j (by omega) (by omega)), by rw [Nat.zero_add]; exact e2.symm, b2.trans (z 3 (by omega) (by omega)).symm, ⟨b3.1, by omega⟩, fun j hj => by rw [z _ (by omega) (by omega), z _ (by omega) (by omega)]; exact b4 j hj, fun i hi => ?_⟩
  by_cases c : i = t
  · subst c
    refine ⟨q, ?_, ?_⟩
    · rw [tc]; exact if_pos rfl
    · rw [Nat.zero_add]; exact hk
  · obtain ⟨y, y1, y2⟩ := b5 i (by omega)
    refine ⟨y, ?_, y2.ext (fun j hj => ?_)⟩
    · rw [tc]; exact (if_neg c).trans y1
    · unfold ktx
      rw [Nat.add_assoc, z _ (by omega) (by omega)]
theorem TQ.over {b : Nat} {n lt nf fi : Int32} {f1 f2 fw : Nat → Int32} {fl fl' : Nat → Option Nat} {G : Nat → LC} (h : TQ b n lt nf fi f1 f2 fl G fw) (e : ∀ i : Nat, (i : Int) < lt.toInt → fl' i = fl i) : TQ b n lt nf fi f1 f2 fl' G fw := by
  obtain ⟨a, b1, b2, b3, b4, b5⟩ := h
  refine ⟨a, b1, b2, b3, b4, fun i hi => ?_⟩
  obtain ⟨q, q1, q2⟩ := b5 i hi
  exact ⟨q, (e i hi).trans q1, q2⟩
theorem rq_law0 {L : Nat} {fb ft fw frm frf fh fc fo fa fp fq fcl : Nat → Int32} {wd we fhd : Nat → Int64} {fd : Nat → Option Nat} {rb lw pa fl tf tt ti tu scl us lt thr sta fr to so fau bd ncl nc nl pi opn : Int32} {wo : Int64} {r1 b1 lw' pa' fl' tf' tt' ti' tu' scl' us' lt' r2 s2 fr' to' so' fau' bd' ncl' nc' nl' pi' op' : Int32} {wo' : Int64} {g1 fh' fc' fo' fa' fp' fq' fcl' fw' g2 : Nat → Int32} (k1 : (r1, b1, g1, lw', pa', fl', tf', tt', ti', tu', scl', us', fh', fc', lt') = E_w_law rb frf lw pa fl (nI L) tf tt ti tu fb scl us fh fc lt fd) (k2 : (r2, s2, fr', to', so', wo', fau', bd', ncl', nc', nl', pi', op', fo', fa', fp', fq', fcl', fw', g2) = E_v_law thr sta (nI L) fr to so wo fau bd ncl nc nl pi opn ft fo fa fp fq wd we fcl fhd fw frm) (hR : KRy L fb ft wd we) (h0 : ∀ j, j < L → 0 ≤ (fb j).toInt) (hh : ∀ j, j < 4 → (fhd j).toInt = kwh 0 j) (hl : fw 2 = lt) (h6 : 0 ≤ lt.toInt ∧ lt.toInt ≤ 6) (q : RfR rb sta frf frm) : RfR b1 s2 g1 g2 ∧ (b1.toInt < 0 → lt' = lt ∧ fw' = fw) := by
  have z6 : (6 : Int32).toInt = 6 := rfl
  obtain ⟨t, ht, hz⟩ : ∃ t : Nat, lt = nI t ∧ (t : Int) = lt.toInt := ⟨lt.toInt.toNat, i_ofN rfl h6.1, by omega⟩
  by_cases c : lt < 6
  · have ct := il_iff.mp c
    have n6 : fw 2 ≠ 6 := fun q => by rw [hl] at q; rw [q] at ct; omega
    have kr := reads_law (lw := lw) (pa := pa) (fl := fl) (tf := tf) (tt := tt) (ti := ti) (tu := tu) (scl := scl) (us := us) (fh := fh) (fc := fc) (thr := thr) (sta := sta) (fr := fr) (to := to) (so := so) (wo := wo) (fau := fau) (bd := bd) (ncl := ncl) (nc := nc) (nl := nl) (pi := pi) (opn := opn) (fo := fo) (fa := fa) (fp := fp) (fq := fq) (fcl := fcl) (frf := frm) hR h0 hh n6
    rw [← k2] at kr
    rw [E_w_law.eq_def, if_pos c] at k1
    generalize E_w_reads 1 lw pa fl (nI L) tf tt ti tu fb scl us fh fc = r at k1 kr
    rcases kr with ⟨n1, y, a, b, c', e, m1, m2, m3, m4, m5, x1, x2, x3, x4, x5, n2, eqx⟩ | ⟨n, us1, nc1, nl1, t1, t2, t3, t4, a, b, e, pi1, op1, fh1, fc1, fo1, fa1, fp1, fq1, fcl1, e1, e2, e3, e4⟩
    · simp only [Lt2] at k1
      rw [if_pos n1] at k1
      simp only [Prod.mk.injEq] at k1 eqx
      obtain ⟨a1, a2, a3, _, _, a6, _, _, _, _, _, _, _, _, a15⟩ := k1
      obtain ⟨b1', b2', _, _, _, _, b7, _, _, _, _, _, _, _, _, _, _, _, b19, b20⟩ := eqx
      rw [a2, a3, b2', b20]
      exact ⟨(q.no (by decide)).2.2, fun _ => ⟨a15, b19⟩⟩
    · subst e1
      obtain ⟨fw1, d1, d2, d3, d4, d5, d6⟩ := racc_at (sta := sta) (a := a) (b := b) (fau := -1) (pi := pi1) (op := op1) (e := e) (nl := nI nl1) (frf := frm) (fo := fo1) (fa := fa1) (fp := fp1) (fq := fq1) (fcl := fcl1) (hl.trans ht) (show t < 6 by omega) e3.2.1 e3.2.2.2.1
      rw [d1, tell_p (by rw [nI_toInt (by omega)]; omega)] at e2
      rw [E_w_enact.eq_def, if_pos c] at k1
      simp only [Lt2, Lt] at k1
      rw [if_neg (show ¬ (1 : Int32) = 0 by decide), E_w_accept.eq_def, ht, kn_p1 (by omega), kn_m1 (by omega) (by omega), show t + 1 - 1 = t by omega] at k1
      simp only [Prod.mk.injEq] at k1 e2
      obtain ⟨a1, a2, a3, _, _, a6, _, _, _, _, a11, a12, a13, a14, a15⟩ := k1
      obtain ⟨b1', b2', _, _, _, _, b7, _, _, _, _, _, _, _, _, _, _, _, b19, b20⟩ := e2
      rw [a2, a3, b2', b20]
      exact ⟨q.ok, fun g => absurd g (by decide)⟩
  · have ct : ¬ lt.toInt < (6 : Int32).toInt := fun q => c (il_iff.mpr q)
    have e6 : fw (2 : Int32).toNatClampNeg = 6 := by
      show fw 2 = 6
      rw [hl]; exact Int32.toInt_inj.mp (by omega)
    rw [E_w_law.eq_def, if_neg c] at k1
    rw [E_v_law.eq_def, Lt_b, if_pos e6] at k2
    simp only [Lt2] at k1 k2
    simp only [Prod.mk.injEq] at k1 k2
    obtain ⟨a1, a2, a3, _, _, a6, _, _, _, _, _, _, _, _, a15⟩ := k1
    obtain ⟨b1', b2', _, _, _, _, b7, _, _, _, _, _, _, _, _, _, _, _, b19, b20⟩ := k2
    rw [a2, a3, b2', b20]
    exact ⟨(q.no (by decide)).2.2, fun _ => ⟨a15, b19⟩⟩
theorem rq_law {M : Nat → Prop} {n nf fi : Int32} {f1 f2 : Nat → Int32} {fd' : Nat → Option Nat} {P : Nat → Prop} {G G2 : Nat → LC} {L : Nat} {fb ft fw frm frf fh fc fo fa fp fq fcl : Nat → Int32} {wd we fhd : Nat → Int64} {fd : Nat → Option Nat} {rb lw pa fl tf tt ti tu scl us lt thr sta fr to so fau bd ncl nc nl pi opn : Int32} {wo : Int64} {r1 b1 lw' pa' fl' tf' tt' ti' tu' scl' us' lt' r2 s2 fr' to' so' fau' bd' ncl' nc' nl' pi' op' : Int32} {wo' : Int64} {g1 fh' fc' fo' fa' fp' fq' fcl' fw' g2 : Nat → Int32} (k1 : (r1, b1, g1, lw', pa', fl', tf', tt', ti', tu', scl', us', fh', fc', lt') = E_w_law rb frf lw pa fl (nI L) tf tt ti tu fb scl us fh fc lt fd) (k2 : (r2, s2, fr', to', so', wo', fau', bd', ncl', nc', nl', pi', op', fo', fa', fp', fq', fcl', fw', g2) = E_v_law thr sta (nI L) fr to so wo fau bd ncl nc nl pi opn ft fo fa fp fq wd we fcl fhd fw frm) (hR : KRy L fb ft wd we) (h0 : ∀ j, j < L → 0 ≤ (fb j).toInt) (hh : ∀ j, j < 4 → (fhd j).toInt = kwh 0 j) (h6 : 0 ≤ lt.toInt ∧ lt.toInt ≤ 6) (hf : fl = fau) (q : RfR rb sta frf frm) (hT : TQ 0 n lt nf fi f1 f2 fd G fw) (hL : InL P fd) (hMd : (∀ q, P q → M q ∧ G2 q = G q) ∧ ((M = P ∧ G2 = G ∧ fd' = fd ∧ b1.toInt < 0) ∨ ∃ q, M = (fun z => P z ∨ z = q) ∧ fd' = va_up fd lt.toNatClampNeg (some q) ∧ TrX scl' us' fh' fc' (G2 q))) : r1 = r2 ∧ fl' = fau' ∧ RfR b1 s2 g1 g2 ∧ TQ 0 n lt' nf fi f1 f2 fd' G2 fw' ∧ ∀ j, j ≠ 2 → j < 100 → fw' j = fw j := by
  have hl : fw 2 = lt := by
    have hz := hT.2.1
    rw [Nat.zero_add] at hz
    exact hz.symm
  obtain ⟨w1, w2, w3, w4, w5⟩ := rel_law k1 k2 hR h0 hh hl h6 hf
  obtain ⟨y1, y2⟩ := rq_law0 k1 k2 hR h0 hh hl h6 q
  refine ⟨w1, w3, y1, ?_, w4⟩
  have hT2 := hT.pool (G2 := G2) hL (fun x hx => (hMd.1 x hx).2)
  rcases hMd.2 with ⟨-, -, d1, d2⟩ | ⟨x, -, d1, d2⟩
  · obtain ⟨v1, v2⟩ := y2 d2
    rw [v1, v2, d1]; exact hT2
  · rcases w5 with ⟨v1, v2⟩ | ⟨t, v1, v2, v3, v4, v5, v6⟩
    · rw [v1, v2, d1]
      exact hT2.over (fun i hi => if_neg (by rw [toInt_n h6.1]; omega))
    · rw [v3, d1]
      exact hT2.enact v2 v1 (by rw [← v3]; exact w2) v5 (v6 _ d2)
end
section
/-! what compare and days leave of the row: all of it -/
noncomputable def Kp (f g : Nat → Int32) : Prop := ∀ j, j < 4 ∨ 35 ≤ j → g j = f j
theorem Kp.self {f : Nat → Int32} : Kp f f := fun _ _ => rfl
theorem Kp.up {f g : Nat → Int32} (a : Kp f g) {k : Nat} {x : Int32} (hk : 4 ≤ k ∧ k < 35) : Kp f (upd g k x) := fun j hj => by rw [upd_n (by omega)]; exact a j hj
theorem Kp.goOn {f g : Nat → Int32} (a : Kp f g) : Kp f (E_v_goOn g) := by
  intro j hj
  simp only [E_v_goOn, Lt]
  have z4 : (4 : Int32).toNatClampNeg = 4 := rfl
  have z5 : (5 : Int32).toNatClampNeg = 5 := rfl
  rw [z4, z5]
  split
  · rw [upd_n (by omega), upd_n (by omega), upd_n (by omega)]; exact a j hj
  · rw [upd_n (by omega)]; exact a j hj
theorem Kp.flare {x y lw bro : Int32} {val sm : Int64} {f g : Nat → Int32} {fe frs : Nat → Int64} (a : Kp f g) (hy : 0 ≤ y.toInt ∧ y.toInt ≤ 8) : Kp f (E_v_flare x y lw bro val sm g fe frs).2.2.2.2.1 := by
  simp only [E_v_flare, Lt, Lt2]
  rw [add_c (k := 11) rfl (by omega) (by omega)]
  exact a.up (by omega)
theorem Kp.stokeIt {x lw bro : Int32} {val sm : Int64} {f g : Nat → Int32} {fe frs : Nat → Int64} (a : Kp f g) (hx : 0 ≤ x.toInt ∧ x.toInt ≤ 8) : Kp f (E_v_stokeIt x lw bro val sm g fe frs).2.2.2.2.1 := by
  simp only [E_v_stokeIt, Lt, Lt2]
  rw [add_c (k := 19) rfl (by omega) (by omega)]
  exact (Kp.flare a hx).up (by omega)
theorem n_le {f0 v : Int32} (e : ¬ f0 ≤ v) : v.toInt < f0.toInt := by
  have : ¬ f0.toInt ≤ v.toInt := fun q => e (ie_iff.mpr q)
  omega
theorem pas_69f {f0 : Nat → Int32} (hn : 0 ≤ (f0 0).toInt ∧ (f0 0).toInt ≤ 8) {r a b : Int32} {c d : Int64} {fb : Nat → Int32} {p q : Nat → Int64} (z : Int32 → (Nat → Int32) → (Int32 × Int32 × Int32 × Int64 × Int64 × (Nat → Int32) × (Nat → Int64) × (Nat → Int64) × (Nat → Int32))) : ∀ (k : Nat) (v : Int32) (g : Nat → Int32), 0 ≤ v.toInt ∧ v.toInt ≤ 8 → (9 - v.toInt).toNat < k → Kp f0 g → Kp f0 (Lp (E_v_passIt_l69 r a b c d fb p q) z k v g).2.2.2.2.2.1 := by
  intro k
  induction k with
  | zero => intro v g hv hk; exact absurd hk (Nat.not_lt_zero _)
  | succ k ih =>
    intro v g hv hk h
    rw [Lp_s]
    simp only [E_v_passIt_l69, Lt]
    have e0 : g (0 : Int32).toNatClampNeg = f0 0 := h 0 (by omega)
    rw [e0]
    by_cases e : f0 0 ≤ v
    · rw [if_pos e]
      exact h.goOn
    · have e2 := n_le e
      have hi := inc_o (a := v) (by omega)
      rw [if_neg e, add_c (k := 27) rfl (by omega) (by omega), add_c (k := 11) rfl (by omega) (by omega)]
      exact ih _ _ (by omega) (by omega) ((h.up (by omega)).up (by omega))
theorem pas_34f {f0 g : Nat → Int32} (hn : 0 ≤ (f0 0).toInt ∧ (f0 0).toInt ≤ 8) (h : Kp f0 g) {r : Int32} (z : Int32 → Int32 → Int32 → Int64 → Int64 → (Nat → Int32) → (Nat → Int64) → (Nat → Int64) → (Int32 × Int32 × Int32 × Int64 × Int64 × (Nat → Int32) × (Nat → Int64) × (Nat → Int64) × (Nat → Int32))) : ∀ (k : Nat) (v a b : Int32) (c d : Int64) (fb : Nat → Int32) (p q : Nat → Int64), 0 ≤ v.toInt ∧ v.toInt ≤ 8 → (9 - v.toInt).toNat < k → Kp f0 (Lp (E_v_passIt_l34 r g) z k v a b c d fb p q).2.2.2.2.2.1 := by
  intro k
  induction k with
  | zero => intro v a b c d fb p q hv hk; exact absurd hk (Nat.not_lt_zero _)
  | succ k ih =>
    intro v a b c d fb p q hv hk
    rw [Lp_s, E_v_passIt_l34.eq_def, Lt_b]
    have e0 : g (0 : Int32).toNatClampNeg = f0 0 := h 0 (by omega)
    rw [e0]
    by_cases e : f0 0 ≤ v
    · rw [if_pos e]
      exact pas_69f hn _ _ _ _ (by decide) (by decide) h
    · have e2 := n_le e
      have hi := inc_o (a := v) (by omega)
      rw [if_neg e]
      simp only [Lt, Lt2]
      exact ih _ _ _ _ _ _ _ _ (by omega) (by omega)
theorem Kp.passIt {f g : Nat → Int32} (hn : 0 ≤ (f 0).toInt ∧ (f 0).toInt ≤ 8) (h : Kp f g) {a b : Int32} {c d : Int64} {fb : Nat → Int32} {p q : Nat → Int64} : Kp f (E_v_passIt a b c d g p q fb).2.2.2.2.2.1 := by
  rw [E_v_passIt.eq_def, Lt_b, Lt_b, Lt2_b, Lt2_b, Lt2_b, Lt2_b, Lt2_b, Lt2_b, Lt_b, Lt_b, Lt_b, Lt_b]
  exact pas_34f hn (h.up (by decide)) _ _ _ _ _ _ _ _ _ _ (by decide) (by decide)
theorem n16 : (16 : Int32) = nI 16 := nI_lit rfl (by omega)
/-- what was put aside comes back -/
theorem Kp.back {fw g fu : Nat → Int32} (h : Kp fw g) : (∀ j, E_v_putBack 16 g (E_v_keepAll 16 fw fu) j = fw j) ∧ ∀ j, j < 496 → E_v_keepAll 16 fw fu j = fu j := by
  rw [n16]
  refine ⟨fun j => ?_, fun j hj => ?_⟩
  · rw [putBack_at (by omega)]
    by_cases c : 4 ≤ j ∧ j < 35
    · rw [if_pos c, keepAll_at (by omega), if_pos (by omega)]
      exact congrArg fw (by omega)
    · rw [if_neg c]; exact h j (by omega)
  · rw [keepAll_at (by omega), if_neg (by omega)]
noncomputable abbrev CP9 : Type := Int32 × Int32 × Int32 × Int64 × Int64 × (Nat → Int32) × (Nat → Int64) × (Nat → Int64) × (Nat → Int32)
noncomputable abbrev CPr : Type := Int32 → Int32 → Int32 → Int32 → Int64 → Int64 → (Nat → Int64) → (Nat → Int64) → (Nat → Int32) → CP9
noncomputable def CQ (fw fu : Nat → Int32) (T : CP9) : Prop := (∀ j, T.2.2.2.2.2.1 j = fw j) ∧ ∀ j, j < 496 → T.2.2.2.2.2.2.2.2 j = fu j
theorem cmp_86f {fw : Nat → Int32} {Q : CP9 → Prop} {rc : CPr} {x v : Int32} (hv : 0 ≤ v.toInt ∧ v.toInt ≤ 8) (hrec : ∀ m a b c d p q g, Kp fw g → Q (rc (v + Int32.ofInt 1) m a b c d p q g)) : ∀ m a b c d p q g, Kp fw g → Q (E_v_compare_j86 x v rc m a b c d p q g) := by
  intro m a b c d p q g h
  simp only [E_v_compare_j86, Lt, Lt2]
  rw [add_c (k := 11) rfl (by omega) (by omega)]
  exact hrec _ _ _ _ _ _ _ _ (h.up (by omega))
theorem cmp_47f {fw : Nat → Int32} (hn : 0 ≤ (fw 0).toInt ∧ (fw 0).toInt ≤ 8) {Q : CP9 → Prop} {rc : CPr} {x v0 : Int32} (hrec : ∀ m a b c d p q g, Kp fw g → Q (rc (v0 + Int32.ofInt 1) m a b c d p q g)) (z : CPr) : ∀ (k : Nat) (v m a b : Int32) (c d : Int64) (p q : Nat → Int64) (g : Nat → Int32), 0 ≤ v.toInt ∧ v.toInt ≤ 8 → (9 - v.toInt).toNat < k → Kp fw g → Q (Lp (E_v_compare_l47 x v0 rc) z k v m a b c d p q g) := by
  intro k
  induction k with
  | zero => intro v m a b c d p q g hv hk; exact absurd hk (Nat.not_lt_zero _)
  | succ k ih =>
    intro v m a b c d p q g hv hk h
    rw [Lp_s, E_v_compare_l47.eq_def, Lt_b]
    have e0 : g (0 : Int32).toNatClampNeg = fw 0 := h 0 (by omega)
    rw [e0]
    by_cases e : fw 0 ≤ v
    · rw [if_pos e, Lt_b, Lt_b]
      exact hrec _ _ _ _ _ _ _ _ h.goOn
    · have e2 := n_le e
      have hi := inc_o (a := v) (by omega)
      rw [if_neg e, Lt_b, Lt_b, Lt_b]
      have hj := cmp_86f (x := x) (rc := Lp (E_v_compare_l47 x v0 rc) z k) (Q := Q) hv (fun m a b c d p q g hg => ih _ _ _ _ _ _ _ _ _ (by omega) (by omega) hg)
      by_cases e3 : E_v_term 2 g ≤ g (11 + v).toNatClampNeg
      · rw [if_pos e3]; exact hj _ _ _ _ _ _ _ _ h
      · rw [if_neg e3, Lt2_b, Lt2_b, Lt2_b, Lt2_b, Lt2_b, Lt2_b, Lt_b]
        exact hj _ _ _ _ _ _ _ _ (h.flare hv)
theorem cmp_38f {fw fu : Nat → Int32} (hn : 0 ≤ (fw 0).toInt ∧ (fw 0).toInt ≤ 8) {x y : Int32} (hy : y.toInt ≤ 60) (z : CPr) : ∀ (k : Nat) (v m a b : Int32) (c d : Int64) (p q : Nat → Int64) (g : Nat → Int32), 0 ≤ v.toInt ∧ v.toInt ≤ 60 → (61 - v.toInt).toNat < k → Kp fw g → CQ fw fu (Lp (E_v_compare_l38 x y (E_v_keepAll 16 fw fu)) z k v m a b c d p q g) := by
  intro k
  induction k with
  | zero => intro v m a b c d p q g hv hk; exact absurd hk (Nat.not_lt_zero _)
  | succ k ih =>
    intro v m a b c d p q g hv hk h
    rw [Lp_s, E_v_compare_l38.eq_def]
    by_cases e : y ≤ v
    · rw [if_pos e, Lt_b]
      unfold CQ
      dsimp only
      exact h.back
    · have e2 := n_le e
      have hi := inc_o (a := v) (by omega)
      rw [if_neg e]
      exact cmp_47f (Q := CQ fw fu) (rc := Lp (E_v_compare_l38 x y (E_v_keepAll 16 fw fu)) z k) (x := x) (v0 := v) hn (fun m a b c d p q g hg => ih _ _ _ _ _ _ _ _ _ (by omega) (by omega) hg) _ _ _ _ _ _ _ _ _ _ _ (by decide) (by decide) h
theorem frm_compare {x y thr lw bro : Int32} {val sm : Int64} {fw fu : Nat → Int32} {fe frs : Nat → Int64} {r2 lw' bro' : Int32} {val' sm' : Int64} {fw' fu' : Nat → Int32} {fe' frs' : Nat → Int64} (k2 : (r2, lw', bro', val', sm', fw', fe', frs', fu') = E_v_compare x y thr lw bro val sm fw fe frs fu) (hn : 0 ≤ (fw 0).toInt ∧ (fw 0).toInt ≤ 8) : (∀ j, fw' j = fw j) ∧ ∀ j, j < 496 → fu' j = fu j := by
  have q : CQ fw fu (E_v_compare x y thr lw bro val sm fw fe frs fu) := by
    have qj : CQ fw fu (E_v_compare_j25 lw bro val sm fw fe frs fu) := ⟨fun _ => rfl, fun _ _ => rfl⟩
    rw [E_v_compare.eq_def, Lt_b]
    by_cases c1 : E_v_isLaw x fw = 1
    · rw [if_pos c1, Lt_b, Lt_b]
      by_cases c2 : (1 : Int64).toInt ≤ y.toInt ∧ y.toInt ≤ (60 : Int64).toInt
      · rw [ifi_p c2, Lt_b]
        have c3 : y.toInt ≤ 60 := c2.2
        exact cmp_38f hn c3 _ _ _ _ _ _ _ _ _ _ _ (by decide) (by decide) Kp.self
      · rw [ifi_n c2]; exact qj
    · rw [if_neg c1]; exact qj
  rw [← k2] at q
  exact q
noncomputable abbrev DY16 : Type := Int32 × Int32 × Int32 × Int32 × Int64 × Int64 × Int64 × Int32 × Int32 × (Nat → Int32) × (Nat → Int64) × (Nat → Int64) × (Nat → Int32) × (Nat → Int32) × (Nat → Int32) × (Nat → Int32)
noncomputable abbrev DYr : Type := Int32 → Int32 → Int32 → Int32 → Int64 → Int64 → Int64 → (Nat → Int64) → (Nat → Int64) → (Nat → Int32) → (Nat → Int32) → DY16
noncomputable def DQ (fw fu frf : Nat → Int32) (T : DY16) : Prop := T.2.1 = 0 ∧ (∀ j, T.2.2.2.2.2.2.2.2.2.1 j = fw j) ∧ (∀ j, j < 496 → T.2.2.2.2.2.2.2.2.2.2.2.2.1 j = fu j) ∧ T.2.2.2.2.2.2.2.2.2.2.2.2.2.2.2 = frf
theorem day_146f {sta x0 r a b n : Int32} {c d e : Int64} {fe frs : Nat → Int64} {fb g fw fu frf : Nat → Int32} (h : Kp fw g) (hn : 0 ≤ n.toInt ∧ n.toInt ≤ 8) (hr : 0 ≤ r.toInt) (z : Int32 → (Nat → Int32) → DY16) : ∀ (k : Nat) (v : Int32) (fd : Nat → Int32), 0 ≤ v.toInt ∧ v.toInt ≤ 8 → (9 - v.toInt).toNat < k → DQ fw fu frf (Lp (E_v_days_l146 sta frf (E_v_keepAll 16 fw fu) x0 r a b c d e fe frs fb g n) z k v fd) := by
  intro k
  induction k with
  | zero => intro v fd hv hk; exact absurd hk (Nat.not_lt_zero _)
  | succ k ih =>
    intro v fd hv hk
    rw [Lp_s, E_v_days_l146.eq_def]
    by_cases e : n ≤ v
    · rw [if_pos e, Lt_b, Lt_b, Lt_b, tell_p hr, Lt2_b, Lt2_b]
      unfold DQ
      dsimp only
      exact ⟨rfl, h.back.1, h.back.2, rfl⟩
    · have e2 := n_le e
      have hi := inc_o (a := v) (by omega)
      rw [if_neg e]
      dsimp only [Lt]
      exact ih _ _ (by omega) (by omega)
theorem day_133f {sta x0 r a b : Int32} {c d e : Int64} {fe frs : Nat → Int64} {fb fd g fw fu frf : Nat → Int32} (h : Kp fw g) (hn : 0 ≤ (fw 0).toInt ∧ (fw 0).toInt ≤ 8) (hr : 0 ≤ r.toInt) : DQ fw fu frf (E_v_days_j133 sta fd frf (E_v_keepAll 16 fw fu) x0 r a b c d e fe frs fb g) := by
  rw [E_v_days_j133.eq_def, Lt_b]
  have e0 : g (0 : Int32).toNatClampNeg = fw 0 := h 0 (by omega)
  rw [e0]
  exact day_146f h hn hr _ _ _ _ (by decide) (by decide)
theorem day_110f {Q : DY16 → Prop} {rc : DYr} {i r : Int32} {fw fb : Nat → Int32} (hn : 0 ≤ (fw 0).toInt ∧ (fw 0).toInt ≤ 8) (hr : 0 ≤ r.toInt ∧ r.toInt ≤ 1000) {e : Int64} (hrec : ∀ (r2 a b : Int32) (c d : Int64) (fe frs : Nat → Int64) (fb g : Nat → Int32), 0 ≤ r2.toInt ∧ r2.toInt ≤ r.toInt + 1 → Kp fw g → Q (rc (i + Int32.ofInt 1) r2 a b c d e fe frs fb g)) (a b : Int32) (c d : Int64) (fe frs : Nat → Int64) (g : Nat → Int32) (h : Kp fw g) : Q (E_v_days_j110 i r fb rc a b c d e fe frs g) := by
  simp only [E_v_days_j110, Lt, Lt2]
  split
  · exact hrec _ _ _ _ _ _ _ _ _ (by rw [i_add (Eq.refl r.toInt) (show (0 : Int32).toInt = 0 from rfl) (by omega)]; omega) (h.passIt hn)
  · exact hrec _ _ _ _ _ _ _ _ _ (by rw [i_add (Eq.refl r.toInt) (show (1 : Int32).toInt = 1 from rfl) (by omega)]; omega) (h.passIt hn)
theorem draw_at {x : Int32} {s : Int64} (hx : 0 < x.toInt) (hs : 0 ≤ s.toInt ∧ s.toInt ≤ 1000003) : (0 ≤ (E_v_draw x s).1.toInt ∧ (E_v_draw x s).1.toInt < x.toInt) ∧ 0 ≤ (E_v_draw x s).2.toInt ∧ (E_v_draw x s).2.toInt < 1000003 := by
  rw [E_v_draw.eq_def]
  dsimp only [Lt]
  have h1 := l_mul (Eq.refl s.toInt) (show (1103 : Int64).toInt = 1103 from rfl) (by omega)
  have h2 := l_add h1 (show (12345 : Int64).toInt = 12345 from rfl) (by omega)
  have h3 := l_remb h2 (show (1000003 : Int64).toInt = 1000003 from rfl) (by omega) (by omega)
  generalize hA : (s * 1103 + 12345) - (s * 1103 + 12345) / 1000003 * 1000003 = A at h3 ⊢
  have h4 := l_remb (Eq.refl A.toInt) (wide_at (x := x)) h3.1 hx
  generalize hB : A - A / x.toInt64 * x.toInt64 = B at h4 ⊢
  have hx2 := Int32.toInt_lt x
  have h5 := l_nar (Eq.refl B.toInt) (by omega)
  rw [h5]
  exact ⟨h4, h3⟩
theorem day_61f {fw fu frf fd : Nat → Int32} (hn : 0 ≤ (fw 0).toInt ∧ (fw 0).toInt ≤ 8) {y sta x0 : Int32} (hy : y.toInt ≤ 100) (z : DYr) : ∀ (k : Nat) (i r a b : Int32) (c d e : Int64) (fe frs : Nat → Int64) (fb g : Nat → Int32), 0 ≤ i.toInt ∧ i.toInt ≤ 100 → (101 - i.toInt).toNat < k → 0 ≤ r.toInt ∧ r.toInt ≤ i.toInt → 0 ≤ e.toInt ∧ e.toInt ≤ 1000003 → Kp fw g → DQ fw fu frf (Lp (E_v_days_l61 y sta fd frf (E_v_keepAll 16 fw fu) x0) z k i r a b c d e fe frs fb g) := by
  intro k
  induction k with
  | zero => intro i r a b c d e fe frs fb g hv hk; exact absurd hk (Nat.not_lt_zero _)
  | succ k ih =>
    intro i r a b c d e fe frs fb g hv hk hr he h
    rw [Lp_s, E_v_days_l61.eq_def]
    by_cases e1 : y ≤ i
    · rw [if_pos e1]
      exact day_133f h hn hr.1
    · have e2 := n_le e1
      have hi := inc_o (a := i) (by omega)
      rw [if_neg e1, Lt_b]
      have hj : ∀ (e : Int64) (fb : Nat → Int32) (a b : Int32) (c d : Int64) (fe frs : Nat → Int64) (g : Nat → Int32), 0 ≤ e.toInt ∧ e.toInt ≤ 1000003 → Kp fw g → DQ fw fu frf (E_v_days_j110 i r fb (Lp (E_v_days_l61 y sta fd frf (E_v_keepAll 16 fw fu) x0) z k) a b c d e fe frs g) := fun e fb a b c d fe frs g he hg => day_110f (Q := DQ fw fu frf) hn ⟨hr.1, by omega⟩ (fun r2 a b c d fe frs fb g hr2 hg => ih _ _ _ _ _ _ _ _ _ _ _ (by omega) (by omega) (by omega) he hg) a b c d fe frs g hg
      by_cases e3 : E_v_canPass g = 0
      · rw [if_pos e3]
        exact day_133f h hn hr.1
      · rw [if_neg e3, Lt_b]
        have e0 : g (0 : Int32).toNatClampNeg = fw 0 := h 0 (by omega)
        rw [e0]
        by_cases e4 : fw 0 ≤ 0
        · rw [if_pos e4]
          exact hj _ _ _ _ _ _ _ _ _ he h
        · have e5 : 0 < (fw 0).toInt := by
            have : ¬ (fw 0).toInt ≤ (0 : Int32).toInt := fun q => e4 (ie_iff.mpr q)
            have z0 : (0 : Int32).toInt = 0 := rfl
            omega
          obtain ⟨⟨d1, d2⟩, d3, d4⟩ := draw_at e5 he
          rw [if_neg e4, Lt_b, Lt2_b, Lt2_b, Lt2_b, Lt2_b, Lt2_b, Lt2_b, Lt2_b]
          split
          · exact hj _ _ _ _ _ _ _ _ _ (by omega) h
          · rw [Lt2_b, Lt2_b, Lt2_b, Lt2_b, Lt2_b, Lt2_b]
            exact hj _ _ _ _ _ _ _ _ _ (by omega) (h.stokeIt (by omega))
theorem frm_days {G : Nat → LC} {x y rb dk df br thr sta lw bro dfi ndr : Int32} {val sm st : Int64} {frf fs fwc fw fu fb fd frm : Nat → Int32} {fe frs : Nat → Int64} {An Al Af Ai Ah Ao Bn Bl Bf Bi Bh Bo : Int32} {Aa Ab Ac Ba Bb Bc : Nat → Int32} {Ad Bd : Nat → Option Nat} {r1 b1 dk' df' br' An' Al' Af' Ai' Ah' Ao' : Int32} {g1 fs' fwc' Aa' Ab' Ac' : Nat → Int32} {Ad' : Nat → Option Nat} {r2 s2 lw' bro' dfi' ndr' : Int32} {val' sm' st' : Int64} {fw' fu' fb' fd' g2 : Nat → Int32} {fe' frs' : Nat → Int64} (k1 : (r1, b1, dk', df', g1, br', fs', fwc', An', Al', Af', Ai', Ah', Ao', Aa', Ab', Ac', Ad') = E_w_days G x y rb dk df frf br fs fwc An Al Af Ai Ah Ao Aa Ab Ac Ad Bn Bl Bf Bi Bh Bo Ba Bb Bc Bd) (k2 : (r2, s2, lw', bro', val', sm', st', dfi', ndr', fw', fe', frs', fu', fb', fd', g2) = E_v_days x y thr sta lw bro val sm st dfi ndr fw fe frs fu fb fd frm) (hn : 0 ≤ (fw 0).toInt ∧ (fw 0).toInt ≤ 8) (q : RfR rb sta frf frm) : RfR b1 s2 g1 g2 ∧ (∀ j, fw' j = fw j) ∧ ∀ j, j < 496 → fu' j = fu j := by
  rw [E_w_days.eq_def, Lt_b] at k1
  rw [E_v_days.eq_def, Lt_b, Lt_b] at k2
  have hno : ∀ (k1 : (r1, b1, dk', df', g1, br', fs', fwc', An', Al', Af', Ai', Ah', Ao', Aa', Ab', Ac', Ad') = E_w_days_j21 rb dk df frf br fs fwc An Al Af Ai Ah Ao Aa Ab Ac Ad) (k2 : (r2, s2, lw', bro', val', sm', st', dfi', ndr', fw', fe', frs', fu', fb', fd', g2) = E_v_days_j29 sta lw bro val sm st dfi ndr fw fe frs fu fb fd frm), RfR b1 s2 g1 g2 ∧ (∀ j, fw' j = fw j) ∧ ∀ j, j < 496 → fu' j = fu j := by
    intro k1 k2
    rw [E_w_days_j21.eq_def] at k1
    rw [E_v_days_j29.eq_def] at k2
    simp only [Lt2, Prod.mk.injEq] at k1 k2
    obtain ⟨a1, a2, a3, a4, a5, -⟩ := k1
    obtain ⟨c1, c2, c3, c4, c5, c6, c7, c8, c9, c10, c11, c12, c13, c14, c15, c16⟩ := k2
    rw [a2, a5, c2, c10, c13, c16]
    exact ⟨(q.no (by decide)).2.2, fun _ => rfl, fun _ _ => rfl⟩
  by_cases c1 : (0 : Int32).toInt ≤ x.toInt ∧ x.toInt ≤ (1000000 : Int32).toInt
  · rw [ifw_p c1, Lt_b] at k1
    rw [ifi_p (by exact c1), Lt_b, Lt_b] at k2
    by_cases c2 : (1 : Int32).toInt ≤ y.toInt ∧ y.toInt ≤ (100 : Int32).toInt
    · rw [ifw_p c2] at k1
      rw [ifi_p (by exact c2), Lt_b, Lt_b, Lt_b] at k2
      have c3 : y.toInt ≤ 100 := c2.2
      have c4 : 0 ≤ x.toInt ∧ x.toInt ≤ 1000000 := c1
      have hq := day_61f (fu := fu) (frf := frm) (fd := fd) (sta := sta) (x0 := fw (10 : Int32).toNatClampNeg) hn c3 (fun _ _ _ _ _ _ _ _ _ _ _ => ((0, 0, 0, 0, 0, 0, 0, 0, 0, fun _ => 0, fun _ => 0, fun _ => 0, fun _ => 0, fun _ => 0, fun _ => 0, fun _ => 0) : DY16)) ((101 - (0 : Int32).toInt : Int).toNat + 1) 0 0 lw bro val sm x.toInt64 fe frs fb fw (by decide) (by decide) (by decide) (by rw [wide_at]; omega) Kp.self
      rw [← k2] at hq
      obtain ⟨w1, w2, w3, w4⟩ := hq
      have a2 : b1 = 0 := by
        have q9 := congrArg Prod.fst (congrArg Prod.snd k1)
        exact q9
      have a5 : g1 = frf := by
        have q9 := congrArg Prod.fst (congrArg Prod.snd (congrArg Prod.snd (congrArg Prod.snd (congrArg Prod.snd k1))))
        exact q9
      dsimp only at w1 w2 w3 w4
      rw [a2, a5, w1, w4]
      exact ⟨q.ok, w2, w3⟩
    · rw [ifw_n c2] at k1
      rw [ifi_n (by exact c2)] at k2
      exact hno k1 k2
  · rw [ifw_n c1] at k1
    rw [ifi_n (by exact c1)] at k2
    exact hno k1 k2
end
section
/-! least leaves the row as it was, if what it leaves isn't empty -/
noncomputable abbrev LH9 : Type := Int32 × Int32 × Int64 × Int64 × (Nat → Int32) × (Nat → Int64) × (Nat → Int64) × (Nat → Int32) × (Nat → Int32)
noncomputable abbrev LHr : Type := Int32 → Int32 → Int32 → Int32 → Int64 → Int64 → (Nat → Int32) → (Nat → Int64) → (Nat → Int64) → (Nat → Int32) → (Nat → Int32) → LH9
noncomputable abbrev LHo : Type := Int32 → Int32 → Int32 → Int64 → Int64 → (Nat → Int32) → (Nat → Int64) → (Nat → Int64) → (Nat → Int32) → (Nat → Int32) → LH9
noncomputable def LHQ (fw : Nat → Int32) (T : LH9) : Prop := Kp fw T.2.2.2.2.1
theorem lay_79f {fw s t : Nat → Int32} {rc : LHr} {x y z v0 v : Int32} (hrec : ∀ (w a b : Int32) (c d : Int64) (g : Nat → Int32) (p q : Nat → Int64) (s t : Nat → Int32), Kp fw g → LHQ fw (rc (v + Int32.ofInt 1) w a b c d g p q s t)) (w a b : Int32) (c d : Int64) (g : Nat → Int32) (p q : Nat → Int64) (h : Kp fw g) : LHQ fw (E_v_layHour_j79 x y z v0 v s t rc w a b c d g p q) := by
  simp only [E_v_layHour_j79, Lt, Lt2]
  split
  · exact hrec _ _ _ _ _ _ _ _ _ _ h
  · split
    · exact hrec _ _ _ _ _ _ _ _ _ _ h
    · exact hrec _ _ _ _ _ _ _ _ _ _ h
theorem lay_55f {fw s t : Nat → Int32} {rc : LHr} {x y z v0 v : Int32} (hrec : ∀ (w a b : Int32) (c d : Int64) (g : Nat → Int32) (p q : Nat → Int64) (s t : Nat → Int32), Kp fw g → LHQ fw (rc (v + Int32.ofInt 1) w a b c d g p q s t)) (a b : Int32) (c d : Int64) (g : Nat → Int32) (p q : Nat → Int64) (h : Kp fw g) : LHQ fw (E_v_layHour_j55 x y z v0 v g s t rc a b c d p q) := by
  rw [E_v_layHour_j55.eq_def]
  split
  · exact lay_79f hrec _ _ _ _ _ _ _ _ h
  · exact lay_79f hrec _ _ _ _ _ _ _ _ h
theorem lay_51f {fw s t : Nat → Int32} {rc : LHr} {x y z v0 v : Int32} (hx : 0 ≤ x.toInt ∧ x.toInt ≤ 8) (hrec : ∀ (w a b : Int32) (c d : Int64) (g : Nat → Int32) (p q : Nat → Int64) (s t : Nat → Int32), Kp fw g → LHQ fw (rc (v + Int32.ofInt 1) w a b c d g p q s t)) (a b : Int32) (c d : Int64) (g : Nat → Int32) (p q : Nat → Int64) (h : Kp fw g) : LHQ fw (E_v_layHour_j51 x y z v0 v g s t rc a b c d p q) := by
  rw [E_v_layHour_j51.eq_def]
  split
  · exact lay_79f hrec _ _ _ _ _ _ _ _ h
  · rw [Lt_b, Lt2_b, Lt2_b, Lt2_b, Lt2_b, Lt2_b, Lt2_b]
    exact lay_79f hrec _ _ _ _ _ _ _ _ (h.flare hx)
theorem lay_27f {fw : Nat → Int32} {rc : LHo} {x y z v0 : Int32} (hx : 0 ≤ x.toInt ∧ x.toInt ≤ 8) (hrec : ∀ (a b : Int32) (c d : Int64) (g : Nat → Int32) (p q : Nat → Int64) (s t : Nat → Int32), Kp fw g → LHQ fw (rc (v0 + Int32.ofInt 1) a b c d g p q s t)) (zz : LHr) : ∀ (k : Nat) (v w a b : Int32) (c d : Int64) (g : Nat → Int32) (p q : Nat → Int64) (s t : Nat → Int32), 0 ≤ v.toInt ∧ v.toInt ≤ 3 → (4 - v.toInt).toNat < k → Kp fw g → LHQ fw (Lp (E_v_layHour_l27 x y z v0 rc) zz k v w a b c d g p q s t) := by
  intro k
  induction k with
  | zero => intro v w a b c d g p q s t hv hk; exact absurd hk (Nat.not_lt_zero _)
  | succ k ih =>
    intro v w a b c d g p q s t hv hk h
    rw [Lp_s, E_v_layHour_l27.eq_def]
    have z3 : (3 : Int32).toInt = 3 := rfl
    by_cases e : 3 ≤ v
    · rw [if_pos e, Lt_b]
      exact hrec _ _ _ _ _ _ _ _ _ h
    · have e2 := n_le e
      have hi := inc_o (a := v) (by omega)
      have hr : ∀ (w a b : Int32) (c d : Int64) (g : Nat → Int32) (p q : Nat → Int64) (s t : Nat → Int32), Kp fw g → LHQ fw (Lp (E_v_layHour_l27 x y z v0 rc) zz k (v + Int32.ofInt 1) w a b c d g p q s t) := fun w a b c d g p q s t hg => ih _ _ _ _ _ _ _ _ _ _ _ (by omega) (by omega) hg
      rw [if_neg e]
      by_cases e3 : w = 0
      · rw [if_pos e3]
        exact lay_55f hr _ _ _ _ _ _ _ h
      · rw [if_neg e3]
        by_cases e4 : v = 0
        · rw [if_pos e4]
          exact lay_51f hx hr _ _ _ _ _ _ _ h
        · rw [if_neg e4, Lt2_b, Lt2_b, Lt2_b, Lt2_b, Lt2_b, Lt2_b]
          split
          · exact lay_51f hx hr _ _ _ _ _ _ _ h
          · exact lay_55f hr _ _ _ _ _ _ _ h
theorem lay_3f {fw : Nat → Int32} {x y z : Int32} (hx : 0 ≤ x.toInt ∧ x.toInt ≤ 8) (zz : LHo) : ∀ (k : Nat) (v a b : Int32) (c d : Int64) (g : Nat → Int32) (p q : Nat → Int64) (s t : Nat → Int32), 0 ≤ v.toInt ∧ v.toInt ≤ 21 → (22 - v.toInt).toNat < k → Kp fw g → LHQ fw (Lp (E_v_layHour_l3 x y z) zz k v a b c d g p q s t) := by
  intro k
  induction k with
  | zero => intro v a b c d g p q s t hv hk; exact absurd hk (Nat.not_lt_zero _)
  | succ k ih =>
    intro v a b c d g p q s t hv hk h
    rw [Lp_s, E_v_layHour_l3.eq_def]
    by_cases e : 20 < v
    · rw [if_pos e]; exact h
    · have e2 : v.toInt ≤ 20 := by
        have : ¬ (20 : Int32).toInt < v.toInt := fun q => e (il_iff.mpr q)
        have z3 : (20 : Int32).toInt = 20 := rfl
        omega
      have hi := inc_o (a := v) (by omega)
      rw [if_neg e, Lt_b, Lt_b, add_c (k := 11) rfl (by omega) (by omega)]
      exact lay_27f hx (fun a b c d g p q s t hg => ih _ _ _ _ _ _ _ _ _ _ (by omega) (by omega) hg) _ _ _ _ _ _ _ _ _ _ _ _ _ (by decide) (by decide) (h.up (by omega))
theorem Kp.layHour {fw g : Nat → Int32} {x y z a b : Int32} {c d : Int64} {p q : Nat → Int64} {s t : Nat → Int32} (hx : 0 ≤ x.toInt ∧ x.toInt ≤ 8) (h : Kp fw g) : Kp fw (E_v_layHour x y z a b c d g p q s t).2.2.2.2.1 := by
  rw [E_v_layHour.eq_def]
  exact lay_3f hx _ _ _ _ _ _ _ _ _ _ _ _ (by decide) (by decide) h
theorem Kp.goOnBy {fw g : Nat → Int32} (h : Kp fw g) : Kp fw (E_v_goOnBy 1 g) := by
  have key : ∀ (k : Nat) (v : Int32) (g : Nat → Int32), 0 ≤ v.toInt ∧ v.toInt ≤ 1 → (2 - v.toInt).toNat < k → Kp fw g → Kp fw (Lp (E_v_goOnBy_l2 1) (fun _ _ => ((fun _ => 0) : Nat → Int32)) k v g) := by
    intro k
    induction k with
    | zero => intro v g hv hk; exact absurd hk (Nat.not_lt_zero _)
    | succ k ih =>
      intro v g hv hk h
      rw [Lp_s, E_v_goOnBy_l2.eq_def]
      have z1 : (1 : Int32).toInt = 1 := rfl
      by_cases e : 1 ≤ v
      · rw [if_pos e]; exact h
      · have e2 := n_le e
        have hi := inc_o (a := v) (by omega)
        rw [if_neg e, Lt_b, Lt_b]
        exact ih _ _ (by omega) (by omega) h.goOn
  rw [E_v_goOnBy.eq_def]
  exact key _ _ _ (by decide) (by decide) h
noncomputable abbrev LL11 : Type := Int32 × Int32 × Int64 × Int64 × (Nat → Int32) × (Nat → Int64) × (Nat → Int64) × (Nat → Int32) × (Nat → Int32) × (Nat → Int32) × (Nat → Int32)
/-- the row and what was put aside, or an empty row -/
noncomputable def LLQ (fw u : Nat → Int32) (T : LL11) : Prop := (T.2.2.2.2.1 = fw ∧ T.2.2.2.2.2.2.2.1 = u) ∨ T.2.2.2.2.1 = fun _ => 0
theorem ll_102 {Q : LL11 → Prop} {f1 f2 f : Nat → Int32} {v0 w : Int32} {rc : Int32 → (Nat → Int32) → LL11} (h : ∀ i f, Q (rc i f)) {z : Int32 → Int32 → LL11} (hz : ∀ i j, Q (z i j)) : ∀ (k : Nat) (v s : Int32), Q (Lp (E_v_layLeast_l102 f1 f2 v0 w f rc) z k v s) := by
  intro k
  induction k with
  | zero => intro v s; exact hz _ _
  | succ k ih =>
    intro v s
    rw [Lp_s, E_v_layLeast_l102.eq_def]
    split
    · exact h _ _
    · rw [Lt_b]
      split
      · exact ih _ _
      · exact ih _ _
theorem ll_87 {Q : LL11 → Prop} {f1 f2 : Nat → Int32} {v0 : Int32} {rc : Int32 → (Nat → Int32) → LL11} (h : ∀ i f, Q (rc i f)) {z : Int32 → (Nat → Int32) → LL11} (hz : ∀ i j, Q (z i j)) (h0 : Q (0, 0, 0, 0, fun _ => 0, fun _ => 0, fun _ => 0, fun _ => 0, fun _ => 0, fun _ => 0, fun _ => 0)) : ∀ (k : Nat) (v : Int32) (f : Nat → Int32), Q (Lp (E_v_layLeast_l87 f1 f2 v0 rc) z k v f) := by
  intro k
  induction k with
  | zero => intro v s; exact hz _ _
  | succ k ih =>
    intro v s
    rw [Lp_s, E_v_layLeast_l87.eq_def]
    split
    · exact h _ _
    · exact ll_102 ih (fun _ _ => h0) _ _ _
theorem ll_79 {fw u : Nat → Int32} {a b : Int32} {c d : Int64} {p q : Nat → Int64} {f1 f2 : Nat → Int32} {z : Int32 → (Nat → Int32) → LL11} (hz : ∀ i j, LLQ fw u (z i j)) : ∀ (k : Nat) (v : Int32) (f : Nat → Int32), LLQ fw u (Lp (E_v_layLeast_l79 u a b c d p q f1 f2 fw) z k v f) := by
  intro k
  induction k with
  | zero => intro v s; exact hz _ _
  | succ k ih =>
    intro v s
    rw [Lp_s, E_v_layLeast_l79.eq_def]
    split
    · exact Or.inl ⟨rfl, rfl⟩
    · exact ll_87 (Q := LLQ fw u) ih (fun _ _ => Or.inr rfl) (Or.inr rfl) _ _ _
theorem ll_48 {fw u : Nat → Int32} {y a b : Int32} {c d : Int64} {p q : Nat → Int64} {f1 f2 : Nat → Int32} {z : Int32 → (Nat → Int32) → LL11} (hz : ∀ i j, LLQ fw u (z i j)) : ∀ (k : Nat) (v : Int32) (f : Nat → Int32), LLQ fw u (Lp (E_v_layLeast_l48 y u a b c d p q f1 f2 fw) z k v f) := by
  intro k
  induction k with
  | zero => intro v s; exact hz _ _
  | succ k ih =>
    intro v s
    rw [Lp_s, E_v_layLeast_l48.eq_def]
    split
    · exact ll_79 (fun _ _ => Or.inr rfl) _ _ _
    · rw [Lt_b, Lt_b, Lt_b, Lt_b]
      exact ih _ _
noncomputable def LMQ (fw fu : Nat → Int32) (T : LL11) : Prop := ((∀ j, T.2.2.2.2.1 j = fw j) ∧ ∀ j, j < 496 → T.2.2.2.2.2.2.2.1 j = fu j) ∨ T.2.2.2.2.1 = fun _ => 0
theorem ll_9 {fw fu fl : Nat → Int32} {x y zz : Int32} (hx : 0 ≤ x.toInt ∧ x.toInt ≤ 8) {z : Int32 → Int32 → Int32 → Int64 → Int64 → (Nat → Int64) → (Nat → Int64) → (Nat → Int32) → (Nat → Int32) → (Nat → Int32) → LL11} (hz : ∀ i1 i2 i3 i4 i5 i6 i7 i8 i9 i10, LMQ fw fu (z i1 i2 i3 i4 i5 i6 i7 i8 i9 i10)) : ∀ (k : Nat) (v a b : Int32) (c d : Int64) (p q : Nat → Int64) (f1 f2 g : Nat → Int32), Kp fw g → LMQ fw fu (Lp (E_v_layLeast_l9 x y zz fl (E_v_keepAll 16 fw fu)) z k v a b c d p q f1 f2 g) := by
  intro k
  induction k with
  | zero => intro v a b c d p q f1 f2 g h; exact hz _ _ _ _ _ _ _ _ _ _
  | succ k ih =>
    intro v a b c d p q f1 f2 g h
    rw [Lp_s, E_v_layLeast_l9.eq_def]
    by_cases e : y ≤ v
    · rw [if_pos e, Lt_b]
      rcases ll_48 (fw := E_v_putBack 16 g (E_v_keepAll 16 fw fu)) (u := E_v_keepAll 16 fw fu) (y := y) (a := a) (b := b) (c := c) (d := d) (p := p) (q := q) (f1 := f1) (f2 := f2) (z := fun _ _ => ((0, 0, 0, 0, fun _ => 0, fun _ => 0, fun _ => 0, fun _ => 0, fun _ => 0, fun _ => 0, fun _ => 0) : LL11)) (fun _ _ => Or.inr rfl) ((22 - (0 : Int32).toInt : Int).toNat + 1) 0 fl with ⟨w1, w2⟩ | w
      · refine Or.inl ⟨fun j => ?_, fun j hj => ?_⟩
        · rw [w1]; exact h.back.1 j
        · rw [w2]; exact h.back.2 j hj
      · exact Or.inr w
    · rw [if_neg e, Lt_b, Lt2_b, Lt2_b, Lt2_b, Lt2_b, Lt2_b, Lt2_b, Lt2_b, Lt2_b, Lt_b, Lt_b]
      exact ih _ _ _ _ _ _ _ _ _ _ (h.layHour hx).goOnBy
noncomputable abbrev LS12 : Type := Int32 × Int32 × Int32 × Int64 × Int64 × (Nat → Int32) × (Nat → Int64) × (Nat → Int64) × (Nat → Int32) × (Nat → Int32) × (Nat → Int32) × (Nat → Int32)
noncomputable def LSQ (fw fu : Nat → Int32) (T : LS12) : Prop := ((∀ j, T.2.2.2.2.2.1 j = fw j) ∧ ∀ j, j < 496 → T.2.2.2.2.2.2.2.2.1 j = fu j) ∨ T.2.2.2.2.2.1 = fun _ => 0
theorem ls_135 {Q : LS12 → Prop} {f1 f2 f3 : Nat → Int32} {v0 w : Int32} {rc : Int32 → Int32 → Int32 → LS12} (h : ∀ i j k, Q (rc i j k)) {z : Int32 → LS12} (hz : ∀ i, Q (z i)) : ∀ (k : Nat) (v : Int32), Q (Lp (E_v_least_l135 f1 f2 f3 v0 w rc) z k v) := by
  intro k
  induction k with
  | zero => intro v; exact hz _
  | succ k ih =>
    intro v
    rw [Lp_s, E_v_least_l135.eq_def, Lt_b, Lt_b, Lt_b, Lt_b]
    split
    · rw [Lt_b, Lt_b, Lt_b, Lt_b, Lt_b, Lt_b]; exact h _ _ _
    · rw [Lt_b]; exact ih _
theorem ls_125 {Q : LS12 → Prop} {w a b : Int32} {c d : Int64} {g : Nat → Int32} {p q : Nat → Int64} {f0 f1 f2 f3 : Nat → Int32} (h : ∀ r, Q (r, a, b, c, d, g, p, q, f0, f1, f2, f3)) (h0 : Q (0, 0, 0, 0, 0, fun _ => 0, fun _ => 0, fun _ => 0, fun _ => 0, fun _ => 0, fun _ => 0, fun _ => 0)) {z : Int32 → Int32 → Int32 → LS12} (hz : ∀ i j k, Q (z i j k)) : ∀ (k : Nat) (v s t : Int32), Q (Lp (E_v_least_l125 w a b c d g p q f0 f1 f2 f3) z k v s t) := by
  intro k
  induction k with
  | zero => intro v s t; exact hz _ _ _
  | succ k ih =>
    intro v s t
    rw [Lp_s, E_v_least_l125.eq_def]
    split
    · exact h _
    · exact ls_135 ih (fun _ => h0) _ _
theorem frm_least0 {x y z w thr lw bro : Int32} {val sm : Int64} {fw fu fi ft fl : Nat → Int32} {fe frs : Nat → Int64} (hn : 0 ≤ (fw 0).toInt ∧ (fw 0).toInt ≤ 8) : LSQ fw fu (E_v_least x y z w thr lw bro val sm fw fe frs fu fi ft fl) ∧ (¬ E_v_isHouse x fw = 1 → (∀ j, (E_v_least x y z w thr lw bro val sm fw fe frs fu fi ft fl).2.2.2.2.2.1 j = fw j) ∧ ∀ j, j < 496 → (E_v_least x y z w thr lw bro val sm fw fe frs fu fi ft fl).2.2.2.2.2.2.2.2.1 j = fu j) := by
  have qj : LSQ fw fu (E_v_least_j55 lw bro val sm fw fe frs fu fi ft fl) := Or.inl ⟨fun _ => rfl, fun _ _ => rfl⟩
  refine ⟨?_, fun c => ?_⟩
  · rw [E_v_least.eq_def, Lt_b]
    by_cases c1 : E_v_isHouse x fw = 1
    · have hx : 0 ≤ x.toInt ∧ x.toInt ≤ 8 := by
        rw [isHouse_at (n := fw 0) ⟨rfl, hn⟩] at c1
        by_cases c2 : 0 ≤ x.toInt ∧ x.toInt < (fw 0).toInt
        · omega
        · rw [has_n c2] at c1; exact absurd c1 (by decide)
      rw [if_pos c1, Lt_b, Lt_b]
      split
      · rw [Lt_b, Lt_b, Lt_b, Lt_b]
        split
        · rw [Lt_b, Lt_b, Lt_b, Lt_b]
          split
          · have hl : LMQ fw fu (E_v_layLeast x y z lw bro val sm fw fe frs fu fi ft fl) := by
              rw [E_v_layLeast.eq_def, Lt_b]
              exact ll_9 hx (fun _ _ _ _ _ _ _ _ _ _ => Or.inr rfl) _ _ _ _ _ _ _ _ _ _ _ Kp.self
            have h0 : LSQ fw fu (0, 0, 0, 0, 0, fun _ => 0, fun _ => 0, fun _ => 0, fun _ => 0, fun _ => 0, fun _ => 0, fun _ => 0) := Or.inr rfl
            generalize E_v_layLeast x y z lw bro val sm fw fe frs fu fi ft fl = T at hl ⊢
            obtain ⟨a, b, c, d, g, p, q, f0, f1, f2, f3⟩ := T
            rw [Lt2_b, Lt2_b, Lt2_b, Lt2_b, Lt2_b, Lt2_b, Lt2_b, Lt2_b, Lt2_b, Lt2_b, Lt_b, Lt_b, Lt_b]
            have hr : ∀ r, LSQ fw fu (r, a, b, c, d, g, p, q, f0, f1, f2, f3) := fun r => hl
            have h9 : ∀ i, LSQ fw fu (E_v_least_j94 a b c d g p q f0 f1 f2 f3 i) := fun i => by
              rw [E_v_least_j94.eq_def, Lt_b]
              split
              · exact hr _
              · rw [Lt_b]; exact hr _
            split
            · exact h9 _
            · split
              · exact h9 _
              · exact ls_125 hr h0 (fun _ _ _ => h0) _ _ _ _
          · exact qj
        · exact qj
      · exact qj
    · rw [if_neg c1]; exact qj
  · rw [E_v_least.eq_def, Lt_b, if_neg c]
    exact ⟨fun _ => rfl, fun _ _ => rfl⟩
theorem frm_least {x y z w thr lw bro : Int32} {val sm : Int64} {fw fu fi ft fl : Nat → Int32} {fe frs : Nat → Int64} {r2 lw' bro' : Int32} {val' sm' : Int64} {fw' fu' fi' ft' fl' : Nat → Int32} {fe' frs' : Nat → Int64} (k2 : (r2, lw', bro', val', sm', fw', fe', frs', fu', fi', ft', fl') = E_v_least x y z w thr lw bro val sm fw fe frs fu fi ft fl) (hn : 0 ≤ (fw 0).toInt ∧ (fw 0).toInt ≤ 8) (hz : fw' 0 = fw 0) : (∀ j, fw' j = fw j) ∧ ∀ j, j < 496 → fu' j = fu j := by
  obtain ⟨q1, q2⟩ := frm_least0 (x := x) (y := y) (z := z) (w := w) (thr := thr) (lw := lw) (bro := bro) (val := val) (sm := sm) (fw := fw) (fu := fu) (fi := fi) (ft := ft) (fl := fl) (fe := fe) (frs := frs) hn
  rw [← k2] at q1 q2
  by_cases c : E_v_isHouse x fw = 1
  · rcases q1 with q | q
    · exact q
    · exfalso
      have q : fw' = fun _ => 0 := q
      rw [q] at hz
      have hz2 : fw 0 = 0 := hz.symm
      rw [isHouse_at (n := fw 0) ⟨rfl, hn⟩, hz2, has_n (by have z0 : (0 : Int32).toInt = 0 := rfl; omega)] at c
      exact absurd c (by decide)
  · exact q2 c
end
section
/-! what the law's loop asks -/
theorem termsN_eq {x y thr sta nu : Int32} {fw frm : Nat → Int32} : E_v_termsN x y thr sta nu fw frm = E_v_terms x y thr sta nu fw frm := rfl
theorem RF.rng {n ht ho : Int32} {f1 f3 fw : Nat → Int32} (h : RF 0 n ht ho f1 f3 fw) (hn : 0 ≤ n.toInt ∧ n.toInt ≤ 8) : 0 ≤ (fw 0).toInt ∧ (fw 0).toInt ≤ 8 := by
  have e : n = fw 0 := h.1
  rw [← e]; exact hn
theorem RF.h3 {n ht ho : Int32} {f1 f3 fw : Nat → Int32} (h : RF 0 n ht ho f1 f3 fw) : ∀ j, j < 24 → f3 j = fw (67 + j) := fun j hj => by
  have q := h.2.2.2.2.1 j hj
  rw [Nat.zero_add] at q; exact q
theorem RF.h4 {n ht ho : Int32} {f1 f3 fw : Nat → Int32} (h : RF 0 n ht ho f1 f3 fw) : ∀ j, 24 ≤ j → j < 40 → f1 j = fw (27 + j) := fun j hj hk => by
  have q := h.2.2.2.1 j hj hk
  rw [Nat.zero_add] at q; exact q
theorem TQ.ext0 {n lt nf fi : Int32} {f1 f2 fw fw' : Nat → Int32} {fl : Nat → Option Nat} {G : Nat → LC} (h : TQ 0 n lt nf fi f1 f2 fl G fw) (e : ∀ j, fw' j = fw j) : TQ 0 n lt nf fi f1 f2 fl G fw' := h.same (fun j _ => e j)
theorem HR.frm {n dr kp nu : Int32} {sl fu fs fw fu' fw' : Nat → Int32} (h : HR n dr kp nu sl fu fs fw) (e : ∀ j, fw' j = fw j) (e2 : ∀ j, j < 496 → fu' j = fu j) : HR n dr kp nu sl fu' fs fw' := h.keep e2 (fun _ _ => rfl) (fun j _ _ => e j)
theorem HR.fr4 {n dr kp nu : Int32} {sl fu fs fw fw' : Nat → Int32} (h : HR n dr kp nu sl fu fs fw) (e : ∀ j, j ≠ 2 → j < 100 → fw' j = fw j) : HR n dr kp nu sl fu fs fw' := h.keep (fun _ _ => rfl) (fun _ _ => rfl) (fun j _ _ => e j (by omega) (by omega))
theorem krg0 : KRg row0 := by
  unfold KRg row0
  decide +kernel
theorem tq0 {G : Nat → LC} : TQ 0 0 0 (-1) 0 (fun _ => 0) tm0 (fun _ => none) G row0 := TQ.zero (fun _ => rfl) (fun j hj => by rcases (show j = 0 ∨ j = 1 ∨ j = 2 ∨ j = 3 ∨ j = 4 ∨ j = 5 by omega) with rfl | rfl | rfl | rfl | rfl | rfl <;> rfl) (fun j hj => by unfold row0; rw [upd_n (by omega), upd_n (by omega), upd_n (by omega), upd_n (by omega)]) rfl krg0
theorem hr0 {sl fu fs : Nat → Int32} : HR 0 0 0 0 sl fu fs row0 := HR.zero.clear
theorem rfr0 : RfR 0 0 (fun _ => 0) (fun _ => 0) := ⟨rfl, rfl, rfl, rfl, rfl, rfl⟩
end
