/-! the rest of the calls: what they leave -/
theorem tellX_eq {x sta : Int32} {f : Nat → Int32} : E_v_tellX x sta f = E_v_tell x sta f := rfl
theorem refuseX_eq {x rb : Int32} {f : Nat → Int32} : E_w_refuseX x rb f = E_w_refuse x rb f := rfl
theorem TQ.same {n lt nf fi : Int32} {f1 f2 fw fw' : Nat → Int32} {fl : Nat → Option Nat} {G : Nat → LC} (h : TQ 0 n lt nf fi f1 f2 fl G fw) (e : ∀ j, (2 ≤ j ∧ j < 51) ∨ 100 ≤ j → fw' j = fw j) : TQ 0 n lt nf fi f1 f2 fl G fw' := by
  obtain ⟨a, b1, b2, b3, b4, b5⟩ := h
  have z : ∀ j, (2 ≤ j ∧ j < 51) ∨ 100 ≤ j → fw' (0 + j) = fw (0 + j) := fun j hj => by rw [Nat.zero_add]; exact e j hj
  refine ⟨a.ext (fun _ _ => rfl) (fun _ _ => rfl) (fun j h1 h2 => z j (by omega)), b1.trans (z 2 (by omega)).symm, b2.trans (z 3 (by omega)).symm, b3, fun j hj => by rw [z _ (by omega), z _ (by omega)]; exact b4 j hj, fun i hi => ?_⟩
  obtain ⟨q, q1, q2⟩ := b5 i hi
  refine ⟨q, q1, q2.ext (fun j hj => ?_)⟩
  unfold ktx
  rw [Nat.add_assoc, z _ (by omega)]
theorem HR.same {n dr kp nu : Int32} {sl fu fs fw fw' : Nat → Int32} (h : HR n dr kp nu sl fu fs fw) (e : ∀ j, (2 ≤ j ∧ j < 51) ∨ 100 ≤ j → fw' j = fw j) : HR n dr kp nu sl fu fs fw' := h.keep (fun _ _ => rfl) (fun _ _ => rfl) (fun j _ _ => e j (by omega))
theorem rq_hear {n x rb hea ho thr sta : Int32} {f1 f3 frf fw frm : Nat → Int32} {r1 b1 hea' ho' r2 s2 : Int32} {g1 fw' g2 : Nat → Int32} (k1 : (r1, b1, g1, hea', ho') = E_w_hear x rb frf hea ho) (k2 : (r2, s2, fw', g2) = E_v_hear x thr sta fw frm) (h : RF 0 n hea ho f1 f3 fw) (hz : 0 ≤ hea.toInt ∧ hea.toInt ≤ 6) (q : RfR rb sta frf frm) : RfR b1 s2 g1 g2 ∧ ∀ j, (2 ≤ j ∧ j < 51) ∨ 100 ≤ j → fw' j = fw j := by
  simp only [E_w_hear, Lt, Lt2, E_w_accept] at k1
  simp only [E_v_hear, Lt, Lt2] at k2
  by_cases hx : (0 : Int32).toInt ≤ x.toInt ∧ x.toInt ≤ (127 : Int32).toInt
  · rw [ifw_p hx] at k1
    rw [ifi_p (by exact hx)] at k2
    have e1 : fw (1 : Int32).toNatClampNeg = hea := h.2.1.symm
    rw [e1] at k2
    by_cases h6 : hea < 6
    · have h7 : hea.toInt < 6 := il_iff.mp h6
      have hi : (hea + 1).toInt = hea.toInt + 1 := inc_1 (by omega)
      rw [if_pos h6] at k1
      rw [if_neg (fun q => by have := congrArg Int32.toInt q; have z : (6 : Int32).toInt = 6 := rfl; omega), tell_p (by omega)] at k2
      simp only [Prod.mk.injEq] at k1 k2
      obtain ⟨a1, a2, a3, a4, a5⟩ := k1
      obtain ⟨b1, b2, b3, b4⟩ := k2
      have hc : (91 + hea).toNatClampNeg = 91 + hea.toInt.toNat := add_c (k := 91) rfl (by omega) (by omega)
      rw [a2, a3, b2, b4]
      refine ⟨q.ok, fun j hj => ?_⟩
      rw [b3, show (1 : Int32).toNatClampNeg = 1 from rfl, upd_n (by omega), hc, upd_n (by omega)]
    · have h7 : ¬ hea.toInt < 6 := fun q => h6 (il_iff.mpr q)
      rw [if_neg h6] at k1
      rw [if_pos (i_lit (x := 6) (by omega) rfl)] at k2
      simp only [Prod.mk.injEq] at k1 k2
      obtain ⟨a1, a2, a3, a4, a5⟩ := k1
      obtain ⟨b1, b2, b3, b4⟩ := k2
      rw [a2, a3, b2, b3, b4]
      exact ⟨(q.no (by decide)).2.2, fun _ _ => rfl⟩
  · rw [ifw_n hx] at k1
    rw [ifi_n (by exact hx)] at k2
    simp only [Prod.mk.injEq] at k1 k2
    obtain ⟨a1, a2, a3, a4, a5⟩ := k1
    obtain ⟨b1, b2, b3, b4⟩ := k2
    rw [a2, a3, b2, b3, b4]
    exact ⟨(q.no (by decide)).2.2, fun _ _ => rfl⟩
theorem rq_forget {thr : Int32} {fw : Nat → Int32} {r2 : Int32} {fw' : Nat → Int32} (k2 : (r2, fw') = E_v_forget thr fw) : ∀ j, (2 ≤ j ∧ j < 51) ∨ 100 ≤ j → fw' j = fw j := by
  simp only [E_v_forget, Lt, Prod.mk.injEq] at k2
  intro j hj
  rw [k2.2, show (1 : Int32).toNatClampNeg = 1 from rfl, upd_n (by omega)]
theorem rq_score {x y rb thr sta : Int32} {f3 frf fw frm : Nat → Int32} {r1 b1 r2 s2 : Int32} {g1 f3' fw' g2 : Nat → Int32} (k1 : (r1, b1, g1, f3') = E_w_score x y rb frf f3) (k2 : (r2, s2, fw', g2) = E_v_score x y thr sta fw frm) (q : RfR rb sta frf frm) : RfR b1 s2 g1 g2 ∧ ∀ j, (2 ≤ j ∧ j < 51) ∨ 100 ≤ j → fw' j = fw j := by
  simp only [E_w_score, E_w_score_j20, Lt, Lt2, E_w_accept] at k1
  simp only [E_v_score, E_v_score_j41, E_v_change, Lt, Lt2] at k2
  by_cases hx : (0 : Int32).toInt ≤ x.toInt ∧ x.toInt ≤ (23 : Int32).toInt
  · have hx2 : 0 ≤ x.toInt ∧ x.toInt ≤ 23 := hx
    rw [ifw_p hx] at k1
    rw [ifi_p (by exact hx)] at k2
    by_cases hy : (0 : Int32).toInt ≤ y.toInt ∧ y.toInt ≤ (127 : Int32).toInt
    · rw [ifw_p hy] at k1
      rw [ifi_p (by exact hy), add_c (k := 67) rfl (by omega) (by omega)] at k2
      simp only [Prod.mk.injEq] at k1 k2
      obtain ⟨a1, a2, a3, a4⟩ := k1
      obtain ⟨b1, b2, b3, b4⟩ := k2
      rw [a2, a3, b2, b4]
      exact ⟨q.ok, fun j hj => by rw [b3, upd_n (by omega)]⟩
    · rw [ifw_n hy] at k1
      rw [ifi_n (by exact hy)] at k2
      simp only [Prod.mk.injEq] at k1 k2
      obtain ⟨a1, a2, a3, a4⟩ := k1
      obtain ⟨b1, b2, b3, b4⟩ := k2
      rw [a2, a3, b2, b3, b4]
      exact ⟨(q.no (by decide)).2.2, fun _ _ => rfl⟩
  · rw [ifw_n hx] at k1
    rw [ifi_n (by exact hx)] at k2
    simp only [Prod.mk.injEq] at k1 k2
    obtain ⟨a1, a2, a3, a4⟩ := k1
    obtain ⟨b1, b2, b3, b4⟩ := k2
    rw [a2, a3, b2, b3, b4]
    exact ⟨(q.no (by decide)).2.2, fun _ _ => rfl⟩
theorem row_w {rb ln : Int32} {frf fb : Nat → Int32} (hl : 0 ≤ ln.toInt ∧ ln.toInt ≤ 400) (z1 : Int32 → Int32 → (Nat → Int32) → (Int32 × Int32 × Int32 × (Nat → Int32) × Int32 × (Nat → Int32))) : ∀ (k : Nat) (v c : Int32) (f : Nat → Int32), 0 ≤ v.toInt ∧ v.toInt ≤ 400 → (401 - v.toInt).toNat < k → (Lp (E_w_rowX_l21 rb frf ln fb) z1 k v c f).2.1 = 0 ∧ (Lp (E_w_rowX_l21 rb frf ln fb) z1 k v c f).2.2.2.1 = frf := by
  intro k
  induction k with
  | zero => intro v c f hv hk; exact absurd hk (Nat.not_lt_zero _)
  | succ k ih =>
    intro v c f hv hk
    rw [Lp_s]
    simp only [E_w_rowX_l21, Lt]
    by_cases e : ln ≤ v
    · rw [if_pos e]; exact ⟨rfl, rfl⟩
    · have e2 : v.toInt < ln.toInt := by
        have : ¬ ln.toInt ≤ v.toInt := fun q => e (ie_iff.mpr q)
        omega
      have hi := inc_o (a := v) (by omega)
      rw [if_neg e]
      split
      · exact ih _ _ _ (by omega) (by omega)
      · split
        · exact ih _ _ _ (by omega) (by omega)
        · exact ih _ _ _ (by omega) (by omega)
theorem row_v {ln sta : Int32} {ft frm fw : Nat → Int32} (hl : 0 ≤ ln.toInt ∧ ln.toInt ≤ 400) (z2 : Int32 → Int32 → Int32 → (Nat → Int32) → (Int32 × Int32 × Int32 × (Nat → Int32) × (Nat → Int32))) : ∀ (k : Nat) (v d a : Int32) (g : Nat → Int32), 0 ≤ v.toInt ∧ v.toInt ≤ 400 → (401 - v.toInt).toNat < k → 0 ≤ d.toInt ∧ d.toInt ≤ v.toInt → (∀ j, j < 67 ∨ 91 ≤ j → g j = fw j) → (Lp (E_v_rowX_l35 sta ln ft frm) z2 k v d a g).2.1 = 0 ∧ (Lp (E_v_rowX_l35 sta ln ft frm) z2 k v d a g).2.2.2.2 = frm ∧ ∀ j, j < 67 ∨ 91 ≤ j → (Lp (E_v_rowX_l35 sta ln ft frm) z2 k v d a g).2.2.2.1 j = fw j := by
  intro k
  induction k with
  | zero => intro v d a g hv hk; exact absurd hk (Nat.not_lt_zero _)
  | succ k ih =>
    intro v d a g hv hk hd hg
    rw [Lp_s]
    simp only [E_v_rowX_l35, Lt, Lt2]
    by_cases e : ln ≤ v
    · rw [if_pos e, tellX_eq, tell_p hd.1]; exact ⟨rfl, rfl, hg⟩
    · have e2 : v.toInt < ln.toInt := by
        have : ¬ ln.toInt ≤ v.toInt := fun q => e (ie_iff.mpr q)
        omega
      have hi := inc_o (a := v) (by omega)
      have hj := inc_o (a := d) (by omega)
      rw [if_neg e]
      by_cases e4 : 24 ≤ v
      · rw [if_pos e4]; exact ih _ _ _ _ (by omega) (by omega) (by omega) hg
      · have e5 : v.toInt < 24 := by
          have : ¬ (24 : Int32).toInt ≤ v.toInt := fun q => e4 (ie_iff.mpr q)
          have z : (24 : Int32).toInt = 24 := rfl
          omega
        rw [if_neg e4, add_c (k := 67) rfl (by omega) (by omega)]
        split
        · exact ih _ _ _ _ (by omega) (by omega) (by omega) hg
        · exact ih _ _ _ _ (by omega) (by omega) (by omega) (fun j hj => by rw [upd_n (by omega)]; exact hg j hj)
theorem rq_row {rb ato ln thr sta as_ ta : Int32} {f3 frf fb fw ft frm : Nat → Int32} {r1 b1 ato' ln' r2 s2 as' : Int32} {g1 f3' fw' g2 : Nat → Int32} (k1 : (r1, b1, ato', g1, ln', f3') = E_w_rowX rb ato frf ln fb f3) (k2 : (r2, s2, as', fw', g2) = E_v_rowX thr sta as_ ta fw ft frm) (hl : 0 ≤ ln.toInt ∧ ln.toInt ≤ 400) (hlt : ln.toInt = ta.toInt) (q : RfR rb sta frf frm) : RfR b1 s2 g1 g2 ∧ ∀ j, (2 ≤ j ∧ j < 51) ∨ 100 ≤ j → fw' j = fw j := by
  obtain rfl : ln = ta := Int32.toInt_inj.mp hlt
  simp only [E_w_rowX, Lt, Lt2] at k1
  simp only [E_v_rowX, Lt, Lt2] at k2
  by_cases e : ln = 0
  · rw [if_pos e, refuseX_eq] at k1
    rw [if_pos e, tellX_eq] at k2
    simp only [Prod.mk.injEq] at k1 k2
    rw [k1.2.1, k1.2.2.2.1, k2.2.1, k2.2.2.2.1, k2.2.2.2.2]
    exact ⟨(q.no (by decide)).2.2, fun _ _ => rfl⟩
  · rw [if_neg e] at k1 k2
    generalize hN : (401 - (0 : Int32).toInt : Int).toNat + 1 = N at k1 k2
    have p1 := row_w (rb := rb) (frf := frf) (fb := fb) hl (fun _ _ _ => ((0, 0, 0, fun _ => 0, 0, fun _ => 0) : Int32 × Int32 × Int32 × (Nat → Int32) × Int32 × (Nat → Int32))) N 0 0 f3 (by decide) (by rw [← hN]; exact Nat.lt_succ_self _)
    have p2 := row_v (sta := sta) (ft := ft) (frm := frm) (fw := fw) hl (fun _ _ _ _ => ((0, 0, 0, fun _ => 0, fun _ => 0) : Int32 × Int32 × Int32 × (Nat → Int32) × (Nat → Int32))) N 0 0 0 fw (by decide) (by rw [← hN]; exact Nat.lt_succ_self _) (by decide) (fun _ _ => rfl)
    rw [← k1] at p1
    rw [← k2] at p2
    dsimp only at p1 p2
    rw [p1.1, p1.2, p2.1, p2.2.1]
    exact ⟨q.ok, fun j hj => p2.2.2 j (by omega)⟩
theorem rq_house {x0 x1 x2 x3 x4 rb dr kp n ht ho thr sta nu lt nf fi : Int32} {f1 f2 f3 frf fw frm sl fu fsr : Nat → Int32} {fl : Nat → Option Nat} {G : Nat → LC} {r1 b1 kp' n' r2 s2 nu' : Int32} {g1 f1' fw' g2 : Nat → Int32} (k1 : (r1, b1, g1, kp', n', f1') = E_w_house x0 x1 x2 x3 x4 rb frf dr kp n f1) (k2 : (r2, s2, nu', fw', g2) = E_v_houseN x0 x1 x2 x3 x4 thr sta nu fw frm) (h : RF 0 n ht ho f1 f3 fw) (hn : 0 ≤ n.toInt ∧ n.toInt ≤ 8) (hz : 0 ≤ ht.toInt ∧ ht.toInt ≤ 6) (hq : TQ 0 n lt nf fi f1 f2 fl G fw) (hl6 : 0 ≤ lt.toInt ∧ lt.toInt ≤ 6) (q : RfR rb sta frf frm) (hr : HR n dr kp nu sl fu fsr fw) : RfR b1 s2 g1 g2 ∧ TQ 0 n' lt nf fi f1' f2 fl G fw' ∧ HR n' dr kp' nu' sl fu fsr fw' := by
  have hRF := (rel_house k1 k2 h hn hz).2
  have hW := TW.of hq h hn hl6
  have bad : ∀ {r b kp2 n2 : Int32} {g f : Nat → Int32}, (r, b, g, kp2, n2, f) = E_w_house_j76 rb frf kp n f1 → ∀ {r' s' nu2 : Int32} {f' g' : Nat → Int32}, (r', s', nu2, f', g') = E_v_houseN_j67 sta nu fw frm → RfR b s' g g' ∧ TQ 0 n2 lt nf fi f f2 fl G f' ∧ HR n2 dr kp2 nu2 sl fu fsr f' := by
    intro r b kp2 n2 g f q1 r' s' nu2 f' g' q2
    simp only [E_w_house_j76, E_v_houseN_j67, Lt2, Prod.mk.injEq] at q1 q2
    obtain ⟨a1, a2, a3, a4, a5, a6⟩ := q1
    obtain ⟨c1, c2, c3, c4, c5⟩ := q2
    rw [a2, a3, a4, a5, a6, c2, c3, c4, c5]
    exact ⟨(q.no (by decide)).2.2, hq, hr⟩
  have j52 : ∀ v : Int32, E_w_house_j52 rb frf kp n f1 v = E_w_house_j76 rb frf kp n f1 := fun v => by
    unfold E_w_house_j52
    split <;> rfl
  have j23 : E_w_house_j23 x3 x4 rb frf kp n f1 = E_w_house_j76 rb frf kp n f1 := by
    simp only [E_w_house_j23, Lt, j52]
    split
    · split <;> rfl
    · rfl
  simp only [E_w_house, Lt, j52, j23] at k1
  simp only [E_v_houseN, Lt] at k2
  by_cases p0 : (0 : Int32).toInt ≤ x0.toInt ∧ x0.toInt ≤ (6 : Int32).toInt
  case neg => rw [ifw_n p0] at k1; rw [ifi_n (by exact p0)] at k2; exact bad k1 k2
  rw [ifw_p p0] at k1
  rw [ifi_p (by exact p0)] at k2
  by_cases p1 : (0 : Int32).toInt ≤ x1.toInt ∧ x1.toInt ≤ (3 : Int32).toInt
  case neg => rw [ifw_n p1] at k1; rw [ifi_n (by exact p1)] at k2; exact bad k1 k2
  rw [ifw_p p1] at k1
  rw [ifi_p (by exact p1)] at k2
  by_cases p2 : (0 : Int32).toInt ≤ x2.toInt ∧ x2.toInt ≤ (999 : Int32).toInt
  case neg =>
    rw [ifi_n (by exact p2)] at k2
    by_cases p3 : (0 : Int32).toInt ≤ x3.toInt ∧ x3.toInt ≤ (7 : Int32).toInt
    case neg => rw [ifw_n p3] at k1; exact bad k1 k2
    by_cases p4 : (0 : Int32).toInt ≤ x4.toInt ∧ x4.toInt ≤ (7 : Int32).toInt
    case neg => rw [ifw_p p3, ifw_n p4] at k1; exact bad k1 k2
    rw [ifw_p p3, ifw_p p4, ifw_n p2] at k1
    exact bad k1 k2
  rw [ifi_p (by exact p2)] at k2
  by_cases p3 : (0 : Int32).toInt ≤ x3.toInt ∧ x3.toInt ≤ (7 : Int32).toInt
  case neg => rw [ifw_n p3] at k1; rw [ifi_n (by exact p3)] at k2; exact bad k1 k2
  rw [ifw_p p3] at k1
  rw [ifi_p (by exact p3)] at k2
  by_cases p4 : (0 : Int32).toInt ≤ x4.toInt ∧ x4.toInt ≤ (7 : Int32).toInt
  case neg => rw [ifw_n p4] at k1; rw [ifi_n (by exact p4)] at k2; exact bad k1 k2
  rw [ifw_p p4, ifw_p p2] at k1
  rw [ifi_p (by exact p4)] at k2
  have e0 : fw (0 : Int32).toNatClampNeg = n := h.1.symm
  rw [e0] at k2
  have z0 : (0 : Int32).toInt = 0 := rfl
  unfold E_w_dinerOf at k1
  generalize hN9 : (9 - (0 : Int32).toInt : Int).toNat + 1 = N9 at k1 k2
  have dn := diner (x := x3) (n := n) (f := f1) hn (fun _ => ((0) : Int32)) N9 0 (by decide) (by rw [← hN9]; exact Nat.lt_succ_self _)
  have hl := hl_in (x0 := x0) (x1 := x1) (x2 := x2) (x3 := x3) (x4 := x4) (sta := sta) (nu := nu) (n := n) (fw := fw) (frf := frm) hn (fun _ => ((0, 0, 0, fun _ => 0, fun _ => 0) : Int32 × Int32 × Int32 × (Nat → Int32) × (Nat → Int32))) N9 0 (by decide) (by rw [← hN9]; exact Nat.lt_succ_self _)
  have ed : ∀ j : Nat, (j : Int) < n.toInt → f1 (24 + j) = fw (51 + j) := fun j hj => by
    have q := h.2.2.2.1 (24 + j) (by omega) (by omega)
    rw [Nat.zero_add, show 27 + (24 + j) = 51 + j by omega] at q
    exact q
  rcases dn with ⟨d1, d2⟩ | ⟨d1, j, j1, j2, j3⟩
  · rw [if_pos d1] at k1
    rw [hl.1 (fun j j1 j2 => by rw [← ed j j2]; exact d2 j j1 j2)] at k2
    unfold E_v_houseN_l84 at k2
    rw [if_pos (show n ≤ n from ie_iff.mpr (Int.le_refl _))] at k2
    by_cases c : n < 8
    · have c2 : n.toInt < 8 := il_iff.mp c
      rw [if_pos c] at k1
      rw [if_neg (fun q => by have := congrArg Int32.toInt q; have z : (8 : Int32).toInt = 8 := rfl; omega)] at k2
      have hN : ∀ (m : Int32) (k : Nat), m.toInt = (k : Int) → k ≤ 100 → (m + n).toNatClampNeg = k + n.toInt.toNat := fun m k hm hk => add_c hm (by omega) (by omega)
      simp only [Lt2, Lt, E_w_build, E_w_accept, put_at (k := 0) (y := 0) (show 0 ≤ n.toInt ∧ n.toInt < 8 by omega) rfl (by omega), put_at (k := 1) (y := 1) (show 0 ≤ n.toInt ∧ n.toInt < 8 by omega) rfl (by omega), put2_at (show 0 ≤ n.toInt ∧ n.toInt < 8 by omega), put_at (k := 3) (y := 3) (show 0 ≤ n.toInt ∧ n.toInt < 8 by omega) rfl (by omega), put_at (k := 4) (y := 4) (show 0 ≤ n.toInt ∧ n.toInt < 8 by omega) rfl (by omega), Prod.mk.injEq] at k1
      simp only [Lt2, Lt, hN 35 35 rfl (by decide), hN 43 43 rfl (by decide), hN 19 19 rfl (by decide), hN 51 51 rfl (by decide), hN 59 59 rfl (by decide), hN 11 11 rfl (by decide), hN 27 27 rfl (by decide), show (0 : Int32).toNatClampNeg = 0 from rfl, Prod.mk.injEq] at k2
      obtain ⟨a1, a2, a3, a4, a5, a6⟩ := k1
      obtain ⟨c1, c3, c4, c5, c6⟩ := k2
      obtain ⟨N, hN2⟩ : ∃ N, N = n.toInt.toNat := ⟨_, rfl⟩
      rw [← hN2] at a6 c5
      have hN8 : N < 8 := by omega
      obtain ⟨⟨t1, t2, t3, t4, w1, w2, w3, w4, w5, w6, w7, w8⟩, b1, b2, b3, b4, b5, b6, b7⟩ := hW
      have mk : ∀ i, i ≠ 0 → i ≠ 27 + N → i ≠ 11 + N → i ≠ 59 + N → i ≠ 51 + N → i ≠ 19 + N → i ≠ 43 + N → i ≠ 35 + N → fw' i = fw i := fun i h1 h2 h3 h4 h5 h6 h7 h8 => by
        rw [c5, upd_n h1, upd_n h2, upd_n h3, upd_n h4, upd_n h5, upd_n h6, upd_n h7, upd_n h8]
      have ck : ∀ i, i ≠ 32 + N → i ≠ 24 + N → i ≠ 16 + N → i ≠ 8 + N → i ≠ N → f1' i = f1 i := fun i h1 h2 h3 h4 h5 => by
        rw [a6, upd_n (by omega), upd_n (by omega), upd_n (by omega), upd_n (by omega), upd_n (by omega)]
      rw [a2, a3, c3, c6, tell_p (by omega)]
      have z0 : (0 : Int32).toInt = 0 := rfl
      have p0 := p0
      have v19 : fw' (19 + N) = x2 := by rw [c5, upd_n (by omega), upd_n (by omega), upd_n (by omega), upd_n (by omega), upd_n (by omega), upd_e (by omega)]
      have v11 : fw' (11 + N) = 0 := by rw [c5, upd_n (by omega), upd_n (by omega), upd_e (by omega)]
      have v27 : fw' (27 + N) = 0 := by rw [c5, upd_n (by omega), upd_e (by omega)]
      have v35 : fw' (35 + N) = x0 := by rw [c5, upd_n (by omega), upd_n (by omega), upd_n (by omega), upd_n (by omega), upd_n (by omega), upd_n (by omega), upd_n (by omega), upd_e (by omega)]
      have v43 : fw' (43 + N) = x1 := by rw [c5, upd_n (by omega), upd_n (by omega), upd_n (by omega), upd_n (by omega), upd_n (by omega), upd_n (by omega), upd_e (by omega)]
      have u16 : f1' (16 + N) = x2 := by rw [a6, upd_n (by omega), upd_n (by omega), upd_e (by omega)]
      have mk2 : ∀ i, (2 ≤ i ∧ i < 51) ∨ 100 ≤ i → i ≠ 27 + N → i ≠ 11 + N → i ≠ 19 + N → i ≠ 43 + N → i ≠ 35 + N → fw' i = fw i := fun i h1 h2 h3 h4 h5 h6 => mk i (by omega) h2 h3 (by omega) (by omega) h4 h5 h6
      have ck2 : ∀ i, 16 ≤ i → i < 24 ∨ 40 ≤ i → i ≠ 16 + N → f1' i = f1 i := fun i h1 h2 h3 => ck i (by omega) (by omega) h3 (by omega) (by omega)
      have i1 := inc_1 (a := n) (by omega)
      refine ⟨q.ok, TW.tq ⟨⟨fun j hj => ?_, ?_, fun j hj => ?_, fun k hk h8 => ?_, ?_, ?_, ?_, ?_, ?_, ?_, ?_, fun j hj => ?_⟩, ?_, ?_, b3, fun j hj => ⟨?_, ?_⟩, b5.ext (fun j h1 _ => mk2 j (by omega) (by omega) (by omega) (by omega) (by omega) (by omega)), ⟨by have := hRF.1; rwa [Nat.zero_add] at this, by rw [a5, i1]; omega⟩, fun j hj => by have := hRF.2.2.1 j hj; rwa [Nat.zero_add] at this⟩, by rw [a4, c4]; exact hr.clear⟩
      · rw [mk2 _ (by omega) (by omega) (by omega) (by omega) (by omega) (by omega)]; exact t1 j hj
      · rw [mk2 _ (by omega) (by omega) (by omega) (by omega) (by omega) (by omega)]; exact t2
      · by_cases e : j = N
        · rw [e, v11, v19, v27, u16, ck2 _ (by omega) (by omega) (by omega), ck2 _ (by omega) (by omega) (by omega), (t3 N hN8).1, (t3 N hN8).2.2, (t4 N (by omega) hN8).1, (t4 N (by omega) hN8).2]
          exact ⟨rfl, rfl, rfl⟩
        · rw [mk2 _ (by omega) (by omega) (by omega) (by omega) (by omega) (by omega), mk2 _ (by omega) (by omega) (by omega) (by omega) (by omega) (by omega), mk2 _ (by omega) (by omega) (by omega) (by omega) (by omega) (by omega), ck2 _ (by omega) (by omega) (by omega), ck2 _ (by omega) (by omega) (by omega), ck2 _ (by omega) (by omega) (by omega)]
          exact t3 j hj
      · rw [a5, i1] at hk
        rw [mk2 _ (by omega) (by omega) (by omega) (by omega) (by omega) (by omega), mk2 _ (by omega) (by omega) (by omega) (by omega) (by omega) (by omega)]
        exact t4 k (by omega) h8
      · rw [mk2 _ (by omega) (by omega) (by omega) (by omega) (by omega) (by omega)]; exact w1
      · rw [mk2 _ (by omega) (by omega) (by omega) (by omega) (by omega) (by omega)]; exact w2
      · rw [mk2 _ (by omega) (by omega) (by omega) (by omega) (by omega) (by omega)]; exact w3
      · rw [mk2 _ (by omega) (by omega) (by omega) (by omega) (by omega) (by omega)]; exact w4
      · rw [mk2 _ (by omega) (by omega) (by omega) (by omega) (by omega) (by omega)]; exact w5
      · rw [mk2 _ (by omega) (by omega) (by omega) (by omega) (by omega) (by omega)]; exact w6
      · rw [mk2 _ (by omega) (by omega) (by omega) (by omega) (by omega) (by omega)]; exact w7
      · by_cases e : j = N
        · rw [e, v11, v19, v27, z0]
          exact ⟨by omega, p2, by omega⟩
        · rw [mk2 _ (by omega) (by omega) (by omega) (by omega) (by omega) (by omega), mk2 _ (by omega) (by omega) (by omega) (by omega) (by omega) (by omega), mk2 _ (by omega) (by omega) (by omega) (by omega) (by omega) (by omega)]
          exact w8 j hj
      · rw [mk2 _ (by omega) (by omega) (by omega) (by omega) (by omega) (by omega)]; exact b1
      · rw [mk2 _ (by omega) (by omega) (by omega) (by omega) (by omega) (by omega)]; exact b2
      · by_cases e : j = N
        · rw [e, v35]; exact p0
        · rw [mk2 _ (by omega) (by omega) (by omega) (by omega) (by omega) (by omega)]; exact (b4 j hj).1
      · by_cases e : j = N
        · rw [e, v43]; exact p1
        · rw [mk2 _ (by omega) (by omega) (by omega) (by omega) (by omega) (by omega)]; exact (b4 j hj).2
    · have c2 : ¬ n.toInt < 8 := fun q => c (il_iff.mpr q)
      rw [if_neg c] at k1
      rw [if_pos (i_lit (x := 8) (by omega) rfl)] at k2
      simp only [Lt2, Prod.mk.injEq] at k1 k2
      obtain ⟨a1, a2, a3, a4, a5, a6⟩ := k1
      obtain ⟨c1, c3, c4, c5, c6⟩ := k2
      rw [a2, a3, a4, a5, a6, c3, c4, c5, c6]
      exact ⟨(q.no (by decide)).2.2, hq, hr⟩
  · rw [if_neg d1] at k1
    rw [hl.2 ⟨j, j1, j2, by rw [← ed j j2]; exact j3⟩] at k2
    simp only [Lt2, Prod.mk.injEq] at k1 k2
    obtain ⟨a1, a2, a3, a4, a5, a6⟩ := k1
    obtain ⟨c1, c3, c4, c5, c6⟩ := k2
    rw [a2, a3, a4, a5, a6, c3, c4, c5, c6]
    exact ⟨(q.no (by decide)).2.2, hq, hr⟩
