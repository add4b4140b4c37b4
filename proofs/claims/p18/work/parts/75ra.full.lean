/-! image and back: the whole towns are copied, on both sides -/
theorem img0_s {sta : Int32} {fw fk frm : Nat → Int32} (z : Int32 → (Nat → Int32) → (Int32 × Int32 × (Nat → Int32) × (Nat → Int32) × (Nat → Int32))) : ∀ (k : Nat) (v : Int32) (f : Nat → Int32), 0 ≤ v.toInt ∧ v.toInt ≤ 5500 → (5501 - v.toInt).toNat < k → (Lp (E_v_imageX_l23 sta fw fk frm) z k v f).2.1 = 0 ∧ (Lp (E_v_imageX_l23 sta fw fk frm) z k v f).2.2.2.2 = frm := by
  intro k
  induction k with
  | zero => intro v f hv hk; exact absurd hk (Nat.not_lt_zero _)
  | succ k ih =>
    intro v f hv hk
    rw [Lp_s]
    simp only [E_v_imageX_l23, Lt, Lt2]
    have z5 : (5500 : Int32).toInt = 5500 := rfl
    by_cases e : 5500 ≤ v
    · rw [if_pos e, tellX_eq, tell_p (by decide)]
      exact ⟨rfl, rfl⟩
    · have e2 : v.toInt < 5500 := by
        have : ¬ (5500 : Int32).toInt ≤ v.toInt := fun q => e (ie_iff.mpr q)
        omega
      have hi := inc_o (a := v) (by omega)
      rw [if_neg e]
      exact ih _ _ (by omega) (by omega)
theorem img1_s {sta : Int32} {fw fk frm : Nat → Int32} (z : Int32 → (Nat → Int32) → (Int32 × Int32 × (Nat → Int32) × (Nat → Int32) × (Nat → Int32))) : ∀ (k : Nat) (v : Int32) (f : Nat → Int32), 0 ≤ v.toInt ∧ v.toInt ≤ 5500 → (5501 - v.toInt).toNat < k → (Lp (E_v_imageX_l23a sta fw fk frm) z k v f).2.1 = 0 ∧ (Lp (E_v_imageX_l23a sta fw fk frm) z k v f).2.2.2.2 = frm := by
  intro k
  induction k with
  | zero => intro v f hv hk; exact absurd hk (Nat.not_lt_zero _)
  | succ k ih =>
    intro v f hv hk
    rw [Lp_s]
    simp only [E_v_imageX_l23a, Lt, Lt2]
    have z5 : (5500 : Int32).toInt = 5500 := rfl
    by_cases e : 5500 ≤ v
    · rw [if_pos e, tellX_eq, tell_p (by decide)]
      exact ⟨rfl, rfl⟩
    · have e2 : v.toInt < 5500 := by
        have : ¬ (5500 : Int32).toInt ≤ v.toInt := fun q => e (ie_iff.mpr q)
        omega
      have hi := inc_o (a := v) (by omega)
      rw [if_neg e]
      exact ih _ _ (by omega) (by omega)
theorem bak0_s {sta : Int32} {fi frm : Nat → Int32} (z : Int32 → (Nat → Int32) → (Int32 × Int32 × Int32 × (Nat → Int32) × (Nat → Int32))) : ∀ (k : Nat) (v : Int32) (f : Nat → Int32), 0 ≤ v.toInt ∧ v.toInt ≤ 5500 → (5501 - v.toInt).toNat < k → (Lp (E_v_backX_l39 sta fi frm) z k v f).2.1 = 0 ∧ (Lp (E_v_backX_l39 sta fi frm) z k v f).2.2.1 = 0 ∧ (Lp (E_v_backX_l39 sta fi frm) z k v f).2.2.2.2 = frm := by
  intro k
  induction k with
  | zero => intro v f hv hk; exact absurd hk (Nat.not_lt_zero _)
  | succ k ih =>
    intro v f hv hk
    rw [Lp_s]
    simp only [E_v_backX_l39, Lt, Lt2]
    have z5 : (5500 : Int32).toInt = 5500 := rfl
    by_cases e : 5500 ≤ v
    · rw [if_pos e, tellX_eq, tell_p (by decide)]
      exact ⟨rfl, rfl, rfl⟩
    · have e2 : v.toInt < 5500 := by
        have : ¬ (5500 : Int32).toInt ≤ v.toInt := fun q => e (ie_iff.mpr q)
        omega
      have hi := inc_o (a := v) (by omega)
      rw [if_neg e]
      exact ih _ _ (by omega) (by omega)
theorem bak1_s {sta : Int32} {fi frm : Nat → Int32} (z : Int32 → (Nat → Int32) → (Int32 × Int32 × Int32 × (Nat → Int32) × (Nat → Int32))) : ∀ (k : Nat) (v : Int32) (f : Nat → Int32), 0 ≤ v.toInt ∧ v.toInt ≤ 5500 → (5501 - v.toInt).toNat < k → (Lp (E_v_backX_l39a sta fi frm) z k v f).2.1 = 0 ∧ (Lp (E_v_backX_l39a sta fi frm) z k v f).2.2.1 = 0 ∧ (Lp (E_v_backX_l39a sta fi frm) z k v f).2.2.2.2 = frm := by
  intro k
  induction k with
  | zero => intro v f hv hk; exact absurd hk (Nat.not_lt_zero _)
  | succ k ih =>
    intro v f hv hk
    rw [Lp_s]
    simp only [E_v_backX_l39a, Lt, Lt2]
    have z5 : (5500 : Int32).toInt = 5500 := rfl
    by_cases e : 5500 ≤ v
    · rw [if_pos e, tellX_eq, tell_p (by decide)]
      exact ⟨rfl, rfl, rfl⟩
    · have e2 : v.toInt < 5500 := by
        have : ¬ (5500 : Int32).toInt ≤ v.toInt := fun q => e (ie_iff.mpr q)
        omega
      have hi := inc_o (a := v) (by omega)
      rw [if_neg e]
      exact ih _ _ (by omega) (by omega)
theorem rq_image {x rb dr kp thr sta : Int32} {frf fik fw fi fk frm : Nat → Int32} {Bn Bl Bf Bi Bh Bo : Int32} {Ba Bb Bc : Nat → Int32} {Bd : Nat → Option Nat} {In Il If Ii Ih Io : Int32} {Ia Ib Ic : Nat → Int32} {Id : Nat → Option Nat} {Jn Jl Jf Ji Jh Jo : Int32} {Ja Jb Jc : Nat → Int32} {Jd : Nat → Option Nat} {G : Nat → LC} {r1 b1 r2 s2 : Int32} {g1 ik' fi' fk' g2 : Nat → Int32} {In' Il' If' Ii' Ih' Io' : Int32} {Ia' Ib' Ic' : Nat → Int32} {Id' : Nat → Option Nat} {Jn' Jl' Jf' Ji' Jh' Jo' : Int32} {Ja' Jb' Jc' : Nat → Int32} {Jd' : Nat → Option Nat} (k1 : (r1, b1, g1, ik', In', Il', If', Ii', Ih', Io', Ia', Ib', Ic', Id', Jn', Jl', Jf', Ji', Jh', Jo', Ja', Jb', Jc', Jd') = E_w_imageX x rb frf dr kp fik Bn Bl Bf Bi Bh Bo Ba Bb Bc Bd In Il If Ii Ih Io Ia Ib Ic Id Jn Jl Jf Ji Jh Jo Ja Jb Jc Jd) (k2 : (r2, s2, fi', fk', g2) = E_v_imageX x thr sta fw fi fk frm) (q : RfR rb sta frf frm) (hk : KF fik fk) (h : TQ 0 Bn Bl Bf Bi Ba Bb Bd G fw) (hi : fik 0 ≠ 0 → TQ 0 In Il If Ii Ia Ib Id G fi) (hj : fik 1 ≠ 0 → TQ 5500 Jn Jl Jf Ji Ja Jb Jd G fi) (hz : 0 ≤ Bl.toInt ∧ Bl.toInt ≤ 6) (hz2 : 0 ≤ Il.toInt ∧ Il.toInt ≤ 6) (hz3 : 0 ≤ Jl.toInt ∧ Jl.toInt ≤ 6) : RfR b1 s2 g1 g2 ∧ (ik' 0 ≠ 0 → TQ 0 In' Il' If' Ii' Ia' Ib' Id' G fi') ∧ (ik' 1 ≠ 0 → TQ 5500 Jn' Jl' Jf' Ji' Ja' Jb' Jd' G fi') := by
  simp only [E_w_imageX, Lt, Lt2] at k1
  rw [E_v_imageX.eq_def] at k2
  have z0 : (0 : Int32).toNatClampNeg = 0 := rfl
  have z1 : (1 : Int32).toNatClampNeg = 1 := rfl
  by_cases c0 : x.toInt < 0
  · rw [if_pos c0] at k1 k2
    rw [ifw_n (by have z : (0 : Int32).toInt = 0 := rfl; omega)] at k1
    rw [Lt_b, Lt_b, ifi_n (by have z : (0 : Int64).toInt = 0 := rfl; omega)] at k2
    simp only [Lt2, Prod.mk.injEq] at k1 k2
    obtain ⟨-, e_b, e_g, e_k, rfl, rfl, rfl, rfl, -, -, rfl, rfl, -, rfl, rfl, rfl, rfl, rfl, -, -, rfl, rfl, -, rfl⟩ := k1
    obtain ⟨-, d2, d3, -, d5⟩ := k2
    rw [e_b, e_g, e_k, d2, d3, d5]
    exact ⟨(q.no (by decide)).2.2, hi, hj⟩
  rw [if_neg c0] at k1 k2
  by_cases c1 : x.toInt = 0
  · rw [if_pos c1] at k1 k2
    rw [ifw_p (by decide)] at k1
    rw [Lt_b, if_pos (show E_v_in 0 0 1 = 1 by decide)] at k2
    generalize hN : (5501 - (0 : Int32).toInt : Int).toNat + 1 = N at k2
    have w := img0_in (sta := sta) (fw := fw) (fk := fk) (frm := frm) (fi := fi) (fun _ _ => ((0, 0, fun _ => 0, fun _ => 0, fun _ => 0) : Int32 × Int32 × (Nat → Int32) × (Nat → Int32) × (Nat → Int32))) N 0 fi (by decide) (by rw [← hN]; exact Nat.lt_succ_self _) CpU.base
    have y := img0_s (sta := sta) (fw := fw) (fk := fk) (frm := frm) (fun _ _ => ((0, 0, fun _ => 0, fun _ => 0, fun _ => 0) : Int32 × Int32 × (Nat → Int32) × (Nat → Int32) × (Nat → Int32))) N 0 fi (by decide) (by rw [← hN]; exact Nat.lt_succ_self _)
    rw [← k2] at w y
    obtain ⟨y1, y2⟩ := y
    dsimp only at w y1 y2
    simp only [Prod.mk.injEq] at k1
    obtain ⟨-, e_b, e_g, e_k, rfl, rfl, rfl, rfl, -, -, e1, e2, -, e4, rfl, rfl, rfl, rfl, -, -, rfl, rfl, -, rfl⟩ := k1
    obtain ⟨m1, -, m2⟩ := become_at (An := In) (Al := Il) (Af := If) (Ai := Ii) (Ah := Ih) (Ao := Io) (Aa := Ia) (Ab := Ib) (Ac := Ic) (Ad := Id) (Bn := In') (Bl := Il') (Bf := If') (Bi := Ii') (Bh := Bh) (Bo := Bo) (Ba := Ba) (Bb := Bb) (Bc := Bc) (Bd := Bd)
    have m3 := become_laws (An := In) (Al := Il) (Af := If) (Ai := Ii) (Ah := Ih) (Ao := Io) (Aa := Ia) (Ab := Ib) (Ac := Ic) (Ad := Id) (Bn := In') (Bl := Il') (Bf := If') (Bi := Ii') (Bh := Bh) (Bo := Bo) (Ba := Ba) (Bb := Bb) (Bc := Bc) (Bd := Bd)
    rw [← e1] at m1
    rw [← e2] at m2
    rw [← e4] at m3
    rw [e_b, e_g, e_k, y1, y2]
    refine ⟨q.ok, fun _ => h.move hz (fun j hj => (w.1 j (by omega)).trans (by rw [Nat.zero_add])) m1 m2 m3, fun g => ?_⟩
    rw [z0, upd_n (by omega)] at g
    exact (hj g).move hz3 (fun j hj => w.2 _ (by omega)) (fun _ _ => rfl) (fun _ _ => rfl) (fun _ _ => rfl)
  rw [if_neg c1] at k1 k2
  by_cases c2 : x.toInt = 1
  · rw [if_pos c2] at k1 k2
    rw [ifw_p (by decide)] at k1
    rw [Lt_b, if_pos (show E_v_in 1 0 1 = 1 by decide)] at k2
    generalize hN : (5501 - (0 : Int32).toInt : Int).toNat + 1 = N at k2
    have w := img1_in (sta := sta) (fw := fw) (fk := fk) (frm := frm) (fi := fi) (fun _ _ => ((0, 0, fun _ => 0, fun _ => 0, fun _ => 0) : Int32 × Int32 × (Nat → Int32) × (Nat → Int32) × (Nat → Int32))) N 0 fi (by decide) (by rw [← hN]; exact Nat.lt_succ_self _) CpU.base
    have y := img1_s (sta := sta) (fw := fw) (fk := fk) (frm := frm) (fun _ _ => ((0, 0, fun _ => 0, fun _ => 0, fun _ => 0) : Int32 × Int32 × (Nat → Int32) × (Nat → Int32) × (Nat → Int32))) N 0 fi (by decide) (by rw [← hN]; exact Nat.lt_succ_self _)
    rw [← k2] at w y
    obtain ⟨y1, y2⟩ := y
    dsimp only at w y1 y2
    simp only [Prod.mk.injEq] at k1
    obtain ⟨-, e_b, e_g, e_k, rfl, rfl, rfl, rfl, -, -, rfl, rfl, -, rfl, rfl, rfl, rfl, rfl, -, -, e1, e2, -, e4⟩ := k1
    obtain ⟨m1, -, m2⟩ := become_at (An := Jn) (Al := Jl) (Af := Jf) (Ai := Ji) (Ah := Jh) (Ao := Jo) (Aa := Ja) (Ab := Jb) (Ac := Jc) (Ad := Jd) (Bn := Jn') (Bl := Jl') (Bf := Jf') (Bi := Ji') (Bh := Bh) (Bo := Bo) (Ba := Ba) (Bb := Bb) (Bc := Bc) (Bd := Bd)
    have m3 := become_laws (An := Jn) (Al := Jl) (Af := Jf) (Ai := Ji) (Ah := Jh) (Ao := Jo) (Aa := Ja) (Ab := Jb) (Ac := Jc) (Ad := Jd) (Bn := Jn') (Bl := Jl') (Bf := Jf') (Bi := Ji') (Bh := Bh) (Bo := Bo) (Ba := Ba) (Bb := Bb) (Bc := Bc) (Bd := Bd)
    rw [← e1] at m1
    rw [← e2] at m2
    rw [← e4] at m3
    rw [e_b, e_g, e_k, y1, y2]
    refine ⟨q.ok, fun g => ?_, fun _ => h.move hz (fun j hj => by rw [Nat.zero_add]; exact w.1 j (by omega)) m1 m2 m3⟩
    rw [z1, upd_n (by omega)] at g
    exact (hi g).move hz2 (fun j hj => by rw [Nat.zero_add]; exact w.2 _ (by omega)) (fun _ _ => rfl) (fun _ _ => rfl) (fun _ _ => rfl)
  rw [if_neg c2] at k1 k2
  rw [ifw_n (by have z : (1 : Int32).toInt = 1 := rfl; omega)] at k1
  rw [Lt_b, Lt_b, ifi_n (by have z : (1 : Int64).toInt = 1 := rfl; omega)] at k2
  simp only [Lt2, Prod.mk.injEq] at k1 k2
  obtain ⟨-, e_b, e_g, e_k, rfl, rfl, rfl, rfl, -, -, rfl, rfl, -, rfl, rfl, rfl, rfl, rfl, -, -, rfl, rfl, -, rfl⟩ := k1
  obtain ⟨-, d2, d3, -, d5⟩ := k2
  rw [e_b, e_g, e_k, d2, d3, d5]
  exact ⟨(q.no (by decide)).2.2, hi, hj⟩
theorem rq_back {x rb dr kp thr sta nu : Int32} {frf fik fw fi fk frm : Nat → Int32} {Bn Bl Bf Bi Bh Bo : Int32} {Ba Bb Bc : Nat → Int32} {Bd : Nat → Option Nat} {In Il If Ii Ih Io : Int32} {Ia Ib Ic : Nat → Int32} {Id : Nat → Option Nat} {Jn Jl Jf Ji Jh Jo : Int32} {Ja Jb Jc : Nat → Int32} {Jd : Nat → Option Nat} {G : Nat → LC} {sl fu fsr : Nat → Int32} {r1 b1 kp' r2 s2 nu' : Int32} {g1 fw' g2 : Nat → Int32} {Bn' Bl' Bf' Bi' Bh' Bo' : Int32} {Ba' Bb' Bc' : Nat → Int32} {Bd' : Nat → Option Nat} (k1 : (r1, b1, g1, kp', Bn', Bl', Bf', Bi', Bh', Bo', Ba', Bb', Bc', Bd') = E_w_backX x rb frf dr kp fik Bn Bl Bf Bi Bh Bo Ba Bb Bc Bd In Il If Ii Ih Io Ia Ib Ic Id Jn Jl Jf Ji Jh Jo Ja Jb Jc Jd) (k2 : (r2, s2, nu', fw', g2) = E_v_backX x thr sta nu fw fi fk frm) (q : RfR rb sta frf frm) (hk : KF fik fk) (h : TQ 0 Bn Bl Bf Bi Ba Bb Bd G fw) (hi : fik 0 ≠ 0 → TQ 0 In Il If Ii Ia Ib Id G fi) (hj : fik 1 ≠ 0 → TQ 5500 Jn Jl Jf Ji Ja Jb Jd G fi) (hz2 : 0 ≤ Il.toInt ∧ Il.toInt ≤ 6) (hz3 : 0 ≤ Jl.toInt ∧ Jl.toInt ≤ 6) (hr : HR Bn dr kp nu sl fu fsr fw) : RfR b1 s2 g1 g2 ∧ TQ 0 Bn' Bl' Bf' Bi' Ba' Bb' Bd' G fw' ∧ HR Bn' dr kp' nu' sl fu fsr fw' := by
  simp only [E_w_backX, Lt, Lt2] at k1
  rw [E_v_backX.eq_def] at k2
  by_cases c0 : x.toInt < 0
  · rw [if_pos c0] at k1 k2
    rw [ifw_n (by have z : (0 : Int32).toInt = 0 := rfl; omega)] at k1
    rw [Lt_b, Lt_b, ifi_n (by have z : (0 : Int64).toInt = 0 := rfl; omega)] at k2
    simp only [Lt2, Prod.mk.injEq] at k1 k2
    obtain ⟨-, e_b, e_g, e_p, rfl, rfl, rfl, rfl, -, -, rfl, rfl, -, rfl⟩ := k1
    obtain ⟨-, d2, d3, d4, d5⟩ := k2
    rw [e_b, e_g, e_p, d2, d3, d4, d5]
    exact ⟨(q.no (by decide)).2.2, h, hr⟩
  rw [if_neg c0] at k1 k2
  by_cases c1 : x.toInt = 0
  · rw [if_pos c1] at k1 k2
    rw [ifw_p (by decide)] at k1
    rw [Lt_b, if_pos (show E_v_in 0 0 1 = 1 by decide)] at k2
    have ek : fik (0 : Int32).toNatClampNeg = fk (0 : Int32).toNatClampNeg := Int32.toInt_inj.mp hk.1
    rw [Lt_b, ← ek] at k2
    by_cases g : fik (0 : Int32).toNatClampNeg = 0
    · rw [if_pos g] at k1 k2
      simp only [Lt2, Prod.mk.injEq] at k1 k2
      obtain ⟨-, e_b, e_g, e_p, rfl, rfl, rfl, rfl, -, -, rfl, rfl, -, rfl⟩ := k1
      obtain ⟨-, d2, d3, d4, d5⟩ := k2
      rw [e_b, e_g, e_p, d2, d3, d4, d5]
      exact ⟨(q.no (by decide)).2.2, h, hr⟩
    · rw [if_neg g] at k1 k2
      generalize hN : (5501 - (0 : Int32).toInt : Int).toNat + 1 = N at k2
      have w := bak0_in (sta := sta) (fi := fi) (frm := frm) (fun _ _ => ((0, 0, 0, fun _ => 0, fun _ => 0) : Int32 × Int32 × Int32 × (Nat → Int32) × (Nat → Int32))) N 0 fw (by decide) (by rw [← hN]; exact Nat.lt_succ_self _) CpV.base
      have y := bak0_s (sta := sta) (fi := fi) (frm := frm) (fun _ _ => ((0, 0, 0, fun _ => 0, fun _ => 0) : Int32 × Int32 × Int32 × (Nat → Int32) × (Nat → Int32))) N 0 fw (by decide) (by rw [← hN]; exact Nat.lt_succ_self _)
      rw [← k2] at w y
      obtain ⟨y1, y2, y3⟩ := y
      dsimp only at w y1 y2 y3
      simp only [Prod.mk.injEq] at k1
      obtain ⟨-, e_b, e_g, e_p, rfl, rfl, rfl, rfl, -, -, e1, e2, -, e4⟩ := k1
      obtain ⟨m1, -, m2⟩ := become_at (An := Bn) (Al := Bl) (Af := Bf) (Ai := Bi) (Ah := Bh) (Ao := Bo) (Aa := Ba) (Ab := Bb) (Ac := Bc) (Ad := Bd) (Bn := Bn') (Bl := Bl') (Bf := Bf') (Bi := Bi') (Bh := Ih) (Bo := Io) (Ba := Ia) (Bb := Ib) (Bc := Ic) (Bd := Id)
      have m3 := become_laws (An := Bn) (Al := Bl) (Af := Bf) (Ai := Bi) (Ah := Bh) (Ao := Bo) (Aa := Ba) (Ab := Bb) (Ac := Bc) (Ad := Bd) (Bn := Bn') (Bl := Bl') (Bf := Bf') (Bi := Bi') (Bh := Ih) (Bo := Io) (Ba := Ia) (Bb := Ib) (Bc := Ic) (Bd := Id)
      rw [← e1] at m1
      rw [← e2] at m2
      rw [← e4] at m3
      rw [e_b, e_g, e_p, y1, y2, y3]
      exact ⟨q.ok, (hi g).move hz2 (fun j hj => by have q9 := w j (by omega); simpa only [Nat.zero_add] using q9) m1 m2 m3, hr.clear⟩
  rw [if_neg c1] at k1 k2
  by_cases c2 : x.toInt = 1
  · rw [if_pos c2] at k1 k2
    rw [ifw_p (by decide)] at k1
    rw [Lt_b, if_pos (show E_v_in 1 0 1 = 1 by decide)] at k2
    have ek : fik (1 : Int32).toNatClampNeg = fk (1 : Int32).toNatClampNeg := Int32.toInt_inj.mp hk.2
    rw [Lt_b, ← ek] at k2
    by_cases g : fik (1 : Int32).toNatClampNeg = 0
    · rw [if_pos g] at k1 k2
      simp only [Lt2, Prod.mk.injEq] at k1 k2
      obtain ⟨-, e_b, e_g, e_p, rfl, rfl, rfl, rfl, -, -, rfl, rfl, -, rfl⟩ := k1
      obtain ⟨-, d2, d3, d4, d5⟩ := k2
      rw [e_b, e_g, e_p, d2, d3, d4, d5]
      exact ⟨(q.no (by decide)).2.2, h, hr⟩
    · rw [if_neg g] at k1 k2
      generalize hN : (5501 - (0 : Int32).toInt : Int).toNat + 1 = N at k2
      have w := bak1_in (sta := sta) (fi := fi) (frm := frm) (fun _ _ => ((0, 0, 0, fun _ => 0, fun _ => 0) : Int32 × Int32 × Int32 × (Nat → Int32) × (Nat → Int32))) N 0 fw (by decide) (by rw [← hN]; exact Nat.lt_succ_self _) CpV.base
      have y := bak1_s (sta := sta) (fi := fi) (frm := frm) (fun _ _ => ((0, 0, 0, fun _ => 0, fun _ => 0) : Int32 × Int32 × Int32 × (Nat → Int32) × (Nat → Int32))) N 0 fw (by decide) (by rw [← hN]; exact Nat.lt_succ_self _)
      rw [← k2] at w y
      obtain ⟨y1, y2, y3⟩ := y
      dsimp only at w y1 y2 y3
      simp only [Prod.mk.injEq] at k1
      obtain ⟨-, e_b, e_g, e_p, rfl, rfl, rfl, rfl, -, -, e1, e2, -, e4⟩ := k1
      obtain ⟨m1, -, m2⟩ := become_at (An := Bn) (Al := Bl) (Af := Bf) (Ai := Bi) (Ah := Bh) (Ao := Bo) (Aa := Ba) (Ab := Bb) (Ac := Bc) (Ad := Bd) (Bn := Bn') (Bl := Bl') (Bf := Bf') (Bi := Bi') (Bh := Jh) (Bo := Jo) (Ba := Ja) (Bb := Jb) (Bc := Jc) (Bd := Jd)
      have m3 := become_laws (An := Bn) (Al := Bl) (Af := Bf) (Ai := Bi) (Ah := Bh) (Ao := Bo) (Aa := Ba) (Ab := Bb) (Ac := Bc) (Ad := Bd) (Bn := Bn') (Bl := Bl') (Bf := Bf') (Bi := Bi') (Bh := Jh) (Bo := Jo) (Ba := Ja) (Bb := Jb) (Bc := Jc) (Bd := Jd)
      rw [← e1] at m1
      rw [← e2] at m2
      rw [← e4] at m3
      rw [e_b, e_g, e_p, y1, y2, y3]
      exact ⟨q.ok, (hj g).move hz3 (fun j hj => by have q9 := w j (by omega); simpa only [Nat.zero_add] using q9) m1 m2 m3, hr.clear⟩
  rw [if_neg c2] at k1 k2
  rw [ifw_n (by have z : (1 : Int32).toInt = 1 := rfl; omega)] at k1
  rw [Lt_b, Lt_b, ifi_n (by have z : (1 : Int64).toInt = 1 := rfl; omega)] at k2
  simp only [Lt2, Prod.mk.injEq] at k1 k2
  obtain ⟨-, e_b, e_g, e_p, rfl, rfl, rfl, rfl, -, -, rfl, rfl, -, rfl⟩ := k1
  obtain ⟨-, d2, d3, d4, d5⟩ := k2
  rw [e_b, e_g, e_p, d2, d3, d4, d5]
  exact ⟨(q.no (by decide)).2.2, h, hr⟩
