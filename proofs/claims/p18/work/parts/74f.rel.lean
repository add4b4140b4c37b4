theorem Lt_b {α β : Type} {e : α} {f : α → β} : Lt e f = f e := rfl
theorem Lt2_b {α β γ : Type} {e : α × β} {f : α → β → γ} : Lt2 e f = f e.1 e.2 := rfl
theorem rel_image {x rb dr kp thr sta : Int32} {frf fik fw fi fk frm : Nat → Int32} {Bn Bl Bf Bi Bh Bo : Int32} {Ba Bb Bc : Nat → Int32} {Bd : Nat → Option Nat} {In Il If Ii Ih Io : Int32} {Ia Ib Ic : Nat → Int32} {Id : Nat → Option Nat} {Jn Jl Jf Ji Jh Jo : Int32} {Ja Jb Jc : Nat → Int32} {Jd : Nat → Option Nat} {r1 b1 r2 s2 : Int32} {g1 ik' fi' fk' g2 : Nat → Int32} {In' Il' If' Ii' Ih' Io' : Int32} {Ia' Ib' Ic' : Nat → Int32} {Id' : Nat → Option Nat} {Jn' Jl' Jf' Ji' Jh' Jo' : Int32} {Ja' Jb' Jc' : Nat → Int32} {Jd' : Nat → Option Nat} (k1 : (r1, b1, g1, ik', In', Il', If', Ii', Ih', Io', Ia', Ib', Ic', Id', Jn', Jl', Jf', Ji', Jh', Jo', Ja', Jb', Jc', Jd') = E_w_imageX x rb frf dr kp fik Bn Bl Bf Bi Bh Bo Ba Bb Bc Bd In Il If Ii Ih Io Ia Ib Ic Id Jn Jl Jf Ji Jh Jo Ja Jb Jc Jd) (k2 : (r2, s2, fi', fk', g2) = E_v_imageX x thr sta fw fi fk frm) (h : RF 0 Bn Bh Bo Ba Bc fw) (hi : RF 0 In Ih Io Ia Ic fi) (hj : RF 5500 Jn Jh Jo Ja Jc fi) (hz : 0 ≤ Bh.toInt ∧ Bh.toInt ≤ 6) (hz2 : 0 ≤ Ih.toInt ∧ Ih.toInt ≤ 6) (hz3 : 0 ≤ Jh.toInt ∧ Jh.toInt ≤ 6) : RF 0 In' Ih' Io' Ia' Ic' fi' ∧ RF 5500 Jn' Jh' Jo' Ja' Jc' fi' := by
  simp only [E_w_imageX, Lt, Lt2] at k1
  rw [E_v_imageX.eq_def] at k2
  by_cases c0 : x.toInt < 0
  · rw [if_pos c0] at k1 k2
    rw [ifw_n (by have z : (0 : Int32).toInt = 0 := rfl; omega)] at k1
    rw [Lt_b, Lt_b, ifi_n (by have z : (0 : Int64).toInt = 0 := rfl; omega)] at k2
    simp only [Lt2, Prod.mk.injEq] at k1 k2
    obtain ⟨-, -, -, -, rfl, -, -, -, rfl, rfl, rfl, -, rfl, -, rfl, -, -, -, rfl, rfl, rfl, -, rfl, -⟩ := k1
    have c9 := k2.2.2.1
    rw [c9]
    exact ⟨hi, hj⟩
  rw [if_neg c0] at k1 k2
  by_cases c1 : x.toInt = 0
  · rw [if_pos c1] at k1 k2
    rw [ifw_p (by decide)] at k1
    rw [Lt_b, if_pos (show E_v_in 0 0 1 = 1 by decide)] at k2
    generalize hN : (5501 - (0 : Int32).toInt : Int).toNat + 1 = N at k2
    have q := img0_in (sta := sta) (fw := fw) (fk := fk) (frm := frm) (fi := fi) (fun _ _ => ((0, 0, fun _ => 0, fun _ => 0, fun _ => 0) : Int32 × Int32 × (Nat → Int32) × (Nat → Int32) × (Nat → Int32))) N 0 fi (by decide) (by rw [← hN]; exact Nat.lt_succ_self _) CpU.base
    rw [← k2] at q
    simp only [Prod.mk.injEq] at k1
    obtain ⟨-, -, -, -, rfl, -, -, -, rfl, rfl, e1, -, e3, -, rfl, -, -, -, rfl, rfl, rfl, -, rfl, -⟩ := k1
    obtain ⟨m1, m2, -⟩ := become_at (An := In) (Al := Il) (Af := If) (Ai := Ii) (Ah := Ih) (Ao := Io) (Aa := Ia) (Ab := Ib) (Ac := Ic) (Ad := Id) (Bn := In') (Bl := Bl) (Bf := Bf) (Bi := Bi) (Bh := Ih') (Bo := Io') (Ba := Ba) (Bb := Bb) (Bc := Bc) (Bd := Bd)
    rw [← e1] at m1
    rw [← e3] at m2
    exact ⟨h.move hz.2 (fun j hj => (q.1 j (by omega)).trans (by rw [Nat.zero_add])) (fun j hj => m1 j (by omega)) m2, hj.move hz3.2 (fun j hj => q.2 _ (by omega)) (fun _ _ => rfl) (fun _ _ => rfl)⟩
  rw [if_neg c1] at k1 k2
  by_cases c2 : x.toInt = 1
  · rw [if_pos c2] at k1 k2
    rw [ifw_p (by decide)] at k1
    rw [Lt_b, if_pos (show E_v_in 1 0 1 = 1 by decide)] at k2
    generalize hN : (5501 - (0 : Int32).toInt : Int).toNat + 1 = N at k2
    have q := img1_in (sta := sta) (fw := fw) (fk := fk) (frm := frm) (fi := fi) (fun _ _ => ((0, 0, fun _ => 0, fun _ => 0, fun _ => 0) : Int32 × Int32 × (Nat → Int32) × (Nat → Int32) × (Nat → Int32))) N 0 fi (by decide) (by rw [← hN]; exact Nat.lt_succ_self _) CpU.base
    rw [← k2] at q
    simp only [Prod.mk.injEq] at k1
    obtain ⟨-, -, -, -, rfl, -, -, -, rfl, rfl, rfl, -, rfl, -, rfl, -, -, -, rfl, rfl, e1, -, e3, -⟩ := k1
    obtain ⟨m1, m2, -⟩ := become_at (An := Jn) (Al := Jl) (Af := Jf) (Ai := Ji) (Ah := Jh) (Ao := Jo) (Aa := Ja) (Ab := Jb) (Ac := Jc) (Ad := Jd) (Bn := Jn') (Bl := Bl) (Bf := Bf) (Bi := Bi) (Bh := Jh') (Bo := Jo') (Ba := Ba) (Bb := Bb) (Bc := Bc) (Bd := Bd)
    rw [← e1] at m1
    rw [← e3] at m2
    exact ⟨hi.move hz2.2 (fun j hj => by rw [Nat.zero_add]; exact q.2 _ (by omega)) (fun _ _ => rfl) (fun _ _ => rfl), h.move hz.2 (fun j hj => by rw [Nat.zero_add]; exact q.1 j (by omega)) (fun j hj => m1 j (by omega)) m2⟩
  rw [if_neg c2] at k1 k2
  rw [ifw_n (by have z : (1 : Int32).toInt = 1 := rfl; omega)] at k1
  rw [Lt_b, Lt_b, ifi_n (by have z : (1 : Int64).toInt = 1 := rfl; omega)] at k2
  simp only [Lt2, Prod.mk.injEq] at k1 k2
  obtain ⟨-, -, -, -, rfl, -, -, -, rfl, rfl, rfl, -, rfl, -, rfl, -, -, -, rfl, rfl, rfl, -, rfl, -⟩ := k1
  have c9 := k2.2.2.1
  rw [c9]
  exact ⟨hi, hj⟩
theorem rel_back {x rb dr kp thr sta nu : Int32} {frf fik fw fi fk frm : Nat → Int32} {Bn Bl Bf Bi Bh Bo : Int32} {Ba Bb Bc : Nat → Int32} {Bd : Nat → Option Nat} {In Il If Ii Ih Io : Int32} {Ia Ib Ic : Nat → Int32} {Id : Nat → Option Nat} {Jn Jl Jf Ji Jh Jo : Int32} {Ja Jb Jc : Nat → Int32} {Jd : Nat → Option Nat} {r1 b1 kp' r2 s2 nu' : Int32} {g1 fw' g2 : Nat → Int32} {Bn' Bl' Bf' Bi' Bh' Bo' : Int32} {Ba' Bb' Bc' : Nat → Int32} {Bd' : Nat → Option Nat} (k1 : (r1, b1, g1, kp', Bn', Bl', Bf', Bi', Bh', Bo', Ba', Bb', Bc', Bd') = E_w_backX x rb frf dr kp fik Bn Bl Bf Bi Bh Bo Ba Bb Bc Bd In Il If Ii Ih Io Ia Ib Ic Id Jn Jl Jf Ji Jh Jo Ja Jb Jc Jd) (k2 : (r2, s2, nu', fw', g2) = E_v_backX x thr sta nu fw fi fk frm) (h : RF 0 Bn Bh Bo Ba Bc fw) (hi : RF 0 In Ih Io Ia Ic fi) (hj : RF 5500 Jn Jh Jo Ja Jc fi) (hz2 : 0 ≤ Ih.toInt ∧ Ih.toInt ≤ 6) (hz3 : 0 ≤ Jh.toInt ∧ Jh.toInt ≤ 6) (hk : KF fik fk) : RF 0 Bn' Bh' Bo' Ba' Bc' fw' := by
  simp only [E_w_backX, Lt, Lt2] at k1
  rw [E_v_backX.eq_def] at k2
  by_cases c0 : x.toInt < 0
  · rw [if_pos c0] at k1 k2
    rw [ifw_n (by have z : (0 : Int32).toInt = 0 := rfl; omega)] at k1
    rw [Lt_b, Lt_b, ifi_n (by have z : (0 : Int64).toInt = 0 := rfl; omega)] at k2
    simp only [Lt2, Prod.mk.injEq] at k1 k2
    obtain ⟨-, -, -, -, rfl, -, -, -, rfl, rfl, rfl, -, rfl, -⟩ := k1
    have c9 := k2.2.2.2.1
    rw [c9]
    exact h
  rw [if_neg c0] at k1 k2
  by_cases c1 : x.toInt = 0
  · rw [if_pos c1] at k1 k2
    rw [ifw_p (by decide)] at k1
    rw [Lt_b, if_pos (show E_v_in 0 0 1 = 1 by decide)] at k2
    have ek : fik (0 : Int32).toNatClampNeg = fk (0 : Int32).toNatClampNeg := Int32.toInt_inj.mp hk.1
    rw [Lt_b, ← ek] at k2
    by_cases g : fik (0 : Int32).toNatClampNeg = 0
    · rw [if_pos g] at k1 k2
      simp only [Lt2, Prod.mk.injEq] at k1 k2
      obtain ⟨-, -, -, -, rfl, -, -, -, rfl, rfl, rfl, -, rfl, -⟩ := k1
      have c9 := k2.2.2.2.1
      rw [c9]
      exact h
    · rw [if_neg g] at k1 k2
      generalize hN : (5501 - (0 : Int32).toInt : Int).toNat + 1 = N at k2
      have q := bak0_in (sta := sta) (fi := fi) (frm := frm) (fun _ _ => ((0, 0, 0, fun _ => 0, fun _ => 0) : Int32 × Int32 × Int32 × (Nat → Int32) × (Nat → Int32))) N 0 fw (by decide) (by rw [← hN]; exact Nat.lt_succ_self _) CpV.base
      rw [← k2] at q
      simp only [Prod.mk.injEq] at k1
      obtain ⟨-, -, -, -, rfl, -, -, -, rfl, rfl, e1, -, e3, -⟩ := k1
      obtain ⟨m1, m2, -⟩ := become_at (An := Bn) (Al := Bl) (Af := Bf) (Ai := Bi) (Ah := Bh) (Ao := Bo) (Aa := Ba) (Ab := Bb) (Ac := Bc) (Ad := Bd) (Bn := Bn') (Bl := Il) (Bf := If) (Bi := Ii) (Bh := Bh') (Bo := Bo') (Ba := Ia) (Bb := Ib) (Bc := Ic) (Bd := Id)
      rw [← e1] at m1
      rw [← e3] at m2
      exact hi.move hz2.2 (fun j hj => by have q9 := q j (by omega); rw [Nat.zero_add] at q9 ⊢; exact q9) (fun j hj => m1 j (by omega)) m2
  rw [if_neg c1] at k1 k2
  by_cases c2 : x.toInt = 1
  · rw [if_pos c2] at k1 k2
    rw [ifw_p (by decide)] at k1
    rw [Lt_b, if_pos (show E_v_in 1 0 1 = 1 by decide)] at k2
    have ek : fik (1 : Int32).toNatClampNeg = fk (1 : Int32).toNatClampNeg := Int32.toInt_inj.mp hk.2
    rw [Lt_b, ← ek] at k2
    by_cases g : fik (1 : Int32).toNatClampNeg = 0
    · rw [if_pos g] at k1 k2
      simp only [Lt2, Prod.mk.injEq] at k1 k2
      obtain ⟨-, -, -, -, rfl, -, -, -, rfl, rfl, rfl, -, rfl, -⟩ := k1
      have c9 := k2.2.2.2.1
      rw [c9]
      exact h
    · rw [if_neg g] at k1 k2
      generalize hN : (5501 - (0 : Int32).toInt : Int).toNat + 1 = N at k2
      have q := bak1_in (sta := sta) (fi := fi) (frm := frm) (fun _ _ => ((0, 0, 0, fun _ => 0, fun _ => 0) : Int32 × Int32 × Int32 × (Nat → Int32) × (Nat → Int32))) N 0 fw (by decide) (by rw [← hN]; exact Nat.lt_succ_self _) CpV.base
      rw [← k2] at q
      simp only [Prod.mk.injEq] at k1
      obtain ⟨-, -, -, -, rfl, -, -, -, rfl, rfl, e1, -, e3, -⟩ := k1
      obtain ⟨m1, m2, -⟩ := become_at (An := Bn) (Al := Bl) (Af := Bf) (Ai := Bi) (Ah := Bh) (Ao := Bo) (Aa := Ba) (Ab := Bb) (Ac := Bc) (Ad := Bd) (Bn := Bn') (Bl := Jl) (Bf := Jf) (Bi := Ji) (Bh := Bh') (Bo := Bo') (Ba := Ja) (Bb := Jb) (Bc := Jc) (Bd := Jd)
      rw [← e1] at m1
      rw [← e3] at m2
      exact hj.move hz3.2 (fun j hj => by rw [Nat.zero_add]; exact q j (by omega)) (fun j hj => m1 j (by omega)) m2
  rw [if_neg c2] at k1 k2
  rw [ifw_n (by have z : (1 : Int32).toInt = 1 := rfl; omega)] at k1
  rw [Lt_b, Lt_b, ifi_n (by have z : (1 : Int64).toInt = 1 := rfl; omega)] at k2
  simp only [Lt2, Prod.mk.injEq] at k1 k2
  obtain ⟨-, -, -, -, rfl, -, -, -, rfl, rfl, rfl, -, rfl, -⟩ := k1
  have c9 := k2.2.2.2.1
  rw [c9]
  exact h
