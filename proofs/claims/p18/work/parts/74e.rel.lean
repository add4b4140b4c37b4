/-! row -/
theorem byte_at {v ln : Int32} {fb : Nat → Int32} (h : 0 ≤ v.toInt ∧ v.toInt < ln.toInt ∧ ln.toInt ≤ 400) : E_w_byteAtX v ln fb = fb v.toInt.toNat := by
  unfold E_w_byteAtX
  have z0 : (0 : Int32).toInt = 0 := rfl
  have z4 : (400 : Int32).toInt = 400 := rfl
  rw [if_neg (fun q => by have := il_iff.mp q; omega), if_neg (fun q => by have := ie_iff.mp q; omega), if_neg (fun q => by have := ie_iff.mp q; omega)]
  rfl
theorem row_in {rb ln sta : Int32} {frf fb ft frm fw : Nat → Int32} (hl : 0 ≤ ln.toInt ∧ ln.toInt ≤ 400) (hb : ∀ j : Nat, (j : Int) < ln.toInt → fb j = ft j ∧ 0 ≤ (fb j).toInt) (z1 : Int32 → Int32 → (Nat → Int32) → (Int32 × Int32 × Int32 × (Nat → Int32) × Int32 × (Nat → Int32))) (z2 : Int32 → Int32 → Int32 → (Nat → Int32) → (Int32 × Int32 × Int32 × (Nat → Int32) × (Nat → Int32))) : ∀ (k : Nat) (v c d a : Int32) (f g : Nat → Int32), 0 ≤ v.toInt ∧ v.toInt ≤ 400 → (401 - v.toInt).toNat < k → (∀ j, j < 24 → f j = g (67 + j)) → (∀ j, j < 67 ∨ 91 ≤ j → g j = fw j) →
    (∀ j, j < 24 → (Lp (E_w_rowX_l21 rb frf ln fb) z1 k v c f).2.2.2.2.2 j = (Lp (E_v_rowX_l35 sta ln ft frm) z2 k v d a g).2.2.2.1 (67 + j)) ∧ ∀ j, j < 67 ∨ 91 ≤ j → (Lp (E_v_rowX_l35 sta ln ft frm) z2 k v d a g).2.2.2.1 j = fw j := by
  intro k
  induction k with
  | zero => intro v c d a f g hv hk; exact absurd hk (Nat.not_lt_zero _)
  | succ k ih =>
    intro v c d a f g hv hk h1 h2
    rw [Lp_s, Lp_s]
    simp only [E_w_rowX_l21, E_v_rowX_l35, Lt, Lt2]
    by_cases e : ln ≤ v
    · rw [if_pos e, if_pos e]
      exact ⟨h1, h2⟩
    · have e2 : v.toInt < ln.toInt := by
        have : ¬ ln.toInt ≤ v.toInt := fun q => e (ie_iff.mpr q)
        omega
      have hi := inc_o (a := v) (by omega)
      rw [if_neg e, if_neg e]
      by_cases e4 : 24 ≤ v
      · rw [if_pos e4, if_pos e4]
        exact ih _ _ _ _ _ _ (by omega) (by omega) h1 h2
      · have e5 : v.toInt < 24 := by
          have : ¬ (24 : Int32).toInt ≤ v.toInt := fun q => e4 (ie_iff.mpr q)
          have z : (24 : Int32).toInt = 24 := rfl
          omega
        rw [if_neg e4, if_neg e4, byte_at (by omega), toInt_n hv.1]
        obtain ⟨b1, b2⟩ := hb v.toInt.toNat (by omega)
        rw [← b1]
        have z0 : (0 : Int32).toInt = 0 := rfl
        have z7 : (127 : Int32).toInt = 127 := rfl
        have z8 : (128 : Int32).toInt = 128 := rfl
        by_cases w : 128 ≤ fb v.toInt.toNat
        · have w2 := ie_iff.mp w
          rw [if_pos w, ifw_n (by omega)]
          exact ih _ _ _ _ _ _ (by omega) (by omega) h1 h2
        · have w2 : ¬ (128 : Int32).toInt ≤ (fb v.toInt.toNat).toInt := fun q => w (ie_iff.mpr q)
          rw [if_neg w, ifw_p (by omega), add_c (k := 67) rfl (by omega) (by omega)]
          refine ih _ _ _ _ _ _ (by omega) (by omega) (fun j hj => ?_) (fun j hj => ?_)
          · by_cases q : j = v.toInt.toNat
            · rw [q, upd_s, upd_s]
            · rw [upd_n q, upd_n (by omega)]; exact h1 j hj
          · rw [upd_n (by omega)]; exact h2 j hj
theorem rel_row {n ht ho rb ato ln thr sta as_ ta : Int32} {f1 f3 frf fb fw ft frm : Nat → Int32} {r1 b1 ato' ln' r2 s2 as' : Int32} {g1 f3' fw' g2 : Nat → Int32} (k1 : (r1, b1, ato', g1, ln', f3') = E_w_rowX rb ato frf ln fb f3) (k2 : (r2, s2, as', fw', g2) = E_v_rowX thr sta as_ ta fw ft frm) (h : RF 0 n ht ho f1 f3 fw) (hz : 0 ≤ ht.toInt ∧ ht.toInt ≤ 6) (hl : 0 ≤ ln.toInt ∧ ln.toInt ≤ 400) (hlt : ln.toInt = ta.toInt) (hT : RT fb ft ln.toInt) : RF 0 n ht ho f1 f3' fw' := by
  obtain rfl : ln = ta := Int32.toInt_inj.mp hlt
  simp only [E_w_rowX, Lt, Lt2] at k1
  simp only [E_v_rowX, Lt, Lt2] at k2
  by_cases e : ln = 0
  · rw [if_pos e] at k1 k2
    simp only [Prod.mk.injEq] at k1 k2
    rw [k1.2.2.2.2.2, k2.2.2.2.1]
    exact h
  · rw [if_neg e] at k1 k2
    generalize hN : (401 - (0 : Int32).toInt : Int).toNat + 1 = N at k1 k2
    have q := row_in (rb := rb) (ln := ln) (sta := sta) (frf := frf) (fb := fb) (ft := ft) (frm := frm) (fw := fw) hl hT (fun _ _ _ => ((0, 0, 0, fun _ => 0, 0, fun _ => 0) : Int32 × Int32 × Int32 × (Nat → Int32) × Int32 × (Nat → Int32))) (fun _ _ _ _ => ((0, 0, 0, fun _ => 0, fun _ => 0) : Int32 × Int32 × Int32 × (Nat → Int32) × (Nat → Int32))) N 0 0 0 0 f3 fw (by decide) (by rw [← hN]; exact Nat.lt_succ_self _) (fun j hj => by have := h.2.2.2.2.1 j hj; rwa [Nat.zero_add] at this) (fun _ _ => rfl)
    rw [← k1, ← k2] at q
    obtain ⟨q0, q1⟩ := q
    obtain ⟨p0, p1, p2, p3, p4, p5⟩ := h
    refine ⟨?_, ?_, fun j hj => ?_, fun j hj hk => ?_, fun j hj => ?_, ?_⟩
    · rw [show fw' (0 + 0) = fw (0 + 0) from q1 _ (by omega)]; exact p0
    · rw [show fw' (0 + 1) = fw (0 + 1) from q1 _ (by omega)]; exact p1
    · rw [show fw' (0 + (35 + j)) = fw (0 + (35 + j)) from q1 _ (by omega)]; exact p2 j hj
    · rw [show fw' (0 + (27 + j)) = fw (0 + (27 + j)) from q1 _ (by omega)]; exact p3 j hj hk
    · rw [Nat.zero_add]; exact q0 j hj
    · rw [p5]
      exact orr_same _ (fun j hj => (q1 _ (by omega)).symm)
/-! images -/
theorem become_in {Bd : Nat → Option Nat} {p q r : Nat → Int32} (z : Int32 → (Nat → Option Nat) → ((Nat → Int32) × (Nat → Int32) × (Nat → Int32) × (Nat → Option Nat))) : ∀ (k : Nat) (v : Int32) (g : Nat → Option Nat), 0 ≤ v.toInt ∧ v.toInt ≤ 6 → (7 - v.toInt).toNat < k → (Lp (E_w_become_l56 Bd p q r) z k v g).1 = p ∧ (Lp (E_w_become_l56 Bd p q r) z k v g).2.2.1 = q ∧ (Lp (E_w_become_l56 Bd p q r) z k v g).2.1 = r := by
  intro k
  induction k with
  | zero => intro v g hv hk; exact absurd hk (Nat.not_lt_zero _)
  | succ k ih =>
    intro v g hv hk
    rw [Lp_s]
    simp only [E_w_become_l56, Lt]
    by_cases e : 6 ≤ v
    · rw [if_pos e]
      exact ⟨rfl, rfl, rfl⟩
    · have e2 : v.toInt < 6 := by
        have : ¬ (6 : Int32).toInt ≤ v.toInt := fun q => e (ie_iff.mpr q)
        have z : (6 : Int32).toInt = 6 := rfl
        omega
      have hi := inc_o (a := v) (by omega)
      rw [if_neg e]
      cases Bd v.toNatClampNeg with
      | none => exact ih _ _ (by omega) (by omega)
      | some y => exact ih _ _ (by omega) (by omega)
theorem cpy_at {f g : Nat → Int32} {n : Int32} {k j : Nat} (hn : n.toNatClampNeg = k) (hj : j < k) : va_cpy (α := Int32) f g (0 : Int32).toNatClampNeg (0 : Int32).toNatClampNeg n.toNatClampNeg j = f j := by
  rw [hn]
  show (if 0 ≤ j ∧ j < 0 + k then f (0 + (j - 0)) else g j) = f j
  rw [if_pos (by omega), Nat.zero_add, Nat.sub_zero]
theorem become_at {An Al Af Ai Ah Ao Bn Bl Bf Bi Bh Bo : Int32} {Aa Ab Ac Ba Bb Bc : Nat → Int32} {Ad Bd : Nat → Option Nat} : (∀ j, j < 56 → (E_w_become An Al Af Ai Ah Ao Aa Ab Ac Ad Bn Bl Bf Bi Bh Bo Ba Bb Bc Bd).1 j = Ba j) ∧ (∀ j, j < 24 → (E_w_become An Al Af Ai Ah Ao Aa Ab Ac Ad Bn Bl Bf Bi Bh Bo Ba Bb Bc Bd).2.2.1 j = Bc j) ∧ ∀ j, j < 6 → (E_w_become An Al Af Ai Ah Ao Aa Ab Ac Ad Bn Bl Bf Bi Bh Bo Ba Bb Bc Bd).2.1 j = Bb j := by
  simp only [E_w_become, Lt]
  generalize hN : (7 - (0 : Int32).toInt : Int).toNat + 1 = N
  obtain ⟨a, b, c⟩ := become_in (Bd := Bd) (p := va_cpy (α := Int32) Ba Aa (0 : Int32).toNatClampNeg (0 : Int32).toNatClampNeg (56 : Int32).toNatClampNeg) (q := va_cpy (α := Int32) Bc Ac (0 : Int32).toNatClampNeg (0 : Int32).toNatClampNeg (24 : Int32).toNatClampNeg) (r := va_cpy (α := Int32) Bb Ab (0 : Int32).toNatClampNeg (0 : Int32).toNatClampNeg (6 : Int32).toNatClampNeg) (fun _ _ => ((fun _ => 0, fun _ => 0, fun _ => 0, fun _ => none) : (Nat → Int32) × (Nat → Int32) × (Nat → Int32) × (Nat → Option Nat))) N 0 Ad (by decide) (by rw [← hN]; exact Nat.lt_succ_self _)
  rw [a, b, c]
  exact ⟨fun j hj => cpy_at rfl hj, fun j hj => cpy_at rfl hj, fun j hj => cpy_at rfl hj⟩
theorem img0_in {sta : Int32} {fw fk frm fi : Nat → Int32} (z : Int32 → (Nat → Int32) → (Int32 × Int32 × (Nat → Int32) × (Nat → Int32) × (Nat → Int32))) : ∀ (k : Nat) (v : Int32) (f : Nat → Int32), 0 ≤ v.toInt ∧ v.toInt ≤ 5500 → (5501 - v.toInt).toNat < k → CpU fw fi f 0 v.toInt.toNat → CpU fw fi (Lp (E_v_imageX_l23 sta fw fk frm) z k v f).2.2.1 0 5500 := by
  intro k
  induction k with
  | zero => intro v f hv hk; exact absurd hk (Nat.not_lt_zero _)
  | succ k ih =>
    intro v f hv hk h
    rw [Lp_s]
    simp only [E_v_imageX_l23, Lt, Lt2]
    have z5 : (5500 : Int32).toInt = 5500 := rfl
    by_cases e : 5500 ≤ v
    · rw [if_pos e]
      have e2 := ie_iff.mp e
      rw [show v.toInt.toNat = 5500 by omega] at h
      exact h
    · have e2 : v.toInt < 5500 := by
        have : ¬ (5500 : Int32).toInt ≤ v.toInt := fun q => e (ie_iff.mpr q)
        omega
      have hi := inc_o (a := v) (by omega)
      rw [if_neg e, add_c (k := 0) rfl (by omega) (by omega), toInt_n hv.1]
      refine ih _ _ (by omega) (by omega) ?_
      rw [hi, show (v.toInt + 1).toNat = v.toInt.toNat + 1 by omega]
      exact CpU.step h (by omega)
theorem img1_in {sta : Int32} {fw fk frm fi : Nat → Int32} (z : Int32 → (Nat → Int32) → (Int32 × Int32 × (Nat → Int32) × (Nat → Int32) × (Nat → Int32))) : ∀ (k : Nat) (v : Int32) (f : Nat → Int32), 0 ≤ v.toInt ∧ v.toInt ≤ 5500 → (5501 - v.toInt).toNat < k → CpU fw fi f 5500 v.toInt.toNat → CpU fw fi (Lp (E_v_imageX_l23a sta fw fk frm) z k v f).2.2.1 5500 5500 := by
  intro k
  induction k with
  | zero => intro v f hv hk; exact absurd hk (Nat.not_lt_zero _)
  | succ k ih =>
    intro v f hv hk h
    rw [Lp_s]
    simp only [E_v_imageX_l23a, Lt, Lt2]
    have z5 : (5500 : Int32).toInt = 5500 := rfl
    by_cases e : 5500 ≤ v
    · rw [if_pos e]
      have e2 := ie_iff.mp e
      rw [show v.toInt.toNat = 5500 by omega] at h
      exact h
    · have e2 : v.toInt < 5500 := by
        have : ¬ (5500 : Int32).toInt ≤ v.toInt := fun q => e (ie_iff.mpr q)
        omega
      have hi := inc_o (a := v) (by omega)
      rw [if_neg e, add_c (k := 5500) rfl (by omega) (by omega), toInt_n hv.1]
      refine ih _ _ (by omega) (by omega) ?_
      rw [hi, show (v.toInt + 1).toNat = v.toInt.toNat + 1 by omega]
      exact CpU.step h (by omega)
theorem bak0_in {sta : Int32} {fi frm : Nat → Int32} (z : Int32 → (Nat → Int32) → (Int32 × Int32 × Int32 × (Nat → Int32) × (Nat → Int32))) : ∀ (k : Nat) (v : Int32) (f : Nat → Int32), 0 ≤ v.toInt ∧ v.toInt ≤ 5500 → (5501 - v.toInt).toNat < k → CpV fi f 0 v.toInt.toNat → CpV fi (Lp (E_v_backX_l39 sta fi frm) z k v f).2.2.2.1 0 5500 := by
  intro k
  induction k with
  | zero => intro v f hv hk; exact absurd hk (Nat.not_lt_zero _)
  | succ k ih =>
    intro v f hv hk h
    rw [Lp_s]
    simp only [E_v_backX_l39, Lt, Lt2]
    have z5 : (5500 : Int32).toInt = 5500 := rfl
    by_cases e : 5500 ≤ v
    · rw [if_pos e]
      have e2 := ie_iff.mp e
      rw [show v.toInt.toNat = 5500 by omega] at h
      exact h
    · have e2 : v.toInt < 5500 := by
        have : ¬ (5500 : Int32).toInt ≤ v.toInt := fun q => e (ie_iff.mpr q)
        omega
      have hi := inc_o (a := v) (by omega)
      rw [if_neg e, add_c (k := 0) rfl (by omega) (by omega), toInt_n hv.1]
      refine ih _ _ (by omega) (by omega) ?_
      rw [hi, show (v.toInt + 1).toNat = v.toInt.toNat + 1 by omega]
      exact CpV.step h
theorem bak1_in {sta : Int32} {fi frm : Nat → Int32} (z : Int32 → (Nat → Int32) → (Int32 × Int32 × Int32 × (Nat → Int32) × (Nat → Int32))) : ∀ (k : Nat) (v : Int32) (f : Nat → Int32), 0 ≤ v.toInt ∧ v.toInt ≤ 5500 → (5501 - v.toInt).toNat < k → CpV fi f 5500 v.toInt.toNat → CpV fi (Lp (E_v_backX_l39a sta fi frm) z k v f).2.2.2.1 5500 5500 := by
  intro k
  induction k with
  | zero => intro v f hv hk; exact absurd hk (Nat.not_lt_zero _)
  | succ k ih =>
    intro v f hv hk h
    rw [Lp_s]
    simp only [E_v_backX_l39a, Lt, Lt2]
    have z5 : (5500 : Int32).toInt = 5500 := rfl
    by_cases e : 5500 ≤ v
    · rw [if_pos e]
      have e2 := ie_iff.mp e
      rw [show v.toInt.toNat = 5500 by omega] at h
      exact h
    · have e2 : v.toInt < 5500 := by
        have : ¬ (5500 : Int32).toInt ≤ v.toInt := fun q => e (ie_iff.mpr q)
        omega
      have hi := inc_o (a := v) (by omega)
      rw [if_neg e, add_c (k := 5500) rfl (by omega) (by omega), toInt_n hv.1]
      refine ih _ _ (by omega) (by omega) ?_
      rw [hi, show (v.toInt + 1).toNat = v.toInt.toNat + 1 by omega]
      exact CpV.step h
