/-! operators -/
theorem op_in {k n x0 : Nat} {tf tt ti tu ln : Int32} {fb : Nat → Int32} (hk : k < 13) (hn : sn k = n) (hx : x0 ≤ 100) (z : Int32 → (Int32 × Int32 × Int32 × Int32 × Int32)) : ∀ (d v F : Nat), v + d = n →
    (∃ i, v ≤ i ∧ i < n ∧ ti = sf k i ∧ (∀ j, v ≤ j → j < i → ti ≠ sf k j) ∧ Lp (E_w_operator_l2 k (nI x0) ln tf tt ti tu fb) z (F + d + 1) (nI v) = (nI (x0 + i), E_w_step ln tf tt ti tu fb)) ∨ ((∀ j, v ≤ j → j < n → ti ≠ sf k j) ∧ Lp (E_w_operator_l2 k (nI x0) ln tf tt ti tu fb) z (F + d + 1) (nI v) = (-1, tf, tt, ti, tu)) := by
  have h47 := sn_le k
  intro d
  induction d with
  | zero =>
    intro v F hv
    refine Or.inr ⟨fun j h1 h2 => by omega, ?_⟩
    rw [Lp_s, E_w_operator_l2.eq_def, Lt_b, sl_at k hk, if_pos ((kn_le (by omega) (by omega)).mpr (by omega))]
  | succ d ih =>
    intro v F hv
    have e : Lp (E_w_operator_l2 k (nI x0) ln tf tt ti tu fb) z (F + (d + 1) + 1) (nI v) = if ti = sf k v then (nI (x0 + v), E_w_step ln tf tt ti tu fb) else Lp (E_w_operator_l2 k (nI x0) ln tf tt ti tu fb) z (F + d + 1) (nI (v + 1)) := by
      have ha : nI x0 + nI v = nI (x0 + v) := Int32.toInt_inj.mp (by rw [i_add (nI_toInt (by omega)) (nI_toInt (by omega)) (by omega), nI_toInt (by omega)]; omega)
      rw [show F + (d + 1) + 1 = (F + d + 1) + 1 by omega, Lp_s, E_w_operator_l2.eq_def, Lt_b, sl_at k hk, if_neg (fun q => by have := (kn_le (by omega) (by omega)).mp q; omega), Lt_b, ch_at k hk v (by omega)]
      by_cases c : ti = sf k v
      · rw [if_pos c, if_pos c, Lt2_b, Lt2_b, Lt2_b, Lt_b, ha]
      · rw [if_neg c, if_neg c, Lt_b, kn_po (by omega)]
    rw [e]
    by_cases c : ti = sf k v
    · exact Or.inl ⟨v, Nat.le_refl _, by omega, c, fun j h1 h2 => by omega, by rw [if_pos c]⟩
    · rw [if_neg c]
      rcases ih (v + 1) F (by omega) with ⟨i, i1, i2, i3, i4, i5⟩ | ⟨i1, i2⟩
      · exact Or.inl ⟨i, by omega, i2, i3, fun j h1 h2 => by
          by_cases q : j = v
          · rw [q]; exact c
          · exact i4 j (by omega) h2, i5⟩
      · exact Or.inr ⟨fun j h1 h2 => by
          by_cases q : j = v
          · rw [q]; exact c
          · exact i1 j (by omega) h2, i2⟩
theorem op_at {k n x0 : Nat} {lw pa tf tt ti tu ln : Int32} {fb : Nat → Int32} (hk : k < 13) (hn : sn k = n) (hx : x0 ≤ 100) : (∃ i, i < n ∧ ti = sf k i ∧ E_w_operator k (nI x0) lw pa ln tf tt ti tu fb = (nI (x0 + i), E_w_step ln tf tt ti tu fb)) ∨ ((∀ j, j < n → ti ≠ sf k j) ∧ E_w_operator k (nI x0) lw pa ln tf tt ti tu fb = (-1, tf, tt, ti, tu)) := by
  have h47 := sn_le k
  have e : E_w_operator k (nI x0) lw pa ln tf tt ti tu fb = Lp (α := Int32 → (Int32 × Int32 × Int32 × Int32 × Int32)) (E_w_operator_l2 k (nI x0) ln tf tt ti tu fb) (fun _ => ((0, 0, 0, 0, 0) : Int32 × Int32 × Int32 × Int32 × Int32)) ((48 - n) + n + 1) (nI 0) := by
    rw [E_w_operator.eq_def, show 48 - n + n + 1 = (48 - (0 : Int32).toInt : Int).toNat + 1 by rw [show (0 : Int32).toInt = 0 from rfl]; omega]; rfl
  rw [e]
  rcases op_in (x0 := x0) (tf := tf) (tt := tt) (ti := ti) (tu := tu) (ln := ln) (fb := fb) hk hn hx (fun _ => ((0, 0, 0, 0, 0) : Int32 × Int32 × Int32 × Int32 × Int32)) n 0 (48 - n) (by omega) with ⟨i, _, i2, i3, _, i5⟩ | ⟨i1, i2⟩
  · exact Or.inl ⟨i, i2, i3, i5⟩
  · exact Or.inr ⟨fun j hj => i1 j (Nat.zero_le _) hj, i2⟩
/-- the sign of an operator of sums -/
noncomputable def kch (o : Nat) : Int32 := match o with
  | 20 => 43
  | 21 => 45
  | 22 => 42
  | 23 => 47
  | _ => 37
theorem kch_ok : ∀ o, 20 ≤ o → o ≤ 24 → 0 ≤ (kch o).toInt ∧ ¬ (97 ≤ (kch o).toInt ∧ (kch o).toInt ≤ 122) ∧ ¬ (48 ≤ (kch o).toInt ∧ (kch o).toInt ≤ 57) := by
  intro o h1 h2
  rcases (show o = 20 ∨ o = 21 ∨ o = 22 ∨ o = 23 ∨ o = 24 by omega) with rfl | rfl | rfl | rfl | rfl <;> decide
/-- behind a sum: an operator of sums -/
theorem bs_op {go ga ft fo fa fp fq fo' fa' : Nat → Int32} {x ta fr to so fau nl opn : Int32} {wo : Int64} {o nc pi nc' pi' : Nat} (ho : 20 ≤ o ∧ o ≤ 24) (hs : ∀ u, 20 ≤ u → u ≤ 24 → E_v_isSign (kch u) so wo = if u = o then 1 else 0) (hp : pi < 1000) (hp' : pi' < 1000) (hk : kst (kbd o) nc pi fo fa fp fq = (nI nc', nI pi', fo', fa')) : E_v_behindSum go ga x ta fr to so wo fau 0 (nI nc) nl (nI pi) opn ft fo fa fp fq = (1, (E_v_next ta fr to so wo ft).1, (E_v_next ta fr to so wo ft).2.1, (E_v_next ta fr to so wo ft).2.2.1, (E_v_next ta fr to so wo ft).2.2.2, fau, 0, nI nc', nI (pi' + 1), opn, fo', fa', upd fp pi' (nI o), upd fq pi' 0) := by
  have s0 : E_v_isSign 43 so wo = if 20 = o then 1 else 0 := hs 20 (by omega) (by omega)
  have s1 : E_v_isSign 45 so wo = if 21 = o then 1 else 0 := hs 21 (by omega) (by omega)
  have s2 : E_v_isSign 42 so wo = if 22 = o then 1 else 0 := hs 22 (by omega) (by omega)
  have s3 : E_v_isSign 47 so wo = if 23 = o then 1 else 0 := hs 23 (by omega) (by omega)
  have s4 : E_v_isSign 37 so wo = if 24 = o then 1 else 0 := hs 24 (by omega) (by omega)
  have b0 : E_v_binds 20 = nI 5 := binds_at (o := 20) (by omega)
  have b1 : E_v_binds 21 = nI 5 := binds_at (o := 21) (by omega)
  have b2 : E_v_binds 22 = nI 6 := binds_at (o := 22) (by omega)
  have b3 : E_v_binds 23 = nI 6 := binds_at (o := 23) (by omega)
  have b4 : E_v_binds 24 = nI 6 := binds_at (o := 24) (by omega)
  have stl : E_v_settle go ga (nI (kbd o)) (nI nc) (nI pi) fo fa fp fq = (nI nc', nI pi', fo', fa') := (settle_at (by omega)).trans hk
  rw [E_v_behindSum.eq_def, Lt_b, s0]
  rcases (show o = 20 ∨ o = 21 ∨ o = 22 ∨ o = 23 ∨ o = 24 by omega) with rfl | rfl | rfl | rfl | rfl
  · rw [if_pos (by decide), Lt_b, b0, show E_v_settle go ga (nI 5) (nI nc) (nI pi) fo fa fp fq = _ from stl]
    simp only [Lt2, Lt, E_v_push]
    rw [kn_cl (by omega), kn_p1 (by omega)]
    rfl
  · rw [if_neg (by decide), Lt_b, s1, if_pos (by decide), Lt_b, b1, show E_v_settle go ga (nI 5) (nI nc) (nI pi) fo fa fp fq = _ from stl]
    simp only [Lt2, Lt, E_v_push]
    rw [kn_cl (by omega), kn_p1 (by omega)]
    rfl
  · rw [if_neg (by decide), Lt_b, s1, if_neg (by decide), Lt_b, s2, if_pos (by decide), Lt_b, b2, show E_v_settle go ga (nI 6) (nI nc) (nI pi) fo fa fp fq = _ from stl]
    simp only [Lt2, Lt, E_v_push]
    rw [kn_cl (by omega), kn_p1 (by omega)]
    rfl
  · rw [if_neg (by decide), Lt_b, s1, if_neg (by decide), Lt_b, s2, if_neg (by decide), Lt_b, s3, if_pos (by decide), Lt_b, b3, show E_v_settle go ga (nI 6) (nI nc) (nI pi) fo fa fp fq = _ from stl]
    simp only [Lt2, Lt, E_v_push]
    rw [kn_cl (by omega), kn_p1 (by omega)]
    rfl
  · rw [if_neg (by decide), Lt_b, s1, if_neg (by decide), Lt_b, s2, if_neg (by decide), Lt_b, s3, if_neg (by decide), Lt_b, s4, if_pos (by decide), Lt_b, b4, show E_v_settle go ga (nI 6) (nI nc) (nI pi) fo fa fp fq = _ from stl]
    simp only [Lt2, Lt, E_v_push]
    rw [kn_cl (by omega), kn_p1 (by omega)]
    rfl
/-- what the token is of the operators of sums, on both sides -/
theorem tk_op {C : KC_} {p : Nat} {c : KT4} {m : KM4} (h : TkP C.1 C.2.2.1 p c m) : (∃ o, 20 ≤ o ∧ o ≤ 24 ∧ c.2.2.1 = kch o ∧ p < C.2.2.1 ∧ ∀ u, 20 ≤ u → u ≤ 24 → E_v_isSign (kch u) m.2.2.1 m.2.2.2 = if u = o then 1 else 0) ∨ ((∀ u, 20 ≤ u → u ≤ 24 → c.2.2.1 ≠ kch u) ∧ ∀ u, 20 ≤ u → u ≤ 24 → E_v_isSign (kch u) m.2.2.1 m.2.2.2 = 0) := by
  have inj : ∀ u, 20 ≤ u → u ≤ 24 → ∀ v, 20 ≤ v → v ≤ 24 → kch u = kch v → u = v := by
    intro u h1 h2 v h3 h4
    rcases (show u = 20 ∨ u = 21 ∨ u = 22 ∨ u = 23 ∨ u = 24 by omega) with rfl | rfl | rfl | rfl | rfl <;> rcases (show v = 20 ∨ v = 21 ∨ v = 22 ∨ v = 23 ∨ v = 24 by omega) with rfl | rfl | rfl | rfl | rfl <;> decide
  have sg := fun u (h1 : 20 ≤ u) (h2 : u ≤ 24) => tk_sign (c := kch u) (tf := c.1) (tt := c.2.1) (ti := c.2.2.1) (tu := c.2.2.2) (fr := m.1) (to := m.2.1) (so := m.2.2.1) (wo := m.2.2.2) (kch_ok u h1 h2) h
  by_cases q : ∃ o, 20 ≤ o ∧ o ≤ 24 ∧ c.2.2.1 = kch o
  · obtain ⟨o, o1, o2, o3⟩ := q
    have pl : p < C.2.2.1 := by
      rcases sg o o1 o2 with ⟨_, _, s3⟩ | ⟨s1, _⟩
      · exact s3
      · exact absurd o3 s1
    refine Or.inl ⟨o, o1, o2, o3, pl, fun u h1 h2 => ?_⟩
    rcases sg u h1 h2 with ⟨s1, s2, _⟩ | ⟨s1, s2⟩
    · rw [if_pos (inj u h1 h2 o o1 o2 (s1.symm.trans o3))]; exact s2
    · rw [if_neg (fun e => s1 (by rw [e]; exact o3))]; exact s2
  · refine Or.inr ⟨fun u h1 h2 e => q ⟨u, h1, h2, e⟩, fun u h1 h2 => ?_⟩
    rcases sg u h1 h2 with ⟨s1, _, _⟩ | ⟨_, s2⟩
    · exact absurd ⟨u, h1, h2, s1⟩ q
    · exact s2
