/-! the reference's pile -/
noncomputable def kbd (o : Nat) : Nat := if 31 ≤ o then 0 else if o = 30 then 1 else if o = 29 then 2 else if o = 28 then 3 else if 25 ≤ o then 4 else if 22 ≤ o then 6 else 5
theorem Lt_q {α β : Type} {e : α} {f : α → β} : Lt e f = f e := Eq.trans Lt_b (Eq.refl (f e))
theorem binds_at {o : Nat} (ho : o < 1000) : E_v_binds (nI o) = nI (kbd o) := by
  unfold E_v_binds kbd
  by_cases c : 31 ≤ o
  · rw [if_neg (kn_nltl (j := 31) rfl (by omega) c), if_pos c]; rfl
  rw [if_pos (kn_ltl (j := 31) rfl (by omega) (by omega)), if_neg c]
  by_cases c1 : o = 30
  · rw [if_pos (by rw [c1]; rfl), if_pos c1]; rfl
  rw [if_neg (kn_nz (j := 30) rfl (by omega) c1), if_neg c1]
  by_cases c2 : o = 29
  · rw [if_pos (by rw [c2]; rfl), if_pos c2]; rfl
  rw [if_neg (kn_nz (j := 29) rfl (by omega) c2), if_neg c2]
  by_cases c3 : o = 28
  · rw [if_pos (by rw [c3]; rfl), if_pos c3]; rfl
  rw [if_neg (kn_nz (j := 28) rfl (by omega) c3), if_neg c3]
  by_cases c4 : 25 ≤ o
  · rw [if_neg (kn_nltl (j := 25) rfl (by omega) c4), if_pos c4]; rfl
  rw [if_pos (kn_ltl (j := 25) rfl (by omega) (by omega)), if_neg c4]
  by_cases c5 : 22 ≤ o
  · rw [if_neg (kn_nltl (j := 22) rfl (by omega) c5), if_pos c5]; rfl
  rw [if_pos (kn_ltl (j := 22) rfl (by omega) (by omega)), if_neg c5]; rfl
/-- settle(l), from a pile of pi operators -/
noncomputable def kst (l nc pi : Nat) (fo fa fp fq : Nat → Int32) : Int32 × Int32 × (Nat → Int32) × (Nat → Int32) := Lp (α := Int32 → Int32 → (Nat → Int32) → (Nat → Int32) → (Int32 × Int32 × (Nat → Int32) × (Nat → Int32))) (E_v_settle_l0 (nI l) fp fq) (fun _ _ _ _ => ((0, 0, fun _ => 0, fun _ => 0) : Int32 × Int32 × (Nat → Int32) × (Nat → Int32))) (pi + 1) (nI nc) (nI pi) fo fa
theorem settle_at {go ga fo fa fp fq : Nat → Int32} {l nc pi : Nat} (hp : pi < 2147483648) : E_v_settle go ga (nI l) (nI nc) (nI pi) fo fa fp fq = kst l nc pi fo fa fp fq := by
  rw [E_v_settle.eq_def, nI_toInt hp]; rfl
theorem kst_0 {l nc : Nat} {fo fa fp fq : Nat → Int32} : kst l nc 0 fo fa fp fq = (nI nc, nI 0, fo, fa) := by
  unfold kst
  rw [Lp_s, E_v_settle_l0.eq_def, if_pos (show nI 0 ≤ 0 by decide)]
theorem kst_stop {l nc pi o : Nat} {fo fa fp fq : Nat → Int32} (hp : pi < 1000) (ho : o < 1000) (hl : l < 1000) (h : fp pi = nI o) (hb : kbd o < l) : kst l nc (pi + 1) fo fa fp fq = (nI nc, nI (pi + 1), fo, fa) := by
  unfold kst
  rw [Lp_s, E_v_settle_l0.eq_def, if_neg (kn_ngel (j := 0) rfl (by omega) (by omega))]
  simp only [Lt_q]
  have hk : kbd o ≤ 6 := by unfold kbd; (repeat' split) <;> omega
  rw [kn_m1 (by omega) (by omega), kn_cl (by omega), show pi + 1 - 1 = pi by omega, h, binds_at ho, if_pos ((kn_lt (by omega) (by omega)).mpr hb)]
theorem kst_go {l nc pi o : Nat} {fo fa fp fq : Nat → Int32} (hp : pi < 1000) (hn : nc < 1000) (ho : o < 1000) (hl : l < 1000) (h : fp pi = nI o) (hb : l ≤ kbd o) (h29 : o ≠ 29) (h30 : o ≠ 30) : kst l nc (pi + 1) fo fa fp fq = kst l (nc + 1) pi (upd fo nc (nI o)) (upd fa nc 0) fp fq := by
  unfold kst
  have hk : kbd o ≤ 6 := by unfold kbd; (repeat' split) <;> omega
  rw [Lp_s, E_v_settle_l0.eq_def, if_neg (kn_ngel (j := 0) rfl (by omega) (by omega))]
  simp only [Lt_b, Lt2_b, E_v_emit]
  rw [kn_m1 (by omega) (by omega), kn_cl (by omega), show pi + 1 - 1 = pi by omega, h, binds_at ho, if_neg (fun q => by have := (kn_lt (by omega) (by omega)).mp q; omega), if_neg (kn_nz (j := 29) rfl (by omega) h29), if_neg (kn_nz (j := 30) rfl (by omega) h30), kn_cl (by omega), kn_p1 (by omega)]
theorem kst_land {l nc pi o c : Nat} {fo fa fp fq : Nat → Int32} (hp : pi < 1000) (ho : o = 29 ∨ o = 30) (hl : l ≤ kbd o) (h : fp pi = nI o) (hq : fq pi = nI c) (hc : c < 1000) : kst l nc (pi + 1) fo fa fp fq = kst l nc pi fo (upd fa c (nI nc)) fp fq := by
  unfold kst
  have hk : kbd o ≤ 6 := by unfold kbd; (repeat' split) <;> omega
  rw [Lp_s, E_v_settle_l0.eq_def, if_neg (kn_ngel (j := 0) rfl (by omega) (by omega))]
  simp only [Lt_b, Lt2_b]
  rw [kn_m1 (by omega) (by omega), kn_cl (by omega), show pi + 1 - 1 = pi by omega, h, hq, binds_at (by omega), if_neg (fun q => by have := (kn_lt (by omega) (by omega)).mp q; omega), kn_cl (by omega)]
  rcases ho with e | e
  · rw [if_pos (by rw [e]; rfl)]
  · rw [if_neg (kn_nz (j := 29) rfl (by omega) (by omega)), if_pos (by rw [e]; rfl)]
/-- what waits between two heights of the pile: settling to a level up to K first does that -/
noncomputable def KP (K nc pi : Nat) (fo fa : Nat → Int32) (nc' pi' : Nat) (fo' fa' fp fq : Nat → Int32) : Prop := ∀ l, l ≤ K → kst l nc pi fo fa fp fq = kst l nc' pi' fo' fa' fp fq
theorem KP.rfl {K nc pi : Nat} {fo fa fp fq : Nat → Int32} : KP K nc pi fo fa nc pi fo fa fp fq := fun _ _ => Eq.refl _
theorem KP.trans {K nc pi nc2 pi2 nc3 pi3 : Nat} {fo fa fo2 fa2 fo3 fa3 fp fq : Nat → Int32} (h : KP K nc pi fo fa nc2 pi2 fo2 fa2 fp fq) (h2 : KP K nc2 pi2 fo2 fa2 nc3 pi3 fo3 fa3 fp fq) : KP K nc pi fo fa nc3 pi3 fo3 fa3 fp fq := fun l hl => (h l hl).trans (h2 l hl)
theorem KP.low {K K' nc pi nc2 pi2 : Nat} {fo fa fo2 fa2 fp fq : Nat → Int32} (h : KP K nc pi fo fa nc2 pi2 fo2 fa2 fp fq) (hk : K' ≤ K) : KP K' nc pi fo fa nc2 pi2 fo2 fa2 fp fq := fun l hl => h l (Nat.le_trans hl hk)
theorem KP.emit {K nc pi o : Nat} {fo fa fp fq : Nat → Int32} (hp : pi < 900) (hn : nc < 1000) (ho : o < 29) (h : fp pi = nI o) (hb : K ≤ kbd o) : KP K nc (pi + 1) fo fa (nc + 1) pi (upd fo nc (nI o)) (upd fa nc 0) fp fq := fun l hl => by
  have hk : kbd o ≤ 6 := by unfold kbd; (repeat' split) <;> omega
  exact kst_go (by omega) hn (by omega) (by omega) h (Nat.le_trans hl hb) (by omega) (by omega)
theorem KP.land {K nc pi o c : Nat} {fo fa fp fq : Nat → Int32} (hp : pi < 1000) (ho : o = 29 ∨ o = 30) (hb : K ≤ kbd o) (h : fp pi = nI o) (hq : fq pi = nI c) (hc : c < 1000) : KP K nc (pi + 1) fo fa nc pi fo (upd fa c (nI nc)) fp fq := fun l hl => kst_land hp ho (Nat.le_trans hl hb) h hq hc
/-! inner, isCompared -/
theorem inner_in {fp : Nat → Int32} {pi : Nat} (hp : pi ≤ 400) (z : Int32 → Int32 → Int32) : ∀ (d v F : Nat) (r : Int32), v + d = pi → (∀ j, v ≤ j → j < pi → ∃ o : Nat, o < 31 ∧ fp j = nI o) → Lp (E_v_inner_l4 (nI pi) fp) z (F + d + 1) (nI v) r = r := by
  intro d
  induction d with
  | zero =>
    intro v F r hv _
    rw [Lp_s, E_v_inner_l4.eq_def, if_pos ((kn_le (by omega) (by omega)).mpr (by omega))]
  | succ d ih =>
    intro v F r hv h
    obtain ⟨o, o1, o2⟩ := h v (Nat.le_refl _) (by omega)
    rw [show F + (d + 1) + 1 = (F + d + 1) + 1 by omega, Lp_s, E_v_inner_l4.eq_def, if_neg (fun q => by have := (kn_le (by omega) (by omega)).mp q; omega)]
    simp only [Lt_q]
    rw [kn_cl (by omega), o2, if_pos (kn_ltl (j := 31) rfl (by omega) o1), kn_po (by omega)]
    exact ih (v + 1) F r (by omega) (fun j h1 h2 => h j (by omega) h2)
/-- inner() goes by what lies below, when no bracket lies above -/
theorem inner_none {fp : Nat → Int32} {pi : Nat} (hp : pi ≤ 400) (h : ∀ j, j < pi → ∃ o : Nat, o < 31 ∧ fp j = nI o) : E_v_inner (nI pi) fp = -1 := by
  rw [E_v_inner.eq_def]
  have := inner_in (fp := fp) hp (fun _ _ => ((0) : Int32)) pi 0 (401 - pi) (-1) (by omega) (fun j _ hj => h j hj)
  rw [show 401 - pi + pi + 1 = (401 - (0 : Int32).toInt : Int).toNat + 1 by rw [show (0 : Int32).toInt = 0 from rfl]; omega] at this
  exact this
theorem inner_top {fp : Nat → Int32} {pi q b : Nat} (hp : pi ≤ 400) (hq : q < pi) (hb : 31 ≤ b ∧ b < 1000) (hf : fp q = nI b) (h : ∀ j, q < j → j < pi → ∃ o : Nat, o < 31 ∧ fp j = nI o) : E_v_inner (nI pi) fp = nI b := by
  have gen : ∀ (d v F : Nat) (r : Int32), v + d = q → Lp (E_v_inner_l4 (nI pi) fp) (fun _ _ => ((0) : Int32)) (F + d + (pi - q) + 1) (nI v) r = nI b := by
    intro d
    induction d with
    | zero =>
      intro v F r hv
      rw [show v = q by omega, show F + 0 + (pi - q) + 1 = (F + (pi - (q + 1)) + 1) + 1 by omega, Lp_s, E_v_inner_l4.eq_def, if_neg (fun w => by have := (kn_le (by omega) (by omega)).mp w; omega)]
      simp only [Lt_q]
      rw [kn_cl (by omega), hf, if_neg (kn_nltl (j := 31) rfl (by omega) hb.1), kn_po (by omega)]
      exact inner_in hp _ (pi - (q + 1)) (q + 1) F (nI b) (by omega) (fun j h1 h2 => h j (by omega) h2)
    | succ d ih =>
      intro v F r hv
      rw [show F + (d + 1) + (pi - q) + 1 = (F + d + (pi - q) + 1) + 1 by omega, Lp_s, E_v_inner_l4.eq_def, if_neg (fun w => by have := (kn_le (by omega) (by omega)).mp w; omega)]
      simp only [Lt_q]
      rw [kn_po (by omega)]
      by_cases c : fp (nI v).toNatClampNeg < 31
      · rw [if_pos c]; exact ih (v + 1) F _ (by omega)
      · rw [if_neg c]; exact ih (v + 1) F _ (by omega)
  rw [E_v_inner.eq_def]
  have := gen q 0 (401 - pi) (-1) (by omega)
  rw [show 401 - pi + q + (pi - q) + 1 = (401 - (0 : Int32).toInt : Int).toNat + 1 by rw [show (0 : Int32).toInt = 0 from rfl]; omega] at this
  exact this
theorem in_lit {o a b : Nat} {lo hi : Int64} (ha : lo.toInt = (a : Int)) (hb : hi.toInt = (b : Int)) (ho : o < 1000) : E_v_in (nI o).toInt64 lo hi = if a ≤ o ∧ o ≤ b then 1 else 0 := by
  by_cases c : a ≤ o ∧ o ≤ b
  · rw [if_pos c, in_p (by rw [nI_toInt (by omega)]; omega)]
  · rw [if_neg c, in_n (by rw [nI_toInt (by omega)]; omega)]
/-- isCompared() looks below what waits of a sum -/
theorem isc_at {fp : Nat → Int32} {pi q : Nat} (hp : pi ≤ 400) (hq : q ≤ pi) (h : ∀ j, q ≤ j → j < pi → ∃ o : Nat, 20 ≤ o ∧ o ≤ 24 ∧ fp j = nI o) : (q = 0 → E_v_isCompared (nI pi) fp = 0) ∧ (∀ (r o : Nat), q = r + 1 → o < 1000 → fp r = nI o → ¬ (20 ≤ o ∧ o ≤ 24) → E_v_isCompared (nI pi) fp = if 25 ≤ o ∧ o ≤ 27 then 1 else 0) := by
  have zz : (nI 0 - 1 : Int32) = -1 := by decide
  have fin0 : ∀ (z : Int32 → Int32) F, Lp (E_v_isCompared_l7 fp) z (F + 1) (nI 0 - 1) = 0 := by
    intro z F
    rw [Lp_s, zz, E_v_isCompared_l7.eq_def, if_pos (by decide), E_v_isCompared_j36.eq_def, if_pos (by decide)]
    rfl
  have fin1 : ∀ (z : Int32 → Int32) F (r o : Nat), r < 1000 → o < 1000 → fp r = nI o → ¬ (20 ≤ o ∧ o ≤ 24) → Lp (E_v_isCompared_l7 fp) z (F + 1) (nI (r + 1) - 1) = if 25 ≤ o ∧ o ≤ 27 then 1 else 0 := by
    intro z F r o hr ho hf hn
    rw [Lp_s, kn_m1 (by omega) (by omega), show r + 1 - 1 = r by omega, E_v_isCompared_l7.eq_def, if_neg (kn_nl (by omega))]
    simp only [Lt_q]
    rw [kn_cl (by omega), hf, in_lit (a := 20) (b := 24) rfl rfl ho, if_neg hn, if_neg (by decide), E_v_isCompared_j36.eq_def, if_neg (kn_nl (by omega))]
    simp only [Lt_q]
    rw [kn_cl (by omega), hf, in_lit (a := 25) (b := 27) rfl rfl ho]
    by_cases c : 25 ≤ o ∧ o ≤ 27
    · rw [if_pos c, if_pos rfl]
    · rw [if_neg c, if_neg (by decide)]; rfl
  have down : ∀ (z : Int32 → Int32) (d F : Nat), q + d ≤ pi → Lp (E_v_isCompared_l7 fp) z (F + d + 1) (nI (q + d) - 1) = Lp (E_v_isCompared_l7 fp) z (F + 1) (nI q - 1) := by
    intro z d
    induction d with
    | zero => intro F _; rfl
    | succ d ih =>
      intro F hd
      obtain ⟨o, o1, o2, o3⟩ := h (q + d) (by omega) (by omega)
      rw [show F + (d + 1) + 1 = (F + d + 1) + 1 by omega, Lp_s, kn_m1 (by omega) (by omega), show q + (d + 1) - 1 = q + d by omega, E_v_isCompared_l7.eq_def, if_neg (kn_nl (by omega))]
      simp only [Lt_q]
      rw [kn_cl (by omega), o3, in_lit (a := 20) (b := 24) rfl rfl (by omega), if_pos (show 20 ≤ o ∧ o ≤ 24 from ⟨o1, o2⟩), if_pos rfl]
      rw [kn_ms (by omega)]
      exact ih F (by omega)
  have st : E_v_isCompared (nI pi) fp = Lp (E_v_isCompared_l7 fp) (fun _ => ((0) : Int32)) (q + 2) (nI q - 1) := by
    rw [E_v_isCompared.eq_def, Lt_b]
    have e1 : (nI pi - 1).toInt = (pi : Int) - 1 := i_sub (nI_toInt (by omega)) (show (1 : Int32).toInt = 1 from rfl) (by omega)
    rw [e1, show ((pi : Int) - 1 - (-2) : Int).toNat + 1 = (q + 1) + (pi - q) + 1 by omega]
    have := down (fun _ => ((0) : Int32)) (pi - q) (q + 1) (by omega)
    rw [show q + (pi - q) = pi by omega] at this
    exact this
  rw [st]
  refine ⟨fun e => ?_, fun r o e ho hf hn => ?_⟩
  · rw [e]; exact fin0 _ 1
  · rw [e]; exact fin1 _ (r + 1 + 1) r o (by omega) ho hf hn
