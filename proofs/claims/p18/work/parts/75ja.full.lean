/-! loops that write one array, place by place -/
noncomputable def kitf (d : Nat → Nat) (s : Nat → (Nat → Int32) → Int32) (f : Nat → Int32) (k : Nat) : Nat → Int32 := match k with
  | 0 => f
  | k + 1 => upd (kitf d s f k) (d k) (s k (kitf d s f k))
theorem lp_it {α : Type} {N : Nat} {B : (Int32 → (Nat → Int32) → α) → Int32 → (Nat → Int32) → α} {d : Nat → Nat} {s : Nat → (Nat → Int32) → Int32} (hB : ∀ (rc : Int32 → (Nat → Int32) → α) (i : Nat) (f : Nat → Int32), i < N → B rc (nI i) f = rc (nI (i + 1)) (upd f (d i) (s i f))) (z : Int32 → (Nat → Int32) → α) (f : Nat → Int32) : ∀ (k F i : Nat), i + k = N → Lp B z (F + k) (nI i) (kitf d s f i) = Lp B z F (nI N) (kitf d s f N) := by
  intro k
  induction k with
  | zero => intro F i h; rw [show i = N by omega, Nat.add_zero]
  | succ k ih =>
    intro F i h
    rw [show F + (k + 1) = F + k + 1 by omega, Lp_s, hB _ _ _ (by omega)]
    exact ih F (i + 1) (by omega)
theorem kitf_cp {s : Nat → Int32} {a : Nat} {f : Nat → Int32} : ∀ k j, kitf (fun i => a + i) (fun i _ => s i) f k j = if a ≤ j ∧ j < a + k then s (j - a) else f j := by
  intro k
  induction k with
  | zero => intro j; rw [if_neg (by omega)]; rfl
  | succ k ih =>
    intro j
    show upd (kitf (fun i => a + i) (fun i _ => s i) f k) (a + k) (s k) j = _
    by_cases h : j = a + k
    · rw [upd_e h, if_pos (by omega), show j - a = k by omega]
    · rw [upd_n h, ih]
      by_cases h2 : a ≤ j ∧ j < a + k
      · rw [if_pos h2, if_pos (by omega)]
      · rw [if_neg h2, if_neg (by omega)]
theorem kitf_sh {e : Nat} (he : 1 ≤ e) {f : Nat → Int32} : ∀ k j, kitf (fun i => i) (fun i g => g (i + e)) f k j = if j < k then f (j + e) else f j := by
  intro k
  induction k with
  | zero => intro j; rw [if_neg (by omega)]; rfl
  | succ k ih =>
    intro j
    show upd (kitf (fun i => i) (fun i g => g (i + e)) f k) k (kitf (fun i => i) (fun i g => g (i + e)) f k (k + e)) j = _
    rw [ih (k + e), if_neg (by omega)]
    by_cases h : j = k
    · rw [upd_e h, if_pos (by omega), h]
    · rw [upd_n h, ih]
      by_cases h2 : j < k
      · rw [if_pos h2, if_pos (by omega)]
      · rw [if_neg h2, if_neg (by omega)]
/-! small sums of places -/
theorem n_ladd {c : Int32} {m i : Nat} (hc : c.toInt = (m : Int)) (h : m + i < 1000000) : c + nI i = nI (m + i) := Int32.toInt_inj.mp (by
  rw [i_add hc (nI_toInt (by omega)) (by omega), nI_toInt (by omega)]; omega)
theorem n_addl {c : Int32} {m i : Nat} (hc : c.toInt = (m : Int)) (h : m + i < 1000000) : nI i + c = nI (i + m) := Int32.toInt_inj.mp (by
  rw [i_add (nI_toInt (by omega)) hc (by omega), nI_toInt (by omega)]; omega)
theorem n_add {i j : Nat} (h : i + j < 1000000) : nI i + nI j = nI (i + j) := Int32.toInt_inj.mp (by
  rw [i_add (nI_toInt (by omega)) (nI_toInt (by omega)) (by omega), nI_toInt (by omega)]; omega)
theorem n_31 {k : Nat} (h : k < 1000) : (31 : Int32) * nI k = nI (31 * k) := Int32.toInt_inj.mp (by
  rw [i_mul (show (31 : Int32).toInt = 31 from rfl) (nI_toInt (by omega)) (by omega), nI_toInt (by omega)]; omega)
theorem n_28 {k : Nat} (h : k < 1000) : nI k * (28 : Int32) = nI (28 * k) := Int32.toInt_inj.mp (by
  rw [i_mul (nI_toInt (by omega)) (show (28 : Int32).toInt = 28 from rfl) (by omega), nI_toInt (by omega)]; omega)
theorem n_8r {k : Nat} (h : k < 1000) : nI k * (8 : Int32) = nI (8 * k) := Int32.toInt_inj.mp (by
  rw [i_mul (nI_toInt (by omega)) (show (8 : Int32).toInt = 8 from rfl) (by omega), nI_toInt (by omega)]; omega)
theorem nI_lit {c : Int32} {m : Nat} (hc : c.toInt = (m : Int)) (h : m < 1000000) : c = nI m := Int32.toInt_inj.mp (by rw [hc, nI_toInt (by omega)])
theorem rd_at {f : Nat → Int32} {c : Int32} {j : Nat} (h : c = nI j) (hj : j < 1000000) : f c.toNatClampNeg = f j := by rw [h, kn_cl (by omega)]
/-! the reference's snaps -/
theorem keepAll_at {k : Nat} (hk : k ≤ 17) {fw fu : Nat → Int32} (j : Nat) : E_v_keepAll (nI k) fw fu j = if 31 * k ≤ j ∧ j < 31 * k + 31 then fw (4 + (j - 31 * k)) else fu j := by
  have hB : ∀ (rc : Int32 → (Nat → Int32) → (Nat → Int32)) (i : Nat) (f : Nat → Int32), i < 31 → E_v_keepAll_l2 (nI k) fw rc (nI i) f = rc (nI (i + 1)) (upd f (31 * k + i) (fw (4 + i))) := fun rc i f hi => by
    rw [E_v_keepAll_l2.eq_def, if_neg (kn_nlel (j := 31) rfl (by omega) hi), Lt_b, Lt_b, Lt_b, Lt_b, Lt_b, Lt_b, kn_po (by omega), n_31 (by omega), n_add (by omega), n_ladd (m := 4) rfl (by omega), kn_cl (by omega), kn_cl (by omega)]
  have q := lp_it hB (fun _ _ => ((fun _ => 0) : Nat → Int32)) fu 31 2 0 rfl
  have e : E_v_keepAll (nI k) fw fu = kitf (fun i => 31 * k + i) (fun i _ => fw (4 + i)) fu 31 := by
    refine Eq.trans (show E_v_keepAll (nI k) fw fu = Lp (α := Int32 → (Nat → Int32) → ((Nat → Int32))) (E_v_keepAll_l2 (nI k) fw) (fun _ _ => ((fun _ => 0) : Nat → Int32)) (2 + 31) (nI 0) fu from rfl) (q.trans ?_)
    rw [Lp_s, E_v_keepAll_l2.eq_def, if_pos (kn_lel (j := 31) rfl (by omega) (Nat.le_refl _))]
  rw [e, kitf_cp]
theorem putBack_at {k : Nat} (hk : k ≤ 17) {fw fu : Nat → Int32} (j : Nat) : E_v_putBack (nI k) fw fu j = if 4 ≤ j ∧ j < 35 then fu (31 * k + (j - 4)) else fw j := by
  have hB : ∀ (rc : Int32 → (Nat → Int32) → (Nat → Int32)) (i : Nat) (f : Nat → Int32), i < 31 → E_v_putBack_l2 (nI k) fu rc (nI i) f = rc (nI (i + 1)) (upd f (4 + i) (fu (31 * k + i))) := fun rc i f hi => by
    rw [E_v_putBack_l2.eq_def, if_neg (kn_nlel (j := 31) rfl (by omega) hi), Lt_b, Lt_b, Lt_b, Lt_b, Lt_b, Lt_b, kn_po (by omega), n_31 (by omega), n_add (by omega), n_ladd (m := 4) rfl (by omega), kn_cl (by omega), kn_cl (by omega)]
  have q := lp_it hB (fun _ _ => ((fun _ => 0) : Nat → Int32)) fw 31 2 0 rfl
  have e : E_v_putBack (nI k) fw fu = kitf (fun i => 4 + i) (fun i _ => fu (31 * k + i)) fw 31 := by
    refine Eq.trans (show E_v_putBack (nI k) fw fu = Lp (α := Int32 → (Nat → Int32) → ((Nat → Int32))) (E_v_putBack_l2 (nI k) fu) (fun _ _ => ((fun _ => 0) : Nat → Int32)) (2 + 31) (nI 0) fw from rfl) (q.trans ?_)
    rw [Lp_s, E_v_putBack_l2.eq_def, if_pos (kn_lel (j := 31) rfl (by omega) (Nat.le_refl _))]
  rw [e, kitf_cp]
theorem remember_j {k s : Nat} (hk : k < 16) {fw fu fs : Nat → Int32} : E_v_remember_j77 (nI s) fw (nI k) fu fs = (nI (k + 1), E_v_keepAll (nI k) fw fu, upd fs k (nI s)) := by
  rw [E_v_remember_j77.eq_def, Lt_b, Lt_b, Lt_b, kn_cl (by omega), kn_p1 (by omega)]
theorem remember_lt {u s : Nat} (hu : u < 16) {fw fu fs : Nat → Int32} : E_v_remember (nI s) (nI u) fw fu fs = (nI (u + 1), E_v_keepAll (nI u) fw fu, upd fs u (nI s)) := by
  rw [E_v_remember.eq_def, if_neg (kn_nz (j := 16) rfl (by omega) (by omega)), remember_j hu]
theorem remember_16 {s : Nat} {fw fu fs : Nat → Int32} : E_v_remember (nI s) (nI 16) fw fu fs = (nI 16, E_v_keepAll (nI 15) fw (kitf (fun i => i) (fun i g => g (i + 31)) fu 465), upd (kitf (fun i => i) (fun i g => g (i + 1)) fs 15) 15 (nI s)) := by
  have hB : ∀ (rc : Int32 → (Nat → Int32) → (Int32 × (Nat → Int32) × (Nat → Int32))) (i : Nat) (f : Nat → Int32), i < 465 → E_v_remember_l11 (nI s) (nI 16) fw fs rc (nI i) f = rc (nI (i + 1)) (upd f i (f (i + 31))) := fun rc i f hi => by
    rw [E_v_remember_l11.eq_def, if_neg (kn_nlel (j := 465) rfl (by omega) hi), Lt_b, Lt_b, Lt_b, Lt_b, kn_po (by omega), n_addl (m := 31) rfl (by omega), kn_cl (by omega), kn_cl (by omega)]
  have hC : ∀ (fu : Nat → Int32) (rc : Int32 → (Nat → Int32) → (Int32 × (Nat → Int32) × (Nat → Int32))) (i : Nat) (f : Nat → Int32), i < 15 → E_v_remember_l41 (nI s) (nI 16) fw fu rc (nI i) f = rc (nI (i + 1)) (upd f i (f (i + 1))) := fun fu rc i f hi => by
    rw [E_v_remember_l41.eq_def, if_neg (kn_nlel (j := 15) rfl (by omega) hi), Lt_b, Lt_b, Lt_b, Lt_b, kn_po (by omega), kn_p1 (by omega), kn_cl (by omega), kn_cl (by omega)]
  have q := lp_it hB (fun _ _ => ((0, fun _ => 0, fun _ => 0) : Int32 × (Nat → Int32) × (Nat → Int32))) fu 465 2 0 rfl
  have q2 := lp_it (hC (kitf (fun i => i) (fun i g => g (i + 31)) fu 465)) (fun _ _ => ((0, fun _ => 0, fun _ => 0) : Int32 × (Nat → Int32) × (Nat → Int32))) fs 15 2 0 rfl
  rw [E_v_remember.eq_def, if_pos (show nI 16 = 16 from rfl)]
  refine Eq.trans (show _ = Lp (α := Int32 → (Nat → Int32) → (Int32 × (Nat → Int32) × (Nat → Int32))) (E_v_remember_l11 (nI s) (nI 16) fw fs) (fun _ _ => ((0, fun _ => 0, fun _ => 0) : Int32 × (Nat → Int32) × (Nat → Int32))) (2 + 465) (nI 0) fu from by
    rw [show ((466 - (0 : Int32).toInt : Int).toNat + 1) = 2 + 465 from rfl]; rfl) (q.trans ?_)
  rw [Lp_s, E_v_remember_l11.eq_def, if_pos (kn_lel (j := 465) rfl (by omega) (Nat.le_refl _))]
  refine Eq.trans (show _ = Lp (α := Int32 → (Nat → Int32) → (Int32 × (Nat → Int32) × (Nat → Int32))) (E_v_remember_l41 (nI s) (nI 16) fw (kitf (fun i => i) (fun i g => g (i + 31)) fu 465)) (fun _ _ => ((0, fun _ => 0, fun _ => 0) : Int32 × (Nat → Int32) × (Nat → Int32))) (2 + 15) (nI 0) fs from rfl) (q2.trans ?_)
  rw [Lp_s, E_v_remember_l41.eq_def, if_pos (kn_lel (j := 15) rfl (by omega) (Nat.le_refl _)), Lt_b, kn_m1 (by omega) (by omega), remember_j (by omega)]
