/-! loops that write one array, place by place -/
noncomputable def kitf (d : Nat → Nat) (s : Nat → (Nat → Int32) → Int32) (f : Nat → Int32) (k : Nat) : Nat → Int32 := match k with
  | 0 => f
  | k + 1 => upd (kitf d s f k) (d k) (s k (kitf d s f k))
theorem lp_it {α : Type} {N : Nat} {B : (Int32 → (Nat → Int32) → α) → Int32 → (Nat → Int32) → α} {d : Nat → Nat} {s : Nat → (Nat → Int32) → Int32} (hB : ∀ (rc : Int32 → (Nat → Int32) → α) (i : Nat) (f : Nat → Int32), i < N → B rc (nI i) f = rc (nI (i + 1)) (upd f (d i) (s i f))) (z : Int32 → (Nat → Int32) → α) (f : Nat → Int32) : ∀ (k F i : Nat), i + k = N → Lp B z (F + k) (nI i) (kitf d s f i) = Lp B z F (nI N) (kitf d s f N) := by
  intro k
  induction k with
  | zero => intro F i h; rw [show i = N by omega, Nat.add_zero]
  | succ k ih =>
    intro F i h
    rw [show F + (k + 1) = F + k + 1 by omega, Lp_s, hB _ _ _ (by omega)]
    exact ih F (i + 1) (by omega)
theorem kitf_cp {s : Nat → Int32} {a : Nat} {f : Nat → Int32} : ∀ k j, kitf (fun i => a + i) (fun i _ => s i) f k j = if a ≤ j ∧ j < a + k then s (j - a) else f j := by
  intro k
  induction k with
  | zero => intro j; rw [if_neg (by omega)]; rfl
  | succ k ih =>
    intro j
    show upd (kitf (fun i => a + i) (fun i _ => s i) f k) (a + k) (s k) j = _
    by_cases h : j = a + k
    · rw [upd_e h, if_pos (by omega), show j - a = k by omega]
    · rw [upd_n h, ih]
      by_cases h2 : a ≤ j ∧ j < a + k
      · rw [if_pos h2, if_pos (by omega)]
      · rw [if_neg h2, if_neg (by omega)]
theorem kitf_sh {e : Nat} (he : 1 ≤ e) {f : Nat → Int32} : ∀ k j, kitf (fun i => i) (fun i g => g (i + e)) f k j = if j < k then f (j + e) else f j := by
  intro k
  induction k with
  | zero => intro j; rw [if_neg (by omega)]; rfl
  | succ k ih =>
    intro j
    show upd (kitf (fun i => i) (fun i g => g (i + e)) f k) k (kitf (fun i => i) (fun i g => g (i + e)) f k (k + e)) j = _
    rw [ih (k + e), if_neg (by omega)]
    by_cases h : j = k
    · rw [upd_e h, if_pos (by omega), h]
    · rw [upd_n h, ih]
      by_cases h2 : j < k
      · rw [if_pos h2, if_pos (by omega)]
      · rw [if_neg h2, if_neg (by omega)]
/-! small sums of places -/
theorem n_ladd {c : Int32} {m i : Nat} (hc : c.toInt = (m : Int)) (h : m + i < 1000000) : c + nI i = nI (m + i) := Int32.toInt_inj.mp (by
  rw [i_add hc (nI_toInt (by omega)) (by omega), nI_toInt (by omega)]; omega)
theorem n_addl {c : Int32} {m i : Nat} (hc : c.toInt = (m : Int)) (h : m + i < 1000000) : nI i + c = nI (i + m) := Int32.toInt_inj.mp (by
  rw [i_add (nI_toInt (by omega)) hc (by omega), nI_toInt (by omega)]; omega)
theorem n_add {i j : Nat} (h : i + j < 1000000) : nI i + nI j = nI (i + j) := Int32.toInt_inj.mp (by
  rw [i_add (nI_toInt (by omega)) (nI_toInt (by omega)) (by omega), nI_toInt (by omega)]; omega)
theorem n_31 {k : Nat} (h : k < 1000) : (31 : Int32) * nI k = nI (31 * k) := Int32.toInt_inj.mp (by
  rw [i_mul (show (31 : Int32).toInt = 31 from rfl) (nI_toInt (by omega)) (by omega), nI_toInt (by omega)]; omega)
theorem n_28 {k : Nat} (h : k < 1000) : nI k * (28 : Int32) = nI (28 * k) := Int32.toInt_inj.mp (by
  rw [i_mul (nI_toInt (by omega)) (show (28 : Int32).toInt = 28 from rfl) (by omega), nI_toInt (by omega)]; omega)
theorem n_8r {k : Nat} (h : k < 1000) : nI k * (8 : Int32) = nI (8 * k) := Int32.toInt_inj.mp (by
  rw [i_mul (nI_toInt (by omega)) (show (8 : Int32).toInt = 8 from rfl) (by omega), nI_toInt (by omega)]; omega)
theorem nI_lit {c : Int32} {m : Nat} (hc : c.toInt = (m : Int)) (h : m < 1000000) : c = nI m := Int32.toInt_inj.mp (by rw [hc, nI_toInt (by omega)])
theorem rd_at {f : Nat → Int32} {c : Int32} {j : Nat} (h : c = nI j) (hj : j < 1000000) : f c.toNatClampNeg = f j := by rw [h, kn_cl (by omega)]
/-! the reference's snaps -/
theorem keepAll_at {k : Nat} (hk : k ≤ 17) {fw fu : Nat → Int32} (j : Nat) : E_v_keepAll (nI k) fw fu j = if 31 * k ≤ j ∧ j < 31 * k + 31 then fw (4 + (j - 31 * k)) else fu j := by
  have hB : ∀ (rc : Int32 → (Nat → Int32) → (Nat → Int32)) (i : Nat) (f : Nat → Int32), i < 31 → E_v_keepAll_l2 (nI k) fw rc (nI i) f = rc (nI (i + 1)) (upd f (31 * k + i) (fw (4 + i))) := fun rc i f hi => by
    rw [E_v_keepAll_l2.eq_def, if_neg (kn_nlel (j := 31) rfl (by omega) hi), Lt_b, Lt_b, Lt_b, Lt_b, Lt_b, Lt_b, kn_po (by omega), n_31 (by omega), n_add (by omega), n_ladd (m := 4) rfl (by omega), kn_cl (by omega), kn_cl (by omega)]
  have q := lp_it hB (fun _ _ => ((fun _ => 0) : Nat → Int32)) fu 31 2 0 rfl
  have e : E_v_keepAll (nI k) fw fu = kitf (fun i => 31 * k + i) (fun i _ => fw (4 + i)) fu 31 := by
    refine Eq.trans (show E_v_keepAll (nI k) fw fu = Lp (α := Int32 → (Nat → Int32) → ((Nat → Int32))) (E_v_keepAll_l2 (nI k) fw) (fun _ _ => ((fun _ => 0) : Nat → Int32)) (2 + 31) (nI 0) fu from rfl) (q.trans ?_)
    rw [Lp_s, E_v_keepAll_l2.eq_def, if_pos (kn_lel (j := 31) rfl (by omega) (Nat.le_refl _))]
  rw [e, kitf_cp]
theorem putBack_at {k : Nat} (hk : k ≤ 17) {fw fu : Nat → Int32} (j : Nat) : E_v_putBack (nI k) fw fu j = if 4 ≤ j ∧ j < 35 then fu (31 * k + (j - 4)) else fw j := by
  have hB : ∀ (rc : Int32 → (Nat → Int32) → (Nat → Int32)) (i : Nat) (f : Nat → Int32), i < 31 → E_v_putBack_l2 (nI k) fu rc (nI i) f = rc (nI (i + 1)) (upd f (4 + i) (fu (31 * k + i))) := fun rc i f hi => by
    rw [E_v_putBack_l2.eq_def, if_neg (kn_nlel (j := 31) rfl (by omega) hi), Lt_b, Lt_b, Lt_b, Lt_b, Lt_b, Lt_b, kn_po (by omega), n_31 (by omega), n_add (by omega), n_ladd (m := 4) rfl (by omega), kn_cl (by omega), kn_cl (by omega)]
  have q := lp_it hB (fun _ _ => ((fun _ => 0) : Nat → Int32)) fw 31 2 0 rfl
  have e : E_v_putBack (nI k) fw fu = kitf (fun i => 4 + i) (fun i _ => fu (31 * k + i)) fw 31 := by
    refine Eq.trans (show E_v_putBack (nI k) fw fu = Lp (α := Int32 → (Nat → Int32) → ((Nat → Int32))) (E_v_putBack_l2 (nI k) fu) (fun _ _ => ((fun _ => 0) : Nat → Int32)) (2 + 31) (nI 0) fw from rfl) (q.trans ?_)
    rw [Lp_s, E_v_putBack_l2.eq_def, if_pos (kn_lel (j := 31) rfl (by omega) (Nat.le_refl _))]
  rw [e, kitf_cp]
theorem remember_j {k s : Nat} (hk : k < 16) {fw fu fs : Nat → Int32} : E_v_remember_j77 (nI s) fw (nI k) fu fs = (nI (k + 1), E_v_keepAll (nI k) fw fu, upd fs k (nI s)) := by
  rw [E_v_remember_j77.eq_def, Lt_b, Lt_b, Lt_b, kn_cl (by omega), kn_p1 (by omega)]
theorem remember_lt {u s : Nat} (hu : u < 16) {fw fu fs : Nat → Int32} : E_v_remember (nI s) (nI u) fw fu fs = (nI (u + 1), E_v_keepAll (nI u) fw fu, upd fs u (nI s)) := by
  rw [E_v_remember.eq_def, if_neg (kn_nz (j := 16) rfl (by omega) (by omega)), remember_j hu]
theorem remember_16 {s : Nat} {fw fu fs : Nat → Int32} : E_v_remember (nI s) (nI 16) fw fu fs = (nI 16, E_v_keepAll (nI 15) fw (kitf (fun i => i) (fun i g => g (i + 31)) fu 465), upd (kitf (fun i => i) (fun i g => g (i + 1)) fs 15) 15 (nI s)) := by
  have hB : ∀ (rc : Int32 → (Nat → Int32) → (Int32 × (Nat → Int32) × (Nat → Int32))) (i : Nat) (f : Nat → Int32), i < 465 → E_v_remember_l11 (nI s) (nI 16) fw fs rc (nI i) f = rc (nI (i + 1)) (upd f i (f (i + 31))) := fun rc i f hi => by
    rw [E_v_remember_l11.eq_def, if_neg (kn_nlel (j := 465) rfl (by omega) hi), Lt_b, Lt_b, Lt_b, Lt_b, kn_po (by omega), n_addl (m := 31) rfl (by omega), kn_cl (by omega), kn_cl (by omega)]
  have hC : ∀ (fu : Nat → Int32) (rc : Int32 → (Nat → Int32) → (Int32 × (Nat → Int32) × (Nat → Int32))) (i : Nat) (f : Nat → Int32), i < 15 → E_v_remember_l41 (nI s) (nI 16) fw fu rc (nI i) f = rc (nI (i + 1)) (upd f i (f (i + 1))) := fun fu rc i f hi => by
    rw [E_v_remember_l41.eq_def, if_neg (kn_nlel (j := 15) rfl (by omega) hi), Lt_b, Lt_b, Lt_b, Lt_b, kn_po (by omega), kn_p1 (by omega), kn_cl (by omega), kn_cl (by omega)]
  have q := lp_it hB (fun _ _ => ((0, fun _ => 0, fun _ => 0) : Int32 × (Nat → Int32) × (Nat → Int32))) fu 465 2 0 rfl
  have q2 := lp_it (hC (kitf (fun i => i) (fun i g => g (i + 31)) fu 465)) (fun _ _ => ((0, fun _ => 0, fun _ => 0) : Int32 × (Nat → Int32) × (Nat → Int32))) fs 15 2 0 rfl
  rw [E_v_remember.eq_def, if_pos (show nI 16 = 16 from rfl)]
  refine Eq.trans (show _ = Lp (α := Int32 → (Nat → Int32) → (Int32 × (Nat → Int32) × (Nat → Int32))) (E_v_remember_l11 (nI s) (nI 16) fw fs) (fun _ _ => ((0, fun _ => 0, fun _ => 0) : Int32 × (Nat → Int32) × (Nat → Int32))) (2 + 465) (nI 0) fu from by
    rw [show ((466 - (0 : Int32).toInt : Int).toNat + 1) = 2 + 465 from rfl]; rfl) (q.trans ?_)
  rw [Lp_s, E_v_remember_l11.eq_def, if_pos (kn_lel (j := 465) rfl (by omega) (Nat.le_refl _))]
  refine Eq.trans (show _ = Lp (α := Int32 → (Nat → Int32) → (Int32 × (Nat → Int32) × (Nat → Int32))) (E_v_remember_l41 (nI s) (nI 16) fw (kitf (fun i => i) (fun i g => g (i + 31)) fu 465)) (fun _ _ => ((0, fun _ => 0, fun _ => 0) : Int32 × (Nat → Int32) × (Nat → Int32))) (2 + 15) (nI 0) fs from rfl) (q2.trans ?_)
  rw [Lp_s, E_v_remember_l41.eq_def, if_pos (kn_lel (j := 15) rfl (by omega) (Nat.le_refl _)), Lt_b, kn_m1 (by omega) (by omega), remember_j (by omega)]
/-! what can be undone: the class's ring of slots, the reference's row of snaps -/
theorem kcp_pt {f g : Nat → Int32} {s d n j : Nat} : va_cpy (α := Int32) f g s d n j = if d ≤ j ∧ j < d + n then f (s + (j - d)) else g j := rfl
theorem kcp_in {f g : Nat → Int32} {s d n j : Nat} (h : d ≤ j ∧ j < d + n) : va_cpy (α := Int32) f g s d n j = f (s + (j - d)) := if_pos h
theorem kcp_out {f g : Nat → Int32} {s d n j : Nat} (h : ¬ (d ≤ j ∧ j < d + n)) : va_cpy (α := Int32) f g s d n j = g j := if_neg h
theorem n_mod17 : ∀ a, a < 40 → nI a - nI a / 17 * 17 = nI (a % 17) := by decide +kernel
/-- what stands in a slot -/
noncomputable def KSlot (g : Nat → Int32) (q : Nat) (fi a b : Int32) (f1 : Nat → Int32) : Prop := g (28 * q + 1) = fi ∧ g (28 * q + 2) = a ∧ g (28 * q + 3) = b ∧ ∀ j, j < 8 → g (28 * q + 4 + j) = f1 (16 + j) ∧ g (28 * q + 12 + j) = f1 (40 + j) ∧ g (28 * q + 20 + j) = f1 (48 + j)
theorem draft_l {d v s : Nat} {f1 g : Nat → Int32} {rc : Int32 → (Nat → Int32) → (Nat → Int32)} (hd : d ≤ 16) (hv : v < 3) (hs : E_w_changing (nI v) = nI s) (h7 : s < 7) : E_w_draft_l50 f1 (nI (28 * d)) rc (nI v) g = rc (nI (v + 1)) (va_cpy (α := Int32) f1 g (8 * s) (28 * d + 4 + 8 * v) 8) := by
  rw [E_w_draft_l50.eq_def, if_neg (kn_nlel (j := 3) rfl (by omega) hv), hs]
  simp only [Lt]
  rw [kn_po (by omega), n_8r (by omega), n_8r (by omega), n_addl (m := 4) rfl (by omega), n_add (by omega), kn_cl (by omega), kn_cl (by omega), show (8 : Int32).toNatClampNeg = 8 from rfl]
theorem draft_at {d : Nat} (hd : d ≤ 16) {f f1 f2 : Nat → Int32} {fi : Int32} : KSlot (E_w_draft (nI d) f fi f1 f2) d fi (f2 0) (f2 1) f1 ∧ ∀ j, j < 28 * d + 1 ∨ 28 * d + 28 ≤ j → E_w_draft (nI d) f fi f1 f2 j = f j := by
  obtain ⟨g, hg⟩ : ∃ g, g = upd (upd (upd f (28 * d + 1) fi) (28 * d + 2) (f2 0)) (28 * d + 3) (f2 1) := ⟨_, rfl⟩
  have e : E_w_draft (nI d) f fi f1 f2 = va_cpy (α := Int32) f1 (va_cpy (α := Int32) f1 (va_cpy (α := Int32) f1 g (8 * 2) (28 * d + 4 + 8 * 0) 8) (8 * 5) (28 * d + 4 + 8 * 1) 8) (8 * 6) (28 * d + 4 + 8 * 2) 8 := by
    rw [E_w_draft.eq_def, Lt_b, Lt_b, Lt_b, Lt_b, Lt_b, Lt_b, Lt_b, Lt_b, Lt_b]
    rw [n_28 (by omega), kn_p1 (by omega), kn_p2 (by omega), n_addl (m := 3) rfl (by omega), kn_cl (by omega), kn_cl (by omega), kn_cl (by omega), show (0 : Int32).toNatClampNeg = 0 from rfl, show (1 : Int32).toNatClampNeg = 1 from rfl, ← hg]
    rw [show ((4 - (0 : Int32).toInt : Int).toNat + 1) = 1 + 1 + 1 + 1 + 1 by decide, show (0 : Int32) = nI 0 from rfl]
    rw [Lp_s, draft_l hd (show 0 < 3 by omega) (s := 2) rfl (by omega), Lp_s, draft_l hd (show 0 + 1 < 3 by omega) (s := 5) rfl (by omega), Lp_s, draft_l hd (show 0 + 1 + 1 < 3 by omega) (s := 6) rfl (by omega), Lp_s, E_w_draft_l50.eq_def, if_pos (show (3 : Int32) ≤ nI (0 + 1 + 1 + 1) by decide)]
  rw [e]
  refine ⟨⟨?_, ?_, ?_, fun j hj => ⟨?_, ?_, ?_⟩⟩, fun j hj => ?_⟩
  · rw [kcp_out (by omega), kcp_out (by omega), kcp_out (by omega), hg, upd_n (by omega), upd_n (by omega), upd_s]
  · rw [kcp_out (by omega), kcp_out (by omega), kcp_out (by omega), hg, upd_n (by omega), upd_s]
  · rw [kcp_out (by omega), kcp_out (by omega), kcp_out (by omega), hg, upd_s]
  · rw [kcp_out (by omega), kcp_out (by omega), kcp_in (by omega)]
    exact congrArg f1 (by omega)
  · rw [kcp_out (by omega), kcp_in (by omega)]
    exact congrArg f1 (by omega)
  · rw [kcp_in (by omega)]
    exact congrArg f1 (by omega)
  · rw [kcp_out (by omega), kcp_out (by omega), kcp_out (by omega), hg, upd_n (by omega), upd_n (by omega), upd_n (by omega)]
theorem keep_at {d u s : Nat} (hd : d ≤ 16) (hu : u ≤ 16) {f : Nat → Int32} : E_w_keep (nI s) (nI d) (nI u) f = (nI ((d + 1) % 17), nI (min 16 (u + 1)), upd f (28 * d) (nI s)) := by
  rw [E_w_keep.eq_def]
  simp only [Lt]
  rw [n_28 (by omega), kn_p1 (by omega), kn_p1 (by omega), kn_cl (by omega), n_mod17 _ (by omega)]
  by_cases h : u + 1 < 16
  · rw [if_pos (kn_ltl (j := 16) rfl (by omega) h), show min 16 (u + 1) = u + 1 by omega]
  · rw [if_neg (kn_nltl (j := 16) rfl (by omega) (by omega)), show min 16 (u + 1) = 16 by omega]
    rfl
theorem tb_l {q v s : Nat} {f f6 g : Nat → Int32} {kp dr fi : Int32} {rc : Int32 → (Nat → Int32) → (Int32 × Int32 × Int32 × Int32 × (Nat → Int32) × (Nat → Int32))} (hq : q ≤ 16) (hv : v < 3) (hs : (v = 0 ∧ s = 2) ∨ (v = 1 ∧ s = 5) ∨ (v = 2 ∧ s = 6)) : E_w_takeBack_l85 f kp dr (nI (28 * q)) fi f6 rc (nI v) g = rc (nI (v + 1)) (va_cpy (α := Int32) f g (28 * q + 4 + 8 * v) (8 * s) 8) := by
  rw [E_w_takeBack_l85.eq_def, if_neg (kn_nlel (j := 3) rfl (by omega) hv)]
  simp only [Lt]
  rw [kn_po (by omega), n_8r (by omega), n_addl (m := 4) rfl (by omega), n_add (by omega), kn_cl (by omega), show (8 : Int32).toNatClampNeg = 8 from rfl]
  rcases hs with ⟨rfl, rfl⟩ | ⟨rfl, rfl⟩ | ⟨rfl, rfl⟩
  · rw [if_pos (show E_w_changingX (nI 0) = 2 by decide)]; rfl
  · rw [if_neg (show ¬ E_w_changingX (nI 1) = 2 by decide), if_pos (show E_w_changingX (nI 1) = 5 by decide)]; rfl
  · rw [if_neg (show ¬ E_w_changingX (nI 2) = 2 by decide), if_neg (show ¬ E_w_changingX (nI 2) = 5 by decide)]; rfl
theorem takeBack_at {d u : Nat} (hd : d ≤ 16) (hu : u < 16) {f f1 f2 : Nat → Int32} {fi : Int32} : ∃ g1, E_w_takeBack (nI d) (nI (u + 1)) f fi f1 f2 = (f (28 * ((d + 16) % 17)), nI ((d + 16) % 17), nI u, f (28 * ((d + 16) % 17) + 1), g1, upd (upd f2 0 (f (28 * ((d + 16) % 17) + 2))) 1 (f (28 * ((d + 16) % 17) + 3))) ∧
    (∀ j, j < 8 → g1 (16 + j) = f (28 * ((d + 16) % 17) + 4 + j) ∧ g1 (40 + j) = f (28 * ((d + 16) % 17) + 12 + j) ∧ g1 (48 + j) = f (28 * ((d + 16) % 17) + 20 + j)) ∧ ∀ j, (j < 16 ∨ (24 ≤ j ∧ j < 40) ∨ 56 ≤ j) → g1 j = f1 j := by
  obtain ⟨q, hq⟩ : ∃ q, q = (d + 16) % 17 := ⟨_, rfl⟩
  have q16 : q ≤ 16 := by omega
  rw [← hq]
  refine ⟨va_cpy (α := Int32) f (va_cpy (α := Int32) f (va_cpy (α := Int32) f f1 (28 * q + 4 + 8 * 0) (8 * 2) 8) (28 * q + 4 + 8 * 1) (8 * 5) 8) (28 * q + 4 + 8 * 2) (8 * 6) 8, ?_, fun j hj => ⟨?_, ?_, ?_⟩, fun j hj => ?_⟩
  · rw [E_w_takeBack.eq_def, if_neg (kn_nz (j := 0) rfl (by omega) (by omega)), Lt_b, Lt_b, Lt_b, Lt_b, Lt_b, Lt_b, Lt_b, Lt_b, Lt_b, Lt_b, Lt_b, Lt_b, Lt_b]
    rw [kn_m1 (by omega) (by omega), n_addl (m := 17) rfl (by omega), kn_m1 (by omega) (by omega), show d + 17 - 1 = d + 16 by omega, show u + 1 - 1 = u by omega, n_mod17 _ (by omega), ← hq, n_28 (by omega), kn_p1 (by omega), kn_p2 (by omega), n_addl (m := 3) rfl (by omega), kn_cl (by omega), kn_cl (by omega), kn_cl (by omega), show (0 : Int32).toNatClampNeg = 0 from rfl, show (1 : Int32).toNatClampNeg = 1 from rfl]
    rw [show ((4 - (0 : Int32).toInt : Int).toNat + 1) = 1 + 1 + 1 + 1 + 1 by decide, show (0 : Int32) = nI 0 from rfl]
    rw [Lp_s, tb_l q16 (by omega) (Or.inl ⟨rfl, rfl⟩), Lp_s, tb_l q16 (by omega) (Or.inr (Or.inl ⟨rfl, rfl⟩)), Lp_s, tb_l q16 (by omega) (Or.inr (Or.inr ⟨rfl, rfl⟩)), Lp_s, E_w_takeBack_l85.eq_def, if_pos (show (3 : Int32) ≤ nI (0 + 1 + 1 + 1) by decide), Lt_b, kn_cl (by omega)]
  · rw [kcp_out (by omega), kcp_out (by omega), kcp_in (by omega)]
    exact congrArg f (by omega)
  · rw [kcp_out (by omega), kcp_in (by omega)]
    exact congrArg f (by omega)
  · rw [kcp_in (by omega)]
    exact congrArg f (by omega)
  · rw [kcp_out (by omega), kcp_out (by omega), kcp_out (by omega)]
/-- ranges of what a snap holds -/
noncomputable def KRg (g : Nat → Int32) : Prop := (0 ≤ (g 4).toInt ∧ (g 4).toInt ≤ 23) ∧ (0 ≤ (g 5).toInt ∧ (g 5).toInt ≤ 999) ∧ (1 ≤ (g 6).toInt ∧ (g 6).toInt ≤ 20) ∧ (1 ≤ (g 7).toInt ∧ (g 7).toInt ≤ 20) ∧ (0 ≤ (g 8).toInt ∧ (g 8).toInt ≤ 10) ∧ (0 ≤ (g 9).toInt ∧ (g 9).toInt ≤ 9) ∧ (0 ≤ (g 10).toInt ∧ (g 10).toInt ≤ 99999) ∧ ∀ j, j < 8 → (0 ≤ (g (11 + j)).toInt ∧ (g (11 + j)).toInt ≤ 20) ∧ (0 ≤ (g (19 + j)).toInt ∧ (g (19 + j)).toInt ≤ 999) ∧ (0 ≤ (g (27 + j)).toInt ∧ (g (27 + j)).toInt ≤ 9999)
theorem KRg.ext {g f : Nat → Int32} (h : KRg g) (e : ∀ j, 4 ≤ j → j < 35 → f j = g j) : KRg f := by
  obtain ⟨a1, a2, a3, a4, a5, a6, a7, a8⟩ := h
  refine ⟨?_, ?_, ?_, ?_, ?_, ?_, ?_, fun j hj => ?_⟩
  · rw [e 4 (by omega) (by omega)]; exact a1
  · rw [e 5 (by omega) (by omega)]; exact a2
  · rw [e 6 (by omega) (by omega)]; exact a3
  · rw [e 7 (by omega) (by omega)]; exact a4
  · rw [e 8 (by omega) (by omega)]; exact a5
  · rw [e 9 (by omega) (by omega)]; exact a6
  · rw [e 10 (by omega) (by omega)]; exact a7
  · rw [e _ (by omega) (by omega), e _ (by omega) (by omega), e _ (by omega) (by omega)]; exact a8 j hj
noncomputable def snf (fu : Nat → Int32) (i : Nat) : Nat → Int32 := fun j => if j < 40 then fu (31 * i + 15 + (j - 16)) else if j < 48 then fu (31 * i + 7 + (j - 40)) else fu (31 * i + 23 + (j - 48))
theorem snf_c {fu : Nat → Int32} {i j : Nat} (h : j < 8) : snf fu i (16 + j) = fu (31 * i + (15 + j)) := by
  unfold snf; rw [if_pos (by omega)]; exact congrArg fu (by omega)
theorem snf_f {fu : Nat → Int32} {i j : Nat} (h : j < 8) : snf fu i (40 + j) = fu (31 * i + (7 + j)) := by
  unfold snf; rw [if_neg (by omega), if_pos (by omega)]; exact congrArg fu (by omega)
theorem snf_w {fu : Nat → Int32} {i j : Nat} (h : j < 8) : snf fu i (48 + j) = fu (31 * i + (23 + j)) := by
  unfold snf; rw [if_neg (by omega), if_neg (by omega)]; exact congrArg fu (by omega)
/-- one snap, both sides: the class's slot q, the reference's snap i; n houses; fw: the row now -/
noncomputable def HE (n : Int32) (sl fu fs fw : Nat → Int32) (q i : Nat) : Prop := (sl (28 * q) = fs i ∧ KSlot sl q (fu (31 * i + 6)) (fu (31 * i)) (fu (31 * i + 1)) (snf fu i)) ∧
  (∀ j, 2 ≤ j → j < 6 → fu (31 * i + j) = fw (4 + j)) ∧ (∃ s : Nat, s < 4 ∧ fs i = nI s) ∧ (∀ h : Nat, n.toInt ≤ (h : Int) → h < 8 → fu (31 * i + 7 + h) = 0 ∧ fu (31 * i + 23 + h) = 0) ∧ KRg (fun j => fu (31 * i + (j - 4)))
/-- the whole history -/
noncomputable def HR (n dr kp nu : Int32) (sl fu fs fw : Nat → Int32) : Prop := ∃ d u : Nat, (d ≤ 16 ∧ u ≤ 16) ∧ dr = nI d ∧ kp = nI u ∧ nu = nI u ∧ ∀ i, i < u → HE n sl fu fs fw ((d + 17 - u + i) % 17) i
theorem HE.ext {n : Int32} {sl fu fs fw sl' fu' fs' fw' : Nat → Int32} {q i i' : Nat} (h : HE n sl fu fs fw q i) (h1 : ∀ j, 28 * q ≤ j → j < 28 * q + 28 → sl' j = sl j) (h2 : ∀ j, j < 31 → fu' (31 * i' + j) = fu (31 * i + j)) (h3 : fs' i' = fs i) (h4 : ∀ j, 6 ≤ j → j < 10 → fw' j = fw j) : HE n sl' fu' fs' fw' q i' := by
  obtain ⟨⟨a0, a1, a2, a3, a4⟩, b, ⟨s, s1, s2⟩, c, e⟩ := h
  have k0 := h2 0 (by omega)
  rw [Nat.add_zero, Nat.add_zero] at k0
  refine ⟨⟨?_, ?_, ?_, ?_, fun j hj => ⟨?_, ?_, ?_⟩⟩, fun j hj hk => ?_, ⟨s, s1, h3.trans s2⟩, fun k hk h8 => ⟨?_, ?_⟩, e.ext (fun j hj hk => h2 _ (by omega))⟩
  · rw [h1 _ (by omega) (by omega), h3]; exact a0
  · rw [h1 _ (by omega) (by omega), h2 6 (by omega)]; exact a1
  · rw [h1 _ (by omega) (by omega), k0]; exact a2
  · rw [h1 _ (by omega) (by omega), h2 1 (by omega)]; exact a3
  · rw [h1 _ (by omega) (by omega), (a4 j hj).1, snf_c hj, snf_c hj, h2 _ (by omega)]
  · rw [h1 _ (by omega) (by omega), (a4 j hj).2.1, snf_f hj, snf_f hj, h2 _ (by omega)]
  · rw [h1 _ (by omega) (by omega), (a4 j hj).2.2, snf_w hj, snf_w hj, h2 _ (by omega)]
  · rw [h2 j (by omega), h4 _ (by omega) (by omega)]; exact b j hj hk
  · rw [Nat.add_assoc, h2 _ (by omega), ← Nat.add_assoc]; exact (c k hk h8).1
  · rw [Nat.add_assoc, h2 _ (by omega), ← Nat.add_assoc]; exact (c k hk h8).2
theorem HR.clear {n n' dr kp nu : Int32} {sl fu fs fw sl' fu' fs' fw' : Nat → Int32} (h : HR n dr kp nu sl fu fs fw) : HR n' dr 0 0 sl' fu' fs' fw' := by
  obtain ⟨d, u, ⟨h1, h2⟩, h3, h4, h5, h6⟩ := h
  exact ⟨d, 0, ⟨h1, by omega⟩, h3, rfl, rfl, fun i hi => by omega⟩
theorem HR.zero : HR 0 0 0 0 (fun _ => 0) (fun _ => 0) (fun _ => 0) (fun _ => 0) := ⟨0, 0, ⟨by omega, by omega⟩, rfl, rfl, rfl, fun i hi => by omega⟩
theorem HR.keep {n dr kp nu : Int32} {sl fu fs fw fu' fs' fw' : Nat → Int32} (h : HR n dr kp nu sl fu fs fw) (h2 : ∀ j, j < 496 → fu' j = fu j) (h3 : ∀ i, i < 16 → fs' i = fs i) (h4 : ∀ j, 6 ≤ j → j < 10 → fw' j = fw j) : HR n dr kp nu sl fu' fs' fw' := by
  obtain ⟨d, u, ⟨d1, d2⟩, e1, e2, e3, e4⟩ := h
  exact ⟨d, u, ⟨d1, d2⟩, e1, e2, e3, fun i hi => (e4 i hi).ext (fun _ _ _ => rfl) (fun j hj => h2 _ (by omega)) (h3 i (by omega)) h4⟩
/-! one more act is kept -/
/-- what changes in an hour: class and reference -/
noncomputable def KNow (n fi : Int32) (f1 f2 fw : Nat → Int32) : Prop := (∀ j, j < 6 → f2 j = fw (4 + j)) ∧ fi = fw 10 ∧ (∀ j, j < 8 → f1 (40 + j) = fw (11 + j) ∧ f1 (16 + j) = fw (19 + j) ∧ f1 (48 + j) = fw (27 + j)) ∧ (∀ h : Nat, n.toInt ≤ (h : Int) → h < 8 → fw (11 + h) = 0 ∧ fw (27 + h) = 0) ∧ KRg fw
theorem HE.new {n fi : Int32} {sl fu fs fw f1 f2 : Nat → Int32} {q i s : Nat} (h : KNow n fi f1 f2 fw) (k : KSlot sl q fi (f2 0) (f2 1) f1) (h1 : sl (28 * q) = nI s) (h2 : fs i = nI s) (h3 : s < 4) (h4 : ∀ j, j < 31 → fu (31 * i + j) = fw (4 + j)) : HE n sl fu fs fw q i := by
  obtain ⟨t1, t2, t3, t4, t5⟩ := h
  obtain ⟨a1, a2, a3, a4⟩ := k
  have k0 := h4 0 (by omega)
  rw [Nat.add_zero] at k0
  refine ⟨⟨h1.trans h2.symm, ?_, ?_, ?_, fun j hj => ⟨?_, ?_, ?_⟩⟩, fun j hj hk => h4 j (by omega), ⟨s, h3, h2⟩, fun k hk h8 => ⟨?_, ?_⟩, t5.ext (fun j h1 h2 => (h4 _ (by omega)).trans (congrArg fw (by omega)))⟩
  · rw [a1, h4 6 (by omega)]; exact t2
  · rw [a2, k0]; exact t1 0 (by omega)
  · rw [a3, h4 1 (by omega)]; exact t1 1 (by omega)
  · rw [(a4 j hj).1, (t3 j hj).2.1, snf_c hj, h4 _ (by omega)]
    exact congrArg fw (by omega)
  · rw [(a4 j hj).2.1, (t3 j hj).1, snf_f hj, h4 _ (by omega)]
    exact congrArg fw (by omega)
  · rw [(a4 j hj).2.2, (t3 j hj).2.2, snf_w hj, h4 _ (by omega)]
    exact congrArg fw (by omega)
  · rw [Nat.add_assoc, h4 _ (by omega), show 4 + (7 + k) = 11 + k by omega]; exact (t4 k hk h8).1
  · rw [Nat.add_assoc, h4 _ (by omega), show 4 + (23 + k) = 27 + k by omega]; exact (t4 k hk h8).2
theorem HR.push {n dr kp nu fi dr' kp' nu' : Int32} {sl fu fs fw f1 f2 sl' fu' fs' fw' : Nat → Int32} {s : Nat} (h : HR n dr kp nu sl fu fs fw) (hn : KNow n fi f1 f2 fw) (hs : s < 4) (k1 : (dr', kp', sl') = E_w_keep (nI s) dr kp (E_w_draft dr sl fi f1 f2)) (k2 : (nu', fu', fs') = E_v_remember (nI s) nu fw fu fs) (h4 : ∀ j, 6 ≤ j → j < 10 → fw' j = fw j) : HR n dr' kp' nu' sl' fu' fs' fw' := by
  obtain ⟨d, u, ⟨d1, d2⟩, rfl, rfl, rfl, e4⟩ := h
  obtain ⟨w1, w2⟩ := draft_at (d := d) d1 (f := sl) (f1 := f1) (f2 := f2) (fi := fi)
  rw [keep_at d1 d2] at k1
  generalize E_w_draft (nI d) sl fi f1 f2 = g at w1 w2 k1
  simp only [Prod.mk.injEq] at k1
  obtain ⟨rfl, rfl, rfl⟩ := k1
  have wn : KSlot (upd g (28 * d) (nI s)) d fi (f2 0) (f2 1) f1 := by
    obtain ⟨a1, a2, a3, a4⟩ := w1
    exact ⟨by rw [upd_n (by omega)]; exact a1, by rw [upd_n (by omega)]; exact a2, by rw [upd_n (by omega)]; exact a3, fun j hj => ⟨by rw [upd_n (by omega)]; exact (a4 j hj).1, by rw [upd_n (by omega)]; exact (a4 j hj).2.1, by rw [upd_n (by omega)]; exact (a4 j hj).2.2⟩⟩
  have oth : ∀ q, q ≠ d → ∀ j, 28 * q ≤ j → j < 28 * q + 28 → upd g (28 * d) (nI s) j = sl j := fun q hq j h1 h2 => by
    rw [upd_n (by omega)]
    exact w2 j (by omega)
  have nw : ∀ {fu2 fs2 : Nat → Int32} {i : Nat}, (∀ j, j < 31 → fu2 (31 * i + j) = fw (4 + j)) → fs2 i = nI s → HE n (upd g (28 * d) (nI s)) fu2 fs2 fw' d i := fun q1 q2 => by
    have z := HE.new hn wn upd_s q2 hs q1
    exact z.ext (fun _ _ _ => rfl) (fun _ _ => rfl) rfl h4
  by_cases c : u < 16
  · rw [remember_lt c] at k2
    simp only [Prod.mk.injEq] at k2
    obtain ⟨rfl, rfl, rfl⟩ := k2
    refine ⟨(d + 1) % 17, u + 1, ⟨by omega, by omega⟩, rfl, by rw [show min 16 (u + 1) = u + 1 by omega], rfl, fun i hi => ?_⟩
    rw [show ((d + 1) % 17 + 17 - (u + 1) + i) % 17 = (d + 17 - u + i) % 17 by omega]
    by_cases ci : i < u
    · exact (e4 i ci).ext (oth _ (by omega)) (fun j hj => by rw [keepAll_at (by omega), if_neg (by omega)]) (upd_n (by omega)) h4
    · rw [show i = u by omega, show (d + 17 - u + u) % 17 = d by omega]
      exact nw (fun j hj => by rw [keepAll_at (by omega), if_pos (by omega)]; exact congrArg fw (by omega)) upd_s
  · have cu : u = 16 := by omega
    subst cu
    rw [remember_16] at k2
    simp only [Prod.mk.injEq] at k2
    obtain ⟨rfl, rfl, rfl⟩ := k2
    refine ⟨(d + 1) % 17, 16, ⟨by omega, by omega⟩, rfl, rfl, rfl, fun i hi => ?_⟩
    rw [show ((d + 1) % 17 + 17 - 16 + i) % 17 = (d + 17 - 16 + (i + 1)) % 17 by omega]
    by_cases ci : i < 15
    · exact (e4 (i + 1) (by omega)).ext (oth _ (by omega)) (fun j hj => by rw [keepAll_at (by omega), if_neg (by omega), kitf_sh (by omega), if_pos (by omega)]; exact congrArg fu (by omega)) (by rw [upd_n (by omega), kitf_sh (by omega), if_pos (by omega)]) h4
    · rw [show i = 15 by omega, show (d + 17 - 16 + (15 + 1)) % 17 = d by omega]
      exact nw (fun j hj => by rw [keepAll_at (by omega), if_pos (by omega)]; exact congrArg fw (by omega)) upd_s
/-- a draft that isn't kept leaves the history as it was -/
theorem HR.draft {n dr kp nu fi : Int32} {sl fu fs fw f1 f2 : Nat → Int32} (h : HR n dr kp nu sl fu fs fw) : HR n dr kp nu (E_w_draft dr sl fi f1 f2) fu fs fw := by
  obtain ⟨d, u, ⟨d1, d2⟩, rfl, rfl, rfl, e4⟩ := h
  obtain ⟨w1, w2⟩ := draft_at (d := d) d1 (f := sl) (f1 := f1) (f2 := f2) (fi := fi)
  exact ⟨d, u, ⟨d1, d2⟩, rfl, rfl, rfl, fun i hi => (e4 i hi).ext (fun j h1 h2 => w2 j (by omega)) (fun _ _ => rfl) rfl (fun _ _ _ => rfl)⟩
/-! the rest of what stands in a town -/
noncomputable def TQ (b : Nat) (n lt nf fi : Int32) (f1 f2 : Nat → Int32) (fl : Nat → Option Nat) (G : Nat → LC) (fw : Nat → Int32) : Prop :=
  KNow n fi f1 f2 (fun j => fw (b + j)) ∧ lt = fw (b + 2) ∧ nf = fw (b + 3) ∧ (-1 ≤ nf.toInt ∧ nf.toInt < lt.toInt) ∧ (∀ j, j < 8 → (0 ≤ (fw (b + (35 + j))).toInt ∧ (fw (b + (35 + j))).toInt ≤ 6) ∧ 0 ≤ (fw (b + (43 + j))).toInt ∧ (fw (b + (43 + j))).toInt ≤ 3) ∧ ∀ i : Nat, (i : Int) < lt.toInt → ∃ a, fl i = some a ∧ KLaw (G a) (ktx fw (b + (100 + 900 * i)))
theorem KNow.ext {n fi : Int32} {f1 f2 fw f1' f2' fw' : Nat → Int32} (h : KNow n fi f1 f2 fw) (h1 : ∀ j, (16 ≤ j ∧ j < 24) ∨ (40 ≤ j ∧ j < 56) → f1' j = f1 j) (h2 : ∀ j, j < 6 → f2' j = f2 j) (h3 : ∀ j, 4 ≤ j → j < 35 → fw' j = fw j) : KNow n fi f1' f2' fw' := by
  obtain ⟨t1, t2, t3, t4, t5⟩ := h
  refine ⟨fun j hj => ?_, ?_, fun j hj => ⟨?_, ?_, ?_⟩, fun k hk h8 => ⟨?_, ?_⟩, t5.ext h3⟩
  · rw [h2 j hj, h3 _ (by omega) (by omega)]; exact t1 j hj
  · rw [h3 _ (by omega) (by omega)]; exact t2
  · rw [h1 _ (by omega), h3 _ (by omega) (by omega)]; exact (t3 j hj).1
  · rw [h1 _ (by omega), h3 _ (by omega) (by omega)]; exact (t3 j hj).2.1
  · rw [h1 _ (by omega), h3 _ (by omega) (by omega)]; exact (t3 j hj).2.2
  · rw [h3 _ (by omega) (by omega)]; exact (t4 k hk h8).1
  · rw [h3 _ (by omega) (by omega)]; exact (t4 k hk h8).2
/-- the same at another place, both sides copied -/
theorem TQ.move {b b' : Nat} {n lt nf fi : Int32} {f1 f2 fw f1' f2' fw' : Nat → Int32} {fl fl' : Nat → Option Nat} {G : Nat → LC} (h : TQ b n lt nf fi f1 f2 fl G fw) (h6 : 0 ≤ lt.toInt ∧ lt.toInt ≤ 6) (e : ∀ j, j < 5500 → fw' (b' + j) = fw (b + j)) (e1 : ∀ j, j < 56 → f1' j = f1 j) (e2 : ∀ j, j < 6 → f2' j = f2 j) (e3 : ∀ j, j < 6 → fl' j = fl j) : TQ b' n lt nf fi f1' f2' fl' G fw' := by
  obtain ⟨a, b1, b2, b4, b5, b3⟩ := h
  refine ⟨a.ext (fun j hj => e1 j (by omega)) e2 (fun j h1 h2 => e j (by omega)), b1.trans (e 2 (by omega)).symm, b2.trans (e 3 (by omega)).symm, b4, fun j hj => by rw [e _ (by omega), e _ (by omega)]; exact b5 j hj, fun i hi => ?_⟩
  obtain ⟨q, q1, q2⟩ := b3 i hi
  refine ⟨q, (e3 i (by omega)).trans q1, q2.ext (fun j hj => ?_)⟩
  show fw' (b' + (100 + 900 * i) + j) = fw (b + (100 + 900 * i) + j)
  rw [Nat.add_assoc b', Nat.add_assoc b, e _ (by omega)]
theorem TQ.zero {G : Nat → LC} {f1 f2 fw : Nat → Int32} (h1 : ∀ j, f1 j = 0) (h2 : ∀ j, j < 6 → f2 j = fw (4 + j)) (h3 : ∀ j, j < 3 ∨ 10 ≤ j → fw j = 0) (h4 : fw 3 = -1) (hr : KRg fw) : TQ 0 0 0 (-1) 0 f1 f2 (fun _ => none) G fw := by
  have z : ∀ j, fw j = fw (0 + j) := fun j => congrArg fw (Nat.zero_add j).symm
  have y : ∀ j, j < 3 ∨ 10 ≤ j → fw (0 + j) = 0 := fun j hj => (z j).symm.trans (h3 j hj)
  refine ⟨⟨fun j hj => (h2 j hj).trans (z _), (y 10 (by omega)).symm, fun j hj => ⟨?_, ?_, ?_⟩, fun k hk h8 => ⟨y _ (by omega), y _ (by omega)⟩, hr.ext (fun j _ _ => (z j).symm)⟩, (y 2 (by omega)).symm, (h4.symm.trans (z 3)), by decide, fun j hj => by rw [y _ (by omega), y _ (by omega)]; decide, fun i hi => ?_⟩
  · rw [h1]; exact (y _ (by omega)).symm
  · rw [h1]; exact (y _ (by omega)).symm
  · rw [h1]; exact (y _ (by omega)).symm
  · have z : (0 : Int32).toInt = 0 := rfl
    omega
