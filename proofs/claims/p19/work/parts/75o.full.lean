/-! orders: the reference's machine over a text of orders -/
noncomputable def lfo (fw : Nat → Int32) (fnw : Nat → Int64) (op ar : Int32) : Int64 := if op = 0 then ar.toInt64 else if 6 ≤ op then (if op = 8 then (E_v_soundWith ar fw).toInt64 else if E_v_isHouse ar fw = 1 then (if op = 6 then (fw (11 + ar).toNatClampNeg).toInt64 else (fw (19 + ar).toNatClampNeg).toInt64) else -1) else fnw op.toNatClampNeg
theorem ro_j370 {t : Nat} {b : Int32} {f : Nat → Int64} (ht : t ≤ 400) : E_v_reckonOrd_j370 (nI t) b f = (b, if t = 0 then 0 else f 0, f) := by
  rw [E_v_reckonOrd_j370.eq_def, Lt_b]
  by_cases c : t = 0
  · rw [if_pos (kn_gel (j := 0) rfl (by omega) (by omega)), if_pos c]
  · rw [if_neg (kn_ngel (j := 0) rfl (by omega) (by omega)), if_neg c]
    rfl
theorem ro_head {hi y : Nat} {fw fo fa : Nat → Int32} {fnw : Nat → Int64} (hh : hi ≤ y) (hy : y ≤ 1000) (k : Nat) (q : k < hi) : ¬ nI y ≤ nI k := fun h => by
  have := (kn_le (by omega) (by omega)).mp h
  omega
theorem ro_all0 {hi y : Nat} {fw fo fa : Nat → Int32} {fnw : Nat → Int64} (hh : hi ≤ y) (hy : y ≤ 1000) (o k t : Nat) (f : Nat → Int64) (rc : KRR) (q : k < hi) (r : t < 400) (s2 : o < 20) (s : fo k = nI o) : E_v_reckonOrd_l10 (nI y) fw fnw fo fa rc (nI k) (nI t) 0 f = rc (nI (k + 1)) (nI (t + 1)) 0 (vp_updL f t (lfo fw fnw (fo k) (fa k))) := by
  rw [E_v_reckonOrd_l10.eq_def, if_neg (ro_head (fw := fw) (fo := fo) (fa := fa) (fnw := fnw) hh hy k q), if_pos rfl, kn_cl (by omega), kn_po (by omega), Lt_b, Lt_b, Lt_b, s, if_neg (kn_nlel (j := 20) rfl (by omega) s2)]
  unfold lfo
  by_cases c : nI o = 0
  · rw [if_pos c, if_pos c, Lt_b, Lt_b, Lt_b, kn_cl (a := t) (by omega), kn_po (by omega)]
  rw [if_neg c, if_neg c]
  by_cases c6 : 6 ≤ nI o
  case neg => rw [if_neg c6, if_neg c6, Lt_b, Lt_b, Lt_b, kn_cl (a := t) (by omega), kn_po (by omega)]
  rw [if_pos c6, if_pos c6]
  by_cases c8 : nI o = 8
  · rw [if_pos c8, if_pos c8, Lt_b, Lt_b, Lt_b, Lt_b, kn_cl (a := t) (by omega), kn_po (by omega)]
  rw [if_neg c8, if_neg c8, Lt_b]
  by_cases ch : E_v_isHouse (fa k) fw = 1
  case neg => rw [if_neg ch, if_neg ch, Lt_b, Lt_b, kn_cl (a := t) (by omega), kn_po (by omega)]
  rw [if_pos ch, if_pos ch]
  by_cases c7 : nI o = 6
  · rw [if_pos c7, if_pos c7, Lt_b, Lt_b, Lt_b, Lt_b, Lt_b, kn_cl (a := t) (by omega), kn_po (by omega)]
  · rw [if_neg c7, if_neg c7, Lt_b, Lt_b, Lt_b, Lt_b, Lt_b, kn_cl (a := t) (by omega), kn_po (by omega)]
theorem ro_all1 {hi y : Nat} {fw fo fa : Nat → Int32} {fnw : Nat → Int64} (hh : hi ≤ y) (hy : y ≤ 1000) (o k t : Nat) (f : Nat → Int64) (rc : KRR) (q : k < hi) (r : 2 ≤ t) (r2 : t ≤ 400) (s2 : 3 ≤ o ∧ o ≤ 10) (s : fo k = nI (o + 17)) : E_v_reckonOrd_l10 (nI y) fw fnw fo fa rc (nI k) (nI t) 0 f = rc (nI (k + 1)) (nI (t - 1)) (if (E_v_reckon (nI (o + 17)) (f (t - 2)) (f (t - 1)) 0).2 = 0 then (if E_v_in (E_v_reckon (nI (o + 17)) (f (t - 2)) (f (t - 1)) 0).1 (-1000000000) 1000000000 = 1 then 0 else 1) else 1) (vp_updL f (t - 2) (E_v_reckon (nI (o + 17)) (f (t - 2)) (f (t - 1)) 0).1) := by
  rw [E_v_reckonOrd_l10.eq_def, if_neg (ro_head (fw := fw) (fo := fo) (fa := fa) (fnw := fnw) hh hy k q), if_pos rfl, kn_cl (by omega), kn_po (by omega), Lt_b, Lt_b, Lt_b, s, if_pos (kn_lel (j := 20) rfl (by omega) (by omega)), if_neg (kn_nlel (j := 28) rfl (by omega) (by omega)), Lt_b, Lt_b, Lt_b, Lt_b, Lt_b, kn_mo (by omega) (by omega), kn_m1 (by omega) (by omega), kn_cl (a := t - 1 - 1) (by omega), kn_cl (a := t - 1) (by omega), show t - 1 - 1 = t - 2 by omega]
  rw [Lt2_b, Lt_b]
  by_cases c : (E_v_reckon (nI (o + 17)) (f (t - 2)) (f (t - 1)) 0).2 = 0
  · rw [if_pos c, if_pos c, Lt_b, Lt_b, Lt_b, kn_cl (a := t - 2) (by omega), upl_s]
    by_cases d : E_v_in (E_v_reckon (nI (o + 17)) (f (t - 2)) (f (t - 1)) 0).1 (-1000000000) 1000000000 = 1
    · rw [if_pos d, if_pos d]
    · rw [if_neg d, if_neg d]
  · rw [if_neg c, if_neg c]
theorem ro_all2 {hi y : Nat} {fw fo fa : Nat → Int32} {fnw : Nat → Int64} (hh : hi ≤ y) (hy : y ≤ 1000) (k t : Nat) (f : Nat → Int64) (rc : KRR) (q : k < hi) (r : 1 ≤ t) (r2 : t ≤ 400) (s : fo k = 28) : E_v_reckonOrd_l10 (nI y) fw fnw fo fa rc (nI k) (nI t) 0 f = rc (nI (k + 1)) (nI t) 0 (vp_updL f (t - 1) (1 - f (t - 1))) := by
  rw [E_v_reckonOrd_l10.eq_def, if_neg (ro_head (fw := fw) (fo := fo) (fa := fa) (fnw := fnw) hh hy k q), if_pos rfl, kn_cl (by omega), kn_po (by omega), Lt_b, Lt_b, Lt_b, s, if_pos (by decide), if_pos (by decide), if_pos rfl, Lt_b, Lt_b, Lt_b, Lt_b, Lt_b, kn_m1 (by omega) r, kn_cl (a := t - 1) (by omega)]
theorem ro_all3 {hi y : Nat} {fw fo fa : Nat → Int32} {fnw : Nat → Int64} (hh : hi ≤ y) (hy : y ≤ 1000) (e k t : Nat) (f : Nat → Int64) (rc : KRR) (q : k < hi) (r : 1 ≤ t) (r2 : t ≤ 400) (s2 : fa k = nI e) (s : fo k = 29) : E_v_reckonOrd_l10 (nI y) fw fnw fo fa rc (nI k) (nI t) 0 f = if f (t - 1) = 0 then rc (nI e) (nI t) 0 f else rc (nI (k + 1)) (nI (t - 1)) 0 f := by
  rw [E_v_reckonOrd_l10.eq_def, if_neg (ro_head (fw := fw) (fo := fo) (fa := fa) (fnw := fnw) hh hy k q), if_pos rfl, kn_cl (by omega), kn_po (by omega), Lt_b, Lt_b, Lt_b, s, s2, if_pos (by decide), if_pos (by decide), if_neg (by decide), Lt_b, Lt_b, if_pos rfl, kn_m1 (by omega) r, kn_cl (a := t - 1) (by omega)]
  by_cases c : f (t - 1) = 0
  · rw [if_pos c, if_pos ((lg_cmp_eq _ _).mpr c)]
  · rw [if_neg c, if_neg (fun h => c ((lg_cmp_eq _ _).mp h)), Lt_b, kn_mo (by omega) r]
theorem ro_all4 {hi y : Nat} {fw fo fa : Nat → Int32} {fnw : Nat → Int64} (hh : hi ≤ y) (hy : y ≤ 1000) (e k t : Nat) (f : Nat → Int64) (rc : KRR) (q : k < hi) (r : 1 ≤ t) (r2 : t ≤ 400) (s2 : fa k = nI e) (s : fo k = 30) : E_v_reckonOrd_l10 (nI y) fw fnw fo fa rc (nI k) (nI t) 0 f = if f (t - 1) = 1 then rc (nI e) (nI t) 0 f else rc (nI (k + 1)) (nI (t - 1)) 0 f := by
  rw [E_v_reckonOrd_l10.eq_def, if_neg (ro_head (fw := fw) (fo := fo) (fa := fa) (fnw := fnw) hh hy k q), if_pos rfl, kn_cl (by omega), kn_po (by omega), Lt_b, Lt_b, Lt_b, s, s2, if_pos (by decide), if_pos (by decide), if_neg (by decide), Lt_b, Lt_b, if_neg (by decide), kn_m1 (by omega) r, kn_cl (a := t - 1) (by omega)]
  by_cases c : f (t - 1) = 1
  · rw [if_pos c, if_pos ((lg_cmp_eq _ _).mpr c)]
  · rw [if_neg c, if_neg (fun h => c ((lg_cmp_eq _ _).mp h)), Lt_b, kn_mo (by omega) r]
theorem ro_all5 {y : Nat} {fw fo fa : Nat → Int32} {fnw : Nat → Int64} (k t : Nat) (f : Nat → Int64) (rc : KRR) (p : t ≤ 400) : ∃ v, E_v_reckonOrd_l10 (nI y) fw fnw fo fa rc (nI k) (nI t) 1 f = (1, v, f) := by
  rw [E_v_reckonOrd_l10.eq_def]
  by_cases c : nI y ≤ nI k
  · rw [if_pos c, ro_j370 p]; exact ⟨_, rfl⟩
  · rw [if_neg c, if_neg (by decide), ro_j370 p]; exact ⟨_, rfl⟩
theorem ro_all {lo hi y : Nat} {fw fo fa : Nat → Int32} {fnw : Nat → Int64} (hh : hi ≤ y) (hy : y ≤ 1000) : RM lo hi fo fa (lfo fw fnw) (E_v_reckonOrd_l10 (nI y) fw fnw fo fa) := ⟨fun o k t f rc _ q r s s2 => ro_all0 hh hy o k t f rc q r s s2, fun o k t f rc _ q r r2 s s2 => ro_all1 hh hy o k t f rc q r r2 s s2, fun k t f rc _ q r r2 s => ro_all2 hh hy k t f rc q r r2 s, fun e k t f rc _ q r r2 s s2 => ro_all3 hh hy e k t f rc q r r2 s s2, fun e k t f rc _ q r r2 s s2 => ro_all4 hh hy e k t f rc q r r2 s s2, fun k t f rc p _ => ro_all5 k t f rc p⟩
theorem ro_stop {q : Nat} {fw fo fa : Nat → Int32} {fnw : Nat → Int64} (t : Nat) (br : Int32) (f : Nat → Int64) (rc : KRR) (ht : t ≤ 400) : E_v_reckonOrd_l10 (nI q) fw fnw fo fa rc (nI q) (nI t) br f = (br, if t = 0 then 0 else f 0, f) := by
  rw [E_v_reckonOrd_l10.eq_def, if_pos (ie_iff.mpr (Int.le_refl _)), ro_j370 ht]
/-- a sum or a test of orders: both broken, or the same value -/
theorem reck_ord {P : Int → Prop} {m a e p q nc : Nat} {fc fo fa fw cw : Nat → Int32} {fnw : Nat → Int64} (h : SE 1 P 1 m fc a e fo fa p q) (hm : m ≤ 64) (h0 : fc e = 0) (he : e + 1 < nc) (hc : nc ≤ 1000000) (hpq : p ≤ q) (hq : q ≤ 400) (henv : KEnv 1 (fun w => cw w.toNatClampNeg) (fun w => 0 ≤ w.toInt ∧ w.toInt < ((28 : Nat) : Int)) (lfo fw fnw)) :
    ((∀ br fs, ∃ f', E_w_run (nI a) br fs 28 cw nc fc = (0, 1, f')) ∧ ∀ br vl f, ∃ v f', E_v_reckonOrd (nI p) (nI q) br vl fw fnw f fo fa = (1, v, f')) ∨
    (∃ g : Int, (-1000000000 ≤ g ∧ g ≤ 1000000000) ∧ P g ∧ (∀ br fs, ∃ r f', E_w_run (nI a) br fs 28 cw nc fc = (r, 0, f') ∧ r.toInt = g) ∧ ∀ br vl f, ∃ v f', E_v_reckonOrd (nI p) (nI q) br vl fw fnw f fo fa = (0, v, f') ∧ v.toInt = g) := by
  have hB := ro_all (lo := p) (hi := q) (y := q) (fw := fw) (fo := fo) (fa := fa) (fnw := fnw) (Nat.le_refl _) (by omega)
  have fu : ((nI q).toInt - (nI p).toInt + 1 : Int).toNat + 1 = 1 + (q - p) + 1 := rk_fuel hpq hq
  rcases run_both (nw := 28) h hm h0 he hc (by omega) cw henv with ⟨p1, p2⟩ | ⟨g, g1, g2, p1, p2⟩
  · refine Or.inl ⟨p1, fun br vl f => ?_⟩
    obtain ⟨v, f', q1⟩ := p2 _ hB (fun t b f rc ht => ro_stop t b f rc ht) (fun _ _ _ _ => ((0, 0, fun _ => 0) : Int32 × Int64 × (Nat → Int64))) f 1
    refine ⟨v, f', ?_⟩
    rw [E_v_reckonOrd.eq_def, fu]; exact q1
  · refine Or.inr ⟨g, g1, g2, p1, fun br vl f => ?_⟩
    obtain ⟨v, f', q1, q2⟩ := p2 _ hB (fun t b f rc ht => ro_stop t b f rc ht) (fun _ _ _ _ => ((0, 0, fun _ => 0) : Int32 × Int64 × (Nat → Int64))) f 1
    refine ⟨v, f', ?_, q2⟩
    rw [E_v_reckonOrd.eq_def, fu]; exact q1
/-! what orders are asked with -/
noncomputable def cso (fw : Nat → Int32) (x : Nat) (k : Nat) : Int32 := match k with
  | 0 => 0
  | k + 1 => if fw (35 + k) = nI x ∧ ¬ E_v_isSounding (nI k) fw = 0 then cso fw x k + 1 else cso fw x k
theorem cso_b {fw : Nat → Int32} {x : Nat} : ∀ k, k ≤ 1000 → 0 ≤ (cso fw x k).toInt ∧ (cso fw x k).toInt ≤ (k : Int) := by
  intro k
  induction k with
  | zero => intro _; exact ⟨by show (0 : Int) ≤ (0 : Int32).toInt; decide, by show (0 : Int32).toInt ≤ _; decide⟩
  | succ k ih =>
    intro hk
    have q := ih (by omega)
    show 0 ≤ (if fw (35 + k) = nI x ∧ ¬ E_v_isSounding (nI k) fw = 0 then cso fw x k + 1 else cso fw x k).toInt ∧ _
    show _ ∧ (if fw (35 + k) = nI x ∧ ¬ E_v_isSounding (nI k) fw = 0 then cso fw x k + 1 else cso fw x k).toInt ≤ _
    by_cases c : fw (35 + k) = nI x ∧ ¬ E_v_isSounding (nI k) fw = 0
    · rw [if_pos c, i_add (Eq.refl (cso fw x k).toInt) (show (1 : Int32).toInt = 1 from rfl) (by omega)]; omega
    · rw [if_neg c]; omega
theorem soundWith_at {fw : Nat → Int32} {N x : Nat} (hN : N ≤ 8) (e2 : fw 0 = nI N) : E_v_soundWith (nI x) fw = cso fw x N := by
  have go : ∀ d a F, a + d = N → Lp (α := Int32 → Int32 → (Int32)) (E_v_soundWith_l4 (nI x) fw) (fun _ _ => ((0) : Int32)) (F + d + 1) (nI a) (cso fw x a) = cso fw x N := by
    intro d
    induction d with
    | zero =>
      intro a F ha
      have : a = N := by omega
      subst this
      rw [Lp_s, E_v_soundWith_l4.eq_def, Lt_b, show fw (0 : Int32).toNatClampNeg = nI a from e2, if_pos ((kn_le (by omega) (by omega)).mpr (Nat.le_refl _))]
    | succ d ih =>
      intro a F ha
      have c1 : ¬ nI N ≤ nI a := fun q => by have := (kn_le (by omega) (by omega)).mp q; omega
      have z0 : ∀ v : Int32, v + 0 = v := fun v => Int32.add_zero v
      have q := ih (a + 1) F (by omega)
      rw [show F + (d + 1) + 1 = F + d + 1 + 1 by omega, Lp_s, E_v_soundWith_l4.eq_def, Lt_b, show fw (0 : Int32).toNatClampNeg = nI N from e2, if_neg c1, n_ladd (m := 35) rfl (by omega), Lt_b, Lt_b, kn_cl (by omega)]
      by_cases c : fw (35 + a) = nI x
      · rw [if_pos c, Lt_b]
        by_cases s : E_v_isSounding (nI a) fw = 0
        · rw [if_pos s, Lt_b, Lt_b, kn_po (by omega), z0]
          rw [show cso fw x (a + 1) = cso fw x a from if_neg (fun h => h.2 s)] at q
          exact q
        · rw [if_neg s, Lt_b, Lt_b, kn_po (by omega)]
          rw [show cso fw x (a + 1) = cso fw x a + 1 from if_pos ⟨c, s⟩] at q
          exact q
      · rw [if_neg c, Lt_b, Lt_b, kn_po (by omega), z0]
        rw [show cso fw x (a + 1) = cso fw x a from if_neg (fun h => c h.1)] at q
        exact q
  rw [E_v_soundWith.eq_def, show ((9 - (0 : Int32).toInt : Int).toNat + 1) = 9 - N + N + 1 by rw [show (0 : Int32).toInt = 0 from rfl]; omega]
  exact go N 0 (9 - N) (by omega)
theorem look_in {n lt nf fi : Int32} {f1 f2 fw : Nat → Int32} {fl : Nat → Option Nat} {G : Nat → LC} (h : TW n lt nf fi f1 f2 fl G fw) {N : Nat} (hN : N ≤ 8) (eN : (N : Int) = n.toInt) (z : Int32 → (Nat → Int32) → (Nat → Int32)) : ∀ (d a F : Nat), a + d = 8 → ∀ f : Nat → Int32, (∀ x, x < 7 → f (21 + x) = cso fw x (min a N)) → (∀ i, a ≤ i → i < 8 → (Lp (α := Int32 → (Nat → Int32) → ((Nat → Int32))) (E_w_look_l80 n f1 f2) z (F + d + 1) (nI a) f) (5 + i) = (if i < N then fw (11 + i) else -1) ∧ (Lp (α := Int32 → (Nat → Int32) → ((Nat → Int32))) (E_w_look_l80 n f1 f2) z (F + d + 1) (nI a) f) (13 + i) = (if i < N then fw (19 + i) else -1)) ∧ (∀ j, j < 5 + a ∨ (13 ≤ j ∧ j < 13 + a) → (Lp (α := Int32 → (Nat → Int32) → ((Nat → Int32))) (E_w_look_l80 n f1 f2) z (F + d + 1) (nI a) f) j = f j) ∧ ∀ x, x < 7 → (Lp (α := Int32 → (Nat → Int32) → ((Nat → Int32))) (E_w_look_l80 n f1 f2) z (F + d + 1) (nI a) f) (21 + x) = cso fw x N := by
  intro d
  induction d with
  | zero =>
    intro a F ha f hf
    have : a = 8 := by omega
    subst this
    rw [Nat.add_zero, Lp_s, E_w_look_l80.eq_def, if_pos (show (8 : Int32) ≤ nI 8 by decide)]
    exact ⟨fun i h1 h2 => by omega, fun _ _ => rfl, fun x hx => by rw [hf x hx, show min 8 N = N by omega]⟩
  | succ d ih =>
    intro a F ha f hf
    have a8 : a < 8 := by omega
    have c1 : ¬ (8 : Int32) ≤ nI a := kn_nlel (j := 8) rfl (by omega) a8
    have key : ∃ g, Lp (α := Int32 → (Nat → Int32) → ((Nat → Int32))) (E_w_look_l80 n f1 f2) z (F + (d + 1) + 1) (nI a) f = Lp (α := Int32 → (Nat → Int32) → ((Nat → Int32))) (E_w_look_l80 n f1 f2) z (F + d + 1) (nI (a + 1)) g ∧ g (5 + a) = (if a < N then fw (11 + a) else -1) ∧ g (13 + a) = (if a < N then fw (19 + a) else -1) ∧ (∀ j, j < 21 → j ≠ 5 + a → j ≠ 13 + a → g j = f j) ∧ ∀ x, x < 7 → g (21 + x) = cso fw x (min (a + 1) N) := by
      rw [show F + (d + 1) + 1 = F + d + 1 + 1 by omega, Lp_s, E_w_look_l80.eq_def, if_neg c1, Lt_b]
      by_cases c : a < N
      · have n1 := (h.2.2.2.2.1 a a8).1
        obtain ⟨p, hp, p7⟩ : ∃ p : Nat, fw (35 + a) = nI p ∧ p < 7 := ⟨(fw (35 + a)).toInt.toNat, i_ofN rfl n1.1, by omega⟩
        have e1 : ∀ x, cso fw x (min (a + 1) N) = if fw (35 + a) = nI x ∧ ¬ E_v_isSounding (nI a) fw = 0 then cso fw x a + 1 else cso fw x a := fun x => by
          rw [show min (a + 1) N = a + 1 by omega]; rfl
        have e0 : ∀ x, x < 7 → f (21 + x) = cso fw x a := fun x hx => by rw [hf x hx, show min a N = a by omega]
        rw [(h.has (show (a : Int) < n.toInt by omega)).2, if_pos rfl, h.fire a8, h.coal a8, h.note a8, hp, n_ladd (m := 5) rfl (by omega), n_ladd (m := 13) rfl (by omega), Lt_b, Lt_b, Lt_b, Lt_b, Lt_b, Lt_b, Lt_b, Lt_b, Lt_b, n_ladd (m := 21) rfl (by omega), h.sings a8, kn_cl (by omega), kn_cl (by omega), if_pos c, if_pos c]
        have same : ∀ x, x < 7 → (¬ (fw (35 + a) = nI x ∧ ¬ E_v_isSounding (nI a) fw = 0)) → (upd (upd f (5 + a) (fw (11 + a))) (13 + a) (fw (19 + a))) (21 + x) = cso fw x (min (a + 1) N) := fun x hx hc => by
          rw [upd_n (by omega), upd_n (by omega), e1, if_neg hc, e0 x hx]
        by_cases s : E_v_isSounding (nI a) fw = 0
        · rw [if_pos s, E_w_look_j185.eq_def, Lt_b, kn_po (by omega)]
          exact ⟨_, rfl, by rw [upd_n (by omega), upd_s], upd_s, fun j _ h2 h3 => by rw [upd_n h3, upd_n h2], fun x hx => same x hx (fun q => q.2 s)⟩
        · rw [if_neg s, if_neg (kn_nltl (j := 21) rfl (by omega) (by omega)), if_neg (kn_nlel (j := 28) rfl (by omega) (by omega)), Lt_b, Lt_b, Lt_b, E_w_look_j185.eq_def, Lt_b, kn_po (by omega), kn_cl (by omega)]
          refine ⟨_, rfl, by rw [upd_n (by omega), upd_n (by omega), upd_s], by rw [upd_n (by omega), upd_s], fun j h1 h2 h3 => by rw [upd_n (by omega), upd_n h3, upd_n h2], fun x hx => ?_⟩
          by_cases ex : x = p
          · subst ex
            rw [upd_s, e1, if_pos ⟨hp, s⟩, upd_n (by omega), upd_n (by omega), e0 x hx]
          · rw [upd_n (by omega)]
            exact same x hx (fun q => by
              have := q.1
              rw [hp] at this
              exact ex ((kn_eq (by omega) (by omega)).mp this).symm)
      · rw [has_n (by rw [nI_toInt (by omega)]; omega), if_neg (by decide), n_ladd (m := 5) rfl (by omega), n_ladd (m := 13) rfl (by omega), Lt_b, Lt_b, Lt_b, Lt_b, Lt_b, Lt_b, E_w_look_j185.eq_def, Lt_b, kn_po (by omega), kn_cl (by omega), kn_cl (by omega), if_neg c, if_neg c]
        exact ⟨_, rfl, by rw [upd_n (by omega), upd_s], upd_s, fun j _ h2 h3 => by rw [upd_n h3, upd_n h2], fun x hx => by rw [upd_n (by omega), upd_n (by omega), hf x hx, show min a N = N by omega, show min (a + 1) N = N by omega]⟩
    obtain ⟨g, k1, k2, k3, k4, k5⟩ := key
    obtain ⟨q1, q2, q3⟩ := ih (a + 1) F (by omega) g k5
    rw [← k1] at q1 q2 q3
    refine ⟨fun i h1 h2 => ?_, fun j hj => ?_, q3⟩
    · by_cases ia : i = a
      · subst ia
        exact ⟨(q2 _ (by omega)).trans k2, (q2 _ (by omega)).trans k3⟩
      · exact q1 i (by omega) h2
    · rw [q2 j (by omega)]; exact k4 j (by omega) (by omega) (by omega)
theorem look_at {n lt nf fi : Int32} {f1 f2 fw : Nat → Int32} {fl : Nat → Option Nat} {G : Nat → LC} (h : TW n lt nf fi f1 f2 fl G fw) {N : Nat} (hN : N ≤ 8) (eN : (N : Int) = n.toInt) (dn me : Int32) (fv : Nat → Int32) : (E_w_look dn me fv n fi f1 f2 0 = fw 4 ∧ E_w_look dn me fv n fi f1 f2 1 = fw 5 ∧ E_w_look dn me fv n fi f1 f2 2 = fw 10 ∧ E_w_look dn me fv n fi f1 f2 3 = dn ∧ E_w_look dn me fv n fi f1 f2 4 = me) ∧ (∀ i, i < 8 → E_w_look dn me fv n fi f1 f2 (5 + i) = (if i < N then fw (11 + i) else -1) ∧ E_w_look dn me fv n fi f1 f2 (13 + i) = (if i < N then fw (19 + i) else -1)) ∧ ∀ x, x < 7 → E_w_look dn me fv n fi f1 f2 (21 + x) = cso fw x N := by
  obtain ⟨g, hg⟩ : ∃ g, g = upd (upd (upd (upd (upd fv 0 (f2 0)) 1 (f2 1)) 2 fi) 3 dn) 4 me := ⟨_, rfl⟩
  have hB : ∀ (rc : Int32 → (Nat → Int32) → (Nat → Int32)) (i : Nat) (f : Nat → Int32), i < 7 → E_w_look_l56 n f1 f2 rc (nI i) f = rc (nI (i + 1)) (upd f (21 + i) 0) := fun rc i f hi => by
    rw [E_w_look_l56.eq_def, if_neg (kn_nlel (j := 7) rfl (by omega) hi), Lt_b, Lt_b, Lt_b, kn_po (by omega), n_ladd (m := 21) rfl (by omega), kn_cl (by omega)]
  have q := lp_it (d := fun i => 21 + i) (s := fun _ _ => 0) hB (fun _ _ => ((fun _ => 0) : Nat → Int32)) g 7 2 0 rfl
  have e : E_w_look dn me fv n fi f1 f2 = Lp (α := Int32 → (Nat → Int32) → ((Nat → Int32))) (E_w_look_l80 n f1 f2) (fun _ _ => ((fun _ => 0) : Nat → Int32)) (1 + 8 + 1) (nI 0) (kitf (fun i => 21 + i) (fun _ _ => 0) g 7) := by
    rw [E_w_look.eq_def, Lt_b, Lt_b, Lt_b, Lt_b, Lt_b, Lt_b, Lt_b]
    refine Eq.trans (show _ = Lp (α := Int32 → (Nat → Int32) → ((Nat → Int32))) (E_w_look_l56 n f1 f2) (fun _ _ => ((fun _ => 0) : Nat → Int32)) (2 + 7) (nI 0) g from by rw [hg]; rfl) (q.trans ?_)
    rw [Lp_s, E_w_look_l56.eq_def, if_pos (kn_lel (j := 7) rfl (by omega) (Nat.le_refl _)), show ((9 - (0 : Int32).toInt : Int).toNat + 1) = 1 + 8 + 1 by decide]
    rfl
  have k := fun j => kitf_cp (s := fun _ => 0) (a := 21) (f := g) 7 j
  obtain ⟨p1, p2, p3⟩ := look_in h hN eN (fun _ _ => ((fun _ => 0) : Nat → Int32)) 8 0 1 rfl (kitf (fun i => 21 + i) (fun _ _ => 0) g 7) (fun x hx => by rw [k, if_pos (by omega), show min 0 N = 0 by omega]; rfl)
  rw [← e] at p1 p2 p3
  have t1 := h.1.1
  refine ⟨⟨?_, ?_, ?_, ?_, ?_⟩, fun i hi => p1 i (Nat.zero_le _) hi, p3⟩
  · rw [p2 _ (by omega), k, if_neg (by omega), hg, upd_n (by omega), upd_n (by omega), upd_n (by omega), upd_n (by omega), upd_s]; exact t1 0 (by omega)
  · rw [p2 _ (by omega), k, if_neg (by omega), hg, upd_n (by omega), upd_n (by omega), upd_n (by omega), upd_s]; exact t1 1 (by omega)
  · rw [p2 _ (by omega), k, if_neg (by omega), hg, upd_n (by omega), upd_n (by omega), upd_s]; exact h.1.2.1
  · rw [p2 _ (by omega), k, if_neg (by omega), hg, upd_n (by omega), upd_s]
  · rw [p2 _ (by omega), k, if_neg (by omega), hg, upd_s]
/-- both machines are asked with the same -/
theorem look_env {n lt nf fi : Int32} {f1 f2 fw : Nat → Int32} {fl : Nat → Option Nat} {G : Nat → LC} (h : TW n lt nf fi f1 f2 fl G fw) {dn me : Int32} (fv : Nat → Int32) {fnw : Nat → Int64} (hd : KBd dn) (hm : KBd me) (k1 : (fnw 1).toInt = (fw 4).toInt) (k2 : (fnw 2).toInt = (fw 5).toInt) (k3 : (fnw 3).toInt = (fw 10).toInt) (k4 : (fnw 4).toInt = dn.toInt) (k5 : (fnw 5).toInt = me.toInt) : KEnv 1 (fun w => E_w_look dn me fv n fi f1 f2 w.toNatClampNeg) (fun w => 0 ≤ w.toInt ∧ w.toInt < ((28 : Nat) : Int)) (lfo fw fnw) := by
  obtain ⟨N, n8, e1, e2, eN⟩ := h.nN
  obtain ⟨⟨w0, w1, w2, w3, w4⟩, w5, w6⟩ := look_at h n8 eN dn me fv
  obtain ⟨g1, g2, g3, g4, g5, g6, g7, g8⟩ := h.1.2.2.2.2
  have hn := h.2.2.2.2.2.2.1
  have hs : ∀ i, i < 8 → E_v_isHouse (nI i) fw = if i < N then 1 else 0 := fun i hi => by
    rw [isHouse_at hn]
    by_cases c : i < N
    · rw [if_pos c]; exact (h.has (by omega)).2
    · rw [if_neg c]; exact has_n (by rw [nI_toInt (by omega)]; omega)
  refine ⟨fun ar => ?_, fun w op ar hk => ?_⟩
  · unfold lfo; rw [if_pos rfl]; exact wide_at
  · unfold KL at hk
    rw [if_neg (by decide)] at hk
    rcases hk with ⟨j, j5, rfl, rfl⟩ | ⟨i, i8, rfl, rfl, rfl⟩ | ⟨i, i8, rfl, rfl, rfl⟩ | ⟨i, i7, rfl, rfl, rfl⟩
    · have e : lfo fw fnw (nI (j + 1)) ar = fnw (j + 1) := by
        unfold lfo
        rw [if_neg (kn_nz (j := 0) rfl (by omega) (by omega)), if_neg (kn_nlel (j := 6) rfl (by omega) (by omega)), kn_cl (by omega)]
      refine ⟨by dsimp only; rw [nI_toInt (by omega)]; omega, ?_⟩
      dsimp only
      rw [e, kn_cl (by omega)]
      rcases (show j = 0 ∨ j = 1 ∨ j = 2 ∨ j = 3 ∨ j = 4 by omega) with rfl | rfl | rfl | rfl | rfl
      · rw [w0]; exact ⟨k1, by omega, by omega⟩
      · rw [w1]; exact ⟨k2, by omega, by omega⟩
      · rw [w2]; exact ⟨k3, by omega, by omega⟩
      · rw [w3]; exact ⟨k4, hd.1, hd.2⟩
      · rw [w4]; exact ⟨k5, hm.1, hm.2⟩
    · refine ⟨by dsimp only; rw [nI_toInt (by omega)]; omega, ?_⟩
      dsimp only
      rw [kn_cl (by omega), (w5 i i8).1]
      have e : lfo fw fnw 6 (nI i) = if i < N then (fw (11 + i)).toInt64 else -1 := by
        unfold lfo
        rw [if_neg (by decide), if_pos (by decide), if_neg (by decide), hs i i8, n_ladd (m := 11) rfl (by omega), kn_cl (by omega)]
        by_cases c : i < N
        · rw [if_pos c, if_pos c, if_pos rfl, if_pos rfl]
        · rw [if_neg c, if_neg c, if_neg (by decide)]
      rw [e]
      by_cases c : i < N
      · have := (g8 i i8).1
        rw [if_pos c, if_pos c]; exact ⟨wide_at, by omega, by omega⟩
      · rw [if_neg c, if_neg c]; decide
    · refine ⟨by dsimp only; rw [nI_toInt (by omega)]; omega, ?_⟩
      dsimp only
      rw [kn_cl (by omega), (w5 i i8).2]
      have e : lfo fw fnw 7 (nI i) = if i < N then (fw (19 + i)).toInt64 else -1 := by
        unfold lfo
        rw [if_neg (by decide), if_pos (by decide), if_neg (by decide), hs i i8, n_ladd (m := 11) rfl (by omega), n_ladd (m := 19) rfl (by omega), kn_cl (by omega), kn_cl (by omega)]
        by_cases c : i < N
        · rw [if_pos c, if_pos c, if_pos rfl, if_neg (by decide)]
        · rw [if_neg c, if_neg c, if_neg (by decide)]
      rw [e]
      by_cases c : i < N
      · have := (g8 i i8).2.1
        rw [if_pos c, if_pos c]; exact ⟨wide_at, by omega, by omega⟩
      · rw [if_neg c, if_neg c]; decide
    · refine ⟨by dsimp only; rw [nI_toInt (by omega)]; omega, ?_⟩
      dsimp only
      rw [kn_cl (by omega), w6 i i7]
      have e : lfo fw fnw 8 (nI i) = (cso fw i N).toInt64 := by
        unfold lfo
        rw [if_neg (by decide), if_pos (by decide), if_pos rfl, soundWith_at n8 e2]
      have := cso_b (fw := fw) (x := i) N (by omega)
      rw [e]; exact ⟨wide_at, by omega, by omega⟩
/-! one turn of a clause, both sides -/
theorem remember_far {s : Nat} {nu : Int32} {fw fu fs : Nat → Int32} {u : Nat} (hu : u ≤ 16) (e : nu = nI u) : ∀ j, 496 ≤ j → (E_v_remember (nI s) nu fw fu fs).2.1 j = fu j := by
  intro j hj
  subst e
  by_cases c : u < 16
  · rw [remember_lt c]
    dsimp only
    rw [keepAll_at (by omega), if_neg (by omega)]
  · have : u = 16 := by omega
    subst this
    rw [remember_16]
    dsimp only
    rw [keepAll_at (by omega), if_neg (by omega), kitf_sh (by omega), if_neg (by omega)]
theorem nextHour_r {n lt nf fi : Int32} {f1 f2 f3 fw : Nat → Int32} {fl : Nat → Option Nat} {G : Nat → LC} (h : TW n lt nf fi f1 f2 fl G fw) (h3 : ∀ j, j < 24 → f3 j = fw (67 + j)) (br : Int32) (fs cw : Nat → Int32) : (E_w_nextHour G br fs cw n lt nf fi f1 f2 f3 fl).1 = -3 ∨ (E_w_nextHour G br fs cw n lt nf fi f1 f2 f3 fl).1 = 0 ∨ (E_w_nextHour G br fs cw n lt nf fi f1 f2 f3 fl).1 = 1 := by
  by_cases c : (fw 4).toInt < 23 ∨ (fw 5).toInt < 999
  · obtain ⟨b1, b2, b3, b4, b5, b6, b7, b8, b9, b10, b11, b12, b13, b14, p1, _⟩ := pass_at h h3 c br fs cw 0 0 0 0 (fun _ => 0) (fun _ => 0) (fun _ => 0)
    rw [p1]
    exact Or.inr met_01
  · rw [noPass_at h c]
    exact Or.inl rfl
theorem j277_at {r r2 n lt nf fi fi' nu nu' dr kp dn me0 xb br' : Int32} {v : Nat} {f1 f2 f1' f2' fw fw' fu fsr fu' fsr' sl W fx fs' cw' : Nat → Int32} {fl : Nat → Option Nat} {G : Nat → LC} {A1 A2 A3 A4 A7 A8 A10 A13 : Int32} {A5 A6 A9 A11 A12 A14 A15 : Nat → Int32} (k : (A1, A2, A3, A4, A5, A6, A7, A8, A9, A10, A11, A12, A13, A14, A15) = E_w_turn_j277 dn dr kp W (nI v) xb fx (E_w_draft dr sl fi f1 f2) r me0 br' fi' fs' cw' f1' f2') (a : ActR r r2 v n lt nf fi fi' f1 f2 f1' f2' fl G fw fw' nu nu' fu fsr fu' fsr') (hr : HR n dr kp nu sl fu fsr fw) (h : TW n lt nf fi f1 f2 fl G fw) (hv : v < 4) :
    r = r2 ∧ ((r.toInt < 0 ∧ A1 = 0 ∧ fw' = fw ∧ fu' = fu) ∨ (0 ≤ r.toInt ∧ A1 = 1 ∧ A2 = dn + 1 ∧ A3 = me0 ∧ TW n lt nf A13 A14 A15 fl G fw' ∧ HR n A7 A8 nu' A9 fu' fsr' fw' ∧ (∀ j, 496 ≤ j → fu' j = fu j) ∧ ∀ j, j < 4 ∨ 35 ≤ j → fw' j = fw j)) := by
  obtain ⟨e, a⟩ := a
  refine ⟨e, ?_⟩
  rw [E_w_turn_j277.eq_def] at k
  rcases a with ⟨c, q1, q2, q3, q4, q5, q6, q7⟩ | ⟨c, t', k3, k4⟩
  · have c1 : ¬ (0 : Int32) ≤ r := by rcases c with rfl | rfl | rfl <;> decide
    have c2 : r.toInt < 0 := by rcases c with rfl | rfl | rfl <;> decide
    rw [if_neg c1] at k
    exact Or.inl ⟨c2, (Prod.mk.inj k).1, q4, q6⟩
  · have c1 : (0 : Int32) ≤ r := ie_iff.mpr c
    rw [if_pos c1, Lt2_b, Lt2_b, Lt_b] at k
    simp only [Prod.mk.injEq] at k
    obtain ⟨rfl, rfl, rfl, rfl, rfl, rfl, rfl, rfl, rfl, rfl, rfl, rfl, rfl, rfl, rfl⟩ := k
    have hp := hr.push (fw' := fw') h.1 hv rfl k3 (fun j h1 h2 => k4 j (by omega))
    obtain ⟨d, u, ⟨d1, d2⟩, e1, e2, e3, e4⟩ := hr
    refine Or.inr ⟨c, rfl, rfl, rfl, t', hp, fun j hj => ?_, fun j hj => k4 j (by omega)⟩
    have q := remember_far (s := v) (fw := fw) (fu := fu) (fs := fsr) d2 e3 j hj
    rw [← k3] at q
    exact q
theorem acts_at {n lt nf fi nu dr kp dn me xb br lw bro house by_ one two : Int32} {v : Nat} {val sm : Int64} {f1 f2 f3 fw fu fsr sl W fx fs cw fb : Nat → Int32} {fe frs : Nat → Int64} {fl : Nat → Option Nat} {G : Nat → LC} {A1 A2 A3 A4 A7 A8 A10 A13 : Int32} {A5 A6 A9 A11 A12 A14 A15 : Nat → Int32} {r2 nu' lw' bro' : Int32} {val' sm' : Int64} {fw' fu' fsr' fb' : Nat → Int32} {fe' frs' : Nat → Int64} (hv : v < 4) (k1 : (A1, A2, A3, A4, A5, A6, A7, A8, A9, A10, A11, A12, A13, A14, A15) = E_w_turn_j178 G dn me dr kp sl br fs cw n lt nf fi f1 f2 f3 fl W (nI v) house by_ xb fx) (k2 : (r2, nu', lw', bro', val', sm', fw', fe', frs', fu', fsr', fb') = E_v_act (nI v) one two nu lw bro val sm fw fe frs fu fsr fb) (h1 : v < 3 → one = house) (h2 : v = 1 ∨ v = 2 → two = by_) (h : TW n lt nf fi f1 f2 fl G fw) (hr : HR n dr kp nu sl fu fsr fw) (h3 : ∀ j, j < 24 → f3 j = fw (67 + j)) :
    (r2.toInt < 0 ∧ A1 = 0 ∧ fw' = fw ∧ fu' = fu) ∨ (0 ≤ r2.toInt ∧ A1 = 1 ∧ A2 = dn + 1 ∧ A3 = (if v = 3 then r2 else me) ∧ (v = 3 → r2 = 0 ∨ r2 = 1) ∧ TW n lt nf A13 A14 A15 fl G fw' ∧ HR n A7 A8 nu' A9 fu' fsr' fw' ∧ (∀ j, 496 ≤ j → fu' j = fu j) ∧ ∀ j, j < 4 ∨ 35 ≤ j → fw' j = fw j) := by
  have ez : (nI v).toInt = (v : Int) := nI_toInt (by omega)
  rw [E_w_turn_j178.eq_def, Lt_b] at k1
  rw [E_v_act.eq_def] at k2
  have fin : ∀ {r me0 : Int32}, r = r2 ∧ ((r.toInt < 0 ∧ A1 = 0 ∧ fw' = fw ∧ fu' = fu) ∨ (0 ≤ r.toInt ∧ A1 = 1 ∧ A2 = dn + 1 ∧ A3 = me0 ∧ TW n lt nf A13 A14 A15 fl G fw' ∧ HR n A7 A8 nu' A9 fu' fsr' fw' ∧ (∀ j, 496 ≤ j → fu' j = fu j) ∧ ∀ j, j < 4 ∨ 35 ≤ j → fw' j = fw j)) → (v ≠ 3 → me0 = me) → (v = 3 → me0 = r ∧ (r = -3 ∨ r = 0 ∨ r = 1)) → (r2.toInt < 0 ∧ A1 = 0 ∧ fw' = fw ∧ fu' = fu) ∨ (0 ≤ r2.toInt ∧ A1 = 1 ∧ A2 = dn + 1 ∧ A3 = (if v = 3 then r2 else me) ∧ (v = 3 → r2 = 0 ∨ r2 = 1) ∧ TW n lt nf A13 A14 A15 fl G fw' ∧ HR n A7 A8 nu' A9 fu' fsr' fw' ∧ (∀ j, 496 ≤ j → fu' j = fu j) ∧ ∀ j, j < 4 ∨ 35 ≤ j → fw' j = fw j) := by
    intro r me0 q m1 m2
    obtain ⟨rfl, q⟩ := q
    rcases q with q | ⟨q1, q2, q3, q4, q5⟩
    · exact Or.inl q
    · refine Or.inr ⟨q1, q2, q3, ?_, fun c => ?_, q5⟩
      · by_cases c : v = 3
        · rw [if_pos c, q4]; exact (m2 c).1
        · rw [if_neg c, q4]; exact m1 c
      · rcases (m2 c).2 with m | m
        · rw [m] at q1; exact absurd q1 (by decide)
        · exact m
  rcases (show v = 0 ∨ v = 1 ∨ v = 2 ∨ v = 3 by omega) with rfl | rfl | rfl | rfl
  · rw [if_pos (by rw [ez]; rfl)] at k1 k2
    rw [h1 (by omega)] at k2
    generalize hA : E_w_kindle G house br fs cw n lt nf fi f1 f2 f3 fl = A at k1
    generalize hB : E_v_stokeNow house nu lw bro val sm fw fe frs fu fsr = B at k2
    obtain ⟨C1, C2, C3, C4, C5⟩ := A
    obtain ⟨B1, B2, B3, B4, B5, B6, B7, B8, B9, B10, B11⟩ := B
    have a := act_stoke h hA.symm hB.symm
    rw [Lt2_b, Lt2_b, Lt2_b, Lt2_b] at k1
    simp only [Lt2, Prod.mk.injEq] at k2
    obtain ⟨rfl, rfl, rfl, rfl, rfl, rfl, rfl, rfl, rfl, rfl, rfl, rfl⟩ := k2
    exact fin (j277_at k1 a hr h (by omega)) (fun _ => rfl) (fun c => absurd c (by decide))
  · rw [if_neg (by rw [ez]; decide), if_pos (by rw [ez]; rfl)] at k1 k2
    rw [h1 (by omega), h2 (by omega)] at k2
    generalize hA : E_w_quench house by_ n f1 = A at k1
    generalize hB : E_v_dampNow house by_ nu fw fu fsr = B at k2
    obtain ⟨C1, C2⟩ := A
    obtain ⟨B1, B2, B3, B4, B5⟩ := B
    have a := act_damp h hA.symm hB.symm
    rw [Lt2_b] at k1
    simp only [Lt2, Prod.mk.injEq] at k2
    obtain ⟨rfl, rfl, rfl, rfl, rfl, rfl, rfl, rfl, rfl, rfl, rfl, rfl⟩ := k2
    exact fin (j277_at k1 a hr h (by omega)) (fun _ => rfl) (fun c => absurd c (by decide))
  · rw [if_neg (by rw [ez]; decide), if_neg (by rw [ez]; decide), if_pos (by rw [ez]; rfl)] at k1 k2
    rw [h1 (by omega), h2 (by omega)] at k2
    generalize hA : E_w_supply house by_ n f1 = A at k1
    generalize hB : E_v_buyNow house by_ nu fw fu fsr = B at k2
    obtain ⟨C1, C2⟩ := A
    obtain ⟨B1, B2, B3, B4, B5⟩ := B
    have a := act_buy h hA.symm hB.symm
    rw [Lt2_b] at k1
    simp only [Lt2, Prod.mk.injEq] at k2
    obtain ⟨rfl, rfl, rfl, rfl, rfl, rfl, rfl, rfl, rfl, rfl, rfl, rfl⟩ := k2
    exact fin (j277_at k1 a hr h (by omega)) (fun _ => rfl) (fun c => absurd c (by decide))
  · rw [if_neg (by rw [ez]; decide), if_neg (by rw [ez]; decide), if_neg (by rw [ez]; decide)] at k1 k2
    have r3 := nextHour_r h h3 br fs cw
    generalize hA : E_w_nextHour G br fs cw n lt nf fi f1 f2 f3 fl = A at k1 r3
    generalize hB : E_v_passNow nu lw bro val sm fw fe frs fu fsr fb = B at k2
    obtain ⟨C1, C2, C3, C4, C5, C6, C7⟩ := A
    obtain ⟨B1, B2, B3, B4, B5, B6, B7, B8, B9, B10, B11, B12⟩ := B
    have a := act_pass h h3 hA.symm hB.symm
    rw [Lt2_b, Lt2_b, Lt2_b, Lt2_b, Lt2_b, Lt2_b] at k1
    simp only [Lt2, Prod.mk.injEq] at k2
    obtain ⟨rfl, rfl, rfl, rfl, rfl, rfl, rfl, rfl, rfl, rfl, rfl, rfl⟩ := k2
    exact fin (j277_at k1 a hr h (by omega)) (fun c => absurd rfl c) (fun _ => ⟨rfl, r3⟩)
/-- a sum or a test of a clause -/
theorem sumOf_p {P : Int → Prop} {at_ us nc a e p q m : Nat} {fc fo fa fw cw fod : Nat → Int32} {fnw : Nat → Int64} (ha : at_ < 1000) (hx : fod at_ = nI p) (hy : fod (at_ + 1) = nI q) (hpq : p < q) (hq : q ≤ nc) (hnc : nc ≤ 400) (hm : m ≤ 64) (h : SE 1 P 1 m fc a e fo fa p q) (h0 : fc e = 0) (he : e + 2 ≤ us) (hus : us ≤ 800) (henv : KEnv 1 (fun w => cw w.toNatClampNeg) (fun w => 0 ≤ w.toInt ∧ w.toInt < ((28 : Nat) : Int)) (lfo fw fnw)) :
    ((∀ br fs, ∃ f', E_w_run (nI a) br fs 28 cw 800 fc = (0, 1, f')) ∧ ∀ bro val frs, ∃ v val' frs', E_v_sumOf (nI at_) bro val 0 fw fnw frs fo fa fod = (v, 1, val', 1, frs')) ∨
    (∃ r : Int32, P r.toInt ∧ (∀ br fs, ∃ f', E_w_run (nI a) br fs 28 cw 800 fc = (r, 0, f')) ∧ ∀ bro val frs, ∃ val' frs', E_v_sumOf (nI at_) bro val 0 fw fnw frs fo fa fod = (r, 0, val', 0, frs')) := by
  have st : ∀ bro val frs, E_v_sumOf (nI at_) bro val 0 fw fnw frs fo fa fod = ((E_v_reckonOrd (nI p) (nI q) bro val fw fnw frs fo fa).2.1.toInt32, (E_v_reckonOrd (nI p) (nI q) bro val fw fnw frs fo fa).1, (E_v_reckonOrd (nI p) (nI q) bro val fw fnw frs fo fa).2.1, (E_v_reckonOrd (nI p) (nI q) bro val fw fnw frs fo fa).1, (E_v_reckonOrd (nI p) (nI q) bro val fw fnw frs fo fa).2.2) := fun bro val frs => by
    rw [E_v_sumOf.eq_def, if_pos rfl, kn_p1 (by omega), kn_cl (by omega), Lt_b, Lt_b, Lt_b, kn_cl (by omega), hx, hy, if_neg (kn_ne (by omega) (by omega) (by omega)), Lt_b, Lt_b, Lt_b, Lt2_b, Lt2_b, Lt_b, kn_cl (by omega), hy]
  rcases reck_ord (nc := 800) h hm h0 (by omega) (by omega) (by omega) (by omega) henv with ⟨p1, p2⟩ | ⟨g, g1, g2, p1, p2⟩
  · refine Or.inl ⟨p1, fun bro val frs => ?_⟩
    obtain ⟨v, f', q1⟩ := p2 bro val frs
    rw [st, q1]
    exact ⟨_, _, _, rfl⟩
  · obtain ⟨r, f', q1, q2⟩ := p1 0 (fun _ => 0)
    refine Or.inr ⟨r, by rw [q2]; exact g2, fun br fs => ?_, fun bro val frs => ?_⟩
    · obtain ⟨r', f2, q3, q4⟩ := p1 br fs
      have : r' = r := Int32.toInt_inj.mp (q4.trans q2.symm)
      subst this
      exact ⟨f2, q3⟩
    · obtain ⟨v, f2, q3, q4⟩ := p2 bro val frs
      have e : v.toInt32 = r := Int32.toInt_inj.mp (by rw [l_nar q4 (by omega)]; exact q2.symm)
      rw [st, q3]
      exact ⟨v, f2, by rw [e]⟩
theorem sumOf_n {at_ : Nat} {bro : Int32} {val : Int64} {fw fo fa fod : Nat → Int32} {fnw frs : Nat → Int64} (ha : at_ < 1000) (h : fod at_ = fod (at_ + 1)) : E_v_sumOf (nI at_) bro val 0 fw fnw frs fo fa fod = (-1, bro, val, 0, frs) := by
  rw [E_v_sumOf.eq_def, if_pos rfl, kn_p1 (by omega), kn_cl (by omega), Lt_b, Lt_b, Lt_b, kn_cl (by omega), if_pos h]
theorem sumOf_off {at_ bro ofm : Int32} {val : Int64} {fw fo fa fod : Nat → Int32} {fnw frs : Nat → Int64} (h : ofm ≠ 0) : E_v_sumOf at_ bro val ofm fw fnw frs fo fa fod = (-1, bro, val, ofm, frs) := by
  rw [E_v_sumOf.eq_def, if_neg h]
