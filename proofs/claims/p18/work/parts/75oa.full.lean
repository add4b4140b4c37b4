/-! orders: the reference's machine over a text of orders -/
noncomputable def lfo (fw : Nat → Int32) (fnw : Nat → Int64) (op ar : Int32) : Int64 := if op = 0 then ar.toInt64 else if 6 ≤ op then (if op = 8 then (E_v_soundWith ar fw).toInt64 else if E_v_isHouse ar fw = 1 then (if op = 6 then (fw (11 + ar).toNatClampNeg).toInt64 else (fw (19 + ar).toNatClampNeg).toInt64) else -1) else fnw op.toNatClampNeg
theorem ro_j370 {t : Nat} {b : Int32} {f : Nat → Int64} (ht : t ≤ 400) : E_v_reckonOrd_j370 (nI t) b f = (b, if t = 0 then 0 else f 0, f) := by
  rw [E_v_reckonOrd_j370.eq_def, Lt_b]
  by_cases c : t = 0
  · rw [if_pos (kn_gel (j := 0) rfl (by omega) (by omega)), if_pos c]
  · rw [if_neg (kn_ngel (j := 0) rfl (by omega) (by omega)), if_neg c]
    rfl
theorem ro_head {hi y : Nat} {fw fo fa : Nat → Int32} {fnw : Nat → Int64} (hh : hi ≤ y) (hy : y ≤ 1000) (k : Nat) (q : k < hi) : ¬ nI y ≤ nI k := fun h => by
  have := (kn_le (by omega) (by omega)).mp h
  omega
theorem ro_all0 {hi y : Nat} {fw fo fa : Nat → Int32} {fnw : Nat → Int64} (hh : hi ≤ y) (hy : y ≤ 1000) (o k t : Nat) (f : Nat → Int64) (rc : KRR) (q : k < hi) (r : t < 400) (s2 : o < 20) (s : fo k = nI o) : E_v_reckonOrd_l10 (nI y) fw fnw fo fa rc (nI k) (nI t) 0 f = rc (nI (k + 1)) (nI (t + 1)) 0 (vp_updL f t (lfo fw fnw (fo k) (fa k))) := by
  rw [E_v_reckonOrd_l10.eq_def, if_neg (ro_head (fw := fw) (fo := fo) (fa := fa) (fnw := fnw) hh hy k q), if_pos rfl, kn_cl (by omega), kn_po (by omega), Lt_b, Lt_b, Lt_b, s, if_neg (kn_nlel (j := 20) rfl (by omega) s2)]
  unfold lfo
  by_cases c : nI o = 0
  · rw [if_pos c, if_pos c, Lt_b, Lt_b, Lt_b, kn_cl (a := t) (by omega), kn_po (by omega)]
  rw [if_neg c, if_neg c]
  by_cases c6 : 6 ≤ nI o
  case neg => rw [if_neg c6, if_neg c6, Lt_b, Lt_b, Lt_b, kn_cl (a := t) (by omega), kn_po (by omega)]
  rw [if_pos c6, if_pos c6]
  by_cases c8 : nI o = 8
  · rw [if_pos c8, if_pos c8, Lt_b, Lt_b, Lt_b, Lt_b, kn_cl (a := t) (by omega), kn_po (by omega)]
  rw [if_neg c8, if_neg c8, Lt_b]
  by_cases ch : E_v_isHouse (fa k) fw = 1
  case neg => rw [if_neg ch, if_neg ch, Lt_b, Lt_b, kn_cl (a := t) (by omega), kn_po (by omega)]
  rw [if_pos ch, if_pos ch]
  by_cases c7 : nI o = 6
  · rw [if_pos c7, if_pos c7, Lt_b, Lt_b, Lt_b, Lt_b, Lt_b, kn_cl (a := t) (by omega), kn_po (by omega)]
  · rw [if_neg c7, if_neg c7, Lt_b, Lt_b, Lt_b, Lt_b, Lt_b, kn_cl (a := t) (by omega), kn_po (by omega)]
theorem ro_all1 {hi y : Nat} {fw fo fa : Nat → Int32} {fnw : Nat → Int64} (hh : hi ≤ y) (hy : y ≤ 1000) (o k t : Nat) (f : Nat → Int64) (rc : KRR) (q : k < hi) (r : 2 ≤ t) (r2 : t ≤ 400) (s2 : 3 ≤ o ∧ o ≤ 10) (s : fo k = nI (o + 17)) : E_v_reckonOrd_l10 (nI y) fw fnw fo fa rc (nI k) (nI t) 0 f = rc (nI (k + 1)) (nI (t - 1)) (if (E_v_reckon (nI (o + 17)) (f (t - 2)) (f (t - 1)) 0).2 = 0 then (if E_v_in (E_v_reckon (nI (o + 17)) (f (t - 2)) (f (t - 1)) 0).1 (-1000000000) 1000000000 = 1 then 0 else 1) else 1) (vp_updL f (t - 2) (E_v_reckon (nI (o + 17)) (f (t - 2)) (f (t - 1)) 0).1) := by
  rw [E_v_reckonOrd_l10.eq_def, if_neg (ro_head (fw := fw) (fo := fo) (fa := fa) (fnw := fnw) hh hy k q), if_pos rfl, kn_cl (by omega), kn_po (by omega), Lt_b, Lt_b, Lt_b, s, if_pos (kn_lel (j := 20) rfl (by omega) (by omega)), if_neg (kn_nlel (j := 28) rfl (by omega) (by omega)), Lt_b, Lt_b, Lt_b, Lt_b, Lt_b, kn_mo (by omega) (by omega), kn_m1 (by omega) (by omega), kn_cl (a := t - 1 - 1) (by omega), kn_cl (a := t - 1) (by omega), show t - 1 - 1 = t - 2 by omega]
  rw [Lt2_b, Lt_b]
  by_cases c : (E_v_reckon (nI (o + 17)) (f (t - 2)) (f (t - 1)) 0).2 = 0
  · rw [if_pos c, if_pos c, Lt_b, Lt_b, Lt_b, kn_cl (a := t - 2) (by omega), upl_s]
    by_cases d : E_v_in (E_v_reckon (nI (o + 17)) (f (t - 2)) (f (t - 1)) 0).1 (-1000000000) 1000000000 = 1
    · rw [if_pos d, if_pos d]
    · rw [if_neg d, if_neg d]
  · rw [if_neg c, if_neg c]
theorem ro_all2 {hi y : Nat} {fw fo fa : Nat → Int32} {fnw : Nat → Int64} (hh : hi ≤ y) (hy : y ≤ 1000) (k t : Nat) (f : Nat → Int64) (rc : KRR) (q : k < hi) (r : 1 ≤ t) (r2 : t ≤ 400) (s : fo k = 28) : E_v_reckonOrd_l10 (nI y) fw fnw fo fa rc (nI k) (nI t) 0 f = rc (nI (k + 1)) (nI t) 0 (vp_updL f (t - 1) (1 - f (t - 1))) := by
  rw [E_v_reckonOrd_l10.eq_def, if_neg (ro_head (fw := fw) (fo := fo) (fa := fa) (fnw := fnw) hh hy k q), if_pos rfl, kn_cl (by omega), kn_po (by omega), Lt_b, Lt_b, Lt_b, s, if_pos (by decide), if_pos (by decide), if_pos rfl, Lt_b, Lt_b, Lt_b, Lt_b, Lt_b, kn_m1 (by omega) r, kn_cl (a := t - 1) (by omega)]
theorem ro_all3 {hi y : Nat} {fw fo fa : Nat → Int32} {fnw : Nat → Int64} (hh : hi ≤ y) (hy : y ≤ 1000) (e k t : Nat) (f : Nat → Int64) (rc : KRR) (q : k < hi) (r : 1 ≤ t) (r2 : t ≤ 400) (s2 : fa k = nI e) (s : fo k = 29) : E_v_reckonOrd_l10 (nI y) fw fnw fo fa rc (nI k) (nI t) 0 f = if f (t - 1) = 0 then rc (nI e) (nI t) 0 f else rc (nI (k + 1)) (nI (t - 1)) 0 f := by
  rw [E_v_reckonOrd_l10.eq_def, if_neg (ro_head (fw := fw) (fo := fo) (fa := fa) (fnw := fnw) hh hy k q), if_pos rfl, kn_cl (by omega), kn_po (by omega), Lt_b, Lt_b, Lt_b, s, s2, if_pos (by decide), if_pos (by decide), if_neg (by decide), Lt_b, Lt_b, if_pos rfl, kn_m1 (by omega) r, kn_cl (a := t - 1) (by omega)]
  by_cases c : f (t - 1) = 0
  · rw [if_pos c, if_pos ((lg_cmp_eq _ _).mpr c)]
  · rw [if_neg c, if_neg (fun h => c ((lg_cmp_eq _ _).mp h)), Lt_b, kn_mo (by omega) r]
theorem ro_all4 {hi y : Nat} {fw fo fa : Nat → Int32} {fnw : Nat → Int64} (hh : hi ≤ y) (hy : y ≤ 1000) (e k t : Nat) (f : Nat → Int64) (rc : KRR) (q : k < hi) (r : 1 ≤ t) (r2 : t ≤ 400) (s2 : fa k = nI e) (s : fo k = 30) : E_v_reckonOrd_l10 (nI y) fw fnw fo fa rc (nI k) (nI t) 0 f = if f (t - 1) = 1 then rc (nI e) (nI t) 0 f else rc (nI (k + 1)) (nI (t - 1)) 0 f := by
  rw [E_v_reckonOrd_l10.eq_def, if_neg (ro_head (fw := fw) (fo := fo) (fa := fa) (fnw := fnw) hh hy k q), if_pos rfl, kn_cl (by omega), kn_po (by omega), Lt_b, Lt_b, Lt_b, s, s2, if_pos (by decide), if_pos (by decide), if_neg (by decide), Lt_b, Lt_b, if_neg (by decide), kn_m1 (by omega) r, kn_cl (a := t - 1) (by omega)]
  by_cases c : f (t - 1) = 1
  · rw [if_pos c, if_pos ((lg_cmp_eq _ _).mpr c)]
  · rw [if_neg c, if_neg (fun h => c ((lg_cmp_eq _ _).mp h)), Lt_b, kn_mo (by omega) r]
theorem ro_all5 {y : Nat} {fw fo fa : Nat → Int32} {fnw : Nat → Int64} (k t : Nat) (f : Nat → Int64) (rc : KRR) (p : t ≤ 400) : ∃ v, E_v_reckonOrd_l10 (nI y) fw fnw fo fa rc (nI k) (nI t) 1 f = (1, v, f) := by
  rw [E_v_reckonOrd_l10.eq_def]
  by_cases c : nI y ≤ nI k
  · rw [if_pos c, ro_j370 p]; exact ⟨_, rfl⟩
  · rw [if_neg c, if_neg (by decide), ro_j370 p]; exact ⟨_, rfl⟩
theorem ro_all {lo hi y : Nat} {fw fo fa : Nat → Int32} {fnw : Nat → Int64} (hh : hi ≤ y) (hy : y ≤ 1000) : RM lo hi fo fa (lfo fw fnw) (E_v_reckonOrd_l10 (nI y) fw fnw fo fa) := ⟨fun o k t f rc _ q r s s2 => ro_all0 hh hy o k t f rc q r s s2, fun o k t f rc _ q r r2 s s2 => ro_all1 hh hy o k t f rc q r r2 s s2, fun k t f rc _ q r r2 s => ro_all2 hh hy k t f rc q r r2 s, fun e k t f rc _ q r r2 s s2 => ro_all3 hh hy e k t f rc q r r2 s s2, fun e k t f rc _ q r r2 s s2 => ro_all4 hh hy e k t f rc q r r2 s s2, fun k t f rc p _ => ro_all5 k t f rc p⟩
theorem ro_stop {q : Nat} {fw fo fa : Nat → Int32} {fnw : Nat → Int64} (t : Nat) (br : Int32) (f : Nat → Int64) (rc : KRR) (ht : t ≤ 400) : E_v_reckonOrd_l10 (nI q) fw fnw fo fa rc (nI q) (nI t) br f = (br, if t = 0 then 0 else f 0, f) := by
  rw [E_v_reckonOrd_l10.eq_def, if_pos (ie_iff.mpr (Int.le_refl _)), ro_j370 ht]
/-- a sum or a test of orders: both broken, or the same value -/
theorem reck_ord {P : Int → Prop} {m a e p q nc : Nat} {fc fo fa fw cw : Nat → Int32} {fnw : Nat → Int64} (h : SE 1 P 1 m fc a e fo fa p q) (hm : m ≤ 64) (h0 : fc e = 0) (he : e + 1 < nc) (hc : nc ≤ 1000000) (hpq : p ≤ q) (hq : q ≤ 400) (henv : KEnv 1 (fun w => cw w.toNatClampNeg) (fun w => 0 ≤ w.toInt ∧ w.toInt < ((28 : Nat) : Int)) (lfo fw fnw)) :
    ((∀ br fs, ∃ f', E_w_run (nI a) br fs 28 cw nc fc = (0, 1, f')) ∧ ∀ br vl f, ∃ v f', E_v_reckonOrd (nI p) (nI q) br vl fw fnw f fo fa = (1, v, f')) ∨
    (∃ g : Int, (-1000000000 ≤ g ∧ g ≤ 1000000000) ∧ P g ∧ (∀ br fs, ∃ r f', E_w_run (nI a) br fs 28 cw nc fc = (r, 0, f') ∧ r.toInt = g) ∧ ∀ br vl f, ∃ v f', E_v_reckonOrd (nI p) (nI q) br vl fw fnw f fo fa = (0, v, f') ∧ v.toInt = g) := by
  have hB := ro_all (lo := p) (hi := q) (y := q) (fw := fw) (fo := fo) (fa := fa) (fnw := fnw) (Nat.le_refl _) (by omega)
  have fu : ((nI q).toInt - (nI p).toInt + 1 : Int).toNat + 1 = 1 + (q - p) + 1 := rk_fuel hpq hq
  rcases run_both (nw := 28) h hm h0 he hc (by omega) cw henv with ⟨p1, p2⟩ | ⟨g, g1, g2, p1, p2⟩
  · refine Or.inl ⟨p1, fun br vl f => ?_⟩
    obtain ⟨v, f', q1⟩ := p2 _ hB (fun t b f rc ht => ro_stop t b f rc ht) (fun _ _ _ _ => ((0, 0, fun _ => 0) : Int32 × Int64 × (Nat → Int64))) f 1
    refine ⟨v, f', ?_⟩
    rw [E_v_reckonOrd.eq_def, fu]; exact q1
  · refine Or.inr ⟨g, g1, g2, p1, fun br vl f => ?_⟩
    obtain ⟨v, f', q1, q2⟩ := p2 _ hB (fun t b f rc ht => ro_stop t b f rc ht) (fun _ _ _ _ => ((0, 0, fun _ => 0) : Int32 × Int64 × (Nat → Int64))) f 1
    refine ⟨v, f', ?_, q2⟩
    rw [E_v_reckonOrd.eq_def, fu]; exact q1
