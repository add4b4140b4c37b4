/-! count and chance -/
theorem cnt_go {n lt nf fi x nu ta : Int32} {f1 f2 fw frm : Nat → Int32} {fl : Nat → Option Nat} {G : Nat → LC} (h : TW n lt nf fi f1 f2 fl G fw) {N : Nat} (n8 : N ≤ 8) (e1 : n = nI N) (e2 : fw 0 = nI N) (z1 z2 : Int32 → Int32 → Int32) : ∀ (d a F : Nat) (c : Int32), a + d = N → ∃ rc, Lp (E_v_count_l9 x nu ta fw frm) z2 (F + d + 1) (nI a) c = E_v_count_l9 x nu ta fw frm rc (nI N) (Lp (E_w_singing_l4 n f1 f2) z1 (F + d + 1) (nI a) c) := by
  intro d
  induction d with
  | zero =>
    intro a F c ha
    have : a = N := by omega
    subst this
    have c1 : nI a ≤ nI a := (kn_le (by omega) (by omega)).mpr (Nat.le_refl _)
    refine ⟨Lp (E_v_count_l9 x nu ta fw frm) z2 F, ?_⟩
    have st1 : Lp (E_w_singing_l4 n f1 f2) z1 (F + 0 + 1) (nI a) c = c := by
      rw [Nat.add_zero, Lp_s, E_w_singing_l4.eq_def, e1, if_pos c1]
    rw [st1]
    rfl
  | succ d ih =>
    intro a F c ha
    have c1 : ¬ nI N ≤ nI a := fun q => by have := (kn_le (by omega) (by omega)).mp q; omega
    have a8 : a < 8 := by omega
    have f0 : fw (0 : Int32).toNatClampNeg = nI N := e2
    have st1 : Lp (E_w_singing_l4 n f1 f2) z1 (F + d + 1 + 1) (nI a) c = Lp (E_w_singing_l4 n f1 f2) z1 (F + d + 1) (nI (a + 1)) (if E_v_isSounding (nI a) fw = 0 then c + 0 else c + 1) := by
      rw [Lp_s, E_w_singing_l4.eq_def, e1, if_neg c1, Lt_b, h.sings a8]
      by_cases s : E_v_isSounding (nI a) fw = 0
      · rw [if_pos s, if_pos s, Lt_b, Lt_b, kn_po (by omega)]
      · rw [if_neg s, if_neg s, Lt_b, Lt_b, kn_po (by omega)]
    have st2 : Lp (E_v_count_l9 x nu ta fw frm) z2 (F + d + 1 + 1) (nI a) c = Lp (E_v_count_l9 x nu ta fw frm) z2 (F + d + 1) (nI (a + 1)) (if E_v_isSounding (nI a) fw = 0 then c + 0 else c + 1) := by
      rw [Lp_s, E_v_count_l9.eq_def, Lt_b, f0, if_neg c1, Lt_b]
      by_cases s : E_v_isSounding (nI a) fw = 0
      · rw [if_pos s, if_pos s, Lt_b, Lt_b, kn_po (by omega)]
      · rw [if_neg s, if_neg s, Lt_b, Lt_b, kn_po (by omega)]
    rw [show F + (d + 1) + 1 = F + d + 1 + 1 by omega, st1, st2]
    exact ih (a + 1) F _ (by omega)
theorem rel_count {x rb dr kp ln n lt nf fi hea ho thr sta nu ta : Int32} {f1 f2 f3 fw frf frm sl fu fs : Nat → Int32} {fl : Nat → Option Nat} {G : Nat → LC} {r1 r2 : Int32} (k1 : r1 = E_w_count x rb frf dr kp ln n lt nf fi hea f1 f2) (k2 : r2 = E_v_count x thr nu ta fw frm) (h : TW n lt nf fi f1 f2 fl G fw) (r : RF 0 n hea ho f1 f3 fw) (hr : HR n dr kp nu sl fu fs fw) (q : RfR rb sta frf frm) (hl : ln.toInt = ta.toInt) : r1 = r2 := by
  obtain ⟨N, n8, e1, e2, _⟩ := h.nN
  obtain ⟨rc, g⟩ := cnt_go (x := x) (nu := nu) (ta := ta) (frm := frm) h n8 e1 e2 (fun _ _ => (0 : Int32)) (fun _ _ => (0 : Int32)) N 0 (9 - N) 0 (by omega)
  have eN : ((9 - (0 : Int32).toInt : Int).toNat + 1) = 9 - N + N + 1 := by rw [show (0 : Int32).toInt = 0 from rfl]; omega
  have k3 : r2 = E_v_count_l9 x nu ta fw frm rc (nI N) (E_w_singing n f1 f2) := by
    rw [k2, E_v_count.eq_def, E_w_singing.eq_def, eN]
    exact g
  have el : ln = ta := Int32.toInt_inj.mp hl
  obtain ⟨d, u, _, _, p1, p2, _⟩ := hr
  have ek : kp = nu := p1.trans p2.symm
  obtain ⟨t1, t2, _⟩ := h.1
  have eh : hea = fw 1 := by have := r.2.1; rw [Nat.zero_add] at this; exact this
  have elt := h.2.1
  have enf := h.2.2.1
  have en : n = fw 0 := h.2.2.2.2.2.2.1.1
  have c1 : nI N ≤ nI N := (kn_le (by omega) (by omega)).mpr (Nat.le_refl _)
  rw [E_v_count_l9.eq_def, Lt_b, show fw (0 : Int32).toNatClampNeg = nI N from e2, if_pos c1] at k3
  rw [E_w_count.eq_def, Lt_b] at k1
  obtain ⟨q0, q1, q2, q3, q4, q5⟩ := q
  have lit : ∀ {v : Int} {c : Int32}, c.toInt = v → x.toInt = v → x = c := fun a b => Int32.toInt_inj.mp (b.trans a.symm)
  by_cases g1 : (6 : Int32).toInt ≤ x.toInt ∧ x.toInt ≤ (10 : Int32).toInt
  · rw [ifw_p g1] at k1
    have g2 : 6 ≤ x.toInt ∧ x.toInt ≤ 10 := g1
    rcases (show x.toInt = 6 ∨ x.toInt = 7 ∨ x.toInt = 8 ∨ x.toInt = 9 ∨ x.toInt = 10 by omega) with y | y | y | y | y
    · have : x = 6 := lit rfl y
      subst this
      exact k1.trans (q1.trans k3.symm)
    · have : x = 7 := lit rfl y
      subst this
      exact k1.trans (q2.trans k3.symm)
    · have : x = 8 := lit rfl y
      subst this
      exact k1.trans (q3.trans k3.symm)
    · have : x = 9 := lit rfl y
      subst this
      exact k1.trans (q4.trans k3.symm)
    · have : x = 10 := lit rfl y
      subst this
      exact k1.trans (q5.trans k3.symm)
  rw [ifw_n g1, Lt_b] at k1
  by_cases g3 : (13 : Int32).toInt ≤ x.toInt ∧ x.toInt ≤ (18 : Int32).toInt
  · rw [ifw_p g3] at k1
    have g4 : 13 ≤ x.toInt ∧ x.toInt ≤ 18 := g3
    have t := t1
    rcases (show x.toInt = 13 ∨ x.toInt = 14 ∨ x.toInt = 15 ∨ x.toInt = 16 ∨ x.toInt = 17 ∨ x.toInt = 18 by omega) with y | y | y | y | y | y
    · have : x = 13 := lit rfl y
      subst this
      exact k1.trans ((t 0 (by omega)).trans k3.symm)
    · have : x = 14 := lit rfl y
      subst this
      exact k1.trans ((t 1 (by omega)).trans k3.symm)
    · have : x = 15 := lit rfl y
      subst this
      exact k1.trans ((t 2 (by omega)).trans k3.symm)
    · have : x = 16 := lit rfl y
      subst this
      exact k1.trans ((t 3 (by omega)).trans k3.symm)
    · have : x = 17 := lit rfl y
      subst this
      exact k1.trans ((t 4 (by omega)).trans k3.symm)
    · have : x = 18 := lit rfl y
      subst this
      exact k1.trans ((t 5 (by omega)).trans k3.symm)
  rw [ifw_n g3] at k1
  have g5 : ¬ (6 ≤ x.toInt ∧ x.toInt ≤ 10) := g1
  have g6 : ¬ (13 ≤ x.toInt ∧ x.toInt ≤ 18) := g3
  by_cases x0 : x.toInt = 0
  · rw [if_pos x0] at k1 k3; exact k1.trans (e1.trans k3.symm)
  rw [if_neg x0] at k1 k3
  by_cases x1 : x.toInt = 1
  · rw [if_pos x1] at k1 k3; exact k1.trans k3.symm
  rw [if_neg x1] at k1 k3
  by_cases x2 : x.toInt = 2
  · rw [if_pos x2] at k1 k3; exact k1.trans (eh.trans k3.symm)
  rw [if_neg x2] at k1 k3
  by_cases x3 : x.toInt = 3
  · rw [if_pos x3] at k1 k3; exact k1.trans (elt.trans k3.symm)
  rw [if_neg x3] at k1 k3
  by_cases x4 : x.toInt = 4
  · rw [if_pos x4] at k1 k3; exact k1.trans (ek.trans k3.symm)
  rw [if_neg x4] at k1 k3
  by_cases x5 : x.toInt = 5
  · rw [if_pos x5] at k1 k3; exact k1.trans (el.trans k3.symm)
  rw [if_neg x5, if_neg (by omega), if_neg (by omega), if_neg (by omega), if_neg (by omega), if_neg (by omega)] at k1 k3
  by_cases x11 : x.toInt = 11
  · rw [if_pos x11] at k1 k3; exact k1.trans (enf.trans k3.symm)
  rw [if_neg x11] at k1 k3
  by_cases x12 : x.toInt = 12
  · rw [if_pos x12] at k1 k3; exact k1.trans (t2.trans k3.symm)
  rw [if_neg x12] at k1 k3
  rw [Lt_b, Lt_b, ifi_n (by have z1 : (13 : Int64).toInt = 13 := rfl; have z2 : (18 : Int64).toInt = 18 := rfl; omega)] at k3
  exact k1.trans k3.symm
/-- m houses that sound the same note -/
noncomputable def itv (t v : Int64) (m : Nat) : Int64 := match m with
  | 0 => v
  | m + 1 => itv t (v * t / 10) m
theorem mut_go {n lt nf fi : Int32} {f1 f2 fw : Nat → Int32} {fl : Nat → Option Nat} {G : Nat → LC} (h : TW n lt nf fi f1 f2 fl G fw) {N k : Nat} (n8 : N ≤ 8) (e1 : n = nI N) (e2 : fw 0 = nI N) (z1 : Int32 → Int64 → Int64) (z2 : Int32 → Int32 → Int32) : ∀ (d a F c : Nat), a + d = N → c + d ≤ 8 → ∃ m, m ≤ d ∧ (∀ v, Lp (E_w_muted_l6 (nI k) n f1 f2) z1 (F + d + 1) (nI a) v = itv (f2 4).toInt64 v m) ∧ Lp (E_v_soundWith_l4 (nI k) fw) z2 (F + d + 1) (nI a) (nI c) = nI (c + m) := by
  intro d
  induction d with
  | zero =>
    intro a F c ha hc
    have : a = N := by omega
    subst this
    have c1 : nI a ≤ nI a := (kn_le (by omega) (by omega)).mpr (Nat.le_refl _)
    refine ⟨0, Nat.le_refl _, fun v => ?_, ?_⟩
    · rw [Nat.add_zero, Lp_s, E_w_muted_l6.eq_def, e1, if_pos c1]; rfl
    · rw [Nat.add_zero, Lp_s, E_v_soundWith_l4.eq_def, Lt_b, show fw (0 : Int32).toNatClampNeg = nI a from e2, if_pos c1, Nat.add_zero]
  | succ d ih =>
    intro a F c ha hc
    have c1 : ¬ nI N ≤ nI a := fun q => by have := (kn_le (by omega) (by omega)).mp q; omega
    have a8 : a < 8 := by omega
    have f0 : fw (0 : Int32).toNatClampNeg = nI N := e2
    rw [show F + (d + 1) + 1 = F + d + 1 + 1 by omega]
    have c0 : nI c + 0 = nI c := Int32.toInt_inj.mp (i_add (Eq.refl (nI c).toInt) (show (0 : Int32).toInt = 0 from rfl) (by rw [nI_toInt (by omega)]; omega) |>.trans (by omega))
    by_cases s1 : fw (35 + a) = nI k
    · by_cases s2 : E_v_isSounding (nI a) fw = 0
      · obtain ⟨m, m1, m2, m3⟩ := ih (a + 1) F c (by omega) (by omega)
        refine ⟨m, by omega, fun v => ?_, ?_⟩
        · rw [Lp_s, E_w_muted_l6.eq_def, e1, if_neg c1, h.note a8, Lt_b, if_pos s1, Lt_b, h.sings a8, if_pos s2, E_w_muted_j51.eq_def, Lt_b, kn_po (by omega), ← e1]; exact m2 v
        · rw [Lp_s, E_v_soundWith_l4.eq_def, Lt_b, f0, if_neg c1, n_ladd (m := 35) rfl (by omega), Lt_b, Lt_b, kn_cl (by omega), if_pos s1, Lt_b, if_pos s2, Lt_b, Lt_b, c0, kn_po (by omega)]; exact m3
      · obtain ⟨m, m1, m2, m3⟩ := ih (a + 1) F (c + 1) (by omega) (by omega)
        refine ⟨m + 1, by omega, fun v => ?_, ?_⟩
        · rw [Lp_s, E_w_muted_l6.eq_def, e1, if_neg c1, h.note a8, Lt_b, if_pos s1, Lt_b, h.sings a8, if_neg s2, Lt_b, Lt_b, Lt_b, Lt_b, E_w_muted_j51.eq_def, Lt_b, kn_po (by omega), ← e1]; exact m2 _
        · rw [Lp_s, E_v_soundWith_l4.eq_def, Lt_b, f0, if_neg c1, n_ladd (m := 35) rfl (by omega), Lt_b, Lt_b, kn_cl (by omega), if_pos s1, Lt_b, if_neg s2, Lt_b, Lt_b, kn_p1 (by omega), kn_po (by omega), m3]
          congr 1; omega
    · obtain ⟨m, m1, m2, m3⟩ := ih (a + 1) F c (by omega) (by omega)
      refine ⟨m, by omega, fun v => ?_, ?_⟩
      · rw [Lp_s, E_w_muted_l6.eq_def, e1, if_neg c1, h.note a8, Lt_b, if_neg s1, E_w_muted_j51.eq_def, Lt_b, kn_po (by omega), ← e1]; exact m2 v
      · rw [Lp_s, E_v_soundWith_l4.eq_def, Lt_b, f0, if_neg c1, n_ladd (m := 35) rfl (by omega), Lt_b, Lt_b, kn_cl (by omega), if_neg s1, Lt_b, Lt_b, c0, kn_po (by omega)]; exact m3
theorem cha_in {v0 : Int32} {w : Int64} {fw : Nat → Int32} {rc : Int32 → Int64 → Int64} (z : Int32 → Int64 → Int64) : ∀ (m F : Nat) (v : Int64), m ≤ 8 → Lp (E_v_chance_l55 fw v0 w rc) z (F + m + 1) (nI m) v = rc (v0 + Int32.ofInt 1) (w - itv (fw 8).toInt64 v m) := by
  intro m
  induction m with
  | zero =>
    intro F v hm
    rw [Lp_s, E_v_chance_l55.eq_def, if_pos (show nI 0 ≤ 0 by decide), Lt_b, E_v_chance_j86.eq_def, Lt_b]
    rfl
  | succ m ih =>
    intro F v hm
    have c1 : ¬ nI (m + 1) ≤ 0 := fun q => by
      have := ie_iff.mp q
      rw [nI_toInt (by omega), show (0 : Int32).toInt = 0 from rfl] at this
      omega
    rw [show F + (m + 1) + 1 = F + m + 1 + 1 by omega, Lp_s, E_v_chance_l55.eq_def, if_neg c1, Lt_b, Lt_b, Lt_b, Lt_b, Lt_b, kn_mo (by omega) (by omega), show m + 1 - 1 = m by omega, show E_v_term 4 fw = fw 8 from rfl]
    exact ih F _ (by omega)
theorem rel_chance {x n lt nf fi ho thr : Int32} {f1 f2 fw : Nat → Int32} {fl : Nat → Option Nat} {G : Nat → LC} {r1 r2 : Int64} (k1 : r1 = E_w_chance x n ho f1 f2) (k2 : r2 = E_v_chance x thr fw) (h : TW n lt nf fi f1 f2 fl G fw) : r1 = r2 := by
  obtain ⟨N, n8, e1, e2, _⟩ := h.nN
  have e4 : f2 4 = fw 8 := h.1.1 4 (by omega)
  have eN : ((9 - (0 : Int32).toInt : Int).toNat + 1) = 9 - N + N + 1 := by rw [show (0 : Int32).toInt = 0 from rfl]; omega
  have go : ∀ (d a F : Nat) (v : Int64), a + d = 7 → Lp (E_w_odds_l7 x n ho f1 f2) (fun _ _ => (0 : Int64)) (F + d + 1) (nI a) v = Lp (E_v_chance_l28 x fw) (fun _ _ => (0 : Int64)) (F + d + 1) (nI a) v := by
    intro d
    induction d with
    | zero =>
      intro a F v ha
      have : a = 7 := by omega
      subst this
      have c1 : (7 : Int32) ≤ nI 7 := by decide
      rw [Nat.add_zero, Lp_s, Lp_s, E_w_odds_l7.eq_def, E_v_chance_l28.eq_def, if_pos c1, if_pos c1]
    | succ d ih =>
      intro a F v ha
      have c1 : ¬ (7 : Int32) ≤ nI a := kn_nlel (j := 7) rfl (by omega) (by omega)
      obtain ⟨m, m1, m2, m3⟩ := mut_go (k := a) h n8 e1 e2 (fun _ _ => (0 : Int64)) (fun _ _ => (0 : Int32)) N 0 (9 - N) 0 (by omega) (by omega)
      rw [Nat.zero_add] at m3
      have w1 : E_w_muted (nI a) v n ho f1 f2 = itv (f2 4).toInt64 v m := by
        rw [E_w_muted.eq_def, eN]; exact m2 v
      have w2 : E_v_soundWith (nI a) fw = nI m := by
        rw [E_v_soundWith.eq_def, eN]; exact m3
      rw [show F + (d + 1) + 1 = F + d + 1 + 1 by omega]
      by_cases b : x >>> (nI a &&& 31) &&& 1 = 1
      · have s1 : Lp (E_w_odds_l7 x n ho f1 f2) (fun _ _ => (0 : Int64)) (F + d + 1 + 1) (nI a) v = Lp (E_w_odds_l7 x n ho f1 f2) (fun _ _ => (0 : Int64)) (F + d + 1) (nI (a + 1)) (v - itv (f2 4).toInt64 v m) := by
          rw [Lp_s, E_w_odds_l7.eq_def, if_neg c1, Lt_b, Lt_b, if_pos b, Lt_b, Lt_b, w1, E_w_odds_j34.eq_def, Lt_b, kn_po (by omega)]
        have s2 : Lp (E_v_chance_l28 x fw) (fun _ _ => (0 : Int64)) (F + d + 1 + 1) (nI a) v = Lp (E_v_chance_l28 x fw) (fun _ _ => (0 : Int64)) (F + d + 1) (nI (a + 1)) (v - itv (f2 4).toInt64 v m) := by
          have b2 : ¬ E_v_is x (nI a) = 0 := by
            rw [E_v_is.eq_def, Lt_b, Lt_b, if_pos b]; decide
          rw [Lp_s, E_v_chance_l28.eq_def, if_neg c1, Lt_b, if_neg b2, Lt_b, w2, show (((nI m : Int32).toInt - (-1) : Int).toNat + 1) = 1 + m + 1 by rw [nI_toInt (by omega)]; omega, cha_in _ m 1 v (by omega), kn_po (by omega), e4]
        rw [s1, s2]
        exact ih (a + 1) F _ (by omega)
      · have s1 : Lp (E_w_odds_l7 x n ho f1 f2) (fun _ _ => (0 : Int64)) (F + d + 1 + 1) (nI a) v = Lp (E_w_odds_l7 x n ho f1 f2) (fun _ _ => (0 : Int64)) (F + d + 1) (nI (a + 1)) v := by
          rw [Lp_s, E_w_odds_l7.eq_def, if_neg c1, Lt_b, Lt_b, if_neg b, E_w_odds_j34.eq_def, Lt_b, kn_po (by omega)]
        have s2 : Lp (E_v_chance_l28 x fw) (fun _ _ => (0 : Int64)) (F + d + 1 + 1) (nI a) v = Lp (E_v_chance_l28 x fw) (fun _ _ => (0 : Int64)) (F + d + 1) (nI (a + 1)) v := by
          have b2 : E_v_is x (nI a) = 0 := by
            rw [E_v_is.eq_def, Lt_b, Lt_b, if_neg b]
          rw [Lp_s, E_v_chance_l28.eq_def, if_neg c1, Lt_b, if_pos b2, E_v_chance_j86.eq_def, Lt_b, kn_po (by omega)]
        rw [s1, s2]
        exact ih (a + 1) F _ (by omega)
  rw [E_w_chance.eq_def, Lt_b] at k1
  rw [E_v_chance.eq_def, Lt_b, Lt_b] at k2
  by_cases c : (0 : Int32).toInt ≤ x.toInt ∧ x.toInt ≤ (127 : Int32).toInt
  · rw [ifw_p c, Lt_b, E_w_odds.eq_def] at k1
    rw [ifi_p (by exact c)] at k2
    rw [show ((8 - (0 : Int32).toInt : Int).toNat + 1) = 1 + 7 + 1 from rfl] at k1 k2
    rw [k1, k2]
    exact go 7 0 1 _ (by omega)
  · rw [ifw_n c] at k1
    rw [ifi_n (by exact c)] at k2
    rw [k1, k2]
/-! compare: how a house's fire goes on under a law, hour by hour -/
noncomputable def sm (f : Nat → Nat) (k : Nat) : Nat := match k with
  | 0 => 0
  | k + 1 => sm f k + f k
theorem sm_add {f g : Nat → Nat} : ∀ k, sm (fun i => f i + g i) k = sm f k + sm g k := by
  intro k
  induction k with
  | zero => rfl
  | succ k ih =>
    show sm (fun i => f i + g i) k + (f k + g k) = sm f k + f k + (sm g k + g k)
    rw [ih]; omega
theorem sm_zero : ∀ k, sm (fun _ => 0) k = 0 := by
  intro k
  induction k with
  | zero => rfl
  | succ k ih => show sm (fun _ => 0) k + 0 = 0; rw [ih]
theorem sm_comm {f : Nat → Nat → Nat} {a : Nat} : ∀ b, sm (fun i => sm (fun k => f k i) a) b = sm (fun k => sm (fun i => f k i) b) a := by
  intro b
  induction b with
  | zero => exact (sm_zero a).symm
  | succ b ih =>
    show sm (fun i => sm (fun k => f k i) a) b + sm (fun k => f k b) a = sm (fun k => sm (fun i => f k i) b + f k b) a
    rw [ih, sm_add]
theorem sm_le {f : Nat → Nat} {c : Nat} (h : ∀ i, f i ≤ c) : ∀ k, sm f k ≤ c * k := by
  intro k
  induction k with
  | zero => exact Nat.le_refl _
  | succ k ih =>
    have := h k
    show sm f k + f k ≤ c * (k + 1)
    rw [Nat.mul_succ]; omega
noncomputable def RI (x : Int32) (w k : Nat) (v : Int64) (g : Nat → Int32) : Int32 := nI (RV x w k (-1) v g).toNat
theorem RI_at {w : Nat} (hw : w < 4) (x : Int32) (k : Nat) (v : Int64) (g : Nat → Int32) : (RI x w k v g).toInt = RV x w k (-1) v g ∧ 0 ≤ (RI x w k v g).toInt ∧ (RI x w k v g).toInt ≤ 999 := by
  obtain ⟨R, e1, e2, e3⟩ := RV_ex hw x k (-1) v g
  have e4 := (aF3_0 hw).2
  have e5 : RI x w k v g = R := Int32.toInt_inj.mp (by unfold RI; rw [← e1, nI_toInt (by omega)]; omega)
  rw [e5]
  exact ⟨e1, e2, by omega⟩
theorem rv_same {x lt : Int32} {w k : Nat} {v : Int64} {g g' cw : Nat → Int32} {fl : Nat → Option Nat} {G : Nat → LC} (hA : KAsk x lt fl G g k (-1)) (hB : KAsk x lt fl G g' k (-1)) (hw : w < 4) (hv : v.toInt = (aF 2 w).toInt) (hc : KWo cw g k (-1)) (hd : KWo cw g' k (-1)) : RI x w k v g = RI x w k v g' := by
  obtain ⟨a1, a2, a3, a4⟩ := hA
  obtain ⟨b1, b2, b3, b4⟩ := hB
  rcases ask_w a1 a2 hw hv a3 a4 hc (RI_at hw x k v g).1 with ⟨c1, c2⟩ | ⟨a, c1, c2⟩
  · rcases ask_w b1 b2 hw hv b3 b4 hd (RI_at hw x k v g').1 with ⟨d1, d2⟩ | ⟨b, d1, d2⟩
    · exact c2.symm.trans d2
    · rw [c1] at d1; cases d1
  · rcases ask_w b1 b2 hw hv b3 b4 hd (RI_at hw x k v g').1 with ⟨d1, d2⟩ | ⟨b, d1, d2⟩
    · rw [c1] at d1; cases d1
    · rw [c1] at d1
      have e : a = b := Option.some.inj d1
      subst e
      obtain ⟨p, q, e1⟩ := c2 0 (fun _ => 0)
      obtain ⟨p', q', e2⟩ := d2 0 (fun _ => 0)
      exact congrArg Prod.fst (e1.symm.trans e2)
/-- the row as house k sees it at hour i -/
noncomputable def hrow (fw : Nat → Int32) (hr i k : Nat) (v : Int32) : Nat → Int32 := upd (upd (upd fw 4 (nI ((hr + i) % 24))) 5 (fw 5 + nI ((hr + i) / 24))) (11 + k) v
theorem hrow_f {fw : Nat → Int32} {hr i k : Nat} {v : Int32} : hrow fw hr i k v (11 + k) = v := upd_s
theorem hrow_4 {fw : Nat → Int32} {hr i k : Nat} {v : Int32} : hrow fw hr i k v 4 = nI ((hr + i) % 24) := by
  unfold hrow; rw [upd_n (by omega), upd_n (by omega), upd_s]
theorem hrow_5 {fw : Nat → Int32} {hr i k : Nat} {v : Int32} : hrow fw hr i k v 5 = fw 5 + nI ((hr + i) / 24) := by
  unfold hrow; rw [upd_n (by omega), upd_s]
theorem hrow_o {fw : Nat → Int32} {hr i k j : Nat} {v : Int32} (h : j ≠ 4 ∧ j ≠ 5 ∧ j ≠ 11 + k) : hrow fw hr i k v j = fw j := by
  unfold hrow; rw [upd_n h.2.2, upd_n h.2.1, upd_n h.1]
noncomputable def cmA (x : Int32) (fw : Nat → Int32) (hr k i : Nat) (v : Int32) : Int32 := if fw 6 ≤ v then v else E_v_within_20 (v + RI x 1 k 4 (hrow fw hr i k v)).toInt64
noncomputable def cmB (x : Int32) (fw : Nat → Int32) (hr k i : Nat) (v : Int32) : Int32 := E_v_within_20 (cmA x fw hr k i v - RI x 0 k 1 (hrow fw hr i k (cmA x fw hr k i v))).toInt64
noncomputable def fir (x : Int32) (fw : Nat → Int32) (hr k : Nat) (i : Nat) : Int32 := match i with
  | 0 => fw (11 + k)
  | i + 1 => cmB x fw hr k i (fir x fw hr k i)
noncomputable def flr (x : Int32) (fw : Nat → Int32) (hr k i : Nat) : Nat := if fw 6 ≤ fir x fw hr k i then 0 else 1
theorem w20r (t : Int64) : 0 ≤ (E_v_within_20 t).toInt ∧ (E_v_within_20 t).toInt ≤ 20 := by
  rw [wi20]; exact kz_rng (by omega)
theorem cmA_r {x : Int32} {fw : Nat → Int32} {hr k i : Nat} {v : Int32} (hv : 0 ≤ v.toInt ∧ v.toInt ≤ 20) : 0 ≤ (cmA x fw hr k i v).toInt ∧ (cmA x fw hr k i v).toInt ≤ 20 := by
  unfold cmA
  split
  · exact hv
  · exact w20r _
theorem flr_le {x : Int32} {fw : Nat → Int32} {hr k i : Nat} : flr x fw hr k i ≤ 1 := by
  unfold flr
  split <;> omega
theorem TW.fir {n lt nf fi : Int32} {f1 f2 fw : Nat → Int32} {fl : Nat → Option Nat} {G : Nat → LC} (h : TW n lt nf fi f1 f2 fl G fw) {k : Nat} (hk : k < 8) {x : Int32} {hr : Nat} : ∀ i, 0 ≤ (fir x fw hr k i).toInt ∧ (fir x fw hr k i).toInt ≤ 20 := by
  intro i
  cases i with
  | zero => exact (h.1.2.2.2.2.2.2.2.2.2.2.2 k hk).1
  | succ i => exact w20r _
theorem TW.hask {n lt nf fi : Int32} {f1 f2 fw : Nat → Int32} {fl : Nat → Option Nat} {G : Nat → LC} (h : TW n lt nf fi f1 f2 fl G fw) {k : Nat} (hk : k < 8) {x : Int32} (hx : -1 ≤ x.toInt ∧ x.toInt < lt.toInt) {hr i : Nat} (h3 : hr ≤ 23) (hi : i ≤ 60) {v : Int32} (hv : 0 ≤ v.toInt ∧ v.toInt ≤ 20) : KAsk x lt fl G (hrow fw hr i k v) k (-1) := by
  have d5 := h.1.2.2.2.2.2.1
  have b := h.bw hk m1_rng
  refine ⟨hx, hk, h.2.2.2.2.2.1.ext (fun j h1 _ => hrow_o (by omega)), ?_⟩
  obtain ⟨b1, b2, b3, b4, b5, b6, b7, b8⟩ := b
  refine ⟨by rw [hrow_o (by omega)]; exact b1, by rw [hrow_o (by omega)]; exact b2, by rw [hrow_f]; exact ⟨by omega, by omega⟩, by rw [hrow_o (by omega)]; exact b4, ?_, ?_, by rw [hrow_o (by omega)]; exact b7, b8⟩
  · rw [hrow_4]
    have := nI_toInt (n := (hr + i) % 24) (by omega)
    exact ⟨by omega, by omega⟩
  · have e := nI_toInt (n := (hr + i) / 24) (by omega)
    rw [hrow_5]
    have e2 := i_add (Eq.refl (fw 5).toInt) e (by omega)
    exact ⟨by omega, by omega⟩
theorem TW.hface {n lt nf fi : Int32} {f1 f2 fw : Nat → Int32} {fl : Nat → Option Nat} {G : Nat → LC} (h : TW n lt nf fi f1 f2 fl G fw) {k hr : Nat} (hk : k < 8) (h3 : hr ≤ 23) (e4 : f2 0 = nI hr) {i : Nat} (hi : i ≤ 60) {v : Int32} {cw : Nat → Int32} : KWo (E_w_face (nI k) v (nI i) cw f1 f2) (hrow fw hr i k v) k (-1) := by
  obtain ⟨q0, q1, q2, q3, q4, q5, q6, q7, q8⟩ := face_at (h := k) (z := i) (hr := hr) (y := v) (cw := cw) (f1 := f1) (f2 := f2) hk (by omega) h3 e4
  obtain ⟨⟨t1, _, t3, _⟩, _, _, _, _, _, _, b7⟩ := h
  refine ⟨q0, q1.trans ((b7 k (by omega)).trans (hrow_o (by omega)).symm), q2.trans ((b7 _ (by omega)).trans ?_), q3.trans hrow_f.symm, q4.trans ((t3 k hk).2.1.trans (hrow_o (by omega)).symm), q5.trans hrow_4.symm, q6.trans ?_, q7.trans ((t1 5 (by omega)).trans (hrow_o (by omega)).symm), q8⟩
  · rw [hrow_o (by omega)]
    exact congrArg fw (by omega)
  · rw [hrow_5, t1 1 (by omega)]
theorem told_p {n lt nf fi : Int32} {f1 f2 fw : Nat → Int32} {fl : Nat → Option Nat} {G : Nat → LC} (h : TW n lt nf fi f1 f2 fl G fw) {k hr : Nat} (hk : k < 8) (h3 : hr ≤ 23) (e4 : f2 0 = nI hr) {x : Int32} (hx : -1 ≤ x.toInt ∧ x.toInt < lt.toInt) {a : Nat} (hL : E_w_lawAt x lt fl = some a) {i : Nat} (hi : i ≤ 60) {v : Int32} (hv : 0 ≤ v.toInt ∧ v.toInt ≤ 20) {w : Nat} (hw : w < 4) {q : Int64} (hq : q.toInt = (aF 2 w).toInt) (br : Int32) (fs cw : Nat → Int32) : ∃ (br' : Int32) (fs' : Nat → Int32), E_w_told (G a).1 (G a).2.1 (G a).2.2.1 (G a).2.2.2.1 (G a).2.2.2.2.1 (nI w) br fs (E_w_face (nI k) v (nI i) cw f1 f2) = (RI x w k q (hrow fw hr i k v), br', fs') := by
  obtain ⟨a1, a2, a3, a4⟩ := h.hask hk hx h3 hi hv
  rcases ask_w a1 a2 hw hq a3 a4 (h.hface hk h3 e4 hi) (RI_at hw x k q _).1 with ⟨c1, _⟩ | ⟨b, c1, c2⟩
  · rw [hL] at c1; cases c1
  · rw [hL] at c1
    have e : a = b := Option.some.inj c1
    subst e
    exact c2 br fs
theorem cb_in_p {n lt nf fi : Int32} {f1 f2 fw : Nat → Int32} {fl : Nat → Option Nat} {G : Nat → LC} (h : TW n lt nf fi f1 f2 fl G fw) {k hr : Nat} (hk : k < 8) (h3 : hr ≤ 23) (e4 : f2 0 = nI hr) {x : Int32} (hx : -1 ≤ x.toInt ∧ x.toInt < lt.toInt) {a : Nat} (hL : E_w_lawAt x lt fl = some a) {Y c0 : Nat} (hY : Y ≤ 60) (hc : c0 ≤ 600) (rc : Int32 → Int32 → Int32 → (Nat → Int32) → (Nat → Int32) → (Int32 × Int32 × (Nat → Int32) × (Nat → Int32))) (z : Int32 → Int32 → Int32 → Int32 → (Nat → Int32) → (Nat → Int32) → (Int32 × Int32 × (Nat → Int32) × (Nat → Int32))) : ∀ (d i F : Nat), i + d = Y → ∀ (br : Int32) (fs cw : Nat → Int32), ∃ (br' : Int32) (fs' cw' : Nat → Int32), Lp (E_w_coalBy_l27 (G a).1 (G a).2.1 (G a).2.2.1 (G a).2.2.2.1 (G a).2.2.2.2.1 (nI Y) f1 f2 (nI k) rc) z (F + d + 1) (nI i) (fir x fw hr k i) (nI (c0 + sm (flr x fw hr k) i)) br fs cw = rc (nI (k + 1)) (nI (c0 + sm (flr x fw hr k) Y)) br' fs' cw' := by
  intro d
  induction d with
  | zero =>
    intro i F hi br fs cw
    have : i = Y := by omega
    subst this
    refine ⟨br, fs, cw, ?_⟩
    rw [Nat.add_zero, Lp_s, E_w_coalBy_l27.eq_def, if_pos ((kn_le (by omega) (by omega)).mpr (Nat.le_refl _)), Lt_b, kn_po (by omega)]
  | succ d ih =>
    intro i F hi br fs cw
    have c1 : ¬ nI Y ≤ nI i := fun q => by have := (kn_le (by omega) (by omega)).mp q; omega
    have hv := h.fir hk (x := x) (hr := hr) i
    have hA := cmA_r (x := x) (fw := fw) (hr := hr) (k := k) (i := i) hv
    have r0 := (RI_at (w := 0) (by omega) x k 1 (hrow fw hr i k (cmA x fw hr k i (fir x fw hr k i)))).2
    have r1 := (RI_at (w := 1) (by omega) x k 4 (hrow fw hr i k (fir x fw hr k i))).2
    have s1 := sm_le (f := flr x fw hr k) (c := 1) (fun i => flr_le) i
    have e6 : f2 (2 : Int32).toNatClampNeg = fw 6 := h.1.1 2 (by omega)
    rw [show F + (d + 1) + 1 = F + d + 1 + 1 by omega, Lp_s, E_w_coalBy_l27.eq_def, if_neg c1, Lt_b, e6]
    by_cases g : fw 6 ≤ fir x fw hr k i
    · have eA : cmA x fw hr k i (fir x fw hr k i) = fir x fw hr k i := if_pos g
      have eF : flr x fw hr k i = 0 := if_pos g
      rw [eA] at hA r0
      have up : c0 + sm (flr x fw hr k) i = c0 + sm (flr x fw hr k) (i + 1) := by
        show _ = c0 + (sm (flr x fw hr k) i + flr x fw hr k i)
        rw [eF, Nat.add_zero]
      have fv : E_v_within_20 (fir x fw hr k i - RI x 0 k 1 (hrow fw hr i k (fir x fw hr k i))).toInt64 = fir x fw hr k (i + 1) := by
        show _ = cmB x fw hr k i (fir x fw hr k i)
        unfold cmB
        rw [eA]
      obtain ⟨br1, fs1, e0⟩ := told_p h hk h3 e4 hx hL (i := i) (by omega) hv (w := 0) (by omega) (q := 1) (by decide) br fs cw
      have e0 : E_w_told (G a).1 (G a).2.1 (G a).2.2.1 (G a).2.2.2.1 (G a).2.2.2.2.1 0 br fs (E_w_face (nI k) (fir x fw hr k i) (nI i) cw f1 f2) = _ := e0
      rw [if_pos g, E_w_coalBy_j80.eq_def, Lt_b, e0, Lt2_b, Lt2_b]
      dsimp only
      rw [Lt_b, cap0 hA ⟨by omega, by omega⟩ (by omega), Lt_b, Lt_b, kn_po (by omega), fv, up]
      exact ih (i + 1) F (by omega) _ _ _
    · have eA : cmA x fw hr k i (fir x fw hr k i) = E_v_within_20 (fir x fw hr k i + RI x 1 k 4 (hrow fw hr i k (fir x fw hr k i))).toInt64 := if_neg g
      have eF : flr x fw hr k i = 1 := if_neg g
      have up : c0 + sm (flr x fw hr k) i + 1 = c0 + sm (flr x fw hr k) (i + 1) := by
        show _ = c0 + (sm (flr x fw hr k) i + flr x fw hr k i)
        rw [eF, Nat.add_assoc]
      have fv : E_v_within_20 (cmA x fw hr k i (fir x fw hr k i) - RI x 0 k 1 (hrow fw hr i k (cmA x fw hr k i (fir x fw hr k i)))).toInt64 = fir x fw hr k (i + 1) := rfl
      obtain ⟨br1, fs1, e1⟩ := told_p h hk h3 e4 hx hL (i := i) (by omega) hv (w := 1) (by omega) (q := 4) (by decide) br fs cw
      have e1 : E_w_told (G a).1 (G a).2.1 (G a).2.2.1 (G a).2.2.2.1 (G a).2.2.2.2.1 1 br fs (E_w_face (nI k) (fir x fw hr k i) (nI i) cw f1 f2) = _ := e1
      rw [if_neg g, Lt_b, e1, Lt2_b, Lt2_b]
      dsimp only
      rw [Lt_b, cap20 ⟨by omega, by omega⟩ ⟨by omega, by omega⟩, ← eA, Lt_b, Lt_b, kn_po (by omega), up]
      obtain ⟨br2, fs2, e0⟩ := told_p h hk h3 e4 hx hL (i := i) (by omega) hA (w := 0) (by omega) (q := 1) (by decide) br1 fs1 (E_w_face (nI k) (fir x fw hr k i) (nI i) cw f1 f2)
      have e0 : E_w_told (G a).1 (G a).2.1 (G a).2.2.1 (G a).2.2.2.1 (G a).2.2.2.2.1 0 br1 fs1 (E_w_face (nI k) (cmA x fw hr k i (fir x fw hr k i)) (nI i) (E_w_face (nI k) (fir x fw hr k i) (nI i) cw f1 f2) f1 f2) = _ := e0
      rw [E_w_coalBy_j80.eq_def, Lt_b, e0, Lt2_b, Lt2_b]
      dsimp only
      rw [Lt_b, cap0 hA ⟨by omega, by omega⟩ (by omega), Lt_b, Lt_b, kn_po (by omega), fv]
      exact ih (i + 1) F (by omega) _ _ _
theorem cb_out_p {n lt nf fi : Int32} {f1 f2 fw : Nat → Int32} {fl : Nat → Option Nat} {G : Nat → LC} (h : TW n lt nf fi f1 f2 fl G fw) {hr N : Nat} (n8 : N ≤ 8) (e1 : n = nI N) (h3 : hr ≤ 23) (e4 : f2 0 = nI hr) {x : Int32} (hx : -1 ≤ x.toInt ∧ x.toInt < lt.toInt) {a : Nat} (hL : E_w_lawAt x lt fl = some a) {Y : Nat} (hY : Y ≤ 60) (z : Int32 → Int32 → Int32 → (Nat → Int32) → (Nat → Int32) → (Int32 × Int32 × (Nat → Int32) × (Nat → Int32))) : ∀ (d k F : Nat), k + d = N → ∀ (br : Int32) (fs cw : Nat → Int32), ∃ (br' : Int32) (fs' cw' : Nat → Int32), Lp (E_w_coalBy_l6 (G a).1 (G a).2.1 (G a).2.2.1 (G a).2.2.2.1 (G a).2.2.2.2.1 (nI Y) n f1 f2) z (F + d + 1) (nI k) (nI (sm (fun k => sm (flr x fw hr k) Y) k)) br fs cw = (nI (sm (fun k => sm (flr x fw hr k) Y) N), br', fs', cw') := by
  intro d
  induction d with
  | zero =>
    intro k F hk br fs cw
    have : k = N := by omega
    subst this
    refine ⟨br, fs, cw, ?_⟩
    rw [Nat.add_zero, Lp_s, E_w_coalBy_l6.eq_def, e1, if_pos ((kn_le (by omega) (by omega)).mpr (Nat.le_refl _))]
  | succ d ih =>
    intro k F hk br fs cw
    have c1 : ¬ nI N ≤ nI k := fun q => by have := (kn_le (by omega) (by omega)).mp q; omega
    have k8 : k < 8 := by omega
    have s2 := sm_le (f := fun k => sm (flr x fw hr k) Y) (c := 60) (fun k => by have := sm_le (f := flr x fw hr k) (c := 1) (fun i => flr_le) Y; omega) k
    rw [show F + (d + 1) + 1 = F + d + 1 + 1 by omega, Lp_s, E_w_coalBy_l6.eq_def, e1, if_neg c1, h.fire k8, Lt_b, show ((61 - (0 : Int32).toInt : Int).toNat + 1) = (61 - Y) + Y + 1 by rw [show (0 : Int32).toInt = 0 from rfl]; omega]
    have q := cb_in_p h k8 h3 e4 hx hL (c0 := sm (fun k => sm (flr x fw hr k) Y) k) hY (by omega) (Lp (E_w_coalBy_l6 (G a).1 (G a).2.1 (G a).2.2.1 (G a).2.2.2.1 (G a).2.2.2.2.1 (nI Y) n f1 f2) z (F + d + 1)) (fun _ _ _ _ _ _ => (0, 0, fun _ => 0, fun _ => 0)) Y 0 (61 - Y) (by omega) br fs cw
    obtain ⟨br1, fs1, cw1, q⟩ := q
    rw [← e1]
    exact (q.trans (Eq.refl _)) ▸ ih (k + 1) F (by omega) br1 fs1 cw1
theorem told_q {n lt nf fi : Int32} {f1 f2 fw : Nat → Int32} {fl : Nat → Option Nat} {G : Nat → LC} (h : TW n lt nf fi f1 f2 fl G fw) {k hr : Nat} (hk : k < 8) (h3 : hr ≤ 23) (e4 : f2 0 = nI hr) {x : Int32} (hx : -1 ≤ x.toInt ∧ x.toInt < lt.toInt) (hL : E_w_lawAt x lt fl = none) {i : Nat} (hi : i ≤ 60) {v : Int32} (hv : 0 ≤ v.toInt ∧ v.toInt ≤ 20) {w : Nat} (hw : w < 4) {q : Int64} (hq : q.toInt = (aF 2 w).toInt) (br : Int32) (fs cw cw2 : Nat → Int32) : E_w_told_n (nI w) br fs cw2 = RI x w k q (hrow fw hr i k v) := by
  obtain ⟨a1, a2, a3, a4⟩ := h.hask hk hx h3 hi hv
  rcases ask_w a1 a2 hw hq a3 a4 (h.hface hk h3 e4 hi (cw := cw)) (RI_at hw x k q _).1 with ⟨_, c2⟩ | ⟨b, c1, c2⟩
  · rw [E_w_told_n.eq_def, Lt_b, kn_cl (by omega)]; exact c2
  · rw [hL] at c1; cases c1
theorem cb_in_n {n lt nf fi : Int32} {f1 f2 fw : Nat → Int32} {fl : Nat → Option Nat} {G : Nat → LC} (h : TW n lt nf fi f1 f2 fl G fw) {k hr : Nat} (hk : k < 8) (h3 : hr ≤ 23) (e4 : f2 0 = nI hr) {x : Int32} (hx : -1 ≤ x.toInt ∧ x.toInt < lt.toInt) {br : Int32} {fs : Nat → Int32} (hL : E_w_lawAt x lt fl = none) {Y c0 : Nat} (hY : Y ≤ 60) (hc : c0 ≤ 600) (rc : Int32 → Int32 → (Nat → Int32) → (Int32 × (Nat → Int32))) (z : Int32 → Int32 → Int32 → (Nat → Int32) → (Int32 × (Nat → Int32))) : ∀ (d i F : Nat), i + d = Y → ∀ (cw : Nat → Int32), ∃ (cw' : Nat → Int32), Lp (E_w_coalBy_n_l27 (nI Y) br fs f1 f2 (nI k) rc) z (F + d + 1) (nI i) (fir x fw hr k i) (nI (c0 + sm (flr x fw hr k) i)) cw = rc (nI (k + 1)) (nI (c0 + sm (flr x fw hr k) Y)) cw' := by
  intro d
  induction d with
  | zero =>
    intro i F hi cw
    have : i = Y := by omega
    subst this
    refine ⟨cw, ?_⟩
    rw [Nat.add_zero, Lp_s, E_w_coalBy_n_l27.eq_def, if_pos ((kn_le (by omega) (by omega)).mpr (Nat.le_refl _)), Lt_b, kn_po (by omega)]
  | succ d ih =>
    intro i F hi cw
    have c1 : ¬ nI Y ≤ nI i := fun q => by have := (kn_le (by omega) (by omega)).mp q; omega
    have hv := h.fir hk (x := x) (hr := hr) i
    have hA := cmA_r (x := x) (fw := fw) (hr := hr) (k := k) (i := i) hv
    have r0 := (RI_at (w := 0) (by omega) x k 1 (hrow fw hr i k (cmA x fw hr k i (fir x fw hr k i)))).2
    have r1 := (RI_at (w := 1) (by omega) x k 4 (hrow fw hr i k (fir x fw hr k i))).2
    have s1 := sm_le (f := flr x fw hr k) (c := 1) (fun i => flr_le) i
    have e6 : f2 (2 : Int32).toNatClampNeg = fw 6 := h.1.1 2 (by omega)
    rw [show F + (d + 1) + 1 = F + d + 1 + 1 by omega, Lp_s, E_w_coalBy_n_l27.eq_def, if_neg c1, Lt_b, e6]
    by_cases g : fw 6 ≤ fir x fw hr k i
    · have eA : cmA x fw hr k i (fir x fw hr k i) = fir x fw hr k i := if_pos g
      have eF : flr x fw hr k i = 0 := if_pos g
      rw [eA] at hA r0
      have up : c0 + sm (flr x fw hr k) i = c0 + sm (flr x fw hr k) (i + 1) := by
        show _ = c0 + (sm (flr x fw hr k) i + flr x fw hr k i)
        rw [eF, Nat.add_zero]
      have fv : E_v_within_20 (fir x fw hr k i - RI x 0 k 1 (hrow fw hr i k (fir x fw hr k i))).toInt64 = fir x fw hr k (i + 1) := by
        show _ = cmB x fw hr k i (fir x fw hr k i)
        unfold cmB
        rw [eA]
      have e0 := told_q h hk h3 e4 hx hL (i := i) (by omega) hv (w := 0) (by omega) (q := 1) (by decide) br fs cw (E_w_face (nI k) (fir x fw hr k i) (nI i) cw f1 f2)
      have e0 : E_w_told_n 0 br fs (E_w_face (nI k) (fir x fw hr k i) (nI i) cw f1 f2) = _ := e0
      rw [if_pos g, E_w_coalBy_n_j80.eq_def, Lt_b, e0, Lt_b, Lt_b, cap0 hA ⟨by omega, by omega⟩ (by omega), Lt_b, Lt_b, kn_po (by omega), fv, up]
      exact ih (i + 1) F (by omega) _
    · have eA : cmA x fw hr k i (fir x fw hr k i) = E_v_within_20 (fir x fw hr k i + RI x 1 k 4 (hrow fw hr i k (fir x fw hr k i))).toInt64 := if_neg g
      have eF : flr x fw hr k i = 1 := if_neg g
      have up : c0 + sm (flr x fw hr k) i + 1 = c0 + sm (flr x fw hr k) (i + 1) := by
        show _ = c0 + (sm (flr x fw hr k) i + flr x fw hr k i)
        rw [eF, Nat.add_assoc]
      have fv : E_v_within_20 (cmA x fw hr k i (fir x fw hr k i) - RI x 0 k 1 (hrow fw hr i k (cmA x fw hr k i (fir x fw hr k i)))).toInt64 = fir x fw hr k (i + 1) := rfl
      have e1 := told_q h hk h3 e4 hx hL (i := i) (by omega) hv (w := 1) (by omega) (q := 4) (by decide) br fs cw (E_w_face (nI k) (fir x fw hr k i) (nI i) cw f1 f2)
      have e1 : E_w_told_n 1 br fs (E_w_face (nI k) (fir x fw hr k i) (nI i) cw f1 f2) = _ := e1
      rw [if_neg g, Lt_b, e1, Lt_b, Lt_b, cap20 ⟨by omega, by omega⟩ ⟨by omega, by omega⟩, ← eA, Lt_b, Lt_b, kn_po (by omega), up]
      have e0 := told_q h hk h3 e4 hx hL (i := i) (by omega) hA (w := 0) (by omega) (q := 1) (by decide) br fs cw (E_w_face (nI k) (cmA x fw hr k i (fir x fw hr k i)) (nI i) (E_w_face (nI k) (fir x fw hr k i) (nI i) cw f1 f2) f1 f2)
      have e0 : E_w_told_n 0 br fs (E_w_face (nI k) (cmA x fw hr k i (fir x fw hr k i)) (nI i) (E_w_face (nI k) (fir x fw hr k i) (nI i) cw f1 f2) f1 f2) = _ := e0
      rw [E_w_coalBy_n_j80.eq_def, Lt_b, e0, Lt_b, Lt_b, cap0 hA ⟨by omega, by omega⟩ (by omega), Lt_b, Lt_b, kn_po (by omega), fv]
      exact ih (i + 1) F (by omega) _
theorem cb_out_n {n lt nf fi : Int32} {f1 f2 fw : Nat → Int32} {fl : Nat → Option Nat} {G : Nat → LC} (h : TW n lt nf fi f1 f2 fl G fw) {hr N : Nat} (n8 : N ≤ 8) (e1 : n = nI N) (h3 : hr ≤ 23) (e4 : f2 0 = nI hr) {x : Int32} (hx : -1 ≤ x.toInt ∧ x.toInt < lt.toInt) {br : Int32} {fs : Nat → Int32} (hL : E_w_lawAt x lt fl = none) {Y : Nat} (hY : Y ≤ 60) (z : Int32 → Int32 → (Nat → Int32) → (Int32 × (Nat → Int32))) : ∀ (d k F : Nat), k + d = N → ∀ (cw : Nat → Int32), ∃ (cw' : Nat → Int32), Lp (E_w_coalBy_n_l6 (nI Y) br fs n f1 f2) z (F + d + 1) (nI k) (nI (sm (fun k => sm (flr x fw hr k) Y) k)) cw = (nI (sm (fun k => sm (flr x fw hr k) Y) N), cw') := by
  intro d
  induction d with
  | zero =>
    intro k F hk cw
    have : k = N := by omega
    subst this
    refine ⟨cw, ?_⟩
    rw [Nat.add_zero, Lp_s, E_w_coalBy_n_l6.eq_def, e1, if_pos ((kn_le (by omega) (by omega)).mpr (Nat.le_refl _))]
  | succ d ih =>
    intro k F hk cw
    have c1 : ¬ nI N ≤ nI k := fun q => by have := (kn_le (by omega) (by omega)).mp q; omega
    have k8 : k < 8 := by omega
    have s2 := sm_le (f := fun k => sm (flr x fw hr k) Y) (c := 60) (fun k => by have := sm_le (f := flr x fw hr k) (c := 1) (fun i => flr_le) Y; omega) k
    rw [show F + (d + 1) + 1 = F + d + 1 + 1 by omega, Lp_s, E_w_coalBy_n_l6.eq_def, e1, if_neg c1, h.fire k8, Lt_b, show ((61 - (0 : Int32).toInt : Int).toNat + 1) = (61 - Y) + Y + 1 by rw [show (0 : Int32).toInt = 0 from rfl]; omega]
    have q := cb_in_n (br := br) (fs := fs) h k8 h3 e4 hx hL (c0 := sm (fun k => sm (flr x fw hr k) Y) k) hY (by omega) (Lp (E_w_coalBy_n_l6 (nI Y) br fs n f1 f2) z (F + d + 1)) (fun _ _ _ _ => (0, fun _ => 0)) Y 0 (61 - Y) (by omega) cw
    obtain ⟨cw1, q⟩ := q
    rw [← e1]
    exact (q.trans (Eq.refl _)) ▸ ih (k + 1) F (by omega) cw1
/-! the reference: hour by hour -/
noncomputable def GB (fw : Nat → Int32) (hr i N : Nat) (g : Nat → Int32) : Prop := g 4 = nI ((hr + i) % 24) ∧ g 5 = fw 5 + nI ((hr + i) / 24) ∧ ∀ j, j ≠ 4 → j ≠ 5 → ¬ (11 ≤ j ∧ j < 11 + N) → g j = fw j
theorem GB.up {fw g : Nat → Int32} {hr i N a : Nat} {v : Int32} (b : GB fw hr i N g) (ha : a < N) : GB fw hr i N (upd g (11 + a) v) := by
  obtain ⟨b1, b2, b3⟩ := b
  exact ⟨by rw [upd_n (by omega)]; exact b1, by rw [upd_n (by omega)]; exact b2, fun j h1 h2 h4 => by rw [upd_n (by omega)]; exact b3 j h1 h2 h4⟩
theorem GB.ask {n lt nf fi : Int32} {f1 f2 fw : Nat → Int32} {fl : Nat → Option Nat} {G : Nat → LC} (h : TW n lt nf fi f1 f2 fl G fw) {g : Nat → Int32} {hr i N k : Nat} (b : GB fw hr i N g) (n8 : N ≤ 8) (hk : k < N) {x : Int32} (hx : -1 ≤ x.toInt ∧ x.toInt < lt.toInt) (h3 : hr ≤ 23) (hi : i ≤ 60) (hv : 0 ≤ (g (11 + k)).toInt ∧ (g (11 + k)).toInt ≤ 20) : KAsk x lt fl G g k (-1) := by
  have d5 := h.1.2.2.2.2.2.1
  have w := h.bw (show k < 8 by omega) m1_rng
  obtain ⟨g1, g2, g3⟩ := b
  refine ⟨hx, by omega, h.2.2.2.2.2.1.ext (fun j h1 _ => g3 j (by omega) (by omega) (by omega)), ?_⟩
  obtain ⟨b1, b2, b3, b4, b5, b6, b7, b8⟩ := w
  refine ⟨by rw [g3 _ (by omega) (by omega) (by omega)]; exact b1, by rw [g3 _ (by omega) (by omega) (by omega)]; exact b2, ⟨by omega, by omega⟩, by rw [g3 _ (by omega) (by omega) (by omega)]; exact b4, ?_, ?_, by rw [g3 _ (by omega) (by omega) (by omega)]; exact b7, b8⟩
  · rw [g1]
    have := nI_toInt (n := (hr + i) % 24) (by omega)
    exact ⟨by omega, by omega⟩
  · have e := nI_toInt (n := (hr + i) / 24) (by omega)
    rw [g2]
    have e2 := i_add (Eq.refl (fw 5).toInt) e (by omega)
    exact ⟨by omega, by omega⟩
theorem GB.same {n lt nf fi : Int32} {f1 f2 fw : Nat → Int32} {fl : Nat → Option Nat} {G : Nat → LC} (h : TW n lt nf fi f1 f2 fl G fw) {g : Nat → Int32} {hr i N k : Nat} (b : GB fw hr i N g) (n8 : N ≤ 8) (hk : k < N) {x : Int32} (hx : -1 ≤ x.toInt ∧ x.toInt < lt.toInt) (h3 : hr ≤ 23) (hi : i ≤ 60) (hv : 0 ≤ (g (11 + k)).toInt ∧ (g (11 + k)).toInt ≤ 20) {w : Nat} (hw : w < 4) {q : Int64} (hq : q.toInt = (aF 2 w).toInt) : RI x w k q g = RI x w k q (hrow fw hr i k (g (11 + k))) := by
  refine rv_same (b.ask h n8 hk hx h3 hi hv) (h.hask (by omega) hx h3 hi hv) hw hq (cwo_at (fw := g) (h := k) (o := -1)) ?_
  obtain ⟨g1, g2, g3⟩ := b
  refine ⟨rfl, ?_, ?_, hrow_f.symm, ?_, ?_, ?_, ?_, rfl⟩
  · rw [hrow_o (by omega)]; exact g3 _ (by omega) (by omega) (by omega)
  · rw [hrow_o (by omega)]; exact g3 _ (by omega) (by omega) (by omega)
  · rw [hrow_o (by omega)]; exact g3 _ (by omega) (by omega) (by omega)
  · rw [hrow_4]; exact g1
  · rw [hrow_5]; exact g2
  · rw [hrow_o (by omega)]; exact g3 _ (by omega) (by omega) (by omega)
theorem GB.on {fw g : Nat → Int32} {hr i N : Nat} (b : GB fw hr i N g) (d5 : 0 ≤ (fw 5).toInt ∧ (fw 5).toInt ≤ 999) (hi : hr ≤ 23 ∧ i ≤ 60) : GB fw hr (i + 1) N (E_v_goOn g) ∧ ∀ k, E_v_goOn g (11 + k) = g (11 + k) := by
  obtain ⟨b1, b2, b3⟩ := b
  obtain ⟨q1, q2, q3⟩ := goOn_at (hr := (hr + i) % 24) (by omega) b1
  refine ⟨⟨?_, ?_, fun j h1 h2 h4 => (q3 j h1 h2).trans (b3 j h1 h2 h4)⟩, fun k => q3 _ (by omega) (by omega)⟩
  · rw [q1]
    by_cases c : (hr + i) % 24 = 23
    · rw [if_pos c, show (hr + (i + 1)) % 24 = 0 by omega]; rfl
    · rw [if_neg c, show (hr + (i + 1)) % 24 = (hr + i) % 24 + 1 by omega]
  · rw [q2]
    have e := nI_toInt (n := (hr + i) / 24) (by omega)
    have e2 := i_add (Eq.refl (fw 5).toInt) e (by omega)
    by_cases c : (hr + i) % 24 = 23
    · rw [if_pos c, b2, show (hr + (i + 1)) / 24 = (hr + i) / 24 + 1 by omega]
      have e3 := nI_toInt (n := (hr + i) / 24 + 1) (by omega)
      have e4 := i_add (Eq.refl (fw 5).toInt) e3 (by omega)
      have e5 := i_add e2 (show (1 : Int32).toInt = 1 from rfl) (by omega)
      exact Int32.toInt_inj.mp (by rw [e5, e4]; omega)
    · rw [if_neg c, b2, show (hr + (i + 1)) / 24 = (hr + i) / 24 by omega]
theorem ref_86 {n lt nf fi : Int32} {f1 f2 fw : Nat → Int32} {fl : Nat → Option Nat} {G : Nat → LC} (h : TW n lt nf fi f1 f2 fl G fw) {g : Nat → Int32} {hr i N k : Nat} (b : GB fw hr i N g) (n8 : N ≤ 8) (hk : k < N) {x : Int32} (hx : -1 ≤ x.toInt ∧ x.toInt < lt.toInt) (h3 : hr ≤ 23) (hi : i ≤ 60) (hv : 0 ≤ (g (11 + k)).toInt ∧ (g (11 + k)).toInt ≤ 20) (rc : CPr) (m lw bro : Int32) (val sm : Int64) (fe frs : Nat → Int64) : ∃ (lw' bro' : Int32) (val' sm' : Int64) (fe' frs' : Nat → Int64), E_v_compare_j86 x (nI k) rc m lw bro val sm fe frs g = rc (nI (k + 1)) m lw' bro' val' sm' fe' frs' (upd g (11 + k) (E_v_within_20 (g (11 + k) - RI x 0 k 1 (hrow fw hr i k (g (11 + k)))).toInt64)) := by
  have hA := b.ask h n8 hk hx h3 hi hv
  obtain ⟨lw', bro', val', sm', fe', frs', e⟩ := burnsOf_at hA (RI_at (w := 0) (by omega) x k 1 g).1 lw bro val sm fe frs
  refine ⟨lw', bro', val', sm', fe', frs', ?_⟩
  rw [E_v_compare_j86.eq_def, n_ladd (m := 11) rfl (by omega), Lt_b, Lt_b, Lt_b, e, Lt2_b, Lt2_b, Lt2_b, Lt2_b, Lt2_b, Lt2_b, Lt_b, Lt_b, Lt_b, Lt_b, Lt_b, kn_cl (by omega), kn_po (by omega), b.same h n8 hk hx h3 hi hv (by omega) (by decide)]
theorem cv_in {n lt nf fi : Int32} {f1 f2 fw : Nat → Int32} {fl : Nat → Option Nat} {G : Nat → LC} (h : TW n lt nf fi f1 f2 fl G fw) {hr i N : Nat} (n8 : N ≤ 8) (e0 : fw 0 = nI N) {x : Int32} (hx : -1 ≤ x.toInt ∧ x.toInt < lt.toInt) (h3 : hr ≤ 23) (hi : i ≤ 60) {c0 : Nat} (hc : c0 ≤ 600) (rc z : CPr) : ∀ (d a F : Nat), a + d = N → ∀ (lw bro : Int32) (val sm' : Int64) (fe frs : Nat → Int64) (g : Nat → Int32), GB fw hr i N g → (∀ k, k < a → g (11 + k) = fir x fw hr k (i + 1)) → (∀ k, a ≤ k → k < N → g (11 + k) = fir x fw hr k i) → ∃ (lw' bro' : Int32) (val' sm2 : Int64) (fe' frs' : Nat → Int64) (g' : Nat → Int32), (GB fw hr i N g' ∧ ∀ k, k < N → g' (11 + k) = fir x fw hr k (i + 1)) ∧ Lp (E_v_compare_l47 x (nI i) rc) z (F + d + 1) (nI a) (nI (c0 + sm (fun k => flr x fw hr k i) a)) lw bro val sm' fe frs g = rc (nI (i + 1)) (nI (c0 + sm (fun k => flr x fw hr k i) N)) lw' bro' val' sm2 fe' frs' (E_v_goOn g') := by
  intro d
  induction d with
  | zero =>
    intro a F ha lw bro val sm' fe frs g b f1 f2
    have : a = N := by omega
    subst this
    refine ⟨lw, bro, val, sm', fe, frs, g, ⟨b, f1⟩, ?_⟩
    rw [Nat.add_zero, Lp_s, E_v_compare_l47.eq_def, Lt_b, show g (0 : Int32).toNatClampNeg = nI a from (b.2.2 0 (by omega) (by omega) (by omega)).trans e0, if_pos ((kn_le (by omega) (by omega)).mpr (Nat.le_refl _)), Lt_b, Lt_b, kn_po (by omega)]
  | succ d ih =>
    intro a F ha lw bro val sm' fe frs g b f1 f2
    have c1 : ¬ nI N ≤ nI a := fun q => by have := (kn_le (by omega) (by omega)).mp q; omega
    have eg : g (11 + a) = fir x fw hr a i := f2 a (Nat.le_refl _) (by omega)
    have hv := h.fir (show a < 8 by omega) (x := x) (hr := hr) i
    have s1 := sm_le (f := fun k => flr x fw hr k i) (c := 1) (fun k => flr_le) a
    have hvg : 0 ≤ (g (11 + a)).toInt ∧ (g (11 + a)).toInt ≤ 20 := by rw [eg]; exact hv
    rw [show F + (d + 1) + 1 = F + d + 1 + 1 by omega, Lp_s, E_v_compare_l47.eq_def, Lt_b, show g (0 : Int32).toNatClampNeg = nI N from (b.2.2 0 (by omega) (by omega) (by omega)).trans e0, if_neg c1, n_ladd (m := 11) rfl (by omega), Lt_b, Lt_b, Lt_b, kn_cl (by omega), show E_v_term 2 g = fw 6 from b.2.2 6 (by omega) (by omega) (by omega)]
    by_cases c : fw 6 ≤ g (11 + a)
    · have eF : flr x fw hr a i = 0 := if_pos (by rw [← eg]; exact c)
      have up : c0 + sm (fun k => flr x fw hr k i) a = c0 + sm (fun k => flr x fw hr k i) (a + 1) := by
        show _ = c0 + (sm (fun k => flr x fw hr k i) a + flr x fw hr a i)
        rw [eF, Nat.add_zero]
      obtain ⟨lw1, bro1, val1, sm1, fe1, frs1, e⟩ := ref_86 h b n8 (show a < N by omega) hx h3 hi hvg (Lp (E_v_compare_l47 x (nI i) rc) z (F + d + 1)) (nI (c0 + sm (fun k => flr x fw hr k i) a)) lw bro val sm' fe frs
      have nv : E_v_within_20 (g (11 + a) - RI x 0 a 1 (hrow fw hr i a (g (11 + a)))).toInt64 = fir x fw hr a (i + 1) := by
        rw [eg]
        show _ = cmB x fw hr a i (fir x fw hr a i)
        unfold cmB
        rw [show cmA x fw hr a i (fir x fw hr a i) = fir x fw hr a i from if_pos (by rw [← eg]; exact c)]
      rw [if_pos c, e, nv, up]
      exact ih (a + 1) F (by omega) lw1 bro1 val1 sm1 fe1 frs1 _ (b.up (by omega)) (fun k hk => by
        by_cases q : k = a
        · subst q; exact upd_s
        · rw [upd_n (by omega)]; exact f1 k (by omega)) (fun k hk hk2 => by rw [upd_n (by omega)]; exact f2 k (by omega) hk2)
    · have eF : flr x fw hr a i = 1 := if_neg (by rw [← eg]; exact c)
      have up : c0 + sm (fun k => flr x fw hr k i) a + 1 = c0 + sm (fun k => flr x fw hr k i) (a + 1) := by
        show _ = c0 + (sm (fun k => flr x fw hr k i) a + flr x fw hr a i)
        rw [eF, Nat.add_assoc]
      have hA := b.ask h n8 (show a < N by omega) hx h3 hi hvg
      obtain ⟨lw0, bro0, val0, sm0, fe0, frs0, e9⟩ := flare_at hA (RI_at (w := 1) (by omega) x a 4 g).1 lw bro val sm' fe frs
      have eA : E_v_within_20 (g (11 + a) + RI x 1 a 4 g).toInt64 = cmA x fw hr a i (fir x fw hr a i) := by
        rw [b.same h n8 (show a < N by omega) hx h3 hi hvg (by omega) (by decide), eg]
        exact (if_neg (by rw [← eg]; exact c)).symm
      rw [eA] at e9
      have hA2 := cmA_r (x := x) (fw := fw) (hr := hr) (k := a) (i := i) hv
      have b2 : GB fw hr i N (upd g (11 + a) (cmA x fw hr a i (fir x fw hr a i))) := b.up (by omega)
      obtain ⟨lw1, bro1, val1, sm1, fe1, frs1, e⟩ := ref_86 h b2 n8 (show a < N by omega) hx h3 hi (by rw [upd_s]; exact hA2) (Lp (E_v_compare_l47 x (nI i) rc) z (F + d + 1)) (nI (c0 + sm (fun k => flr x fw hr k i) (a + 1))) lw0 bro0 val0 sm0 fe0 frs0
      rw [upd_s] at e
      have nv : E_v_within_20 (cmA x fw hr a i (fir x fw hr a i) - RI x 0 a 1 (hrow fw hr i a (cmA x fw hr a i (fir x fw hr a i)))).toInt64 = fir x fw hr a (i + 1) := rfl
      rw [nv] at e
      rw [if_neg c, e9, Lt2_b, Lt2_b, Lt2_b, Lt2_b, Lt2_b, Lt2_b, Lt_b, kn_po (by omega), up]
      dsimp only
      rw [e]
      exact ih (a + 1) F (by omega) lw1 bro1 val1 sm1 fe1 frs1 _ (b2.up (by omega)) (fun k hk => by
        by_cases q : k = a
        · subst q; exact upd_s
        · rw [upd_n (by omega), upd_n (by omega)]; exact f1 k (by omega)) (fun k hk hk2 => by rw [upd_n (by omega), upd_n (by omega)]; exact f2 k (by omega) hk2)
theorem cv_out {n lt nf fi : Int32} {f1 f2 fw : Nat → Int32} {fl : Nat → Option Nat} {G : Nat → LC} (h : TW n lt nf fi f1 f2 fl G fw) {hr N Y : Nat} (n8 : N ≤ 8) (e0 : fw 0 = nI N) {x : Int32} (hx : -1 ≤ x.toInt ∧ x.toInt < lt.toInt) (h3 : hr ≤ 23) (hY : Y ≤ 60) (u : Nat → Int32) (z : CPr) : ∀ (d i F : Nat), i + d = Y → ∀ (lw bro : Int32) (val sm' : Int64) (fe frs : Nat → Int64) (g : Nat → Int32), GB fw hr i N g → (∀ k, k < N → g (11 + k) = fir x fw hr k i) → (Lp (E_v_compare_l38 x (nI Y) u) z (F + d + 1) (nI i) (nI (sm (fun i => sm (fun k => flr x fw hr k i) N) i)) lw bro val sm' fe frs g).1 = nI (sm (fun i => sm (fun k => flr x fw hr k i) N) Y) := by
  intro d
  induction d with
  | zero =>
    intro i F hi lw bro val sm' fe frs g b f
    have : i = Y := by omega
    subst this
    rw [Nat.add_zero, Lp_s, E_v_compare_l38.eq_def, if_pos ((kn_le (by omega) (by omega)).mpr (Nat.le_refl _)), Lt_b]
  | succ d ih =>
    intro i F hi lw bro val sm' fe frs g b f
    have c1 : ¬ nI Y ≤ nI i := fun q => by have := (kn_le (by omega) (by omega)).mp q; omega
    have s2 := sm_le (f := fun i => sm (fun k => flr x fw hr k i) N) (c := 8) (fun i => by have := sm_le (f := fun k => flr x fw hr k i) (c := 1) (fun k => flr_le) N; omega) i
    obtain ⟨lw1, bro1, val1, sm1, fe1, frs1, g1, ⟨b1, p1⟩, e⟩ := cv_in h n8 e0 hx h3 (show i ≤ 60 by omega) (c0 := sm (fun i => sm (fun k => flr x fw hr k i) N) i) (by omega) (Lp (E_v_compare_l38 x (nI Y) u) z (F + d + 1)) (fun _ _ _ _ _ _ _ _ _ => (0, 0, 0, 0, 0, fun _ => 0, fun _ => 0, fun _ => 0, fun _ => 0)) N 0 (9 - N) (by omega) lw bro val sm' fe frs g b (fun k hk => absurd hk (Nat.not_lt_zero _)) (fun k _ hk => f k hk)
    obtain ⟨b2, p2⟩ := b1.on h.1.2.2.2.2.2.1 ⟨h3, by omega⟩
    rw [show F + (d + 1) + 1 = F + d + 1 + 1 by omega, Lp_s, E_v_compare_l38.eq_def, if_neg c1, show ((9 - (0 : Int32).toInt : Int).toNat + 1) = 9 - N + N + 1 by rw [show (0 : Int32).toInt = 0 from rfl]; omega]
    have e2 := congrArg Prod.fst e
    exact e2.trans (ih (i + 1) F (by omega) lw1 bro1 val1 sm1 fe1 frs1 _ b2 (fun k hk => (p2 k).trans (p1 k hk)))
theorem rel_compare {x y n lt nf fi br lw bro thr : Int32} {val sm' : Int64} {f1 f2 f3 fw fs cw fu : Nat → Int32} {fe frs : Nat → Int64} {fl : Nat → Option Nat} {G : Nat → LC} {r1 br' r2 lw' bro' : Int32} {val' sm2 : Int64} {fs' cw' fw' fu' : Nat → Int32} {fe' frs' : Nat → Int64} (k1 : (r1, br', fs', cw') = E_w_compare G x y br fs cw n lt nf fi f1 f2 f3 fl) (k2 : (r2, lw', bro', val', sm2, fw', fe', frs', fu') = E_v_compare x y thr lw bro val sm' fw fe frs fu) (h : TW n lt nf fi f1 f2 fl G fw) : r1 = r2 := by
  obtain ⟨N, n8, e1, e2, _⟩ := h.nN
  obtain ⟨hr, h3, w4, e4⟩ := h.hour
  have hl := h.2.2.2.2.2.1.1
  have a1 := congrArg Prod.fst k1
  have a2 := congrArg Prod.fst k2
  dsimp only at a1 a2
  rw [a1, a2, E_v_compare.eq_def, Lt_b, isLaw_at h.2.1 hl]
  have sb : (lt - 1).toInt = lt.toInt - 1 := i_sub (Eq.refl lt.toInt) (show (1 : Int32).toInt = 1 from rfl) (by omega)
  have zm : (-1 : Int32).toInt = -1 := rfl
  rw [E_w_compare.eq_def, Lt_b, Lt_b]
  by_cases hx : -1 ≤ x.toInt ∧ x.toInt < lt.toInt
  · rw [ifw_p (by omega), if_pos hx, if_pos rfl, Lt_b, Lt_b, Lt_b, Lt_b]
    by_cases c2 : (1 : Int32).toInt ≤ y.toInt ∧ y.toInt ≤ (60 : Int32).toInt
    · have c3 : 1 ≤ y.toInt ∧ y.toInt ≤ 60 := c2
      obtain ⟨Y, eY, yY⟩ : ∃ Y : Nat, y = nI Y ∧ Y ≤ 60 := ⟨y.toInt.toNat, i_ofN rfl (by omega), by omega⟩
      rw [ifw_p c2, ifi_p (by exact c2), Lt_b, eY]
      have b0 : GB fw hr 0 N fw := ⟨by rw [w4, show (hr + 0) % 24 = hr by omega], Int32.toInt_inj.mp (by
        have d5 := h.1.2.2.2.2.2.1
        rw [show (hr + 0) / 24 = 0 by omega, i_add (Eq.refl (fw 5).toInt) (show (nI 0).toInt = 0 from rfl) (by omega), Int.add_zero]), fun _ _ _ _ => rfl⟩
      have q2 := cv_out h n8 e2 hx h3 yY (E_v_keepAll 16 fw fu) (fun _ _ _ _ _ _ _ _ _ => ((0, 0, 0, 0, 0, fun _ => 0, fun _ => 0, fun _ => 0, fun _ => 0) : CP9)) Y 0 (61 - Y) (by omega) lw bro val sm' fe frs fw b0 (fun k hk => rfl)
      rw [sm_comm Y] at q2
      have eN : ((9 - (0 : Int32).toInt : Int).toNat + 1) = 9 - N + N + 1 := by rw [show (0 : Int32).toInt = 0 from rfl]; omega
      have eM : ((61 - (0 : Int32).toInt : Int).toNat + 1) = 61 - Y + Y + 1 := by rw [show (0 : Int32).toInt = 0 from rfl]; omega
      rw [eM]
      refine Eq.trans ?_ q2.symm
      cases hL : E_w_lawAt x lt fl with
      | none =>
        rw [Oc_n, Lt2_b, E_w_coalBy_n.eq_def, eN]
        obtain ⟨cw1, q1⟩ := cb_out_n h n8 e1 h3 e4 hx (br := br) (fs := fs) hL yY (fun _ _ _ => ((0, fun _ => 0) : Int32 × (Nat → Int32))) N 0 (9 - N) (by omega) cw
        exact congrArg Prod.fst q1
      | some a =>
        rw [Oc_s, Lt2_b, Lt2_b, Lt2_b, E_w_coalBy.eq_def, eN]
        obtain ⟨br1, fs1, cw1, q1⟩ := cb_out_p h n8 e1 h3 e4 hx hL yY (fun _ _ _ _ _ => ((0, 0, fun _ => 0, fun _ => 0) : Int32 × Int32 × (Nat → Int32) × (Nat → Int32))) N 0 (9 - N) (by omega) br fs cw
        exact congrArg Prod.fst q1
    · rw [ifw_n c2, ifi_n (by exact c2)]; rfl
  · rw [ifw_n (by omega), if_neg hx, if_neg (by decide)]; rfl
