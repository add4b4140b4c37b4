/-! what orders are asked with -/
noncomputable def cso (fw : Nat → Int32) (x : Nat) (k : Nat) : Int32 := match k with
  | 0 => 0
  | k + 1 => if fw (35 + k) = nI x ∧ ¬ E_v_isSounding (nI k) fw = 0 then cso fw x k + 1 else cso fw x k
theorem cso_b {fw : Nat → Int32} {x : Nat} : ∀ k, k ≤ 1000 → 0 ≤ (cso fw x k).toInt ∧ (cso fw x k).toInt ≤ (k : Int) := by
  intro k
  induction k with
  | zero => intro _; exact ⟨by show (0 : Int) ≤ (0 : Int32).toInt; decide, by show (0 : Int32).toInt ≤ _; decide⟩
  | succ k ih =>
    intro hk
    have q := ih (by omega)
    show 0 ≤ (if fw (35 + k) = nI x ∧ ¬ E_v_isSounding (nI k) fw = 0 then cso fw x k + 1 else cso fw x k).toInt ∧ _
    show _ ∧ (if fw (35 + k) = nI x ∧ ¬ E_v_isSounding (nI k) fw = 0 then cso fw x k + 1 else cso fw x k).toInt ≤ _
    by_cases c : fw (35 + k) = nI x ∧ ¬ E_v_isSounding (nI k) fw = 0
    · rw [if_pos c, i_add (Eq.refl (cso fw x k).toInt) (show (1 : Int32).toInt = 1 from rfl) (by omega)]; omega
    · rw [if_neg c]; omega
theorem soundWith_at {fw : Nat → Int32} {N x : Nat} (hN : N ≤ 8) (e2 : fw 0 = nI N) : E_v_soundWith (nI x) fw = cso fw x N := by
  have go : ∀ d a F, a + d = N → Lp (α := Int32 → Int32 → (Int32)) (E_v_soundWith_l4 (nI x) fw) (fun _ _ => ((0) : Int32)) (F + d + 1) (nI a) (cso fw x a) = cso fw x N := by
    intro d
    induction d with
    | zero =>
      intro a F ha
      have : a = N := by omega
      subst this
      rw [Lp_s, E_v_soundWith_l4.eq_def, Lt_b, show fw (0 : Int32).toNatClampNeg = nI a from e2, if_pos ((kn_le (by omega) (by omega)).mpr (Nat.le_refl _))]
    | succ d ih =>
      intro a F ha
      have c1 : ¬ nI N ≤ nI a := fun q => by have := (kn_le (by omega) (by omega)).mp q; omega
      have z0 : ∀ v : Int32, v + 0 = v := fun v => Int32.add_zero v
      have q := ih (a + 1) F (by omega)
      rw [show F + (d + 1) + 1 = F + d + 1 + 1 by omega, Lp_s, E_v_soundWith_l4.eq_def, Lt_b, show fw (0 : Int32).toNatClampNeg = nI N from e2, if_neg c1, n_ladd (m := 35) rfl (by omega), Lt_b, Lt_b, kn_cl (by omega)]
      by_cases c : fw (35 + a) = nI x
      · rw [if_pos c, Lt_b]
        by_cases s : E_v_isSounding (nI a) fw = 0
        · rw [if_pos s, Lt_b, Lt_b, kn_po (by omega), z0]
          rw [show cso fw x (a + 1) = cso fw x a from if_neg (fun h => h.2 s)] at q
          exact q
        · rw [if_neg s, Lt_b, Lt_b, kn_po (by omega)]
          rw [show cso fw x (a + 1) = cso fw x a + 1 from if_pos ⟨c, s⟩] at q
          exact q
      · rw [if_neg c, Lt_b, Lt_b, kn_po (by omega), z0]
        rw [show cso fw x (a + 1) = cso fw x a from if_neg (fun h => c h.1)] at q
        exact q
  rw [E_v_soundWith.eq_def, show ((9 - (0 : Int32).toInt : Int).toNat + 1) = 9 - N + N + 1 by rw [show (0 : Int32).toInt = 0 from rfl]; omega]
  exact go N 0 (9 - N) (by omega)
theorem look_in {n lt nf fi : Int32} {f1 f2 fw : Nat → Int32} {fl : Nat → Option Nat} {G : Nat → LC} (h : TW n lt nf fi f1 f2 fl G fw) {N : Nat} (hN : N ≤ 8) (eN : (N : Int) = n.toInt) (z : Int32 → (Nat → Int32) → (Nat → Int32)) : ∀ (d a F : Nat), a + d = 8 → ∀ f : Nat → Int32, (∀ x, x < 7 → f (21 + x) = cso fw x (min a N)) → (∀ i, a ≤ i → i < 8 → (Lp (α := Int32 → (Nat → Int32) → ((Nat → Int32))) (E_w_look_l80 n f1 f2) z (F + d + 1) (nI a) f) (5 + i) = (if i < N then fw (11 + i) else -1) ∧ (Lp (α := Int32 → (Nat → Int32) → ((Nat → Int32))) (E_w_look_l80 n f1 f2) z (F + d + 1) (nI a) f) (13 + i) = (if i < N then fw (19 + i) else -1)) ∧ (∀ j, j < 5 + a ∨ (13 ≤ j ∧ j < 13 + a) → (Lp (α := Int32 → (Nat → Int32) → ((Nat → Int32))) (E_w_look_l80 n f1 f2) z (F + d + 1) (nI a) f) j = f j) ∧ ∀ x, x < 7 → (Lp (α := Int32 → (Nat → Int32) → ((Nat → Int32))) (E_w_look_l80 n f1 f2) z (F + d + 1) (nI a) f) (21 + x) = cso fw x N := by
  intro d
  induction d with
  | zero =>
    intro a F ha f hf
    have : a = 8 := by omega
    subst this
    rw [Nat.add_zero, Lp_s, E_w_look_l80.eq_def, if_pos (show (8 : Int32) ≤ nI 8 by decide)]
    exact ⟨fun i h1 h2 => by omega, fun _ _ => rfl, fun x hx => by rw [hf x hx, show min 8 N = N by omega]⟩
  | succ d ih =>
    intro a F ha f hf
    have a8 : a < 8 := by omega
    have c1 : ¬ (8 : Int32) ≤ nI a := kn_nlel (j := 8) rfl (by omega) a8
    have key : ∃ g, Lp (α := Int32 → (Nat → Int32) → ((Nat → Int32))) (E_w_look_l80 n f1 f2) z (F + (d + 1) + 1) (nI a) f = Lp (α := Int32 → (Nat → Int32) → ((Nat → Int32))) (E_w_look_l80 n f1 f2) z (F + d + 1) (nI (a + 1)) g ∧ g (5 + a) = (if a < N then fw (11 + a) else -1) ∧ g (13 + a) = (if a < N then fw (19 + a) else -1) ∧ (∀ j, j < 21 → j ≠ 5 + a → j ≠ 13 + a → g j = f j) ∧ ∀ x, x < 7 → g (21 + x) = cso fw x (min (a + 1) N) := by
      rw [show F + (d + 1) + 1 = F + d + 1 + 1 by omega, Lp_s, E_w_look_l80.eq_def, if_neg c1, Lt_b]
      by_cases c : a < N
      · have n1 := (h.2.2.2.2.1 a a8).1
        obtain ⟨p, hp, p7⟩ : ∃ p : Nat, fw (35 + a) = nI p ∧ p < 7 := ⟨(fw (35 + a)).toInt.toNat, i_ofN rfl n1.1, by omega⟩
        have e1 : ∀ x, cso fw x (min (a + 1) N) = if fw (35 + a) = nI x ∧ ¬ E_v_isSounding (nI a) fw = 0 then cso fw x a + 1 else cso fw x a := fun x => by
          rw [show min (a + 1) N = a + 1 by omega]; rfl
        have e0 : ∀ x, x < 7 → f (21 + x) = cso fw x a := fun x hx => by rw [hf x hx, show min a N = a by omega]
        rw [(h.has (show (a : Int) < n.toInt by omega)).2, if_pos rfl, h.fire a8, h.coal a8, h.note a8, hp, n_ladd (m := 5) rfl (by omega), n_ladd (m := 13) rfl (by omega), Lt_b, Lt_b, Lt_b, Lt_b, Lt_b, Lt_b, Lt_b, Lt_b, Lt_b, n_ladd (m := 21) rfl (by omega), h.sings a8, kn_cl (by omega), kn_cl (by omega), if_pos c, if_pos c]
        have same : ∀ x, x < 7 → (¬ (fw (35 + a) = nI x ∧ ¬ E_v_isSounding (nI a) fw = 0)) → (upd (upd f (5 + a) (fw (11 + a))) (13 + a) (fw (19 + a))) (21 + x) = cso fw x (min (a + 1) N) := fun x hx hc => by
          rw [upd_n (by omega), upd_n (by omega), e1, if_neg hc, e0 x hx]
        by_cases s : E_v_isSounding (nI a) fw = 0
        · rw [if_pos s, E_w_look_j185.eq_def, Lt_b, kn_po (by omega)]
          exact ⟨_, rfl, by rw [upd_n (by omega), upd_s], upd_s, fun j _ h2 h3 => by rw [upd_n h3, upd_n h2], fun x hx => same x hx (fun q => q.2 s)⟩
        · rw [if_neg s, if_neg (kn_nltl (j := 21) rfl (by omega) (by omega)), if_neg (kn_nlel (j := 28) rfl (by omega) (by omega)), Lt_b, Lt_b, Lt_b, E_w_look_j185.eq_def, Lt_b, kn_po (by omega), kn_cl (by omega)]
          refine ⟨_, rfl, by rw [upd_n (by omega), upd_n (by omega), upd_s], by rw [upd_n (by omega), upd_s], fun j h1 h2 h3 => by rw [upd_n (by omega), upd_n h3, upd_n h2], fun x hx => ?_⟩
          by_cases ex : x = p
          · subst ex
            rw [upd_s, e1, if_pos ⟨hp, s⟩, upd_n (by omega), upd_n (by omega), e0 x hx]
          · rw [upd_n (by omega)]
            exact same x hx (fun q => by
              have := q.1
              rw [hp] at this
              exact ex ((kn_eq (by omega) (by omega)).mp this).symm)
      · rw [has_n (by rw [nI_toInt (by omega)]; omega), if_neg (by decide), n_ladd (m := 5) rfl (by omega), n_ladd (m := 13) rfl (by omega), Lt_b, Lt_b, Lt_b, Lt_b, Lt_b, Lt_b, E_w_look_j185.eq_def, Lt_b, kn_po (by omega), kn_cl (by omega), kn_cl (by omega), if_neg c, if_neg c]
        exact ⟨_, rfl, by rw [upd_n (by omega), upd_s], upd_s, fun j _ h2 h3 => by rw [upd_n h3, upd_n h2], fun x hx => by rw [upd_n (by omega), upd_n (by omega), hf x hx, show min a N = N by omega, show min (a + 1) N = N by omega]⟩
    obtain ⟨g, k1, k2, k3, k4, k5⟩ := key
    obtain ⟨q1, q2, q3⟩ := ih (a + 1) F (by omega) g k5
    rw [← k1] at q1 q2 q3
    refine ⟨fun i h1 h2 => ?_, fun j hj => ?_, q3⟩
    · by_cases ia : i = a
      · subst ia
        exact ⟨(q2 _ (by omega)).trans k2, (q2 _ (by omega)).trans k3⟩
      · exact q1 i (by omega) h2
    · rw [q2 j (by omega)]; exact k4 j (by omega) (by omega) (by omega)
theorem look_at {n lt nf fi : Int32} {f1 f2 fw : Nat → Int32} {fl : Nat → Option Nat} {G : Nat → LC} (h : TW n lt nf fi f1 f2 fl G fw) {N : Nat} (hN : N ≤ 8) (eN : (N : Int) = n.toInt) (dn me : Int32) (fv : Nat → Int32) : (E_w_look dn me fv n fi f1 f2 0 = fw 4 ∧ E_w_look dn me fv n fi f1 f2 1 = fw 5 ∧ E_w_look dn me fv n fi f1 f2 2 = fw 10 ∧ E_w_look dn me fv n fi f1 f2 3 = dn ∧ E_w_look dn me fv n fi f1 f2 4 = me) ∧ (∀ i, i < 8 → E_w_look dn me fv n fi f1 f2 (5 + i) = (if i < N then fw (11 + i) else -1) ∧ E_w_look dn me fv n fi f1 f2 (13 + i) = (if i < N then fw (19 + i) else -1)) ∧ ∀ x, x < 7 → E_w_look dn me fv n fi f1 f2 (21 + x) = cso fw x N := by
  obtain ⟨g, hg⟩ : ∃ g, g = upd (upd (upd (upd (upd fv 0 (f2 0)) 1 (f2 1)) 2 fi) 3 dn) 4 me := ⟨_, rfl⟩
  have hB : ∀ (rc : Int32 → (Nat → Int32) → (Nat → Int32)) (i : Nat) (f : Nat → Int32), i < 7 → E_w_look_l56 n f1 f2 rc (nI i) f = rc (nI (i + 1)) (upd f (21 + i) 0) := fun rc i f hi => by
    rw [E_w_look_l56.eq_def, if_neg (kn_nlel (j := 7) rfl (by omega) hi), Lt_b, Lt_b, Lt_b, kn_po (by omega), n_ladd (m := 21) rfl (by omega), kn_cl (by omega)]
  have q := lp_it (d := fun i => 21 + i) (s := fun _ _ => 0) hB (fun _ _ => ((fun _ => 0) : Nat → Int32)) g 7 2 0 rfl
  have e : E_w_look dn me fv n fi f1 f2 = Lp (α := Int32 → (Nat → Int32) → ((Nat → Int32))) (E_w_look_l80 n f1 f2) (fun _ _ => ((fun _ => 0) : Nat → Int32)) (1 + 8 + 1) (nI 0) (kitf (fun i => 21 + i) (fun _ _ => 0) g 7) := by
    rw [E_w_look.eq_def, Lt_b, Lt_b, Lt_b, Lt_b, Lt_b, Lt_b, Lt_b]
    refine Eq.trans (show _ = Lp (α := Int32 → (Nat → Int32) → ((Nat → Int32))) (E_w_look_l56 n f1 f2) (fun _ _ => ((fun _ => 0) : Nat → Int32)) (2 + 7) (nI 0) g from by rw [hg]; rfl) (q.trans ?_)
    rw [Lp_s, E_w_look_l56.eq_def, if_pos (kn_lel (j := 7) rfl (by omega) (Nat.le_refl _)), show ((9 - (0 : Int32).toInt : Int).toNat + 1) = 1 + 8 + 1 by decide]
    rfl
  have k := fun j => kitf_cp (s := fun _ => 0) (a := 21) (f := g) 7 j
  obtain ⟨p1, p2, p3⟩ := look_in h hN eN (fun _ _ => ((fun _ => 0) : Nat → Int32)) 8 0 1 rfl (kitf (fun i => 21 + i) (fun _ _ => 0) g 7) (fun x hx => by rw [k, if_pos (by omega), show min 0 N = 0 by omega]; rfl)
  rw [← e] at p1 p2 p3
  have t1 := h.1.1
  refine ⟨⟨?_, ?_, ?_, ?_, ?_⟩, fun i hi => p1 i (Nat.zero_le _) hi, p3⟩
  · rw [p2 _ (by omega), k, if_neg (by omega), hg, upd_n (by omega), upd_n (by omega), upd_n (by omega), upd_n (by omega), upd_s]; exact t1 0 (by omega)
  · rw [p2 _ (by omega), k, if_neg (by omega), hg, upd_n (by omega), upd_n (by omega), upd_n (by omega), upd_s]; exact t1 1 (by omega)
  · rw [p2 _ (by omega), k, if_neg (by omega), hg, upd_n (by omega), upd_n (by omega), upd_s]; exact h.1.2.1
  · rw [p2 _ (by omega), k, if_neg (by omega), hg, upd_n (by omega), upd_s]
  · rw [p2 _ (by omega), k, if_neg (by omega), hg, upd_s]
/-- both machines are asked with the same -/
theorem look_env {n lt nf fi : Int32} {f1 f2 fw : Nat → Int32} {fl : Nat → Option Nat} {G : Nat → LC} (h : TW n lt nf fi f1 f2 fl G fw) {dn me : Int32} (fv : Nat → Int32) {fnw : Nat → Int64} (hd : KBd dn) (hm : KBd me) (k1 : (fnw 1).toInt = (fw 4).toInt) (k2 : (fnw 2).toInt = (fw 5).toInt) (k3 : (fnw 3).toInt = (fw 10).toInt) (k4 : (fnw 4).toInt = dn.toInt) (k5 : (fnw 5).toInt = me.toInt) : KEnv 1 (fun w => E_w_look dn me fv n fi f1 f2 w.toNatClampNeg) (fun w => 0 ≤ w.toInt ∧ w.toInt < ((28 : Nat) : Int)) (lfo fw fnw) := by
  obtain ⟨N, n8, e1, e2, eN⟩ := h.nN
  obtain ⟨⟨w0, w1, w2, w3, w4⟩, w5, w6⟩ := look_at h n8 eN dn me fv
  obtain ⟨g1, g2, g3, g4, g5, g6, g7, g8⟩ := h.1.2.2.2.2
  have hn := h.2.2.2.2.2.2.1
  have hs : ∀ i, i < 8 → E_v_isHouse (nI i) fw = if i < N then 1 else 0 := fun i hi => by
    rw [isHouse_at hn]
    by_cases c : i < N
    · rw [if_pos c]; exact (h.has (by omega)).2
    · rw [if_neg c]; exact has_n (by rw [nI_toInt (by omega)]; omega)
  refine ⟨fun ar => ?_, fun w op ar hk => ?_⟩
  · unfold lfo; rw [if_pos rfl]; exact wide_at
  · unfold KL at hk
    rw [if_neg (by decide)] at hk
    rcases hk with ⟨j, j5, rfl, rfl⟩ | ⟨i, i8, rfl, rfl, rfl⟩ | ⟨i, i8, rfl, rfl, rfl⟩ | ⟨i, i7, rfl, rfl, rfl⟩
    · have e : lfo fw fnw (nI (j + 1)) ar = fnw (j + 1) := by
        unfold lfo
        rw [if_neg (kn_nz (j := 0) rfl (by omega) (by omega)), if_neg (kn_nlel (j := 6) rfl (by omega) (by omega)), kn_cl (by omega)]
      refine ⟨by dsimp only; rw [nI_toInt (by omega)]; omega, ?_⟩
      dsimp only
      rw [e, kn_cl (by omega)]
      rcases (show j = 0 ∨ j = 1 ∨ j = 2 ∨ j = 3 ∨ j = 4 by omega) with rfl | rfl | rfl | rfl | rfl
      · rw [w0]; exact ⟨k1, by omega, by omega⟩
      · rw [w1]; exact ⟨k2, by omega, by omega⟩
      · rw [w2]; exact ⟨k3, by omega, by omega⟩
      · rw [w3]; exact ⟨k4, hd.1, hd.2⟩
      · rw [w4]; exact ⟨k5, hm.1, hm.2⟩
    · refine ⟨by dsimp only; rw [nI_toInt (by omega)]; omega, ?_⟩
      dsimp only
      rw [kn_cl (by omega), (w5 i i8).1]
      have e : lfo fw fnw 6 (nI i) = if i < N then (fw (11 + i)).toInt64 else -1 := by
        unfold lfo
        rw [if_neg (by decide), if_pos (by decide), if_neg (by decide), hs i i8, n_ladd (m := 11) rfl (by omega), kn_cl (by omega)]
        by_cases c : i < N
        · rw [if_pos c, if_pos c, if_pos rfl, if_pos rfl]
        · rw [if_neg c, if_neg c, if_neg (by decide)]
      rw [e]
      by_cases c : i < N
      · have := (g8 i i8).1
        rw [if_pos c, if_pos c]; exact ⟨wide_at, by omega, by omega⟩
      · rw [if_neg c, if_neg c]; decide
    · refine ⟨by dsimp only; rw [nI_toInt (by omega)]; omega, ?_⟩
      dsimp only
      rw [kn_cl (by omega), (w5 i i8).2]
      have e : lfo fw fnw 7 (nI i) = if i < N then (fw (19 + i)).toInt64 else -1 := by
        unfold lfo
        rw [if_neg (by decide), if_pos (by decide), if_neg (by decide), hs i i8, n_ladd (m := 11) rfl (by omega), n_ladd (m := 19) rfl (by omega), kn_cl (by omega), kn_cl (by omega)]
        by_cases c : i < N
        · rw [if_pos c, if_pos c, if_pos rfl, if_neg (by decide)]
        · rw [if_neg c, if_neg c, if_neg (by decide)]
      rw [e]
      by_cases c : i < N
      · have := (g8 i i8).2.1
        rw [if_pos c, if_pos c]; exact ⟨wide_at, by omega, by omega⟩
      · rw [if_neg c, if_neg c]; decide
    · refine ⟨by dsimp only; rw [nI_toInt (by omega)]; omega, ?_⟩
      dsimp only
      rw [kn_cl (by omega), w6 i i7]
      have e : lfo fw fnw 8 (nI i) = (cso fw i N).toInt64 := by
        unfold lfo
        rw [if_neg (by decide), if_pos (by decide), if_pos rfl, soundWith_at n8 e2]
      have := cso_b (fw := fw) (x := i) N (by omega)
      rw [e]; exact ⟨wide_at, by omega, by omega⟩
