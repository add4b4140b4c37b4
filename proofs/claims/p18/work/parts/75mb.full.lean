/-! an hour passes -/
theorem TW.words2 {n lt nf fi : Int32} {f1 f2 fw cw f : Nat → Int32} {fl : Nat → Option Nat} {G : Nat → LC} (h : TW n lt nf fi f1 f2 fl G fw) {k : Nat} (hk : k < 8) (hf : ∀ j, j < 24 → f j = f1 j) : KWo (E_w_face (nI k) (fw (11 + k)) 0 cw f f2) fw k (-1) := by
  obtain ⟨hr, r1, r2, r3⟩ := h.hour
  obtain ⟨q0, q1, q2, q3, q4, q5, q6, q7, q8⟩ := face_at (h := k) (z := 0) (hr := hr) (y := fw (11 + k)) (cw := cw) (f1 := f) (f2 := f2) hk (by omega) r1 r3
  obtain ⟨⟨t1, _, t3, _⟩, _, _, _, _, _, _, b7⟩ := h
  refine ⟨q0, q1.trans ((hf k (by omega)).trans (b7 k (by omega))), q2.trans ((hf _ (by omega)).trans ((b7 _ (by omega)).trans (congrArg fw (by omega)))), q3, q4.trans ((hf _ (by omega)).trans (t3 k hk).2.1), q5.trans ?_, q6.trans ?_, q7.trans (t1 5 (by omega)), q8⟩
  · rw [r2, show (hr + 0) % 24 = hr by omega]
  · rw [show (hr + 0) / 24 = 0 by omega, t1 1 (by omega)]
    exact Int32.toInt_inj.mp (by rw [i_add rfl (show (nI 0).toInt = 0 from rfl) (by have := i_rng (Eq.refl (fw (4 + 1)).toInt); omega), Int.add_zero])
noncomputable abbrev BUr : Type := Int32 → Int32 → (Nat → Int32) → (Nat → Int32) → (Nat → Int32) → (Int32 × (Nat → Int32) × (Nat → Int32) × (Nat → Int32))
theorem burn_in {n lt nf fi : Int32} {f1 f2 fw : Nat → Int32} {fl : Nat → Option Nat} {G : Nat → LC} (h : TW n lt nf fi f1 f2 fl G fw) {N : Nat} (hN : N ≤ 8) (e1 : n = nI N) {B : Nat → Int32} (hB : ∀ a, a < N → (B a).toInt = RV nf 0 a (-1) 1 fw) (hB2 : ∀ a, a < N → 0 ≤ (B a).toInt ∧ (B a).toInt ≤ 20) (z : BUr) : ∀ (d a F : Nat), a + d = N → ∀ (br : Int32) (fs cw f : Nat → Int32), (∀ j, j < 24 → f j = f1 j) → (∀ j, a ≤ j → j < 8 → f (40 + j) = f1 (40 + j) ∧ f (48 + j) = f1 (48 + j)) → ∃ br' fs' cw' f', Lp (E_w_burnDown_l2 G n lt nf f2 fl) z (F + d + 1) (nI a) br fs cw f = (br', fs', cw', f') ∧ (∀ j, a ≤ j → j < N → f' (40 + j) = E_v_within_20 (fw (11 + j) - B j).toInt64 ∧ f' (48 + j) = E_v_within_9999 (fw (27 + j) + fw (11 + j)).toInt64) ∧ ∀ j, ¬ (40 + a ≤ j ∧ j < 40 + N) → ¬ (48 + a ≤ j ∧ j < 48 + N) → f' j = f j := by
  intro d
  induction d with
  | zero =>
    intro a F ha br fs cw f h1 h2
    have : a = N := by omega
    subst this
    refine ⟨br, fs, cw, f, ?_, fun j h3 h4 => by omega, fun _ _ _ => rfl⟩
    rw [Lp_s, E_w_burnDown_l2.eq_def, e1, if_pos ((kn_le (by omega) (by omega)).mpr (Nat.le_refl _))]
  | succ d ih =>
    intro a F ha br fs cw f h1 h2
    have a8 : a < 8 := by omega
    have c1 : ¬ n ≤ nI a := fun q => by rw [e1] at q; have := (kn_le (by omega) (by omega)).mp q; omega
    have rg := h.1.2.2.2.2.2.2.2.2.2.2.2 a a8
    have t3 := h.1.2.2.1 a a8
    have g5 : E_w_fact (nI a) 5 f = fw (11 + a) := by
      rw [fact_at (k := 5) (nIb a8) rfl (by omega), nIt (by omega)]; exact ((h2 a (Nat.le_refl _) a8).1).trans t3.1
    have g6 : E_w_fact (nI a) 6 f = fw (27 + a) := by
      rw [fact_at (k := 6) (nIb a8) rfl (by omega), nIt (by omega)]; exact ((h2 a (Nat.le_refl _) a8).2).trans t3.2.2
    have hw := h.words2 (cw := cw) a8 h1
    obtain ⟨p, ep⟩ : ∃ p, p = Lp (E_w_burnDown_l2 G n lt nf f2 fl) z (F + (d + 1) + 1) (nI a) br fs cw f := ⟨_, rfl⟩
    rw [← ep]
    rw [Lp_s, E_w_burnDown_l2.eq_def, if_neg c1, Lt_b, g5, Lt_b, Lt_b, g6, Lt_b, Lt_b, cap9999 (by omega) (by omega), Lt_b, Lt_b, put6_at (nIb a8), nIt (by omega)] at ep
    obtain ⟨br1, fs1, ep⟩ := ask_k (w := 0) (h.askn a8 m1_rng) (by omega) (show (1 : Int64).toInt = (aF 2 0).toInt from by decide) hw (hB a (by omega)) ep (fun _ => rfl)
    have hb2 := hB2 a (by omega)
    rw [Lt_b, Lt_b, cap0 (by omega) (by omega) (by omega), Lt_b, put5_at (nIb a8), nIt (by omega), Lt_b, kn_po (by omega)] at ep
    obtain ⟨br', fs', cw', f', q1, q2, q3⟩ := ih (a + 1) F (by omega) br1 fs1 (E_w_face (nI a) (fw (11 + a)) 0 cw f f2) (upd (upd f (48 + a) (E_v_within_9999 (fw (27 + a) + fw (11 + a)).toInt64)) (40 + a) (E_v_within_20 (fw (11 + a) - B a).toInt64)) (fun j hj => by rw [upd_n (by omega), upd_n (by omega)]; exact h1 j hj) (fun j h3 h4 => by rw [upd_n (by omega), upd_n (by omega), upd_n (by omega), upd_n (by omega)]; exact h2 j (by omega) h4)
    refine ⟨br', fs', cw', f', ep.trans q1, fun j h3 h4 => ?_, fun j h3 h4 => ?_⟩
    · by_cases ja : j = a
      · subst ja
        rw [q3 _ (by omega) (by omega), q3 _ (by omega) (by omega), upd_s, upd_n (by omega), upd_s]
        exact ⟨rfl, rfl⟩
      · exact q2 j (by omega) h4
    · rw [q3 _ (by omega) (by omega), upd_n (by omega), upd_n (by omega)]
noncomputable abbrev P3r : Type := Int32 → Int32 → Int32 → Int64 → Int64 → (Nat → Int32) → (Nat → Int64) → (Nat → Int64) → (Int32 × Int32 × Int32 × Int64 × Int64 × (Nat → Int32) × (Nat → Int64) × (Nat → Int64) × (Nat → Int32))
noncomputable abbrev P6r : Type := Int32 → (Nat → Int32) → (Int32 × Int32 × Int32 × Int64 × Int64 × (Nat → Int32) × (Nat → Int64) × (Nat → Int64) × (Nat → Int32))
noncomputable def P6z : P6r := fun _ _ => (0, 0, 0, 0, 0, fun _ => 0, fun _ => 0, fun _ => 0, fun _ => 0)
theorem pas_in1 {n lt nf fi : Int32} {f1 f2 fw : Nat → Int32} {fl : Nat → Option Nat} {G : Nat → LC} (h : TW n lt nf fi f1 f2 fl G fw) {N : Nat} (hN : N ≤ 8) (e2 : fw 0 = nI N) {B : Nat → Int32} (hB : ∀ a, a < N → (B a).toInt = RV nf 0 a (-1) 1 fw) (r : Int32) (z : P3r) : ∀ (d a F : Nat), a + d = N → ∀ (lw bro : Int32) (val sm : Int64) (fb : Nat → Int32) (fe frs : Nat → Int64), (∀ j, j < a → fb j = B j) → ∃ (lw' bro' : Int32) (val' sm' : Int64) (fb' : Nat → Int32) (fe' frs' : Nat → Int64), Lp (E_v_passIt_l34 r fw) z (F + d + 1) (nI a) lw bro val sm fb fe frs = Lp (E_v_passIt_l69 r lw' bro' val' sm' fb' fe' frs') P6z (9 - N + N + 1) (nI 0) fw ∧ ∀ j, j < N → fb' j = B j := by
  intro d
  induction d with
  | zero =>
    intro a F ha lw bro val sm fb fe frs hb
    have : a = N := by omega
    subst this
    refine ⟨lw, bro, val, sm, fb, fe, frs, ?_, hb⟩
    rw [Lp_s, E_v_passIt_l34.eq_def, Lt_b, show fw (0 : Int32).toNatClampNeg = nI a from e2, if_pos ((kn_le (by omega) (by omega)).mpr (Nat.le_refl _)), show ((9 - (0 : Int32).toInt : Int).toNat + 1) = 9 - a + a + 1 by rw [show (0 : Int32).toInt = 0 from rfl]; omega]
    rfl
  | succ d ih =>
    intro a F ha lw bro val sm fb fe frs hb
    have a8 : a < 8 := by omega
    have e3 : nf = fw 3 := h.2.2.1
    have c1 : ¬ nI N ≤ nI a := fun q => by have := (kn_le (by omega) (by omega)).mp q; omega
    obtain ⟨x1, x2, x3, x4, x5, x6, x7⟩ := burnsOf_at (h.ask a8 m1_rng) (by rw [← e3]; exact hB a (by omega)) lw bro val sm fe frs
    rw [Lp_s, E_v_passIt_l34.eq_def, Lt_b, show fw (0 : Int32).toNatClampNeg = nI N from e2, if_neg c1, Lt_b, show fw (3 : Int32).toNatClampNeg = fw 3 from rfl, x7, Lt2_b, Lt2_b, Lt2_b, Lt2_b, Lt2_b, Lt2_b, Lt_b, Lt_b, kn_po (by omega), kn_cl (by omega)]
    exact ih (a + 1) F (by omega) x1 x2 x3 x4 (upd fb a (B a)) x5 x6 (fun j hj => by
      by_cases ja : j = a
      · rw [ja, upd_s]
      · rw [upd_n ja]; exact hb j (by omega))
theorem pas_in2 {fw fb : Nat → Int32} {N : Nat} (hN : N ≤ 8) (e2 : fw 0 = nI N) {r lw bro : Int32} {val sm : Int64} {fe frs : Nat → Int64} (z : P6r) : ∀ (d a F : Nat), a + d = N → ∀ f : Nat → Int32, (∀ j, j < 11 → f j = fw j) → (∀ j, a ≤ j → j < 8 → f (11 + j) = fw (11 + j) ∧ f (27 + j) = fw (27 + j)) → ∃ f', Lp (E_v_passIt_l69 r lw bro val sm fb fe frs) z (F + d + 1) (nI a) f = (r, lw, bro, val, sm, E_v_goOn f', fe, frs, fb) ∧ (∀ j, a ≤ j → j < N → f' (11 + j) = E_v_within_20 (fw (11 + j) - fb j).toInt64 ∧ f' (27 + j) = E_v_within_9999 (fw (27 + j) + fw (11 + j)).toInt64) ∧ ∀ j, ¬ (11 + a ≤ j ∧ j < 11 + N) → ¬ (27 + a ≤ j ∧ j < 27 + N) → f' j = f j := by
  intro d
  induction d with
  | zero =>
    intro a F ha f h1 h2
    have : a = N := by omega
    subst this
    refine ⟨f, ?_, fun j h3 h4 => by omega, fun _ _ _ => rfl⟩
    rw [Lp_s, E_v_passIt_l69.eq_def, Lt_b, show f (0 : Int32).toNatClampNeg = nI a from (h1 0 (by omega)).trans e2, if_pos ((kn_le (by omega) (by omega)).mpr (Nat.le_refl _)), Lt_b]
  | succ d ih =>
    intro a F ha f h1 h2
    have a8 : a < 8 := by omega
    have c1 : ¬ nI N ≤ nI a := fun q => by have := (kn_le (by omega) (by omega)).mp q; omega
    obtain ⟨f', q1, q2, q3⟩ := ih (a + 1) F (by omega) (upd (upd f (27 + a) (E_v_within_9999 (fw (27 + a) + fw (11 + a)).toInt64)) (11 + a) (E_v_within_20 (fw (11 + a) - fb a).toInt64)) (fun j hj => by rw [upd_n (by omega), upd_n (by omega)]; exact h1 j hj) (fun j h3 h4 => by rw [upd_n (by omega), upd_n (by omega), upd_n (by omega), upd_n (by omega)]; exact h2 j (by omega) h4)
    refine ⟨f', ?_, fun j h3 h4 => ?_, fun j h3 h4 => ?_⟩
    · rw [← q1, Lp_s, E_v_passIt_l69.eq_def, Lt_b, show f (0 : Int32).toNatClampNeg = nI N from (h1 0 (by omega)).trans e2, if_neg c1, n_ladd (m := 27) rfl (by omega), n_ladd (m := 11) rfl (by omega), Lt_b, Lt_b, Lt_b, Lt_b, Lt_b, Lt_b, Lt_b, Lt_b, Lt_b, Lt_b, Lt_b, Lt_b, Lt_b, Lt_b, Lt_b, Lt_b, Lt_b, Lt_b, kn_po (by omega), kn_cl (by omega), kn_cl (by omega), kn_cl (by omega), upd_n (show ¬ 11 + a = 27 + a by omega), (h2 a (Nat.le_refl _) a8).1, (h2 a (Nat.le_refl _) a8).2]
      rfl
    · by_cases ja : j = a
      · subst ja
        rw [q3 _ (by omega) (by omega), q3 _ (by omega) (by omega), upd_s, upd_n (by omega), upd_s]
        exact ⟨rfl, rfl⟩
      · exact q2 j (by omega) h4
    · rw [q3 _ (by omega) (by omega), upd_n (by omega), upd_n (by omega)]
/-- the hour goes on -/
theorem goOn_at {f : Nat → Int32} {hr : Nat} (h : hr ≤ 23) (e : f 4 = nI hr) : E_v_goOn f 4 = (if hr = 23 then 0 else nI (hr + 1)) ∧ E_v_goOn f 5 = (if hr = 23 then f 5 + 1 else f 5) ∧ ∀ j, j ≠ 4 → j ≠ 5 → E_v_goOn f j = f j := by
  rw [E_v_goOn.eq_def, show f (4 : Int32).toNatClampNeg = nI hr from e, Lt_b, Lt_b, Lt_b, kn_p1 (by omega), show (4 : Int32).toNatClampNeg = 4 from rfl, show (5 : Int32).toNatClampNeg = 5 from rfl]
  have tk : E_v_term_k (nI (hr + 1)) (upd f 4 (nI (hr + 1))) = nI (hr + 1) := rfl
  rw [Lt_b, tk]
  by_cases c : hr = 23
  · subst c
    rw [if_pos rfl, if_pos (show nI (23 + 1) = 24 from rfl), if_pos rfl, Lt_b, Lt_b, Lt_b, Lt_b]
    refine ⟨?_, ?_, fun j h1 h2 => ?_⟩
    · rw [upd_n (by omega), upd_s]
    · rw [upd_s, upd_n (by omega), upd_n (by omega)]
    · rw [upd_n h2, upd_n h1, upd_n h1]
  · rw [if_neg c, if_neg (kn_nz (j := 24) rfl (by omega) (by omega)), if_neg c]
    refine ⟨upd_s, upd_n (by omega), fun j h1 h2 => upd_n h1⟩
