section
/-! of -/
theorem bar_01 {X : Int32} {x : Int32} {k : Nat} {fw : Nat → Int32} (hX : X.toInt = RV x 3 k (-1) 0 fw) : X = 0 ∨ X = 1 := by
  have m1 : (aF 3 3).toInt = 1 := by decide
  have rX := kz_rng (g := (E_v_tells x (nI 3) (nI k) (-1) 0 0 0 0 0 fw (fun _ => 0) (fun _ => 0)).1.toInt) (M := (aF 3 3).toInt) (by decide)
  unfold RV at hX
  rcases (show X.toInt = 0 ∨ X.toInt = 1 by omega) with c | c
  · exact Or.inl (i_lit c rfl)
  · exact Or.inr (i_lit c rfl)
theorem rel_of {x y n lt nf fi br lw bro thr : Int32} {val sm : Int64} {f1 f2 f3 fw fs cw : Nat → Int32} {fe frs : Nat → Int64} {fl : Nat → Option Nat} {G : Nat → LC} {r1 br' r2 lw' bro' : Int32} {val' sm' : Int64} {fs' cw' : Nat → Int32} {fe' frs' : Nat → Int64} (k1 : (r1, br', fs', cw') = E_w_of G x y br fs cw n lt nf fi f1 f2 f3 fl) (k2 : (r2, lw', bro', val', sm', fe', frs') = E_v_of x y thr lw bro val sm fw fe frs) (h : TW n lt nf fi f1 f2 fl G fw) (h4 : ∀ j, 24 ≤ j → j < 40 → f1 j = fw (27 + j)) : r1 = r2 := by
  have hn := h.2.2.2.2.2.2.1
  have z0 : (0 : Int32).toInt = 0 := rfl
  have z6 : (6 : Int32).toInt = 6 := rfl
  have z7 : (7 : Int32).toInt = 7 := rfl
  rw [E_w_of.eq_def, Lt_b] at k1
  rw [E_v_of.eq_def, Lt_b, isHouse_at hn] at k2
  by_cases c : 0 ≤ x.toInt ∧ x.toInt < n.toInt
  case neg =>
    rw [has_n c, if_neg (by decide)] at k1 k2
    rw [(Prod.mk.inj k1).1, (Prod.mk.inj k2).1]
  obtain ⟨k, hk, hz⟩ : ∃ k : Nat, x = nI k ∧ (k : Int) = x.toInt := ⟨x.toInt.toNat, i_ofN rfl c.1, by omega⟩
  subst hk
  have hkn : (k : Int) < n.toInt := by omega
  obtain ⟨k8, hh⟩ := h.has hkn
  have e3 : nf = fw 3 := h.2.2.1
  rw [hh, if_pos rfl] at k1 k2
  rw [Lt_b] at k1
  by_cases y0 : y.toInt = 0
  · rw [ifw_p (by omega), Lt_b, i_lit y0 z0, h.note k8] at k1
    rw [if_pos y0, n_ladd (m := 35) rfl (by omega), Lt_b, Lt_b, kn_cl (by omega)] at k2
    rw [(Prod.mk.inj k1).1, (Prod.mk.inj k2).1]
  rw [if_neg y0] at k2
  by_cases y1 : y.toInt = 1
  · rw [ifw_p (by omega), Lt_b, i_lit y1 (show (1 : Int32).toInt = 1 from rfl), h.street k8] at k1
    rw [if_pos y1, n_ladd (m := 43) rfl (by omega), Lt_b, Lt_b, kn_cl (by omega)] at k2
    rw [(Prod.mk.inj k1).1, (Prod.mk.inj k2).1]
  rw [if_neg y1] at k2
  by_cases y2 : y.toInt = 2
  · rw [ifw_p (by omega), Lt_b, i_lit y2 (show (2 : Int32).toInt = 2 from rfl), h.coal k8] at k1
    rw [if_pos y2, n_ladd (m := 19) rfl (by omega), Lt_b, Lt_b, kn_cl (by omega)] at k2
    rw [(Prod.mk.inj k1).1, (Prod.mk.inj k2).1]
  rw [if_neg y2] at k2
  by_cases y3 : y.toInt = 3
  · rw [ifw_p (by omega), Lt_b, fact_at (k := 3) (nIb k8) y3 (by omega), nIt (by omega), h4 _ (by omega) (by omega)] at k1
    rw [if_pos y3, n_ladd (m := 51) rfl (by omega), Lt_b, Lt_b, kn_cl (by omega)] at k2
    rw [(Prod.mk.inj k1).1, (Prod.mk.inj k2).1]
    exact congrArg fw (by omega)
  rw [if_neg y3] at k2
  by_cases y4 : y.toInt = 4
  · rw [ifw_p (by omega), Lt_b, fact_at (k := 4) (nIb k8) y4 (by omega), nIt (by omega), h4 _ (by omega) (by omega)] at k1
    rw [if_pos y4, n_ladd (m := 59) rfl (by omega), Lt_b, Lt_b, kn_cl (by omega)] at k2
    rw [(Prod.mk.inj k1).1, (Prod.mk.inj k2).1]
    exact congrArg fw (by omega)
  rw [if_neg y4] at k2
  by_cases y5 : y.toInt = 5
  · rw [ifw_p (by omega), Lt_b, i_lit y5 (show (5 : Int32).toInt = 5 from rfl), h.fire k8] at k1
    rw [if_pos y5, n_ladd (m := 11) rfl (by omega), Lt_b, Lt_b, kn_cl (by omega)] at k2
    rw [(Prod.mk.inj k1).1, (Prod.mk.inj k2).1]
  rw [if_neg y5] at k2
  by_cases y6 : y.toInt = 6
  · rw [ifw_p (by omega), Lt_b, i_lit y6 (show (6 : Int32).toInt = 6 from rfl), h.warm k8] at k1
    rw [if_pos y6, n_ladd (m := 27) rfl (by omega), Lt_b, Lt_b, kn_cl (by omega)] at k2
    rw [(Prod.mk.inj k1).1, (Prod.mk.inj k2).1]
  rw [if_neg y6] at k2
  rw [ifw_n (by omega)] at k1
  by_cases y7 : y.toInt = 7
  · rw [if_pos (i_lit y7 z7), Lt_b, h.sings k8] at k1
    rw [if_pos y7, Lt_b] at k2
    by_cases s : E_v_isSounding (nI k) fw = 0
    · rw [if_pos s] at k1 k2
      rw [(Prod.mk.inj k1).1, (Prod.mk.inj k2).1]
    · rw [if_neg s] at k1 k2
      rw [(Prod.mk.inj k1).1, (Prod.mk.inj k2).1]
  rw [if_neg y7] at k2
  rw [if_neg (fun q => y7 (by rw [q]; rfl)), Lt_b, h.fire k8, Lt_b] at k1
  have hw := h.words (cw := cw) k8
  generalize E_w_face (nI k) (fw (11 + k)) 0 cw f1 f2 = U at k1 hw
  by_cases y8 : y.toInt = 8
  · obtain ⟨R, hR, _⟩ := RV_ex (w := 0) (by omega) nf k (-1) 1 fw
    rw [if_pos y8, Lt_b] at k1
    obtain ⟨b1, s1, k1⟩ := ask_k (w := 0) (h.askn k8 m1_rng) (by omega) (show (1 : Int64).toInt = (aF 2 0).toInt from by decide) hw hR k1 (fun _ => rfl)
    rw [e3] at hR
    obtain ⟨g1, g2, g3, g4, g5, g6, p2⟩ := burnsOf_at (h.ask k8 m1_rng) hR lw bro val sm fe frs
    rw [if_pos y8, Lt_b, show fw (3 : Int32).toNatClampNeg = fw 3 from rfl, p2] at k2
    simp only [Lt2] at k2
    rw [(Prod.mk.inj k1).1, (Prod.mk.inj k2).1]
  rw [if_neg y8] at k1 k2
  by_cases y9 : y.toInt = 9
  · obtain ⟨R, hR, _⟩ := RV_ex (w := 1) (by omega) nf k (-1) 4 fw
    rw [if_pos y9, Lt_b] at k1
    obtain ⟨b1, s1, k1⟩ := ask_k (w := 1) (h.askn k8 m1_rng) (by omega) (show (4 : Int64).toInt = (aF 2 1).toInt from by decide) hw hR k1 (fun _ => rfl)
    rw [e3] at hR
    obtain ⟨g1, g2, g3, g4, g5, g6, p2⟩ := flaresOf_at (h.ask k8 m1_rng) hR lw bro val sm fe frs
    rw [if_pos y9, Lt_b, show fw (3 : Int32).toNatClampNeg = fw 3 from rfl, p2] at k2
    simp only [Lt2] at k2
    rw [(Prod.mk.inj k1).1, (Prod.mk.inj k2).1]
  rw [if_neg y9] at k1 k2
  by_cases y10 : y.toInt = 10
  · obtain ⟨R, hR, _⟩ := RV_ex (w := 3) (by omega) nf k (-1) 0 fw
    rw [if_pos y10, Lt_b] at k1
    obtain ⟨b1, s1, k1⟩ := ask_k (w := 3) (h.askn k8 m1_rng) (by omega) (show (0 : Int64).toInt = (aF 2 3).toInt from by decide) hw hR k1 (fun _ => rfl)
    have b01 := bar_01 hR
    rw [e3] at hR
    obtain ⟨g1, g2, g3, g4, g5, g6, p2⟩ := isBarred_at (h.ask k8 m1_rng) hR lw bro val sm fe frs
    rw [if_pos y10, p2] at k2
    simp only [Lt2] at k2
    rcases b01 with rfl | rfl
    · rw [if_pos (by trivial)] at k2
      rw [(Prod.mk.inj k1).1, (Prod.mk.inj k2).1]
    · rw [if_neg (by decide)] at k2
      rw [(Prod.mk.inj k1).1, (Prod.mk.inj k2).1]
  rw [if_neg y10] at k1 k2
  rw [(Prod.mk.inj k1).1, (Prod.mk.inj k2).1]
/-! discord, sounds -/
theorem rel_discord {n lt nf fi br lw bro thr : Int32} {val sm : Int64} {f1 f2 f3 fw fs cw : Nat → Int32} {fe frs : Nat → Int64} {fl : Nat → Option Nat} {G : Nat → LC} {r1 br' r2 lw' bro' : Int32} {val' sm' : Int64} {fs' cw' : Nat → Int32} {fe' frs' : Nat → Int64} (k1 : (r1, br', fs', cw') = E_w_discord G br fs cw n lt nf fi f1 f2 f3 fl) (k2 : (r2, lw', bro', val', sm', fe', frs') = E_v_discord thr lw bro val sm fw fe frs) (h : TW n lt nf fi f1 f2 fl G fw) : r1 = r2 := by
  obtain ⟨v, b2, fs2, cw2, lw2, bro2, val2, sm2, fe2, frs2, v1, v2, v3⟩ := disc_at (f3 := f3) h br fi fs cw lw bro val sm fe frs
  rw [E_w_discord.eq_def, v2] at k1
  rw [E_v_discord.eq_def, v3] at k2
  simp only [Lt2] at k1 k2
  rw [(Prod.mk.inj k1).1, (Prod.mk.inj k2).1]
theorem or_128 : ∀ s, s < 128 → ∀ p, p < 7 → nI s ||| 1 <<< (nI p &&& 31) = nI (s ||| 2 ^ p) ∧ s ||| 2 ^ p < 128 := by decide +kernel
theorem or_in {s p : Nat} (hs : s < 128) (hp : p < 7) : ∃ q, q < 128 ∧ nI s ||| 1 <<< (nI p &&& 31) = nI q := ⟨_, (or_128 s hs p hp).2, (or_128 s hs p hp).1⟩
theorem TW.nrng {n lt nf fi : Int32} {f1 f2 fw : Nat → Int32} {fl : Nat → Option Nat} {G : Nat → LC} (h : TW n lt nf fi f1 f2 fl G fw) : ∃ s, s < 128 ∧ E_v_soundingNotes fw = nI s := by
  obtain ⟨N, n8, e1, e2, _⟩ := h.nN
  have go : ∀ d a F s, a + d = N → s < 128 → ∃ q, q < 128 ∧ Lp (α := Int32 → Int32 → (Int32)) (E_v_soundingNotes_l4 fw) (fun _ _ => ((0) : Int32)) (F + d + 1) (nI a) (nI s) = nI q := by
    intro d
    induction d with
    | zero =>
      intro a F s ha hs
      have : a = N := by omega
      subst this
      refine ⟨s, hs, ?_⟩
      rw [Lp_s, E_v_soundingNotes_l4.eq_def, Lt_b, show fw (0 : Int32).toNatClampNeg = nI a from e2, if_pos ((kn_le (by omega) (by omega)).mpr (Nat.le_refl _))]
    | succ d ih =>
      intro a F s ha hs
      have a8 : a < 8 := by omega
      have c1 : ¬ nI N ≤ nI a := fun q => by have := (kn_le (by omega) (by omega)).mp q; omega
      rw [show F + (d + 1) + 1 = F + d + 1 + 1 by omega, Lp_s, E_v_soundingNotes_l4.eq_def, Lt_b, show fw (0 : Int32).toNatClampNeg = nI N from e2, if_neg c1, Lt_b]
      by_cases c : E_v_isSounding (nI a) fw = 0
      · rw [if_pos c, Lt_b, Lt_b, kn_po (by omega)]
        rw [show nI s ||| 0 = nI s from Int32.or_zero]
        exact ih (a + 1) F s (by omega) hs
      · have n1 := (h.2.2.2.2.1 a a8).1
        obtain ⟨p, hp, p7⟩ : ∃ p : Nat, fw (35 + a) = nI p ∧ p < 7 := ⟨(fw (35 + a)).toInt.toNat, i_ofN rfl n1.1, by omega⟩
        obtain ⟨q, q1, q2⟩ := or_in hs p7
        rw [if_neg c, n_ladd (m := 35) rfl (by omega), Lt_b, Lt_b, Lt_b, Lt_b, Lt_b, kn_po (by omega), kn_cl (by omega), hp, q2]
        exact ih (a + 1) F q (by omega) q1
  obtain ⟨q, q1, q2⟩ := go N 0 (9 - N) 0 (by omega) (by omega)
  refine ⟨q, q1, ?_⟩
  rw [E_v_soundingNotes.eq_def, show ((9 - (0 : Int32).toInt : Int).toNat + 1) = 9 - N + N + 1 by rw [show (0 : Int32).toInt = 0 from rfl]; omega]
  exact q2
noncomputable def thr_ (n : Nat) : Int32 := 1 <<< (nI n &&& 31) ||| 1 <<< ((nI n + 2 - (nI n + 2) / 7 * 7) &&& 31) ||| 1 <<< ((nI n + 4 - (nI n + 4) / 7 * 7) &&& 31)
theorem thr_128 : (List.range 128).all (fun s => (List.range 7).all (fun p => decide ((nI s &&& thr_ p = thr_ p) ↔ (¬ E_v_is (nI s) (nI p) = 0 ∧ ¬ E_v_is (nI s) (nI p + 2 - (nI p + 2) / 7 * 7) = 0 ∧ ¬ E_v_is (nI s) (nI p + 4 - (nI p + 4) / 7 * 7) = 0)))) = true := by decide +kernel
theorem thirds_at {s : Nat} (hs : s < 128) {x : Int32} {fw : Nat → Int32} (hx : x = 1) (z z2 : Int32 → Int32 → Int32) : ∀ d a F c, a + d = 7 → Lp (α := Int32 → Int32 → (Int32)) (E_w_thirdsNow_l9 (nI s)) z (F + d + 1) (nI a) c = Lp (α := Int32 → Int32 → (Int32)) (E_v_sounds_l29 x fw (nI s)) z2 (F + d + 1) (nI a) c := by
  intro d
  induction d with
  | zero =>
    intro a F c ha
    have : a = 7 := by omega
    subst this
    rw [Lp_s, Lp_s, E_w_thirdsNow_l9.eq_def, E_v_sounds_l29.eq_def, if_pos (show (7 : Int32) ≤ nI 7 by decide), if_pos (show (7 : Int32) ≤ nI 7 by decide), hx, if_neg (by decide), if_pos rfl]
  | succ d ih =>
    intro a F c ha
    have a7 : a < 7 := by omega
    have t := of_decide_eq_true (all_rng (all_rng thr_128 hs) a7)
    have c1 : ¬ (7 : Int32) ≤ nI a := kn_nlel (j := 7) rfl (by omega) a7
    have st1 : Lp (α := Int32 → Int32 → (Int32)) (E_w_thirdsNow_l9 (nI s)) z (F + d + 1 + 1) (nI a) c = Lp (α := Int32 → Int32 → (Int32)) (E_w_thirdsNow_l9 (nI s)) z (F + d + 1) (nI (a + 1)) (if nI s &&& thr_ a = thr_ a then c + 1 else c + 0) := by
      rw [Lp_s, E_w_thirdsNow_l9.eq_def, if_neg c1, Lt_b, Lt_b, Lt_b, Lt_b, Lt_b, Lt_b, Lt_b, Lt_b, Lt_b, Lt_b]
      show (if nI s &&& thr_ a = thr_ a then _ else _) = _
      by_cases e : nI s &&& thr_ a = thr_ a
      · rw [if_pos e, if_pos e, Lt_b, Lt_b, kn_po (by omega)]
      · rw [if_neg e, if_neg e, Lt_b, Lt_b, kn_po (by omega)]
    have st2 : Lp (α := Int32 → Int32 → (Int32)) (E_v_sounds_l29 x fw (nI s)) z2 (F + d + 1 + 1) (nI a) c = Lp (α := Int32 → Int32 → (Int32)) (E_v_sounds_l29 x fw (nI s)) z2 (F + d + 1) (nI (a + 1)) (if nI s &&& thr_ a = thr_ a then c + 1 else c + 0) := by
      rw [Lp_s, E_v_sounds_l29.eq_def, if_neg c1, Lt_b]
      by_cases u1 : E_v_is (nI s) (nI a) = 0
      · rw [if_pos u1, if_neg (fun q => (t.mp q).1 u1), Lt_b, Lt_b, kn_po (by omega)]
      rw [if_neg u1, Lt_b, Lt_b, Lt_b]
      by_cases u2 : E_v_is (nI s) (nI a + 2 - (nI a + 2) / 7 * 7) = 0
      · rw [if_pos u2, if_neg (fun q => (t.mp q).2.1 u2), Lt_b, Lt_b, kn_po (by omega)]
      rw [if_neg u2, Lt_b, Lt_b, Lt_b]
      by_cases u3 : E_v_is (nI s) (nI a + 4 - (nI a + 4) / 7 * 7) = 0
      · rw [if_pos u3, if_neg (fun q => (t.mp q).2.2 u3), Lt_b, Lt_b, kn_po (by omega)]
      rw [if_neg u3, if_pos (t.mpr ⟨u1, u2, u3⟩), Lt_b, Lt_b, kn_po (by omega)]
    rw [show F + (d + 1) + 1 = F + d + 1 + 1 by omega, st1, st2]
    exact ih (a + 1) F _ (by omega)
theorem sounds_end {x r : Int32} {fw : Nat → Int32} (z2 : Int32 → Int32 → Int32) : ∀ d a F c, a + d = 7 → ∃ c', Lp (α := Int32 → Int32 → (Int32)) (E_v_sounds_l29 x fw r) z2 (F + d + 1) (nI a) c = (if x = 0 then r else (if x = 1 then c' else (if E_v_isMet fw = 0 then 0 else 1))) := by
  intro d
  induction d with
  | zero =>
    intro a F c ha
    have : a = 7 := by omega
    subst this
    refine ⟨c, ?_⟩
    rw [Lp_s, E_v_sounds_l29.eq_def, if_pos (show (7 : Int32) ≤ nI 7 by decide)]
    rfl
  | succ d ih =>
    intro a F c ha
    have c1 : ¬ (7 : Int32) ≤ nI a := kn_nlel (j := 7) rfl (by omega) (by omega)
    rw [show F + (d + 1) + 1 = F + d + 1 + 1 by omega, Lp_s, E_v_sounds_l29.eq_def, if_neg c1, Lt_b]
    by_cases u1 : E_v_is r (nI a) = 0
    · rw [if_pos u1, Lt_b, Lt_b, kn_po (by omega)]; exact ih _ _ _ (by omega)
    rw [if_neg u1, Lt_b, Lt_b, Lt_b]
    by_cases u2 : E_v_is r (nI a + 2 - (nI a + 2) / 7 * 7) = 0
    · rw [if_pos u2, Lt_b, Lt_b, kn_po (by omega)]; exact ih _ _ _ (by omega)
    rw [if_neg u2, Lt_b, Lt_b, Lt_b]
    by_cases u3 : E_v_is r (nI a + 4 - (nI a + 4) / 7 * 7) = 0
    · rw [if_pos u3, Lt_b, Lt_b, kn_po (by omega)]; exact ih _ _ _ (by omega)
    rw [if_neg u3, Lt_b, Lt_b, kn_po (by omega)]; exact ih _ _ _ (by omega)
theorem rel_sounds {x n lt nf fi thr : Int32} {f1 f2 f3 fw : Nat → Int32} {fl : Nat → Option Nat} {G : Nat → LC} {r1 r2 : Int32} (k1 : r1 = E_w_sounds x n lt nf fi f1 f2 f3) (k2 : r2 = E_v_sounds x thr fw) (h : TW n lt nf fi f1 f2 fl G fw) (h3 : ∀ j, j < 24 → f3 j = fw (67 + j)) : r1 = r2 := by
  have z0 : (0 : Int64).toInt = 0 := rfl
  have z2 : (2 : Int64).toInt = 2 := rfl
  have e8 : ((8 - (0 : Int32).toInt : Int).toNat + 1) = 1 + 7 + 1 := by decide
  obtain ⟨s, s1, s2⟩ := h.nrng
  rw [E_w_sounds.eq_def, E_w_thirdsNow.eq_def, h.notes, h.met h3, e8, s2] at k1
  rw [E_v_sounds.eq_def, Lt_b, Lt_b, e8, s2] at k2
  by_cases y0 : x.toInt = 0
  · have x0 : x = 0 := i_lit y0 rfl
    rw [if_pos y0, Lt_b] at k1
    rw [ifi_p (by omega), Lt_b] at k2
    obtain ⟨c', q⟩ := sounds_end (x := x) (r := nI s) (fw := fw) (fun _ _ => ((0) : Int32)) 7 0 1 0 (by omega)
    rw [k1, k2]
    refine Eq.symm (Eq.trans q ?_)
    rw [if_pos x0]
  rw [if_neg y0] at k1
  by_cases y1 : x.toInt = 1
  · rw [if_pos y1, Lt_b, Lt_b] at k1
    rw [ifi_p (by omega), Lt_b] at k2
    rw [k1, k2]
    exact thirds_at s1 (i_lit y1 rfl) _ _ 7 0 1 0 (by omega)
  rw [if_neg y1] at k1
  by_cases y2 : x.toInt = 2
  · rw [if_pos y2, Lt_b] at k1
    rw [ifi_p (by omega), Lt_b] at k2
    obtain ⟨c', q⟩ := sounds_end (x := x) (r := nI s) (fw := fw) (fun _ _ => ((0) : Int32)) 7 0 1 0 (by omega)
    rw [k1, k2]
    refine Eq.symm (Eq.trans q ?_)
    rw [if_neg (fun e => y0 (by rw [e]; rfl)), if_neg (fun e => y1 (by rw [e]; rfl))]
  rw [if_neg y2] at k1
  rw [ifi_n (by omega)] at k2
  rw [k1, k2]
end
section
/-! orders: the reference's machine over a text of orders -/
noncomputable def lfo (fw : Nat → Int32) (fnw : Nat → Int64) (op ar : Int32) : Int64 := if op = 0 then ar.toInt64 else if 6 ≤ op then (if op = 8 then (E_v_soundWith ar fw).toInt64 else if E_v_isHouse ar fw = 1 then (if op = 6 then (fw (11 + ar).toNatClampNeg).toInt64 else (fw (19 + ar).toNatClampNeg).toInt64) else -1) else fnw op.toNatClampNeg
theorem ro_j370 {t : Nat} {b : Int32} {f : Nat → Int64} (ht : t ≤ 400) : E_v_reckonOrd_j370 (nI t) b f = (b, if t = 0 then 0 else f 0, f) := by
  rw [E_v_reckonOrd_j370.eq_def, Lt_b]
  by_cases c : t = 0
  · rw [if_pos (kn_gel (j := 0) rfl (by omega) (by omega)), if_pos c]
  · rw [if_neg (kn_ngel (j := 0) rfl (by omega) (by omega)), if_neg c]
    rfl
theorem ro_head {hi y : Nat} {fw fo fa : Nat → Int32} {fnw : Nat → Int64} (hh : hi ≤ y) (hy : y ≤ 1000) (k : Nat) (q : k < hi) : ¬ nI y ≤ nI k := fun h => by
  have := (kn_le (by omega) (by omega)).mp h
  omega
theorem ro_all0 {hi y : Nat} {fw fo fa : Nat → Int32} {fnw : Nat → Int64} (hh : hi ≤ y) (hy : y ≤ 1000) (o k t : Nat) (f : Nat → Int64) (rc : KRR) (q : k < hi) (r : t < 400) (s2 : o < 20) (s : fo k = nI o) : E_v_reckonOrd_l10 (nI y) fw fnw fo fa rc (nI k) (nI t) 0 f = rc (nI (k + 1)) (nI (t + 1)) 0 (vp_updL f t (lfo fw fnw (fo k) (fa k))) := by
  rw [E_v_reckonOrd_l10.eq_def, if_neg (ro_head (fw := fw) (fo := fo) (fa := fa) (fnw := fnw) hh hy k q), if_pos rfl, kn_cl (by omega), kn_po (by omega), Lt_b, Lt_b, Lt_b, s, if_neg (kn_nlel (j := 20) rfl (by omega) s2)]
  unfold lfo
  by_cases c : nI o = 0
  · rw [if_pos c, if_pos c, Lt_b, Lt_b, Lt_b, kn_cl (a := t) (by omega), kn_po (by omega)]
  rw [if_neg c, if_neg c]
  by_cases c6 : 6 ≤ nI o
  case neg => rw [if_neg c6, if_neg c6, Lt_b, Lt_b, Lt_b, kn_cl (a := t) (by omega), kn_po (by omega)]
  rw [if_pos c6, if_pos c6]
  by_cases c8 : nI o = 8
  · rw [if_pos c8, if_pos c8, Lt_b, Lt_b, Lt_b, Lt_b, kn_cl (a := t) (by omega), kn_po (by omega)]
  rw [if_neg c8, if_neg c8, Lt_b]
  by_cases ch : E_v_isHouse (fa k) fw = 1
  case neg => rw [if_neg ch, if_neg ch, Lt_b, Lt_b, kn_cl (a := t) (by omega), kn_po (by omega)]
  rw [if_pos ch, if_pos ch]
  by_cases c7 : nI o = 6
  · rw [if_pos c7, if_pos c7, Lt_b, Lt_b, Lt_b, Lt_b, Lt_b, kn_cl (a := t) (by omega), kn_po (by omega)]
  · rw [if_neg c7, if_neg c7, Lt_b, Lt_b, Lt_b, Lt_b, Lt_b, kn_cl (a := t) (by omega), kn_po (by omega)]
theorem ro_all1 {hi y : Nat} {fw fo fa : Nat → Int32} {fnw : Nat → Int64} (hh : hi ≤ y) (hy : y ≤ 1000) (o k t : Nat) (f : Nat → Int64) (rc : KRR) (q : k < hi) (r : 2 ≤ t) (r2 : t ≤ 400) (s2 : 3 ≤ o ∧ o ≤ 10) (s : fo k = nI (o + 17)) : E_v_reckonOrd_l10 (nI y) fw fnw fo fa rc (nI k) (nI t) 0 f = rc (nI (k + 1)) (nI (t - 1)) (if (E_v_reckon (nI (o + 17)) (f (t - 2)) (f (t - 1)) 0).2 = 0 then (if E_v_in (E_v_reckon (nI (o + 17)) (f (t - 2)) (f (t - 1)) 0).1 (-1000000000) 1000000000 = 1 then 0 else 1) else 1) (vp_updL f (t - 2) (E_v_reckon (nI (o + 17)) (f (t - 2)) (f (t - 1)) 0).1) := by
  rw [E_v_reckonOrd_l10.eq_def, if_neg (ro_head (fw := fw) (fo := fo) (fa := fa) (fnw := fnw) hh hy k q), if_pos rfl, kn_cl (by omega), kn_po (by omega), Lt_b, Lt_b, Lt_b, s, if_pos (kn_lel (j := 20) rfl (by omega) (by omega)), if_neg (kn_nlel (j := 28) rfl (by omega) (by omega)), Lt_b, Lt_b, Lt_b, Lt_b, Lt_b, kn_mo (by omega) (by omega), kn_m1 (by omega) (by omega), kn_cl (a := t - 1 - 1) (by omega), kn_cl (a := t - 1) (by omega), show t - 1 - 1 = t - 2 by omega]
  rw [Lt2_b, Lt_b]
  by_cases c : (E_v_reckon (nI (o + 17)) (f (t - 2)) (f (t - 1)) 0).2 = 0
  · rw [if_pos c, if_pos c, Lt_b, Lt_b, Lt_b, kn_cl (a := t - 2) (by omega), upl_s]
    by_cases d : E_v_in (E_v_reckon (nI (o + 17)) (f (t - 2)) (f (t - 1)) 0).1 (-1000000000) 1000000000 = 1
    · rw [if_pos d, if_pos d]
    · rw [if_neg d, if_neg d]
  · rw [if_neg c, if_neg c]
theorem ro_all2 {hi y : Nat} {fw fo fa : Nat → Int32} {fnw : Nat → Int64} (hh : hi ≤ y) (hy : y ≤ 1000) (k t : Nat) (f : Nat → Int64) (rc : KRR) (q : k < hi) (r : 1 ≤ t) (r2 : t ≤ 400) (s : fo k = 28) : E_v_reckonOrd_l10 (nI y) fw fnw fo fa rc (nI k) (nI t) 0 f = rc (nI (k + 1)) (nI t) 0 (vp_updL f (t - 1) (1 - f (t - 1))) := by
  rw [E_v_reckonOrd_l10.eq_def, if_neg (ro_head (fw := fw) (fo := fo) (fa := fa) (fnw := fnw) hh hy k q), if_pos rfl, kn_cl (by omega), kn_po (by omega), Lt_b, Lt_b, Lt_b, s, if_pos (by decide), if_pos (by decide), if_pos rfl, Lt_b, Lt_b, Lt_b, Lt_b, Lt_b, kn_m1 (by omega) r, kn_cl (a := t - 1) (by omega)]
theorem ro_all3 {hi y : Nat} {fw fo fa : Nat → Int32} {fnw : Nat → Int64} (hh : hi ≤ y) (hy : y ≤ 1000) (e k t : Nat) (f : Nat → Int64) (rc : KRR) (q : k < hi) (r : 1 ≤ t) (r2 : t ≤ 400) (s2 : fa k = nI e) (s : fo k = 29) : E_v_reckonOrd_l10 (nI y) fw fnw fo fa rc (nI k) (nI t) 0 f = if f (t - 1) = 0 then rc (nI e) (nI t) 0 f else rc (nI (k + 1)) (nI (t - 1)) 0 f := by
  rw [E_v_reckonOrd_l10.eq_def, if_neg (ro_head (fw := fw) (fo := fo) (fa := fa) (fnw := fnw) hh hy k q), if_pos rfl, kn_cl (by omega), kn_po (by omega), Lt_b, Lt_b, Lt_b, s, s2, if_pos (by decide), if_pos (by decide), if_neg (by decide), Lt_b, Lt_b, if_pos rfl, kn_m1 (by omega) r, kn_cl (a := t - 1) (by omega)]
  by_cases c : f (t - 1) = 0
  · rw [if_pos c, if_pos ((lg_cmp_eq _ _).mpr c)]
  · rw [if_neg c, if_neg (fun h => c ((lg_cmp_eq _ _).mp h)), Lt_b, kn_mo (by omega) r]
theorem ro_all4 {hi y : Nat} {fw fo fa : Nat → Int32} {fnw : Nat → Int64} (hh : hi ≤ y) (hy : y ≤ 1000) (e k t : Nat) (f : Nat → Int64) (rc : KRR) (q : k < hi) (r : 1 ≤ t) (r2 : t ≤ 400) (s2 : fa k = nI e) (s : fo k = 30) : E_v_reckonOrd_l10 (nI y) fw fnw fo fa rc (nI k) (nI t) 0 f = if f (t - 1) = 1 then rc (nI e) (nI t) 0 f else rc (nI (k + 1)) (nI (t - 1)) 0 f := by
  rw [E_v_reckonOrd_l10.eq_def, if_neg (ro_head (fw := fw) (fo := fo) (fa := fa) (fnw := fnw) hh hy k q), if_pos rfl, kn_cl (by omega), kn_po (by omega), Lt_b, Lt_b, Lt_b, s, s2, if_pos (by decide), if_pos (by decide), if_neg (by decide), Lt_b, Lt_b, if_neg (by decide), kn_m1 (by omega) r, kn_cl (a := t - 1) (by omega)]
  by_cases c : f (t - 1) = 1
  · rw [if_pos c, if_pos ((lg_cmp_eq _ _).mpr c)]
  · rw [if_neg c, if_neg (fun h => c ((lg_cmp_eq _ _).mp h)), Lt_b, kn_mo (by omega) r]
theorem ro_all5 {y : Nat} {fw fo fa : Nat → Int32} {fnw : Nat → Int64} (k t : Nat) (f : Nat → Int64) (rc : KRR) (p : t ≤ 400) : ∃ v, E_v_reckonOrd_l10 (nI y) fw fnw fo fa rc (nI k) (nI t) 1 f = (1, v, f) := by
  rw [E_v_reckonOrd_l10.eq_def]
  by_cases c : nI y ≤ nI k
  · rw [if_pos c, ro_j370 p]; exact ⟨_, rfl⟩
  · rw [if_neg c, if_neg (by decide), ro_j370 p]; exact ⟨_, rfl⟩
theorem ro_all {lo hi y : Nat} {fw fo fa : Nat → Int32} {fnw : Nat → Int64} (hh : hi ≤ y) (hy : y ≤ 1000) : RM lo hi fo fa (lfo fw fnw) (E_v_reckonOrd_l10 (nI y) fw fnw fo fa) := ⟨fun o k t f rc _ q r s s2 => ro_all0 hh hy o k t f rc q r s s2, fun o k t f rc _ q r r2 s s2 => ro_all1 hh hy o k t f rc q r r2 s s2, fun k t f rc _ q r r2 s => ro_all2 hh hy k t f rc q r r2 s, fun e k t f rc _ q r r2 s s2 => ro_all3 hh hy e k t f rc q r r2 s s2, fun e k t f rc _ q r r2 s s2 => ro_all4 hh hy e k t f rc q r r2 s s2, fun k t f rc p _ => ro_all5 k t f rc p⟩
theorem ro_stop {q : Nat} {fw fo fa : Nat → Int32} {fnw : Nat → Int64} (t : Nat) (br : Int32) (f : Nat → Int64) (rc : KRR) (ht : t ≤ 400) : E_v_reckonOrd_l10 (nI q) fw fnw fo fa rc (nI q) (nI t) br f = (br, if t = 0 then 0 else f 0, f) := by
  rw [E_v_reckonOrd_l10.eq_def, if_pos (ie_iff.mpr (Int.le_refl _)), ro_j370 ht]
/-- a sum or a test of orders: both broken, or the same value -/
theorem reck_ord {P : Int → Prop} {m a e p q nc : Nat} {fc fo fa fw cw : Nat → Int32} {fnw : Nat → Int64} (h : SE 1 P 1 m fc a e fo fa p q) (hm : m ≤ 64) (h0 : fc e = 0) (he : e + 1 < nc) (hc : nc ≤ 1000000) (hpq : p ≤ q) (hq : q ≤ 400) (henv : KEnv 1 (fun w => cw w.toNatClampNeg) (fun w => 0 ≤ w.toInt ∧ w.toInt < ((28 : Nat) : Int)) (lfo fw fnw)) :
    ((∀ br fs, ∃ f', E_w_run (nI a) br fs 28 cw nc fc = (0, 1, f')) ∧ ∀ br vl f, ∃ v f', E_v_reckonOrd (nI p) (nI q) br vl fw fnw f fo fa = (1, v, f')) ∨
    (∃ g : Int, (-1000000000 ≤ g ∧ g ≤ 1000000000) ∧ P g ∧ (∀ br fs, ∃ r f', E_w_run (nI a) br fs 28 cw nc fc = (r, 0, f') ∧ r.toInt = g) ∧ ∀ br vl f, ∃ v f', E_v_reckonOrd (nI p) (nI q) br vl fw fnw f fo fa = (0, v, f') ∧ v.toInt = g) := by
  have hB := ro_all (lo := p) (hi := q) (y := q) (fw := fw) (fo := fo) (fa := fa) (fnw := fnw) (Nat.le_refl _) (by omega)
  have fu : ((nI q).toInt - (nI p).toInt + 1 : Int).toNat + 1 = 1 + (q - p) + 1 := rk_fuel hpq hq
  rcases run_both (nw := 28) h hm h0 he hc (by omega) cw henv with ⟨p1, p2⟩ | ⟨g, g1, g2, p1, p2⟩
  · refine Or.inl ⟨p1, fun br vl f => ?_⟩
    obtain ⟨v, f', q1⟩ := p2 _ hB (fun t b f rc ht => ro_stop t b f rc ht) (fun _ _ _ _ => ((0, 0, fun _ => 0) : Int32 × Int64 × (Nat → Int64))) f 1
    refine ⟨v, f', ?_⟩
    rw [E_v_reckonOrd.eq_def, fu]; exact q1
  · refine Or.inr ⟨g, g1, g2, p1, fun br vl f => ?_⟩
    obtain ⟨v, f', q1, q2⟩ := p2 _ hB (fun t b f rc ht => ro_stop t b f rc ht) (fun _ _ _ _ => ((0, 0, fun _ => 0) : Int32 × Int64 × (Nat → Int64))) f 1
    refine ⟨v, f', ?_, q2⟩
    rw [E_v_reckonOrd.eq_def, fu]; exact q1
end
section
/-! what orders are asked with -/
noncomputable def cso (fw : Nat → Int32) (x : Nat) (k : Nat) : Int32 := match k with
  | 0 => 0
  | k + 1 => if fw (35 + k) = nI x ∧ ¬ E_v_isSounding (nI k) fw = 0 then cso fw x k + 1 else cso fw x k
theorem cso_b {fw : Nat → Int32} {x : Nat} : ∀ k, k ≤ 1000 → 0 ≤ (cso fw x k).toInt ∧ (cso fw x k).toInt ≤ (k : Int) := by
  intro k
  induction k with
  | zero => intro _; exact ⟨by show (0 : Int) ≤ (0 : Int32).toInt; decide, by show (0 : Int32).toInt ≤ _; decide⟩
  | succ k ih =>
    intro hk
    have q := ih (by omega)
    show 0 ≤ (if fw (35 + k) = nI x ∧ ¬ E_v_isSounding (nI k) fw = 0 then cso fw x k + 1 else cso fw x k).toInt ∧ _
    show _ ∧ (if fw (35 + k) = nI x ∧ ¬ E_v_isSounding (nI k) fw = 0 then cso fw x k + 1 else cso fw x k).toInt ≤ _
    by_cases c : fw (35 + k) = nI x ∧ ¬ E_v_isSounding (nI k) fw = 0
    · rw [if_pos c, i_add (Eq.refl (cso fw x k).toInt) (show (1 : Int32).toInt = 1 from rfl) (by omega)]; omega
    · rw [if_neg c]; omega
theorem soundWith_at {fw : Nat → Int32} {N x : Nat} (hN : N ≤ 8) (e2 : fw 0 = nI N) : E_v_soundWith (nI x) fw = cso fw x N := by
  have go : ∀ d a F, a + d = N → Lp (α := Int32 → Int32 → (Int32)) (E_v_soundWith_l4 (nI x) fw) (fun _ _ => ((0) : Int32)) (F + d + 1) (nI a) (cso fw x a) = cso fw x N := by
    intro d
    induction d with
    | zero =>
      intro a F ha
      have : a = N := by omega
      subst this
      rw [Lp_s, E_v_soundWith_l4.eq_def, Lt_b, show fw (0 : Int32).toNatClampNeg = nI a from e2, if_pos ((kn_le (by omega) (by omega)).mpr (Nat.le_refl _))]
    | succ d ih =>
      intro a F ha
      have c1 : ¬ nI N ≤ nI a := fun q => by have := (kn_le (by omega) (by omega)).mp q; omega
      have z0 : ∀ v : Int32, v + 0 = v := fun v => Int32.add_zero v
      have q := ih (a + 1) F (by omega)
      rw [show F + (d + 1) + 1 = F + d + 1 + 1 by omega, Lp_s, E_v_soundWith_l4.eq_def, Lt_b, show fw (0 : Int32).toNatClampNeg = nI N from e2, if_neg c1, n_ladd (m := 35) rfl (by omega), Lt_b, Lt_b, kn_cl (by omega)]
      by_cases c : fw (35 + a) = nI x
      · rw [if_pos c, Lt_b]
        by_cases s : E_v_isSounding (nI a) fw = 0
        · rw [if_pos s, Lt_b, Lt_b, kn_po (by omega), z0]
          rw [show cso fw x (a + 1) = cso fw x a from if_neg (fun h => h.2 s)] at q
          exact q
        · rw [if_neg s, Lt_b, Lt_b, kn_po (by omega)]
          rw [show cso fw x (a + 1) = cso fw x a + 1 from if_pos ⟨c, s⟩] at q
          exact q
      · rw [if_neg c, Lt_b, Lt_b, kn_po (by omega), z0]
        rw [show cso fw x (a + 1) = cso fw x a from if_neg (fun h => c h.1)] at q
        exact q
  rw [E_v_soundWith.eq_def, show ((9 - (0 : Int32).toInt : Int).toNat + 1) = 9 - N + N + 1 by rw [show (0 : Int32).toInt = 0 from rfl]; omega]
  exact go N 0 (9 - N) (by omega)
theorem look_in {n lt nf fi : Int32} {f1 f2 fw : Nat → Int32} {fl : Nat → Option Nat} {G : Nat → LC} (h : TW n lt nf fi f1 f2 fl G fw) {N : Nat} (hN : N ≤ 8) (eN : (N : Int) = n.toInt) (z : Int32 → (Nat → Int32) → (Nat → Int32)) : ∀ (d a F : Nat), a + d = 8 → ∀ f : Nat → Int32, (∀ x, x < 7 → f (21 + x) = cso fw x (min a N)) → (∀ i, a ≤ i → i < 8 → (Lp (α := Int32 → (Nat → Int32) → ((Nat → Int32))) (E_w_look_l80 n f1 f2) z (F + d + 1) (nI a) f) (5 + i) = (if i < N then fw (11 + i) else -1) ∧ (Lp (α := Int32 → (Nat → Int32) → ((Nat → Int32))) (E_w_look_l80 n f1 f2) z (F + d + 1) (nI a) f) (13 + i) = (if i < N then fw (19 + i) else -1)) ∧ (∀ j, j < 5 + a ∨ (13 ≤ j ∧ j < 13 + a) → (Lp (α := Int32 → (Nat → Int32) → ((Nat → Int32))) (E_w_look_l80 n f1 f2) z (F + d + 1) (nI a) f) j = f j) ∧ ∀ x, x < 7 → (Lp (α := Int32 → (Nat → Int32) → ((Nat → Int32))) (E_w_look_l80 n f1 f2) z (F + d + 1) (nI a) f) (21 + x) = cso fw x N := by
  intro d
  induction d with
  | zero =>
    intro a F ha f hf
    have : a = 8 := by omega
    subst this
    rw [Nat.add_zero, Lp_s, E_w_look_l80.eq_def, if_pos (show (8 : Int32) ≤ nI 8 by decide)]
    exact ⟨fun i h1 h2 => by omega, fun _ _ => rfl, fun x hx => by rw [hf x hx, show min 8 N = N by omega]⟩
  | succ d ih =>
    intro a F ha f hf
    have a8 : a < 8 := by omega
    have c1 : ¬ (8 : Int32) ≤ nI a := kn_nlel (j := 8) rfl (by omega) a8
    have key : ∃ g, Lp (α := Int32 → (Nat → Int32) → ((Nat → Int32))) (E_w_look_l80 n f1 f2) z (F + (d + 1) + 1) (nI a) f = Lp (α := Int32 → (Nat → Int32) → ((Nat → Int32))) (E_w_look_l80 n f1 f2) z (F + d + 1) (nI (a + 1)) g ∧ g (5 + a) = (if a < N then fw (11 + a) else -1) ∧ g (13 + a) = (if a < N then fw (19 + a) else -1) ∧ (∀ j, j < 21 → j ≠ 5 + a → j ≠ 13 + a → g j = f j) ∧ ∀ x, x < 7 → g (21 + x) = cso fw x (min (a + 1) N) := by
      rw [show F + (d + 1) + 1 = F + d + 1 + 1 by omega, Lp_s, E_w_look_l80.eq_def, if_neg c1, Lt_b]
      by_cases c : a < N
      · have n1 := (h.2.2.2.2.1 a a8).1
        obtain ⟨p, hp, p7⟩ : ∃ p : Nat, fw (35 + a) = nI p ∧ p < 7 := ⟨(fw (35 + a)).toInt.toNat, i_ofN rfl n1.1, by omega⟩
        have e1 : ∀ x, cso fw x (min (a + 1) N) = if fw (35 + a) = nI x ∧ ¬ E_v_isSounding (nI a) fw = 0 then cso fw x a + 1 else cso fw x a := fun x => by
          rw [show min (a + 1) N = a + 1 by omega]; rfl
        have e0 : ∀ x, x < 7 → f (21 + x) = cso fw x a := fun x hx => by rw [hf x hx, show min a N = a by omega]
        rw [(h.has (show (a : Int) < n.toInt by omega)).2, if_pos rfl, h.fire a8, h.coal a8, h.note a8, hp, n_ladd (m := 5) rfl (by omega), n_ladd (m := 13) rfl (by omega), Lt_b, Lt_b, Lt_b, Lt_b, Lt_b, Lt_b, Lt_b, Lt_b, Lt_b, n_ladd (m := 21) rfl (by omega), h.sings a8, kn_cl (by omega), kn_cl (by omega), if_pos c, if_pos c]
        have same : ∀ x, x < 7 → (¬ (fw (35 + a) = nI x ∧ ¬ E_v_isSounding (nI a) fw = 0)) → (upd (upd f (5 + a) (fw (11 + a))) (13 + a) (fw (19 + a))) (21 + x) = cso fw x (min (a + 1) N) := fun x hx hc => by
          rw [upd_n (by omega), upd_n (by omega), e1, if_neg hc, e0 x hx]
        by_cases s : E_v_isSounding (nI a) fw = 0
        · rw [if_pos s, E_w_look_j185.eq_def, Lt_b, kn_po (by omega)]
          exact ⟨_, rfl, by rw [upd_n (by omega), upd_s], upd_s, fun j _ h2 h3 => by rw [upd_n h3, upd_n h2], fun x hx => same x hx (fun q => q.2 s)⟩
        · rw [if_neg s, if_neg (kn_nltl (j := 21) rfl (by omega) (by omega)), if_neg (kn_nlel (j := 28) rfl (by omega) (by omega)), Lt_b, Lt_b, Lt_b, E_w_look_j185.eq_def, Lt_b, kn_po (by omega), kn_cl (by omega)]
          refine ⟨_, rfl, by rw [upd_n (by omega), upd_n (by omega), upd_s], by rw [upd_n (by omega), upd_s], fun j h1 h2 h3 => by rw [upd_n (by omega), upd_n h3, upd_n h2], fun x hx => ?_⟩
          by_cases ex : x = p
          · subst ex
            rw [upd_s, e1, if_pos ⟨hp, s⟩, upd_n (by omega), upd_n (by omega), e0 x hx]
          · rw [upd_n (by omega)]
            exact same x hx (fun q => by
              have := q.1
              rw [hp] at this
              exact ex ((kn_eq (by omega) (by omega)).mp this).symm)
      · rw [has_n (by rw [nI_toInt (by omega)]; omega), if_neg (by decide), n_ladd (m := 5) rfl (by omega), n_ladd (m := 13) rfl (by omega), Lt_b, Lt_b, Lt_b, Lt_b, Lt_b, Lt_b, E_w_look_j185.eq_def, Lt_b, kn_po (by omega), kn_cl (by omega), kn_cl (by omega), if_neg c, if_neg c]
        exact ⟨_, rfl, by rw [upd_n (by omega), upd_s], upd_s, fun j _ h2 h3 => by rw [upd_n h3, upd_n h2], fun x hx => by rw [upd_n (by omega), upd_n (by omega), hf x hx, show min a N = N by omega, show min (a + 1) N = N by omega]⟩
    obtain ⟨g, k1, k2, k3, k4, k5⟩ := key
    obtain ⟨q1, q2, q3⟩ := ih (a + 1) F (by omega) g k5
    rw [← k1] at q1 q2 q3
    refine ⟨fun i h1 h2 => ?_, fun j hj => ?_, q3⟩
    · by_cases ia : i = a
      · subst ia
        exact ⟨(q2 _ (by omega)).trans k2, (q2 _ (by omega)).trans k3⟩
      · exact q1 i (by omega) h2
    · rw [q2 j (by omega)]; exact k4 j (by omega) (by omega) (by omega)
theorem look_at {n lt nf fi : Int32} {f1 f2 fw : Nat → Int32} {fl : Nat → Option Nat} {G : Nat → LC} (h : TW n lt nf fi f1 f2 fl G fw) {N : Nat} (hN : N ≤ 8) (eN : (N : Int) = n.toInt) (dn me : Int32) (fv : Nat → Int32) : (E_w_look dn me fv n fi f1 f2 0 = fw 4 ∧ E_w_look dn me fv n fi f1 f2 1 = fw 5 ∧ E_w_look dn me fv n fi f1 f2 2 = fw 10 ∧ E_w_look dn me fv n fi f1 f2 3 = dn ∧ E_w_look dn me fv n fi f1 f2 4 = me) ∧ (∀ i, i < 8 → E_w_look dn me fv n fi f1 f2 (5 + i) = (if i < N then fw (11 + i) else -1) ∧ E_w_look dn me fv n fi f1 f2 (13 + i) = (if i < N then fw (19 + i) else -1)) ∧ ∀ x, x < 7 → E_w_look dn me fv n fi f1 f2 (21 + x) = cso fw x N := by
  obtain ⟨g, hg⟩ : ∃ g, g = upd (upd (upd (upd (upd fv 0 (f2 0)) 1 (f2 1)) 2 fi) 3 dn) 4 me := ⟨_, rfl⟩
  have hB : ∀ (rc : Int32 → (Nat → Int32) → (Nat → Int32)) (i : Nat) (f : Nat → Int32), i < 7 → E_w_look_l56 n f1 f2 rc (nI i) f = rc (nI (i + 1)) (upd f (21 + i) 0) := fun rc i f hi => by
    rw [E_w_look_l56.eq_def, if_neg (kn_nlel (j := 7) rfl (by omega) hi), Lt_b, Lt_b, Lt_b, kn_po (by omega), n_ladd (m := 21) rfl (by omega), kn_cl (by omega)]
  have q := lp_it (d := fun i => 21 + i) (s := fun _ _ => 0) hB (fun _ _ => ((fun _ => 0) : Nat → Int32)) g 7 2 0 rfl
  have e : E_w_look dn me fv n fi f1 f2 = Lp (α := Int32 → (Nat → Int32) → ((Nat → Int32))) (E_w_look_l80 n f1 f2) (fun _ _ => ((fun _ => 0) : Nat → Int32)) (1 + 8 + 1) (nI 0) (kitf (fun i => 21 + i) (fun _ _ => 0) g 7) := by
    rw [E_w_look.eq_def, Lt_b, Lt_b, Lt_b, Lt_b, Lt_b, Lt_b, Lt_b]
    refine Eq.trans (show _ = Lp (α := Int32 → (Nat → Int32) → ((Nat → Int32))) (E_w_look_l56 n f1 f2) (fun _ _ => ((fun _ => 0) : Nat → Int32)) (2 + 7) (nI 0) g from by rw [hg]; rfl) (q.trans ?_)
    rw [Lp_s, E_w_look_l56.eq_def, if_pos (kn_lel (j := 7) rfl (by omega) (Nat.le_refl _)), show ((9 - (0 : Int32).toInt : Int).toNat + 1) = 1 + 8 + 1 by decide]
    rfl
  have k := fun j => kitf_cp (s := fun _ => 0) (a := 21) (f := g) 7 j
  obtain ⟨p1, p2, p3⟩ := look_in h hN eN (fun _ _ => ((fun _ => 0) : Nat → Int32)) 8 0 1 rfl (kitf (fun i => 21 + i) (fun _ _ => 0) g 7) (fun x hx => by rw [k, if_pos (by omega), show min 0 N = 0 by omega]; rfl)
  rw [← e] at p1 p2 p3
  have t1 := h.1.1
  refine ⟨⟨?_, ?_, ?_, ?_, ?_⟩, fun i hi => p1 i (Nat.zero_le _) hi, p3⟩
  · rw [p2 _ (by omega), k, if_neg (by omega), hg, upd_n (by omega), upd_n (by omega), upd_n (by omega), upd_n (by omega), upd_s]; exact t1 0 (by omega)
  · rw [p2 _ (by omega), k, if_neg (by omega), hg, upd_n (by omega), upd_n (by omega), upd_n (by omega), upd_s]; exact t1 1 (by omega)
  · rw [p2 _ (by omega), k, if_neg (by omega), hg, upd_n (by omega), upd_n (by omega), upd_s]; exact h.1.2.1
  · rw [p2 _ (by omega), k, if_neg (by omega), hg, upd_n (by omega), upd_s]
  · rw [p2 _ (by omega), k, if_neg (by omega), hg, upd_s]
/-- both machines are asked with the same -/
theorem look_env {n lt nf fi : Int32} {f1 f2 fw : Nat → Int32} {fl : Nat → Option Nat} {G : Nat → LC} (h : TW n lt nf fi f1 f2 fl G fw) {dn me : Int32} (fv : Nat → Int32) {fnw : Nat → Int64} (hd : KBd dn) (hm : KBd me) (k1 : (fnw 1).toInt = (fw 4).toInt) (k2 : (fnw 2).toInt = (fw 5).toInt) (k3 : (fnw 3).toInt = (fw 10).toInt) (k4 : (fnw 4).toInt = dn.toInt) (k5 : (fnw 5).toInt = me.toInt) : KEnv 1 (fun w => E_w_look dn me fv n fi f1 f2 w.toNatClampNeg) (fun w => 0 ≤ w.toInt ∧ w.toInt < ((28 : Nat) : Int)) (lfo fw fnw) := by
  obtain ⟨N, n8, e1, e2, eN⟩ := h.nN
  obtain ⟨⟨w0, w1, w2, w3, w4⟩, w5, w6⟩ := look_at h n8 eN dn me fv
  obtain ⟨g1, g2, g3, g4, g5, g6, g7, g8⟩ := h.1.2.2.2.2
  have hn := h.2.2.2.2.2.2.1
  have hs : ∀ i, i < 8 → E_v_isHouse (nI i) fw = if i < N then 1 else 0 := fun i hi => by
    rw [isHouse_at hn]
    by_cases c : i < N
    · rw [if_pos c]; exact (h.has (by omega)).2
    · rw [if_neg c]; exact has_n (by rw [nI_toInt (by omega)]; omega)
  refine ⟨fun ar => ?_, fun w op ar hk => ?_⟩
  · unfold lfo; rw [if_pos rfl]; exact wide_at
  · unfold KL at hk
    rw [if_neg (by decide)] at hk
    rcases hk with ⟨j, j5, rfl, rfl⟩ | ⟨i, i8, rfl, rfl, rfl⟩ | ⟨i, i8, rfl, rfl, rfl⟩ | ⟨i, i7, rfl, rfl, rfl⟩
    · have e : lfo fw fnw (nI (j + 1)) ar = fnw (j + 1) := by
        unfold lfo
        rw [if_neg (kn_nz (j := 0) rfl (by omega) (by omega)), if_neg (kn_nlel (j := 6) rfl (by omega) (by omega)), kn_cl (by omega)]
      refine ⟨by dsimp only; rw [nI_toInt (by omega)]; omega, ?_⟩
      dsimp only
      rw [e, kn_cl (by omega)]
      rcases (show j = 0 ∨ j = 1 ∨ j = 2 ∨ j = 3 ∨ j = 4 by omega) with rfl | rfl | rfl | rfl | rfl
      · rw [w0]; exact ⟨k1, by omega, by omega⟩
      · rw [w1]; exact ⟨k2, by omega, by omega⟩
      · rw [w2]; exact ⟨k3, by omega, by omega⟩
      · rw [w3]; exact ⟨k4, hd.1, hd.2⟩
      · rw [w4]; exact ⟨k5, hm.1, hm.2⟩
    · refine ⟨by dsimp only; rw [nI_toInt (by omega)]; omega, ?_⟩
      dsimp only
      rw [kn_cl (by omega), (w5 i i8).1]
      have e : lfo fw fnw 6 (nI i) = if i < N then (fw (11 + i)).toInt64 else -1 := by
        unfold lfo
        rw [if_neg (by decide), if_pos (by decide), if_neg (by decide), hs i i8, n_ladd (m := 11) rfl (by omega), kn_cl (by omega)]
        by_cases c : i < N
        · rw [if_pos c, if_pos c, if_pos rfl, if_pos rfl]
        · rw [if_neg c, if_neg c, if_neg (by decide)]
      rw [e]
      by_cases c : i < N
      · have := (g8 i i8).1
        rw [if_pos c, if_pos c]; exact ⟨wide_at, by omega, by omega⟩
      · rw [if_neg c, if_neg c]; decide
    · refine ⟨by dsimp only; rw [nI_toInt (by omega)]; omega, ?_⟩
      dsimp only
      rw [kn_cl (by omega), (w5 i i8).2]
      have e : lfo fw fnw 7 (nI i) = if i < N then (fw (19 + i)).toInt64 else -1 := by
        unfold lfo
        rw [if_neg (by decide), if_pos (by decide), if_neg (by decide), hs i i8, n_ladd (m := 11) rfl (by omega), n_ladd (m := 19) rfl (by omega), kn_cl (by omega), kn_cl (by omega)]
        by_cases c : i < N
        · rw [if_pos c, if_pos c, if_pos rfl, if_neg (by decide)]
        · rw [if_neg c, if_neg c, if_neg (by decide)]
      rw [e]
      by_cases c : i < N
      · have := (g8 i i8).2.1
        rw [if_pos c, if_pos c]; exact ⟨wide_at, by omega, by omega⟩
      · rw [if_neg c, if_neg c]; decide
    · refine ⟨by dsimp only; rw [nI_toInt (by omega)]; omega, ?_⟩
      dsimp only
      rw [kn_cl (by omega), w6 i i7]
      have e : lfo fw fnw 8 (nI i) = (cso fw i N).toInt64 := by
        unfold lfo
        rw [if_neg (by decide), if_pos (by decide), if_pos rfl, soundWith_at n8 e2]
      have := cso_b (fw := fw) (x := i) N (by omega)
      rw [e]; exact ⟨wide_at, by omega, by omega⟩
end
section
/-! one turn of a clause, both sides -/
theorem remember_far {s : Nat} {nu : Int32} {fw fu fs : Nat → Int32} {u : Nat} (hu : u ≤ 16) (e : nu = nI u) : ∀ j, 496 ≤ j → (E_v_remember (nI s) nu fw fu fs).2.1 j = fu j := by
  intro j hj
  subst e
  by_cases c : u < 16
  · rw [remember_lt c]
    dsimp only
    rw [keepAll_at (by omega), if_neg (by omega)]
  · have : u = 16 := by omega
    subst this
    rw [remember_16]
    dsimp only
    rw [keepAll_at (by omega), if_neg (by omega), kitf_sh (by omega), if_neg (by omega)]
theorem nextHour_r {n lt nf fi : Int32} {f1 f2 f3 fw : Nat → Int32} {fl : Nat → Option Nat} {G : Nat → LC} (h : TW n lt nf fi f1 f2 fl G fw) (h3 : ∀ j, j < 24 → f3 j = fw (67 + j)) (br : Int32) (fs cw : Nat → Int32) : (E_w_nextHour G br fs cw n lt nf fi f1 f2 f3 fl).1 = -3 ∨ (E_w_nextHour G br fs cw n lt nf fi f1 f2 f3 fl).1 = 0 ∨ (E_w_nextHour G br fs cw n lt nf fi f1 f2 f3 fl).1 = 1 := by
  by_cases c : (fw 4).toInt < 23 ∨ (fw 5).toInt < 999
  · obtain ⟨b1, b2, b3, b4, b5, b6, b7, b8, b9, b10, b11, b12, b13, b14, p1, _⟩ := pass_at h h3 c br fs cw 0 0 0 0 (fun _ => 0) (fun _ => 0) (fun _ => 0)
    rw [p1]
    exact Or.inr met_01
  · rw [noPass_at h c]
    exact Or.inl rfl
theorem j277_at {r r2 n lt nf fi fi' nu nu' dr kp dn me0 xb br' : Int32} {v : Nat} {f1 f2 f1' f2' fw fw' fu fsr fu' fsr' sl W fx fs' cw' : Nat → Int32} {fl : Nat → Option Nat} {G : Nat → LC} {A1 A2 A3 A4 A7 A8 A10 A13 : Int32} {A5 A6 A9 A11 A12 A14 A15 : Nat → Int32} (k : (A1, A2, A3, A4, A5, A6, A7, A8, A9, A10, A11, A12, A13, A14, A15) = E_w_turn_j277 dn dr kp W (nI v) xb fx (E_w_draft dr sl fi f1 f2) r me0 br' fi' fs' cw' f1' f2') (a : ActR r r2 v n lt nf fi fi' f1 f2 f1' f2' fl G fw fw' nu nu' fu fsr fu' fsr') (hr : HR n dr kp nu sl fu fsr fw) (h : TW n lt nf fi f1 f2 fl G fw) (hv : v < 4) :
    r = r2 ∧ ((r.toInt < 0 ∧ A1 = 0 ∧ fw' = fw ∧ fu' = fu) ∨ (0 ≤ r.toInt ∧ A1 = 1 ∧ A2 = dn + 1 ∧ A3 = me0 ∧ TW n lt nf A13 A14 A15 fl G fw' ∧ HR n A7 A8 nu' A9 fu' fsr' fw' ∧ (∀ j, 496 ≤ j → fu' j = fu j) ∧ ∀ j, j < 4 ∨ 35 ≤ j → fw' j = fw j)) := by
  obtain ⟨e, a⟩ := a
  refine ⟨e, ?_⟩
  rw [E_w_turn_j277.eq_def] at k
  rcases a with ⟨c, q1, q2, q3, q4, q5, q6, q7⟩ | ⟨c, t', k3, k4⟩
  · have c1 : ¬ (0 : Int32) ≤ r := by rcases c with rfl | rfl | rfl <;> decide
    have c2 : r.toInt < 0 := by rcases c with rfl | rfl | rfl <;> decide
    rw [if_neg c1] at k
    exact Or.inl ⟨c2, (Prod.mk.inj k).1, q4, q6⟩
  · have c1 : (0 : Int32) ≤ r := ie_iff.mpr c
    rw [if_pos c1, Lt2_b, Lt2_b, Lt_b] at k
    simp only [Prod.mk.injEq] at k
    obtain ⟨rfl, rfl, rfl, rfl, rfl, rfl, rfl, rfl, rfl, rfl, rfl, rfl, rfl, rfl, rfl⟩ := k
    have hp := hr.push (fw' := fw') h.1 hv rfl k3 (fun j h1 h2 => k4 j (by omega))
    obtain ⟨d, u, ⟨d1, d2⟩, e1, e2, e3, e4⟩ := hr
    refine Or.inr ⟨c, rfl, rfl, rfl, t', hp, fun j hj => ?_, fun j hj => k4 j (by omega)⟩
    have q := remember_far (s := v) (fw := fw) (fu := fu) (fs := fsr) d2 e3 j hj
    rw [← k3] at q
    exact q
theorem acts_at {n lt nf fi nu dr kp dn me xb br lw bro house by_ one two : Int32} {v : Nat} {val sm : Int64} {f1 f2 f3 fw fu fsr sl W fx fs cw fb : Nat → Int32} {fe frs : Nat → Int64} {fl : Nat → Option Nat} {G : Nat → LC} {A1 A2 A3 A4 A7 A8 A10 A13 : Int32} {A5 A6 A9 A11 A12 A14 A15 : Nat → Int32} {r2 nu' lw' bro' : Int32} {val' sm' : Int64} {fw' fu' fsr' fb' : Nat → Int32} {fe' frs' : Nat → Int64} (hv : v < 4) (k1 : (A1, A2, A3, A4, A5, A6, A7, A8, A9, A10, A11, A12, A13, A14, A15) = E_w_turn_j178 G dn me dr kp sl br fs cw n lt nf fi f1 f2 f3 fl W (nI v) house by_ xb fx) (k2 : (r2, nu', lw', bro', val', sm', fw', fe', frs', fu', fsr', fb') = E_v_act (nI v) one two nu lw bro val sm fw fe frs fu fsr fb) (h1 : v < 3 → one = house) (h2 : v = 1 ∨ v = 2 → two = by_) (h : TW n lt nf fi f1 f2 fl G fw) (hr : HR n dr kp nu sl fu fsr fw) (h3 : ∀ j, j < 24 → f3 j = fw (67 + j)) :
    (r2.toInt < 0 ∧ A1 = 0 ∧ fw' = fw ∧ fu' = fu) ∨ (0 ≤ r2.toInt ∧ A1 = 1 ∧ A2 = dn + 1 ∧ A3 = (if v = 3 then r2 else me) ∧ (v = 3 → r2 = 0 ∨ r2 = 1) ∧ TW n lt nf A13 A14 A15 fl G fw' ∧ HR n A7 A8 nu' A9 fu' fsr' fw' ∧ (∀ j, 496 ≤ j → fu' j = fu j) ∧ ∀ j, j < 4 ∨ 35 ≤ j → fw' j = fw j) := by
  have ez : (nI v).toInt = (v : Int) := nI_toInt (by omega)
  rw [E_w_turn_j178.eq_def, Lt_b] at k1
  rw [E_v_act.eq_def] at k2
  have fin : ∀ {r me0 : Int32}, r = r2 ∧ ((r.toInt < 0 ∧ A1 = 0 ∧ fw' = fw ∧ fu' = fu) ∨ (0 ≤ r.toInt ∧ A1 = 1 ∧ A2 = dn + 1 ∧ A3 = me0 ∧ TW n lt nf A13 A14 A15 fl G fw' ∧ HR n A7 A8 nu' A9 fu' fsr' fw' ∧ (∀ j, 496 ≤ j → fu' j = fu j) ∧ ∀ j, j < 4 ∨ 35 ≤ j → fw' j = fw j)) → (v ≠ 3 → me0 = me) → (v = 3 → me0 = r ∧ (r = -3 ∨ r = 0 ∨ r = 1)) → (r2.toInt < 0 ∧ A1 = 0 ∧ fw' = fw ∧ fu' = fu) ∨ (0 ≤ r2.toInt ∧ A1 = 1 ∧ A2 = dn + 1 ∧ A3 = (if v = 3 then r2 else me) ∧ (v = 3 → r2 = 0 ∨ r2 = 1) ∧ TW n lt nf A13 A14 A15 fl G fw' ∧ HR n A7 A8 nu' A9 fu' fsr' fw' ∧ (∀ j, 496 ≤ j → fu' j = fu j) ∧ ∀ j, j < 4 ∨ 35 ≤ j → fw' j = fw j) := by
    intro r me0 q m1 m2
    obtain ⟨rfl, q⟩ := q
    rcases q with q | ⟨q1, q2, q3, q4, q5⟩
    · exact Or.inl q
    · refine Or.inr ⟨q1, q2, q3, ?_, fun c => ?_, q5⟩
      · by_cases c : v = 3
        · rw [if_pos c, q4]; exact (m2 c).1
        · rw [if_neg c, q4]; exact m1 c
      · rcases (m2 c).2 with m | m
        · rw [m] at q1; exact absurd q1 (by decide)
        · exact m
  rcases (show v = 0 ∨ v = 1 ∨ v = 2 ∨ v = 3 by omega) with rfl | rfl | rfl | rfl
  · rw [if_pos (by rw [ez]; rfl)] at k1 k2
    rw [h1 (by omega)] at k2
    generalize hA : E_w_kindle G house br fs cw n lt nf fi f1 f2 f3 fl = A at k1
    generalize hB : E_v_stokeNow house nu lw bro val sm fw fe frs fu fsr = B at k2
    obtain ⟨C1, C2, C3, C4, C5⟩ := A
    obtain ⟨B1, B2, B3, B4, B5, B6, B7, B8, B9, B10, B11⟩ := B
    have a := act_stoke h hA.symm hB.symm
    rw [Lt2_b, Lt2_b, Lt2_b, Lt2_b] at k1
    simp only [Lt2, Prod.mk.injEq] at k2
    obtain ⟨rfl, rfl, rfl, rfl, rfl, rfl, rfl, rfl, rfl, rfl, rfl, rfl⟩ := k2
    exact fin (j277_at k1 a hr h (by omega)) (fun _ => rfl) (fun c => absurd c (by decide))
  · rw [if_neg (by rw [ez]; decide), if_pos (by rw [ez]; rfl)] at k1 k2
    rw [h1 (by omega), h2 (by omega)] at k2
    generalize hA : E_w_quench house by_ n f1 = A at k1
    generalize hB : E_v_dampNow house by_ nu fw fu fsr = B at k2
    obtain ⟨C1, C2⟩ := A
    obtain ⟨B1, B2, B3, B4, B5⟩ := B
    have a := act_damp h hA.symm hB.symm
    rw [Lt2_b] at k1
    simp only [Lt2, Prod.mk.injEq] at k2
    obtain ⟨rfl, rfl, rfl, rfl, rfl, rfl, rfl, rfl, rfl, rfl, rfl, rfl⟩ := k2
    exact fin (j277_at k1 a hr h (by omega)) (fun _ => rfl) (fun c => absurd c (by decide))
  · rw [if_neg (by rw [ez]; decide), if_neg (by rw [ez]; decide), if_pos (by rw [ez]; rfl)] at k1 k2
    rw [h1 (by omega), h2 (by omega)] at k2
    generalize hA : E_w_supply house by_ n f1 = A at k1
    generalize hB : E_v_buyNow house by_ nu fw fu fsr = B at k2
    obtain ⟨C1, C2⟩ := A
    obtain ⟨B1, B2, B3, B4, B5⟩ := B
    have a := act_buy h hA.symm hB.symm
    rw [Lt2_b] at k1
    simp only [Lt2, Prod.mk.injEq] at k2
    obtain ⟨rfl, rfl, rfl, rfl, rfl, rfl, rfl, rfl, rfl, rfl, rfl, rfl⟩ := k2
    exact fin (j277_at k1 a hr h (by omega)) (fun _ => rfl) (fun c => absurd c (by decide))
  · rw [if_neg (by rw [ez]; decide), if_neg (by rw [ez]; decide), if_neg (by rw [ez]; decide)] at k1 k2
    have r3 := nextHour_r h h3 br fs cw
    generalize hA : E_w_nextHour G br fs cw n lt nf fi f1 f2 f3 fl = A at k1 r3
    generalize hB : E_v_passNow nu lw bro val sm fw fe frs fu fsr fb = B at k2
    obtain ⟨C1, C2, C3, C4, C5, C6, C7⟩ := A
    obtain ⟨B1, B2, B3, B4, B5, B6, B7, B8, B9, B10, B11, B12⟩ := B
    have a := act_pass h h3 hA.symm hB.symm
    rw [Lt2_b, Lt2_b, Lt2_b, Lt2_b, Lt2_b, Lt2_b] at k1
    simp only [Lt2, Prod.mk.injEq] at k2
    obtain ⟨rfl, rfl, rfl, rfl, rfl, rfl, rfl, rfl, rfl, rfl, rfl, rfl⟩ := k2
    exact fin (j277_at k1 a hr h (by omega)) (fun c => absurd rfl c) (fun _ => ⟨rfl, r3⟩)
/-- a sum or a test of a clause -/
theorem sumOf_p {P : Int → Prop} {at_ us nc a e p q m : Nat} {fc fo fa fw cw fod : Nat → Int32} {fnw : Nat → Int64} (ha : at_ < 1000) (hx : fod at_ = nI p) (hy : fod (at_ + 1) = nI q) (hpq : p < q) (hq : q ≤ nc) (hnc : nc ≤ 400) (hm : m ≤ 64) (h : SE 1 P 1 m fc a e fo fa p q) (h0 : fc e = 0) (he : e + 2 ≤ us) (hus : us ≤ 800) (henv : KEnv 1 (fun w => cw w.toNatClampNeg) (fun w => 0 ≤ w.toInt ∧ w.toInt < ((28 : Nat) : Int)) (lfo fw fnw)) :
    ((∀ br fs, ∃ f', E_w_run (nI a) br fs 28 cw 800 fc = (0, 1, f')) ∧ ∀ bro val frs, ∃ v val' frs', E_v_sumOf (nI at_) bro val 0 fw fnw frs fo fa fod = (v, 1, val', 1, frs')) ∨
    (∃ r : Int32, P r.toInt ∧ (∀ br fs, ∃ f', E_w_run (nI a) br fs 28 cw 800 fc = (r, 0, f')) ∧ ∀ bro val frs, ∃ val' frs', E_v_sumOf (nI at_) bro val 0 fw fnw frs fo fa fod = (r, 0, val', 0, frs')) := by
  have st : ∀ bro val frs, E_v_sumOf (nI at_) bro val 0 fw fnw frs fo fa fod = ((E_v_reckonOrd (nI p) (nI q) bro val fw fnw frs fo fa).2.1.toInt32, (E_v_reckonOrd (nI p) (nI q) bro val fw fnw frs fo fa).1, (E_v_reckonOrd (nI p) (nI q) bro val fw fnw frs fo fa).2.1, (E_v_reckonOrd (nI p) (nI q) bro val fw fnw frs fo fa).1, (E_v_reckonOrd (nI p) (nI q) bro val fw fnw frs fo fa).2.2) := fun bro val frs => by
    rw [E_v_sumOf.eq_def, if_pos rfl, kn_p1 (by omega), kn_cl (by omega), Lt_b, Lt_b, Lt_b, kn_cl (by omega), hx, hy, if_neg (kn_ne (by omega) (by omega) (by omega)), Lt_b, Lt_b, Lt_b, Lt2_b, Lt2_b, Lt_b, kn_cl (by omega), hy]
  rcases reck_ord (nc := 800) h hm h0 (by omega) (by omega) (by omega) (by omega) henv with ⟨p1, p2⟩ | ⟨g, g1, g2, p1, p2⟩
  · refine Or.inl ⟨p1, fun bro val frs => ?_⟩
    obtain ⟨v, f', q1⟩ := p2 bro val frs
    rw [st, q1]
    exact ⟨_, _, _, rfl⟩
  · obtain ⟨r, f', q1, q2⟩ := p1 0 (fun _ => 0)
    refine Or.inr ⟨r, by rw [q2]; exact g2, fun br fs => ?_, fun bro val frs => ?_⟩
    · obtain ⟨r', f2, q3, q4⟩ := p1 br fs
      have : r' = r := Int32.toInt_inj.mp (q4.trans q2.symm)
      subst this
      exact ⟨f2, q3⟩
    · obtain ⟨v, f2, q3, q4⟩ := p2 bro val frs
      have e : v.toInt32 = r := Int32.toInt_inj.mp (by rw [l_nar q4 (by omega)]; exact q2.symm)
      rw [st, q3]
      exact ⟨v, f2, by rw [e]⟩
theorem sumOf_n {at_ : Nat} {bro : Int32} {val : Int64} {fw fo fa fod : Nat → Int32} {fnw frs : Nat → Int64} (ha : at_ < 1000) (h : fod at_ = fod (at_ + 1)) : E_v_sumOf (nI at_) bro val 0 fw fnw frs fo fa fod = (-1, bro, val, 0, frs) := by
  rw [E_v_sumOf.eq_def, if_pos rfl, kn_p1 (by omega), kn_cl (by omega), Lt_b, Lt_b, Lt_b, kn_cl (by omega), if_pos h]
theorem sumOf_off {at_ bro ofm : Int32} {val : Int64} {fw fo fa fod : Nat → Int32} {fnw frs : Nat → Int64} (h : ofm ≠ 0) : E_v_sumOf at_ bro val ofm fw fnw frs fo fa fod = (-1, bro, val, ofm, frs) := by
  rw [E_v_sumOf.eq_def, if_neg h]
end
section
/-- what stands of a clause -/
noncomputable def KClz (i us nc : Nat) (fh fod fc fo fa : Nat → Int32) (v t : Nat) : Prop := (v < 4 ∧ 1 ≤ t ∧ t ≤ 20) ∧ fh (5 * i) = nI v ∧ fod (8 * i) = nI v ∧ fh (5 * i + 1) = nI t ∧ fod (8 * i + 7) = nI t ∧ KTs 1 us nc fc fo fa (fh (5 * i + 4)) (fod (8 * i + 5)) (fod (8 * i + 6)) ∧ KSn (v < 3) 1 us nc fc fo fa (fh (5 * i + 2)) (fod (8 * i + 1)) (fod (8 * i + 2)) ∧ KSn (v = 1 ∨ v = 2) 1 us nc fc fo fa (fh (5 * i + 3)) (fod (8 * i + 3)) (fod (8 * i + 4))
/-- what comes of a turn -/
noncomputable def TurnR (n lt nf : Int32) (fl : Nat → Option Nat) (G : Nat → LC) (dn : Int32) (fw fu : Nat → Int32) (A1 A2 A3 A7 A8 A13 r2 nu' dn' me' : Int32) (A9 A14 A15 fw' fu' fsr' : Nat → Int32) : Prop :=
  (A1 = 0 ∧ r2 = -3 ∧ (∀ j, 496 ≤ j → fu' j = fu j) ∧ ∀ j, j < 4 ∨ 35 ≤ j → fw' j = fw j) ∨
  (A1 = 1 ∧ r2 = 0 ∧ A2 = dn' ∧ A3 = me' ∧ (0 ≤ dn'.toInt ∧ dn'.toInt ≤ dn.toInt + 1) ∧ (-1 ≤ me'.toInt ∧ me'.toInt ≤ 1) ∧ TW n lt nf A13 A14 A15 fl G fw' ∧ HR n A7 A8 nu' A9 fu' fsr' fw' ∧ (∀ j, 496 ≤ j → fu' j = fu j) ∧ ∀ j, j < 4 ∨ 35 ≤ j → fw' j = fw j)
/-- the sums and the act -/
theorem turn_do {i v t us nc : Nat} {n lt nf fi nu dr kp dn me xb br lw bro : Int32} {val sm : Int64} {f1 f2 f3 fw fu fsr sl W fx fs cw fb fh fc fo fa fod : Nat → Int32} {fe frs fnw : Nat → Int64} {fl : Nat → Option Nat} {G : Nat → LC} {A1 A2 A3 A4 A7 A8 A10 A13 : Int32} {A5 A6 A9 A11 A12 A14 A15 : Nat → Int32} {r2 nu' lw' bro' dn' me' of' : Int32} {val' sm' : Int64} {fw' fu' fsr' fb' : Nat → Int32} {fe' frs' fnw' : Nat → Int64} (hi : i < 12) (hK : KClz i us nc fh fod fc fo fa v t) (hus : us ≤ 800) (hnc : nc ≤ 400) (henv : KEnv 1 (fun w => W w.toNatClampNeg) (fun w => 0 ≤ w.toInt ∧ w.toInt < ((28 : Nat) : Int)) (lfo fw fnw))
    (k1 : (A1, A2, A3, A4, A5, A6, A7, A8, A9, A10, A11, A12, A13, A14, A15) = E_w_turn_j51 G (nI i) dn me fh fc dr kp sl br fs cw n lt nf fi f1 f2 f3 fl W xb fx) (k2 : (r2, nu', lw', bro', val', sm', dn', me', of', fw', fe', frs', fu', fsr', fb', fnw') = E_v_run_j106 (nI (8 * i)) nu lw sm dn me fw fe fu fsr fb fo fa fod fnw bro val 0 frs) (h : TW n lt nf fi f1 f2 fl G fw) (hr : HR n dr kp nu sl fu fsr fw) (h3 : ∀ j, j < 24 → f3 j = fw (67 + j)) (hd : 0 ≤ dn.toInt ∧ dn.toInt ≤ 10000) (hm : -1 ≤ me.toInt ∧ me.toInt ≤ 1) :
    TurnR n lt nf fl G dn fw fu A1 A2 A3 A7 A8 A13 r2 nu' dn' me' A9 A14 A15 fw' fu' fsr' := by
  obtain ⟨⟨v4, t1, t2⟩, c1, c2, c3, c4, c5, c6, c7⟩ := hK
  have h0 : E_w_head (nI i) 0 60 fh = nI v := (head_at (j := 0) rfl (by omega) (by omega) (by omega) (by omega)).trans c1
  have h2 : E_w_head (nI i) 2 60 fh = fh (5 * i + 2) := head_at (j := 2) rfl (by omega) (by omega) (by omega) (by omega)
  have h3' : E_w_head (nI i) 3 60 fh = fh (5 * i + 3) := head_at (j := 3) rfl (by omega) (by omega) (by omega) (by omega)
  rw [E_w_turn_j51.eq_def, Lt_b, h0] at k1
  rw [E_v_run_j106.eq_def, Lt_b, kn_p1 (by omega)] at k2
  have z3 : (fod (nI (8 * i)).toNatClampNeg) = nI v := by rw [kn_cl (by omega)]; exact c2
  -- the reference, behind its sums
  have tail : ∀ (one two broX : Int32) (valX : Int64) (frsX : Nat → Int64) (house by_ xbX : Int32) (fxX : Nat → Int32), (v < 3 → one = house) → (v = 1 ∨ v = 2 → two = by_) → (A1, A2, A3, A4, A5, A6, A7, A8, A9, A10, A11, A12, A13, A14, A15) = E_w_turn_j178 G dn me dr kp sl br fs cw n lt nf fi f1 f2 f3 fl W (nI v) house by_ xbX fxX → (r2, nu', lw', bro', val', sm', dn', me', of', fw', fe', frs', fu', fsr', fb', fnw') = (fun B : Int32 × Int32 × Int32 × Int32 × Int64 × Int64 × (Nat → Int32) × (Nat → Int64) × (Nat → Int64) × (Nat → Int32) × (Nat → Int32) × (Nat → Int32) => if 0 ≤ B.1 then (if nI v = 3 then ((0, B.2.1, B.2.2.1, B.2.2.2.1, B.2.2.2.2.1, B.2.2.2.2.2.1, dn + 1, B.1, 0, B.2.2.2.2.2.2.1, B.2.2.2.2.2.2.2.1, B.2.2.2.2.2.2.2.2.1, B.2.2.2.2.2.2.2.2.2.1, B.2.2.2.2.2.2.2.2.2.2.1, B.2.2.2.2.2.2.2.2.2.2.2, fnw) : Int32 × Int32 × Int32 × Int32 × Int64 × Int64 × Int32 × Int32 × Int32 × (Nat → Int32) × (Nat → Int64) × (Nat → Int64) × (Nat → Int32) × (Nat → Int32) × (Nat → Int32) × (Nat → Int64)) else (0, B.2.1, B.2.2.1, B.2.2.2.1, B.2.2.2.2.1, B.2.2.2.2.2.1, dn + 1, me, 0, B.2.2.2.2.2.2.1, B.2.2.2.2.2.2.2.1, B.2.2.2.2.2.2.2.2.1, B.2.2.2.2.2.2.2.2.2.1, B.2.2.2.2.2.2.2.2.2.2.1, B.2.2.2.2.2.2.2.2.2.2.2, fnw)) else (-3, B.2.1, B.2.2.1, B.2.2.2.1, B.2.2.2.2.1, B.2.2.2.2.2.1, dn, me, 0, B.2.2.2.2.2.2.1, B.2.2.2.2.2.2.2.1, B.2.2.2.2.2.2.2.2.1, B.2.2.2.2.2.2.2.2.2.1, B.2.2.2.2.2.2.2.2.2.2.1, B.2.2.2.2.2.2.2.2.2.2.2, fnw)) (E_v_act (nI v) one two nu lw broX valX sm fw fe frsX fu fsr fb) → TurnR n lt nf fl G dn fw fu A1 A2 A3 A7 A8 A13 r2 nu' dn' me' A9 A14 A15 fw' fu' fsr' := by
    intro one two broX valX frsX house by_ xbX fxX g1 g2 g3 g4
    generalize hB : E_v_act (nI v) one two nu lw broX valX sm fw fe frsX fu fsr fb = B at g4
    obtain ⟨B1, B2, B3, B4, B5, B6, B7, B8, B9, B10, B11, B12⟩ := B
    have a := acts_at v4 g3 hB.symm g1 g2 h hr h3
    have s1 := i_add (Eq.refl dn.toInt) (show (1 : Int32).toInt = 1 from rfl) (by omega)
    dsimp only at g4
    rcases a with ⟨q1, q2, q3, q4⟩ | ⟨q1, q2, q3, q4, q5, q6, q7, q8, q9⟩
    · rw [if_neg (fun q => by have := ie_iff.mp q; have z : (0 : Int32).toInt = 0 := rfl; omega)] at g4
      simp only [Prod.mk.injEq] at g4
      obtain ⟨rfl, rfl, rfl, rfl, rfl, rfl, rfl, rfl, rfl, rfl, rfl, rfl, rfl, rfl, rfl, rfl⟩ := g4
      exact Or.inl ⟨q2, rfl, fun j _ => by rw [q4], fun j _ => by rw [q3]⟩
    · rw [if_pos (show (0 : Int32) ≤ B1 from ie_iff.mpr q1)] at g4
      by_cases e3 : v = 3
      · rw [if_pos (show nI v = 3 by rw [e3]; rfl)] at g4
        rw [if_pos e3] at q4
        have q5' := q5 e3
        simp only [Prod.mk.injEq] at g4
        obtain ⟨rfl, rfl, rfl, rfl, rfl, rfl, rfl, rfl, rfl, rfl, rfl, rfl, rfl, rfl, rfl, rfl⟩ := g4
        exact Or.inr ⟨q2, rfl, q3, q4, by omega, by rcases q5' with rfl | rfl <;> decide, q6, q7, q8, q9⟩
      · rw [if_neg (kn_nz (j := 3) rfl (by omega) e3)] at g4
        rw [if_neg e3] at q4
        simp only [Prod.mk.injEq] at g4
        obtain ⟨rfl, rfl, rfl, rfl, rfl, rfl, rfl, rfl, rfl, rfl, rfl, rfl, rfl, rfl, rfl, rfl⟩ := g4
        exact Or.inr ⟨q2, rfl, q3, q4, by omega, hm, q6, q7, q8, q9⟩
  have bad : A1 = 0 → (∃ (x1 : Int32) (x2 : Int64) (x3 : Int32) (x4 : Nat → Int64), (r2, nu', lw', bro', val', sm', dn', me', of', fw', fe', frs', fu', fsr', fb', fnw') = (-3, nu, lw, x1, x2, sm, dn, me, x3, fw, fe, x4, fu, fsr, fb, fnw)) → TurnR n lt nf fl G dn fw fu A1 A2 A3 A7 A8 A13 r2 nu' dn' me' A9 A14 A15 fw' fu' fsr' := by
    intro g1 ⟨x1, x2, x3, x4, g2⟩
    simp only [Prod.mk.injEq] at g2
    obtain ⟨rfl, rfl, rfl, rfl, rfl, rfl, rfl, rfl, rfl, rfl, rfl, rfl, rfl, rfl, rfl, rfl⟩ := g2
    exact Or.inl ⟨g1, rfl, fun _ _ => rfl, fun _ _ => rfl⟩
  by_cases e3 : v = 3
  · -- an hour: no sums
    subst e3
    rcases c6 with ⟨_, n1, n2⟩ | ⟨bb, _⟩
    case inr => exact absurd bb (by decide)
    rcases c7 with ⟨_, n3, n4⟩ | ⟨bb, _⟩
    case inr => exact absurd bb (by decide)
    rw [sumOf_n (by omega) n2, Lt2_b, Lt2_b, Lt2_b, Lt2_b, Lt_b] at k2
    rw [n_addl (m := 3) rfl (by omega)] at k2
    dsimp only at k2
    rw [sumOf_n (by omega) n4, Lt2_b, Lt2_b, Lt2_b, Lt2_b] at k2
    dsimp only at k2
    rw [if_pos rfl, Lt_b, z3] at k2
    rw [if_pos (show nI 3 = 3 from rfl), if_pos (show nI 3 = 3 from rfl), E_w_turn_j110.eq_def, if_neg (by decide), if_neg (by decide)] at k1
    exact tail _ _ _ _ _ _ _ _ _ (fun q => absurd q (by decide)) (fun q => absurd q (by decide)) k1 k2
  have v3 : v < 3 := by omega
  rcases c6 with ⟨bb, _⟩ | ⟨_, a, e, p, q, m, x1, x2, x3, x4, x5, x6, x7, x8, x9⟩
  · exact absurd v3 bb
  rw [if_neg (kn_nz (j := 3) rfl (by omega) e3), Lt_b, h2, x1] at k1
  rcases sumOf_p (at_ := 8 * i + 1) (by omega) x2 x3 x4 x5 hnc x6 x7 x8 x9 hus henv with ⟨p1, p2⟩ | ⟨r, _, p1, p2⟩
  · obtain ⟨f', y1⟩ := p1 xb fx
    obtain ⟨w1, w2, w3, y2⟩ := p2 bro val frs
    rw [y1, Lt2_b, Lt2_b] at k1
    dsimp only at k1
    rw [if_neg (kn_nz (j := 3) rfl (by omega) e3), if_neg (show ¬ (1 : Int32) = 0 by decide)] at k1
    rw [y2, Lt2_b, Lt2_b, Lt2_b, Lt2_b, Lt_b] at k2
    dsimp only at k2
    rw [sumOf_off (show (1 : Int32) ≠ 0 by decide), Lt2_b, Lt2_b, Lt2_b, Lt2_b] at k2
    dsimp only at k2
    rw [if_neg (show ¬ (1 : Int32) = 0 by decide)] at k2
    exact bad (Prod.mk.inj k1).1 ⟨_, _, _, _, k2⟩
  obtain ⟨f', y1⟩ := p1 xb fx
  obtain ⟨w2, w3, y2⟩ := p2 bro val frs
  rw [y1, Lt2_b, Lt2_b] at k1
  dsimp only at k1
  rw [if_neg (kn_nz (j := 3) rfl (by omega) e3), if_pos (show (0 : Int32) = 0 from rfl), E_w_turn_j110.eq_def] at k1
  rw [y2, Lt2_b, Lt2_b, Lt2_b, Lt2_b, Lt_b, n_addl (m := 3) rfl (by omega)] at k2
  dsimp only at k2
  rcases c7 with ⟨nb, n3, n4⟩ | ⟨bb, a, e, p, q, m, x1, x2, x3, x4, x5, x6, x7, x8, x9⟩
  · rw [sumOf_n (by omega) n4, Lt2_b, Lt2_b, Lt2_b, Lt2_b] at k2
    dsimp only at k2
    rw [if_pos rfl, Lt_b, z3] at k2
    rw [if_neg (kn_nz (j := 1) rfl (by omega) (by omega)), if_neg (kn_nz (j := 2) rfl (by omega) (by omega))] at k1
    exact tail _ _ _ _ _ _ _ _ _ (fun _ => rfl) (fun q => absurd q nb) k1 k2
  have j122 : (A1, A2, A3, A4, A5, A6, A7, A8, A9, A10, A11, A12, A13, A14, A15) = E_w_turn_j122 G (nI i) dn me fh fc dr kp sl br fs cw n lt nf fi f1 f2 f3 fl W (nI v) r 0 f' := by
    rcases bb with rfl | rfl
    · rw [if_pos (show nI 1 = 1 from rfl)] at k1; exact k1
    · rw [if_neg (by decide), if_pos (show nI 2 = 2 from rfl)] at k1; exact k1
  rw [E_w_turn_j122.eq_def, Lt_b, h3', x1] at j122
  rcases sumOf_p (at_ := 8 * i + 3) (by omega) x2 x3 x4 x5 hnc x6 x7 x8 x9 hus henv with ⟨p1, p2⟩ | ⟨r', _, p1, p2⟩
  · obtain ⟨f3', y3⟩ := p1 0 f'
    obtain ⟨u1, u2, u3, y4⟩ := p2 0 w2 w3
    rw [y3, Lt2_b, Lt2_b] at j122
    dsimp only at j122
    rw [if_neg (show ¬ (1 : Int32) = 0 by decide)] at j122
    rw [y4, Lt2_b, Lt2_b, Lt2_b, Lt2_b] at k2
    dsimp only at k2
    rw [if_neg (show ¬ (1 : Int32) = 0 by decide)] at k2
    exact bad (Prod.mk.inj j122).1 ⟨_, _, _, _, k2⟩
  · obtain ⟨f3', y3⟩ := p1 0 f'
    obtain ⟨u2, u3, y4⟩ := p2 0 w2 w3
    rw [y3, Lt2_b, Lt2_b] at j122
    dsimp only at j122
    rw [if_pos (show (0 : Int32) = 0 from rfl)] at j122
    rw [y4, Lt2_b, Lt2_b, Lt2_b, Lt2_b] at k2
    dsimp only at k2
    rw [if_pos rfl, Lt_b, z3] at k2
    exact tail _ _ _ _ _ _ _ _ _ (fun _ => rfl) (fun _ => rfl) j122 k2
/-- ONE TURN, both sides -/
theorem turn_run {i v t us nc : Nat} {n lt nf fi nu dr kp dn me xb br lw bro scl sus ofm : Int32} {val sm : Int64} {f1 f2 f3 fw fu fsr sl fv fx fs cw fb fh fc fo fa fod : Nat → Int32} {fe frs fnw : Nat → Int64} {fl : Nat → Option Nat} {G : Nat → LC} {A1 A2 A3 A4 A7 A8 A10 A13 : Int32} {A5 A6 A9 A11 A12 A14 A15 : Nat → Int32} {r2 nu' lw' bro' dn' me' of' : Int32} {val' sm' : Int64} {fw' fu' fsr' fb' : Nat → Int32} {fe' frs' fnw' : Nat → Int64} (hi : i < 12) (hK : KClz i us nc fh fod fc fo fa v t) (hus : us ≤ 800) (hnc : nc ≤ 400)
    (k1 : (A1, A2, A3, A4, A5, A6, A7, A8, A9, A10, A11, A12, A13, A14, A15) = E_w_turn G (nI i) dn me xb fx fv scl sus fh fc dr kp sl br fs cw n lt nf fi f1 f2 f3 fl) (k2 : (r2, nu', lw', bro', val', sm', dn', me', of', fw', fe', frs', fu', fsr', fb', fnw') = E_v_run (nI (8 * i)) nu lw bro val sm dn me ofm fw fe frs fu fsr fb fnw fo fa fod) (h : TW n lt nf fi f1 f2 fl G fw) (hr : HR n dr kp nu sl fu fsr fw) (h3 : ∀ j, j < 24 → f3 j = fw (67 + j)) (hd : 0 ≤ dn.toInt ∧ dn.toInt ≤ 10000) (hm : -1 ≤ me.toInt ∧ me.toInt ≤ 1) :
    TurnR n lt nf fl G dn fw fu A1 A2 A3 A7 A8 A13 r2 nu' dn' me' A9 A14 A15 fw' fu' fsr' := by
  have hK0 := hK
  obtain ⟨⟨v4, t1, t2⟩, c1, c2, c3, c4, c5, c6, c7⟩ := hK
  have h4 : E_w_head (nI i) 4 60 fh = fh (5 * i + 4) := head_at (j := 4) rfl (by omega) (by omega) (by omega) (by omega)
  obtain ⟨N5, hN5⟩ : ∃ N5 : Nat → Int64, N5 = vp_updL (vp_updL (vp_updL (vp_updL (vp_updL fnw 1 (fw 4).toInt64) 2 (fw 5).toInt64) 3 (fw 10).toInt64) 4 dn.toInt64) 5 me.toInt64 := ⟨_, rfl⟩
  have henv := look_env h (dn := dn) (me := me) fv (fnw := N5) ⟨by omega, by omega⟩ ⟨by omega, by omega⟩ (by rw [hN5]; exact wide_at) (by rw [hN5]; exact wide_at) (by rw [hN5]; exact wide_at) (by rw [hN5]; exact wide_at) (by rw [hN5]; exact wide_at)
  rw [E_w_turn.eq_def, Lt_b, Lt_b, h4] at k1
  generalize E_w_look dn me fv n fi f1 f2 = W at k1 henv
  have k3 : (r2, nu', lw', bro', val', sm', dn', me', of', fw', fe', frs', fu', fsr', fb', fnw') = if fod (8 * i + 6) ≤ fod (8 * i + 5) then E_v_run_j106 (nI (8 * i)) nu lw sm dn me fw fe fu fsr fb fo fa fod N5 bro val 0 frs else (fun S : Int32 × Int32 × Int64 × Int32 × (Nat → Int64) => if S.2.2.2.1 = 0 then (if S.1 = 0 then E_v_run_j104 nu lw sm dn me fw fe fu fsr fb N5 S.2.1 S.2.2.1 S.2.2.2.1 S.2.2.2.2 else E_v_run_j106 (nI (8 * i)) nu lw sm dn me fw fe fu fsr fb fo fa fod N5 S.2.1 S.2.2.1 S.2.2.2.1 S.2.2.2.2) else E_v_run_j104 nu lw sm dn me fw fe fu fsr fb N5 S.2.1 S.2.2.1 S.2.2.2.1 S.2.2.2.2) (E_v_sumOf (nI (8 * i + 5)) bro val 0 fw N5 frs fo fa fod) := by
    rw [k2, E_v_run.eq_def, Lt_b, Lt_b, Lt_b, Lt_b, Lt_b, Lt_b, Lt_b, Lt_b, Lt_b, Lt_b, Lt_b, Lt_b, Lt_b, Lt_b, Lt_b, Lt_b, Lt_b, n_addl (m := 6) rfl (by omega), n_addl (m := 5) rfl (by omega), kn_cl (by omega), kn_cl (by omega), Lt_b, hN5]
    rfl
  have skip : A1 = 1 ∧ A2 = dn ∧ A3 = me ∧ A7 = dr ∧ A8 = kp ∧ A9 = sl ∧ A13 = fi ∧ A14 = f1 ∧ A15 = f2 → (∃ (x1 : Int32) (x2 : Int64) (x3 : Int32) (x4 : Nat → Int64), (r2, nu', lw', bro', val', sm', dn', me', of', fw', fe', frs', fu', fsr', fb', fnw') = E_v_run_j104 nu lw sm dn me fw fe fu fsr fb N5 x1 x2 x3 x4) → TurnR n lt nf fl G dn fw fu A1 A2 A3 A7 A8 A13 r2 nu' dn' me' A9 A14 A15 fw' fu' fsr' := by
    intro ⟨g1, g2, g3, g4, g5, g6, g7, g8, g9⟩ ⟨x1, x2, x3, x4, g⟩
    rw [E_v_run_j104.eq_def] at g
    simp only [Prod.mk.injEq] at g
    obtain ⟨rfl, rfl, rfl, rfl, rfl, rfl, rfl, rfl, rfl, rfl, rfl, rfl, rfl, rfl, rfl, rfl⟩ := g
    subst g4 g5 g6 g7 g8 g9
    exact Or.inr ⟨g1, rfl, g2, g3, by omega, hm, h, hr, fun _ _ => rfl, fun _ _ => rfl⟩
  have j49 : ∀ {xb' : Int32} {fx' : Nat → Int32}, (A1, A2, A3, A4, A5, A6, A7, A8, A9, A10, A11, A12, A13, A14, A15) = E_w_turn_j49 dn me dr kp sl br fs cw fi f1 f2 W xb' fx' → A1 = 1 ∧ A2 = dn ∧ A3 = me ∧ A7 = dr ∧ A8 = kp ∧ A9 = sl ∧ A13 = fi ∧ A14 = f1 ∧ A15 = f2 := by
    intro xb' fx' g
    rw [E_w_turn_j49.eq_def] at g
    simp only [Prod.mk.injEq] at g
    obtain ⟨rfl, rfl, rfl, rfl, rfl, rfl, rfl, rfl, rfl, rfl, rfl, rfl, rfl, rfl, rfl⟩ := g
    exact ⟨rfl, rfl, rfl, rfl, rfl, rfl, rfl, rfl, rfl⟩
  rcases c5 with ⟨n1, n2, _⟩ | ⟨a, e, p, q, m, x1, x2, x3, x4, x5, x6, x7, x8, x9⟩
  · rw [if_pos n1] at k1
    rw [n2, if_pos (ie_iff.mpr (Int.le_refl _))] at k3
    exact turn_do hi hK0 hus hnc henv k1 k3 h hr h3 hd hm
  · have a1 : ¬ fh (5 * i + 4) = -1 := fun z => by
      rw [x1] at z
      have := congrArg Int32.toInt z
      have z1 : (-1 : Int32).toInt = -1 := rfl
      have := x7.2.1
      have := x7.2.2.2.1
      rw [nI_toInt (by omega)] at *
      omega
    rw [if_neg a1, x1] at k1
    rw [if_neg (fun z => by rw [x2, x3] at z; have := (kn_le (by omega) (by omega)).mp z; omega)] at k3
    rcases sumOf_p (at_ := 8 * i + 5) (by omega) x2 x3 x4 x5 hnc x6 x7 x8 x9 hus henv with ⟨p1, p2⟩ | ⟨r, rt, p1, p2⟩
    · obtain ⟨f', y1⟩ := p1 xb fx
      obtain ⟨w1, w2, w3, y2⟩ := p2 bro val frs
      rw [y1, Lt2_b, Lt2_b] at k1
      dsimp only at k1
      rw [if_pos (show (0 : Int32) = 0 from rfl)] at k1
      rw [y2] at k3
      dsimp only at k3
      rw [if_neg (show ¬ (1 : Int32) = 0 by decide)] at k3
      exact skip (j49 k1) ⟨_, _, _, _, k3⟩
    · obtain ⟨f', y1⟩ := p1 xb fx
      obtain ⟨w2, w3, y2⟩ := p2 bro val frs
      rw [y1, Lt2_b, Lt2_b] at k1
      dsimp only at k1
      rw [y2] at k3
      dsimp only at k3
      rw [if_pos (show (0 : Int32) = 0 from rfl)] at k3
      by_cases r0 : r = 0
      · rw [if_pos r0] at k1 k3
        exact skip (j49 k1) ⟨_, _, _, _, k3⟩
      · rw [if_neg r0] at k1 k3
        rw [if_pos (show (0 : Int32) = 0 from rfl)] at k1
        exact turn_do hi hK0 hus hnc henv k1 k3 h hr h3 hd hm
end
section
theorem n_8l {k : Nat} (h : k < 1000) : (8 : Int32) * nI k = nI (8 * k) := Int32.toInt_inj.mp (by
  rw [i_mul (show (8 : Int32).toInt = 8 from rfl) (nI_toInt (by omega)) (by omega), nI_toInt (by omega)]; omega)
/-! all turns of orders, both sides -/
noncomputable abbrev KC23 : Type := Int32 × Int32 × Int32 × Int32 × Int32 × (Nat → Int32) × (Nat → Int32) × Int32 × Int32 × (Nat → Int32) × Int32 × (Nat → Int32) × (Nat → Int32) × Int32 × (Nat → Int32) × (Nat → Int32) × (Nat → Int32) × (Nat → Option Nat) × (Nat → Int32) × (Nat → Int32) × (Nat → Int32) × (Nat → Option Nat) × (Nat → Int32)
noncomputable abbrev KM37 : Type := Int32 × Int32 × Int32 × Int32 × Int32 × Int32 × Int64 × Int32 × Int32 × Int32 × Int32 × Int32 × Int32 × Int32 × Int32 × Int32 × Int64 × Int64 × Int32 × Int32 × Int32 × Int32 × (Nat → Int32) × (Nat → Int32) × (Nat → Int32) × (Nat → Int32) × (Nat → Int32) × (Nat → Int32) × (Nat → Int64) × (Nat → Int64) × (Nat → Int32) × (Nat → Int32) × (Nat → Int32) × (Nat → Int64) × (Nat → Int32) × (Nat → Int32) × (Nat → Int32)
noncomputable abbrev KCo : Type := Int32 → Int32 → Int32 → Int32 → Int32 → Int32 → Int32 → Int32 → (Nat → Int32) → (Nat → Int32) → (Nat → Int32) → (Nat → Int32) → (Nat → Int32) → (Nat → Int32) → (Nat → Int32) → KC23
noncomputable abbrev KMo : Type := Int32 → Int32 → Int32 → Int32 → Int64 → Int64 → Int32 → Int32 → Int32 → (Nat → Int64) → (Nat → Int64) → (Nat → Int32) → (Nat → Int32) → (Nat → Int64) → (Nat → Int32) → (Nat → Int32) → KM37
noncomputable def zCo : KCo := fun _ _ _ _ _ _ _ _ _ _ _ _ _ _ _ => ((0, 0, 0, 0, 0, fun _ => 0, fun _ => 0, 0, 0, fun _ => 0, 0, fun _ => 0, fun _ => 0, 0, fun _ => 0, fun _ => 0, fun _ => 0, fun _ => none, fun _ => 0, fun _ => 0, fun _ => 0, fun _ => none, fun _ => 0) : KC23)
noncomputable def zMo : KMo := fun _ _ _ _ _ _ _ _ _ _ _ _ _ _ _ _ => ((0, 0, 0, 0, 0, 0, 0, 0, 0, 0, 0, 0, 0, 0, 0, 0, 0, 0, 0, 0, 0, 0, fun _ => 0, fun _ => 0, fun _ => 0, fun _ => 0, fun _ => 0, fun _ => 0, fun _ => 0, fun _ => 0, fun _ => 0, fun _ => 0, fun _ => 0, fun _ => 0, fun _ => 0, fun _ => 0, fun _ => 0) : KM37)
/-- what comes of all: the same answer, the same place where it stopped, the same towns -/
noncomputable def OrdR (n lt nf : Int32) (G : Nat → LC) (sta : Int32) (frm fw0 : Nat → Int32) (fau : Int32) (C : KC23) (M : KM37) : Prop := C.1 = M.1 ∧ C.2.2.2.1 = M.2.2.2.2.2.2.2.2.2.2.2.2.2.2.2.2.2.2.2.2.1 ∧ M.2.2.2.2.2.2.2.1 = fau ∧ ((0 ≤ C.1.toInt ∧ M.2.1 = 0 ∧ M.2.2.2.2.2.2.2.2.2.2.2.2.2.2.2.2.2.2.2.2.2.2.2.2.2.2.2.2.2.2.2.2.2.2.2.2 = frm) ∨ (C.1 = -3 ∧ M.2.1 = (E_v_tell (-3) sta frm).2.1 ∧ M.2.2.2.2.2.2.2.2.2.2.2.2.2.2.2.2.2.2.2.2.2.2.2.2.2.2.2.2.2.2.2.2.2.2.2.2 = (E_v_tell (-3) sta frm).2.2)) ∧ TW n lt nf C.2.2.2.2.2.2.2.2.2.2.2.2.2.1 C.2.2.2.2.2.2.2.2.2.2.2.2.2.2.1 C.2.2.2.2.2.2.2.2.2.2.2.2.2.2.2.1 C.2.2.2.2.2.2.2.2.2.2.2.2.2.2.2.2.2.1 G M.2.2.2.2.2.2.2.2.2.2.2.2.2.2.2.2.2.2.2.2.2.2.2.2.2.2.2.1 ∧ HR n C.2.2.2.2.2.2.2.1 C.2.2.2.2.2.2.2.2.1 M.2.2.1 C.2.2.2.2.2.2.2.2.2.1 M.2.2.2.2.2.2.2.2.2.2.2.2.2.2.2.2.2.2.2.2.2.2.2.2.2.2.2.2.2.2.1 M.2.2.2.2.2.2.2.2.2.2.2.2.2.2.2.2.2.2.2.2.2.2.2.2.2.2.2.2.2.2.2.1 M.2.2.2.2.2.2.2.2.2.2.2.2.2.2.2.2.2.2.2.2.2.2.2.2.2.2.2.1 ∧ ∀ j, j < 4 ∨ 35 ≤ j → M.2.2.2.2.2.2.2.2.2.2.2.2.2.2.2.2.2.2.2.2.2.2.2.2.2.2.2.1 j = fw0 j
/-- where both stand between two turns -/
noncomputable def KSt (D : Nat) (n lt nf fi nu dr kp dn me : Int32) (f1 f2 sl fw fu fsr fuS fw0 : Nat → Int32) (fl : Nat → Option Nat) (G : Nat → LC) : Prop := TW n lt nf fi f1 f2 fl G fw ∧ HR n dr kp nu sl fu fsr fw ∧ (0 ≤ dn.toInt ∧ dn.toInt ≤ (D : Int)) ∧ (-1 ≤ me.toInt ∧ me.toInt ≤ 1) ∧ (∀ j, 496 ≤ j → fu j = fuS j) ∧ ∀ j, j < 4 ∨ 35 ≤ j → fw j = fw0 j
theorem KLs.ext2 {lt : Int32} {fl fl' : Nat → Option Nat} {G : Nat → LC} {fw fw' : Nat → Int32} (h : KLs lt fl G fw) (e : ∀ j, 100 ≤ j → j < 5500 → fw' j = fw j) (e2 : ∀ j, j < 6 → fl' j = fl j) : KLs lt fl' G fw' := by
  refine ⟨h.1, fun i hi => ?_⟩
  obtain ⟨a, q1, q2⟩ := h.2 i hi
  have h6 := h.1
  exact ⟨a, (e2 i (by omega)).trans q1, q2.ext (fun j hj => e _ (by omega) (by omega))⟩
theorem TW.ext {n lt nf fi : Int32} {f1 f2 fw f1' f2' fw' : Nat → Int32} {fl fl' : Nat → Option Nat} {G : Nat → LC} (h : TW n lt nf fi f1 f2 fl G fw) (e1 : ∀ j, j < 56 → f1' j = f1 j) (e2 : ∀ j, j < 6 → f2' j = f2 j) (e3 : ∀ j, j < 6 → fl' j = fl j) (e : ∀ j, j < 5500 → fw' j = fw j) : TW n lt nf fi f1' f2' fl' G fw' := by
  obtain ⟨a, b1, b2, b3, b4, b5, b6, b7⟩ := h
  exact ⟨a.ext (fun j hj => e1 j (by omega)) e2 (fun j _ _ => e j (by omega)), by rw [e 2 (by omega)]; exact b1, by rw [e 3 (by omega)]; exact b2, b3, fun j hj => by rw [e _ (by omega), e _ (by omega)]; exact b4 j hj, b5.ext2 (fun j _ h2 => e j h2) e3, ⟨by rw [e 0 (by omega)]; exact b6.1, b6.2⟩, fun j hj => by rw [e1 j (by omega), e _ (by omega)]; exact b7 j hj⟩
theorem HR.ext {n dr kp nu : Int32} {sl fu fs fw sl' fu' fs' fw' : Nat → Int32} (h : HR n dr kp nu sl fu fs fw) (h1 : ∀ j, j < 476 → sl' j = sl j) (h2 : ∀ j, j < 496 → fu' j = fu j) (h3 : ∀ i, i < 16 → fs' i = fs i) (h4 : ∀ j, 6 ≤ j → j < 10 → fw' j = fw j) : HR n dr kp nu sl' fu' fs' fw' := by
  obtain ⟨d, u, ⟨d1, d2⟩, e1, e2, e3, e4⟩ := h
  exact ⟨d, u, ⟨d1, d2⟩, e1, e2, e3, fun i hi => (e4 i hi).ext (fun j _ hj => h1 j (by omega)) (fun j hj => h2 _ (by omega)) (h3 i (by omega)) h4⟩
theorem become_l {Bd : Nat → Option Nat} {p q r : Nat → Int32} (z : Int32 → (Nat → Option Nat) → ((Nat → Int32) × (Nat → Int32) × (Nat → Int32) × (Nat → Option Nat))) : ∀ (d a F : Nat), a + d = 6 → ∀ g : Nat → Option Nat, (∀ j, j < a → g j = Bd j) → ∀ j, j < 6 → (Lp (E_w_become_l56 Bd p q r) z (F + d + 1) (nI a) g).2.2.2 j = Bd j := by
  intro d
  induction d with
  | zero =>
    intro a F ha g hg j hj
    have : a = 6 := by omega
    subst this
    rw [Lp_s, E_w_become_l56.eq_def, if_pos (show (6 : Int32) ≤ nI 6 by decide)]
    exact hg j hj
  | succ d ih =>
    intro a F ha g hg j hj
    have c1 : ¬ (6 : Int32) ≤ nI a := kn_nlel (j := 6) rfl (by omega) (by omega)
    rw [show F + (d + 1) + 1 = F + d + 1 + 1 by omega, Lp_s, E_w_become_l56.eq_def, if_neg c1, Lt_b, kn_cl (by omega)]
    have up : ∀ {y : Option Nat}, y = Bd a → ∀ k, k < a + 1 → va_up g a y k = Bd k := fun hy k hk => by
      by_cases e : k = a
      · rw [e, ← hy]; exact if_pos rfl
      · exact (if_neg e).trans (hg k (by omega))
    cases hB : Bd a with
    | none =>
      show (Lt (va_up g a none : Nat → Option Nat) (fun f_243 => Lt (nI a + Int32.ofInt 1 : Int32) (fun x_244 => Lp (E_w_become_l56 Bd p q r) z (F + d + 1) x_244 f_243))).2.2.2 j = Bd j
      rw [Lt_b, Lt_b, kn_po (by omega)]
      exact ih (a + 1) F (by omega) _ (up hB.symm) j hj
    | some y =>
      show (Lt (va_up g a (some y) : Nat → Option Nat) (fun f_245 => Lt (nI a + Int32.ofInt 1 : Int32) (fun x_246 => Lp (E_w_become_l56 Bd p q r) z (F + d + 1) x_246 f_245))).2.2.2 j = Bd j
      rw [Lt_b, Lt_b, kn_po (by omega)]
      exact ih (a + 1) F (by omega) _ (up hB.symm) j hj
theorem become_laws {An Al Af Ai Ah Ao Bn Bl Bf Bi Bh Bo : Int32} {Aa Ab Ac Ba Bb Bc : Nat → Int32} {Ad Bd : Nat → Option Nat} : ∀ j, j < 6 → (E_w_become An Al Af Ai Ah Ao Aa Ab Ac Ad Bn Bl Bf Bi Bh Bo Ba Bb Bc Bd).2.2.2 j = Bd j := by
  rw [E_w_become.eq_def, Lt_b, Lt_b, Lt_b, show ((7 - (0 : Int32).toInt : Int).toNat + 1) = 1 + 6 + 1 by decide]
  exact become_l _ 6 0 1 rfl Ad (fun j hj => absurd hj (Nat.not_lt_zero _))
theorem hbec_at {f g : Nat → Int32} {dr kp : Int32} {j : Nat} (hj : j < 476) : E_w_hbecome f dr kp g j = g j := by
  rw [E_w_hbecome.eq_def, Lt_b]
  exact cpy_at rfl hj
theorem giveBack_at {x nu : Int32} {fw fu fs fub fsb : Nat → Int32} : (E_v_giveBack x nu fw fu fs fub fsb).1 = E_v_putBack 17 fw fu ∧ (∀ j, j < 496 → (E_v_giveBack x nu fw fu fs fub fsb).2.1 j = fub j) ∧ ∀ j, j < 16 → (E_v_giveBack x nu fw fu fs fub fsb).2.2 j = fsb j := by
  have hB : ∀ (rc : Int32 → (Nat → Int32) → ((Nat → Int32) × (Nat → Int32) × (Nat → Int32))) (i : Nat) (f : Nat → Int32), i < 496 → E_v_giveBack_l8 fs fub fsb (E_v_putBack 17 fw fu) rc (nI i) f = rc (nI (i + 1)) (upd f (0 + i) (fub i)) := fun rc i f hi => by
    rw [E_v_giveBack_l8.eq_def, if_neg (kn_nlel (j := 496) rfl (by omega) hi), Lt_b, Lt_b, Lt_b, kn_po (by omega), kn_cl (by omega), Nat.zero_add]
  have hC : ∀ (g : Nat → Int32) (rc : Int32 → (Nat → Int32) → ((Nat → Int32) × (Nat → Int32) × (Nat → Int32))) (i : Nat) (f : Nat → Int32), i < 16 → E_v_giveBack_l35 fsb (E_v_putBack 17 fw fu) g rc (nI i) f = rc (nI (i + 1)) (upd f (0 + i) (fsb i)) := fun g rc i f hi => by
    rw [E_v_giveBack_l35.eq_def, if_neg (kn_nlel (j := 16) rfl (by omega) hi), Lt_b, Lt_b, Lt_b, kn_po (by omega), kn_cl (by omega), Nat.zero_add]
  have q := lp_it (d := fun i => 0 + i) (s := fun i _ => fub i) hB (fun _ _ => ((fun _ => 0, fun _ => 0, fun _ => 0) : (Nat → Int32) × (Nat → Int32) × (Nat → Int32))) fu 496 2 0 rfl
  have q2 := lp_it (d := fun i => 0 + i) (s := fun i _ => fsb i) (hC (kitf (fun i => 0 + i) (fun i _ => fub i) fu 496)) (fun _ _ => ((fun _ => 0, fun _ => 0, fun _ => 0) : (Nat → Int32) × (Nat → Int32) × (Nat → Int32))) fs 16 2 0 rfl
  have e : E_v_giveBack x nu fw fu fs fub fsb = (E_v_putBack 17 fw fu, kitf (fun i => 0 + i) (fun i _ => fub i) fu 496, kitf (fun i => 0 + i) (fun i _ => fsb i) fs 16) := by
    rw [E_v_giveBack.eq_def, Lt_b, show ((497 - (0 : Int32).toInt : Int).toNat + 1) = 2 + 496 by decide]
    refine Eq.trans q ?_
    rw [Lp_s, E_v_giveBack_l8.eq_def, if_pos (kn_lel (j := 496) rfl (by omega) (Nat.le_refl _)), show ((17 - (0 : Int32).toInt : Int).toNat + 1) = 2 + 16 by decide]
    refine Eq.trans q2 ?_
    rw [Lp_s, E_v_giveBack_l35.eq_def, if_pos (kn_lel (j := 16) rfl (by omega) (Nat.le_refl _))]
  rw [e]
  refine ⟨by dsimp only, fun j hj => ?_, fun j hj => ?_⟩
  · dsimp only
    rw [kitf_cp, if_pos (by omega)]; exact congrArg fub (by omega)
  · dsimp only
    rw [kitf_cp, if_pos (by omega)]; exact congrArg fsb (by omega)
/-- the turns of one clause -/
theorem co_in {n lt nf fi0 dr0 kp0 nu0 hea ho scl sus sta nc' nl pi op fr to so fau bd : Int32} {wo : Int64} {N us nc : Nat} {fh fc f3 u0 u1 u2 uh fo fa fp fq fod fub fsb frm f10 f20 sl0 fw0 fu0 fs0 fuS : Nat → Int32} {fl u3 : Nat → Option Nat} {G : Nat → LC} (h0 : TW n lt nf fi0 f10 f20 fl G fw0) (hr0 : HR n dr0 kp0 nu0 sl0 fu0 fs0 fw0) (hu0 : ∀ j, j < 56 → u0 j = f10 j) (hu1 : ∀ j, j < 6 → u1 j = f20 j) (hu3 : ∀ j, j < 6 → u3 j = fl j) (huh : ∀ j, j < 476 → uh j = sl0 j) (hub : ∀ j, j < 496 → fub j = fu0 j) (hsb : ∀ j, j < 16 → fsb j = fs0 j) (hsn : ∀ j, j < 31 → fuS (527 + j) = fw0 (4 + j)) (h3 : ∀ j, j < 24 → f3 j = fw0 (67 + j)) (hus : us ≤ 800) (hnc : nc ≤ 400) {i T v : Nat} (hi : i < 12) (hN : N ≤ 12) (hK : KClz i us nc fh fod fc fo fa v T) (rc1 : KCo) (rc2 : KMo) (hrec : ∀ (dn : Int32) (me : Int32) (xb : Int32) (br : Int32) (fi : Int32) (dr : Int32) (kp : Int32) (fx : Nat → Int32) (fv : Nat → Int32) (fs : Nat → Int32) (cw : Nat → Int32) (f1 : Nat → Int32) (f2 : Nat → Int32) (sl : Nat → Int32) (nu : Int32) (lw : Int32) (bro : Int32) (val : Int64) (sm : Int64) (ofm : Int32) (fe : Nat → Int64) (frs : Nat → Int64) (fsr : Nat → Int32) (fb : Nat → Int32) (fnw : Nat → Int64) (fw : Nat → Int32) (fu : Nat → Int32), KSt (20 * i + T) n lt nf fi nu dr kp dn me f1 f2 sl fw fu fsr fuS fw0 fl G → OrdR n lt nf G sta frm fw0 fau (rc1 (nI (i + 1)) dn me xb br fi dr kp fx fv fs cw f1 f2 sl) (rc2 (nI (i + 1)) nu lw bro val sm dn me ofm fe frs fsr fb fnw fw fu)) : ∀ (d t F F2 : Nat), t + d = T → ∀ (dn : Int32) (me : Int32) (xb : Int32) (br : Int32) (fi : Int32) (dr : Int32) (kp : Int32) (fx : Nat → Int32) (fv : Nat → Int32) (fs : Nat → Int32) (cw : Nat → Int32) (f1 : Nat → Int32) (f2 : Nat → Int32) (sl : Nat → Int32) (nu : Int32) (lw : Int32) (bro : Int32) (val : Int64) (sm : Int64) (ofm : Int32) (fe : Nat → Int64) (frs : Nat → Int64) (fsr : Nat → Int32) (fb : Nat → Int32) (fnw : Nat → Int64) (fw : Nat → Int32) (fu : Nat → Int32), KSt (20 * i + t) n lt nf fi nu dr kp dn me f1 f2 sl fw fu fsr fuS fw0 fl G → OrdR n lt nf G sta frm fw0 fau (Lp (α := KCo) (E_w_carryOut_l50 G scl sus fh fc dr0 kp0 n lt nf fi0 hea ho f3 fl u0 u1 u2 u3 uh (nI i) rc1 (nI T)) zCo (F + d + 1) (nI t) dn me xb br fi dr kp fx fv fs cw f1 f2 sl) (Lp (α := KMo) (E_v_orders_l150 sta nu0 frm (nI N) nc' nl pi op fo fa fp fq fod fr to so wo fau bd fub fsb (nI i) rc2) zMo (F2 + d + 1) (nI t) nu lw bro val sm dn me ofm fe frs fsr fb fnw fw fu) := by
  have hT := hK.1.2
  have c4 := hK.2.2.2.2.1
  intro d
  induction d with
  | zero =>
    intro t F F2 ht dn me xb br fi dr kp fx fv fs cw f1 f2 sl nu lw bro val sm ofm fe frs fsr fb fnw fw fu hs
    have : t = T := by omega
    subst this
    rw [Nat.add_zero, Nat.add_zero, Lp_s, Lp_s, E_w_carryOut_l50.eq_def, E_v_orders_l150.eq_def, if_pos ((kn_le (by omega) (by omega)).mpr (Nat.le_refl _)), Lt_b, kn_po (by omega), Lt_b, n_8l (by omega), Lt_b, n_addl (m := 7) (i := 8 * i) rfl (by omega), Lt_b, kn_cl (by omega), c4, if_pos ((kn_le (by omega) (by omega)).mpr (Nat.le_refl _)), Lt_b]
    exact hrec dn me xb br fi dr kp fx fv fs cw f1 f2 sl nu lw bro val sm ofm fe frs fsr fb fnw fw fu hs
  | succ d ih =>
    intro t F F2 ht dn me xb br fi dr kp fx fv fs cw f1 f2 sl nu lw bro val sm ofm fe frs fsr fb fnw fw fu hs
    obtain ⟨h, hr, hd, hm, hu, hf⟩ := hs
    have c1 : ¬ nI T ≤ nI t := fun q => by have := (kn_le (by omega) (by omega)).mp q; omega
    have h3' : ∀ j, j < 24 → f3 j = fw (67 + j) := fun j hj => (h3 j hj).trans (hf _ (by omega)).symm
    generalize hA : E_w_turn G (nI i) dn me xb fx fv scl sus fh fc dr kp sl br fs cw n lt nf fi f1 f2 f3 fl = A
    generalize hB : E_v_run (nI (8 * i)) nu lw bro val sm dn me ofm fw fe frs fu fsr fb fnw fo fa fod = B
    obtain ⟨A1, A2, A3, A4, A5, A6, A7, A8, A9, A10, A11, A12, A13, A14, A15⟩ := A
    obtain ⟨B1, B2, B3, B4, B5, B6, B7, B8, B9, B10, B11, B12, B13, B14, B15, B16⟩ := B
    have tr := turn_run hi hK hus hnc hA.symm hB.symm h hr h3' (by omega) hm
    obtain ⟨b1, b2, b3⟩ := become_at (An := n) (Al := lt) (Af := nf) (Ai := A13) (Ah := hea) (Ao := ho) (Aa := A14) (Ab := A15) (Ac := f3) (Ad := fl) (Bn := n) (Bl := lt) (Bf := nf) (Bi := fi0) (Bh := hea) (Bo := ho) (Ba := u0) (Bb := u1) (Bc := u2) (Bd := u3)
    have b4 := become_laws (An := n) (Al := lt) (Af := nf) (Ai := A13) (Ah := hea) (Ao := ho) (Aa := A14) (Ab := A15) (Ac := f3) (Ad := fl) (Bn := n) (Bl := lt) (Bf := nf) (Bi := fi0) (Bh := hea) (Bo := ho) (Ba := u0) (Bb := u1) (Bc := u2) (Bd := u3)
    obtain ⟨g1, g2, g3⟩ := giveBack_at (x := nu0) (nu := B2) (fw := B10) (fu := B13) (fs := B14) (fub := fub) (fsb := fsb)
    have hh := fun (j : Nat) (hj : j < 476) => hbec_at (f := A9) (g := uh) (dr := dr0) (kp := kp0) hj
    have tl := tell_s (x := -3) (sta := sta) (f := frm) (b := 3) (by decide)
    generalize hBc : E_w_become n lt nf A13 hea ho A14 A15 f3 fl n lt nf fi0 hea ho u0 u1 u2 u3 = Bc at b1 b2 b3 b4
    generalize hGb : E_v_giveBack nu0 B2 B10 B13 B14 fub fsb = Gb at g1 g2 g3
    generalize hHb : E_w_hbecome A9 dr0 kp0 uh = Hb at hh
    have sA : Lp (α := KCo) (E_w_carryOut_l50 G scl sus fh fc dr0 kp0 n lt nf fi0 hea ho f3 fl u0 u1 u2 u3 uh (nI i) rc1 (nI T)) zCo (F + (d + 1) + 1) (nI t) dn me xb br fi dr kp fx fv fs cw f1 f2 sl = if A1 = 0 then ((-3, A2, A3, nI i, A4, A5, A6, dr0, kp0, Hb, A10, A11, A12, fi0, Bc.1, Bc.2.1, Bc.2.2.1, Bc.2.2.2, u0, u1, u2, u3, uh) : KC23) else Lp (α := KCo) (E_w_carryOut_l50 G scl sus fh fc dr0 kp0 n lt nf fi0 hea ho f3 fl u0 u1 u2 u3 uh (nI i) rc1 (nI T)) zCo (F + d + 1) (nI (t + 1)) A2 A3 A4 A10 A13 A7 A8 A5 A6 A11 A12 A14 A15 A9 := by
      rw [Lp_s, E_w_carryOut_l50.eq_def, if_neg c1, hA, Lt2_b, Lt2_b, Lt2_b, Lt2_b, Lt2_b, Lt2_b, Lt2_b, Lt2_b, Lt2_b, Lt2_b, Lt2_b, Lt2_b, Lt2_b, Lt2_b]
      dsimp only
      by_cases q : A1 = 0
      · rw [if_pos q, if_pos q, hBc, hHb, Lt2_b, Lt2_b, Lt2_b, Lt_b]
      · rw [if_neg q, if_neg q, Lt_b, kn_po (by omega)]
        rfl
    have sB : Lp (α := KMo) (E_v_orders_l150 sta nu0 frm (nI N) nc' nl pi op fo fa fp fq fod fr to so wo fau bd fub fsb (nI i) rc2) zMo (F2 + (d + 1) + 1) (nI t) nu lw bro val sm dn me ofm fe frs fsr fb fnw fw fu = if 0 ≤ B1 then Lp (α := KMo) (E_v_orders_l150 sta nu0 frm (nI N) nc' nl pi op fo fa fp fq fod fr to so wo fau bd fub fsb (nI i) rc2) zMo (F2 + d + 1) (nI (t + 1)) B2 B3 B4 B5 B6 B7 B8 B9 B11 B12 B14 B15 B16 B10 B13 else ((-3, -3, nu0, fr, to, so, wo, fau, bd, nI N, nc', nl, pi, op, B3, B4, B5, B6, B7, B8, nI i, B9, fo, fa, fp, fq, fod, Gb.1, B11, B12, Gb.2.1, Gb.2.2, B15, B16, fub, fsb, upd frm 3 (frm 3 + 1)) : KM37) := by
      rw [Lp_s, E_v_orders_l150.eq_def, n_8l (by omega), Lt_b, n_addl (m := 7) (i := 8 * i) rfl (by omega), Lt_b, Lt_b, kn_cl (by omega), c4, if_neg c1, Lt_b, hB, Lt2_b, Lt2_b, Lt2_b, Lt2_b, Lt2_b, Lt2_b, Lt2_b, Lt2_b, Lt2_b, Lt2_b, Lt2_b, Lt2_b, Lt2_b, Lt2_b, Lt2_b]
      dsimp only
      by_cases q : 0 ≤ B1
      · rw [if_pos q, if_pos q, Lt_b, kn_po (by omega)]
        rfl
      · rw [if_neg q, if_neg q, hGb, tl, Lt2_b, Lt2_b, Lt2_b, Lt2_b]
    rw [sA, sB]
    rcases tr with ⟨q1, q2, q3, q4⟩ | ⟨q1, q2, q3, q4, q5, q6, q7, q8, q9, q10⟩
    · rw [if_pos q1, if_neg (show ¬ (0 : Int32) ≤ B1 by rw [q2]; decide)]
      have pb := fun j => putBack_at (k := 17) (by omega) (fw := B10) (fu := B13) j
      have e0 : ∀ j, Gb.1 j = fw0 j := fun j => by
        rw [g1, show (17 : Int32) = nI 17 from rfl, pb]
        by_cases c : 4 ≤ j ∧ j < 35
        · rw [if_pos c, q3 _ (by omega), hu _ (by omega), show 31 * 17 + (j - 4) = 527 + (j - 4) by omega, hsn _ (by omega)]
          exact congrArg fw0 (by omega)
        · rw [if_neg c, q4 j (by omega)]; exact hf j (by omega)
      have t1 := h0.ext (fun j hj => (b1 j hj).trans (hu0 j hj)) (fun j hj => (b3 j hj).trans (hu1 j hj)) (fun j hj => (b4 j hj).trans (hu3 j hj)) (fun j _ => e0 j)
      have t2 := hr0.ext (fun j hj => (hh j hj).trans (huh j hj)) (fun j hj => (g2 j hj).trans (hub j hj)) (fun j hj => (g3 j hj).trans (hsb j hj)) (fun j _ _ => e0 j)
      unfold OrdR
      rw [tl]
      exact ⟨rfl, rfl, rfl, Or.inr ⟨rfl, rfl, rfl⟩, t1, t2, fun j _ => e0 j⟩
    · rw [if_neg (show ¬ A1 = 0 by rw [q1]; decide), if_pos (show (0 : Int32) ≤ B1 by rw [q2]; decide)]
      rw [← q3, ← q4]
      rw [← q3] at q5
      rw [← q4] at q6
      exact ih (t + 1) F F2 (by omega) A2 A3 A4 A10 A13 A7 A8 A5 A6 A11 A12 A14 A15 A9 B2 B3 B4 B5 B6 B9 B11 B12 B14 B15 B16 B10 B13 ⟨q7, q8, ⟨q5.1, by omega⟩, q6, fun j hj => (q9 j hj).trans (hu j hj), fun j hj => (q10 j hj).trans (hf j hj)⟩
/-- all clauses -/
theorem co_out {n lt nf fi0 dr0 kp0 nu0 hea ho sus sta nc' nl pi op fr to so fau bd : Int32} {wo : Int64} {N us nc : Nat} {fh fc f3 u0 u1 u2 uh fo fa fp fq fod fub fsb frm f10 f20 sl0 fw0 fu0 fs0 fuS : Nat → Int32} {fl u3 : Nat → Option Nat} {G : Nat → LC} (h0 : TW n lt nf fi0 f10 f20 fl G fw0) (hr0 : HR n dr0 kp0 nu0 sl0 fu0 fs0 fw0) (hu0 : ∀ j, j < 56 → u0 j = f10 j) (hu1 : ∀ j, j < 6 → u1 j = f20 j) (hu3 : ∀ j, j < 6 → u3 j = fl j) (huh : ∀ j, j < 476 → uh j = sl0 j) (hub : ∀ j, j < 496 → fub j = fu0 j) (hsb : ∀ j, j < 16 → fsb j = fs0 j) (hsn : ∀ j, j < 31 → fuS (527 + j) = fw0 (4 + j)) (h3 : ∀ j, j < 24 → f3 j = fw0 (67 + j)) (hus : us ≤ 800) (hnc : nc ≤ 400) (hN : N ≤ 12) (hKK : KOrs N us nc fh fod fc fo fa) : ∀ (d i F F2 : Nat), i + d = N → ∀ (dn : Int32) (me : Int32) (xb : Int32) (br : Int32) (fi : Int32) (dr : Int32) (kp : Int32) (fx : Nat → Int32) (fv : Nat → Int32) (fs : Nat → Int32) (cw : Nat → Int32) (f1 : Nat → Int32) (f2 : Nat → Int32) (sl : Nat → Int32) (nu : Int32) (lw : Int32) (bro : Int32) (val : Int64) (sm : Int64) (ofm : Int32) (fe : Nat → Int64) (frs : Nat → Int64) (fsr : Nat → Int32) (fb : Nat → Int32) (fnw : Nat → Int64) (fw : Nat → Int32) (fu : Nat → Int32), KSt (20 * i) n lt nf fi nu dr kp dn me f1 f2 sl fw fu fsr fuS fw0 fl G → OrdR n lt nf G sta frm fw0 fau (Lp (α := KCo) (E_w_carryOut_l29 G (-1) (nI N) sus fh fc dr0 kp0 n lt nf fi0 hea ho f3 fl u0 u1 u2 u3 uh) zCo (F + d + 1) (nI i) dn me xb br fi dr kp fx fv fs cw f1 f2 sl) (Lp (α := KMo) (E_v_orders_l140 sta nu0 frm (nI N) nc' nl pi op fo fa fp fq fod fr to so wo fau bd fub fsb) zMo (F2 + d + 1) (nI i) nu lw bro val sm dn me ofm fe frs fsr fb fnw fw fu) := by
  intro d
  induction d with
  | zero =>
    intro i F F2 hi dn me xb br fi dr kp fx fv fs cw f1 f2 sl nu lw bro val sm ofm fe frs fsr fb fnw fw fu hs
    have : i = N := by omega
    subst this
    obtain ⟨h, hr, hd, hm, hu, hf⟩ := hs
    rw [Nat.add_zero, Nat.add_zero, Lp_s, Lp_s, E_w_carryOut_l29.eq_def, E_v_orders_l140.eq_def, if_pos ((kn_le (by omega) (by omega)).mpr (Nat.le_refl _)), if_pos ((kn_le (by omega) (by omega)).mpr (Nat.le_refl _)), tell_p hd.1]
    simp only [Lt2]
    exact ⟨rfl, rfl, rfl, Or.inl ⟨hd.1, rfl, rfl⟩, h, hr, hf⟩
  | succ d ih =>
    intro i F F2 hi dn me xb br fi dr kp fx fv fs cw f1 f2 sl nu lw bro val sm ofm fe frs fsr fb fnw fw fu hs
    obtain ⟨v, t, hK⟩ := hKK i (by omega)
    have c3 := hK.2.2.2.1
    have hT := hK.1.2
    have c1 : ¬ nI N ≤ nI i := fun q => by have := (kn_le (by omega) (by omega)).mp q; omega
    rw [Lp_s, Lp_s, E_w_carryOut_l29.eq_def, E_v_orders_l140.eq_def, if_neg c1, if_neg c1, Lt_b, (head_at (j := 1) rfl (by omega) (by omega) (by omega) (by omega)).trans c3, show ((1001 - (0 : Int32).toInt : Int).toNat + 1) = 1001 - t + t + 1 by rw [show (0 : Int32).toInt = 0 from rfl]; omega, show ((21 - (0 : Int32).toInt : Int).toNat + 1) = 21 - t + t + 1 by rw [show (0 : Int32).toInt = 0 from rfl]; omega]
    refine co_in h0 hr0 hu0 hu1 hu3 huh hub hsb hsn h3 hus hnc (by omega) hN hK (Lp (α := KCo) (E_w_carryOut_l29 G (-1) (nI N) sus fh fc dr0 kp0 n lt nf fi0 hea ho f3 fl u0 u1 u2 u3 uh) zCo (F + (d + 1))) (Lp (α := KMo) (E_v_orders_l140 sta nu0 frm (nI N) nc' nl pi op fo fa fp fq fod fr to so wo fau bd fub fsb) zMo (F2 + (d + 1))) ?_ t 0 (1001 - t) (21 - t) (by omega) dn me xb br fi dr kp fx fv fs cw f1 f2 sl nu lw bro val sm ofm fe frs fsr fb fnw fw fu hs
    intro dn me xb br fi dr kp fx fv fs cw f1 f2 sl nu lw bro val sm ofm fe frs fsr fb fnw fw fu hs2
    obtain ⟨h, hr, hd, hm, hu, hf⟩ := hs2
    exact ih (i + 1) F F2 (by omega) dn me xb br fi dr kp fx fv fs cw f1 f2 sl nu lw bro val sm ofm fe frs fsr fb fnw fw fu ⟨h, hr, ⟨hd.1, by omega⟩, hm, hu, hf⟩
end
section
/-! orders(), class and reference -/
theorem isSign_end {x : Int32} {e : Int64} : E_v_isSign x 0 e = 0 := by
  rw [E_v_isSign.eq_def, if_neg (by decide)]
theorem ordl_go {L : Nat} {sta nu lw bro dnv mev ofm : Int32} {val sm : Int64} {ft fw fu fsr fb fub fsb frm : Nat → Int32} {fwd fwe fac fe frs fnw : Nat → Int64} (z0 : KO KM37) {a b : Int32} {e : Int64} {n1 n2 n3 n4 n5 : Int32} {h1 h2 h3 h4 h5 : Nat → Int32} : E_v_orders_l19 sta nu (nI L) lw bro val sm dnv mev ofm ft fwd fwe fac fw fe frs fu fsr fb fnw fub fsb frm z0 a b 0 e (-1) 0 n1 n2 n3 n4 n5 h1 h2 h3 h4 h5 = Lp (α := KMo) (E_v_orders_l140 sta nu frm n1 n2 n3 n4 n5 h1 h2 h3 h4 h5 a b 0 e (-1) 0 (kitf (fun i => 0 + i) (fun i _ => E_v_keepAll 17 fw fu i) fub 496) (kitf (fun i => 0 + i) (fun i _ => fsr i) fsb 16)) zMo (1 + 12 + 1) (nI 0) nu lw bro val sm 0 (-1) ofm fe frs fsr fb fnw fw (E_v_keepAll 17 fw fu) := by
  rw [E_v_orders_l19.eq_def, if_pos rfl, Lt_b, if_neg (by rw [isSign_end]; decide), et_end, Lt2_b, Lt2_b, Lt2_b, Lt2_b, Lt2_b]
  dsimp only
  rw [if_pos rfl, Lt_b]
  generalize E_v_keepAll 17 fw fu = U
  have hB : ∀ (rc : Int32 → (Nat → Int32) → KM37) (i : Nat) (f : Nat → Int32), i < 496 → E_v_orders_l77 sta nu lw bro val sm ofm fw fe frs fsr fb fnw fsb frm n1 n2 n3 n4 n5 h1 h2 h3 h4 h5 a b 0 e (-1) 0 U rc (nI i) f = rc (nI (i + 1)) (upd f (0 + i) (U i)) := fun rc i f hi => by
    rw [E_v_orders_l77.eq_def, if_neg (kn_nlel (j := 496) rfl (by omega) hi), Lt_b, Lt_b, Lt_b, kn_po (by omega), kn_cl (by omega), Nat.zero_add]
  have hC : ∀ (g : Nat → Int32) (rc : Int32 → (Nat → Int32) → KM37) (i : Nat) (f : Nat → Int32), i < 16 → E_v_orders_l104 sta nu lw bro val sm ofm fw fe frs fsr fb fnw frm n1 n2 n3 n4 n5 h1 h2 h3 h4 h5 a b 0 e (-1) 0 U g rc (nI i) f = rc (nI (i + 1)) (upd f (0 + i) (fsr i)) := fun g rc i f hi => by
    rw [E_v_orders_l104.eq_def, if_neg (kn_nlel (j := 16) rfl (by omega) hi), Lt_b, Lt_b, Lt_b, kn_po (by omega), kn_cl (by omega), Nat.zero_add]
  have q := lp_it (d := fun i => 0 + i) (s := fun i _ => U i) hB (fun _ _ => ((0, 0, 0, 0, 0, 0, 0, 0, 0, 0, 0, 0, 0, 0, 0, 0, 0, 0, 0, 0, 0, 0, fun _ => 0, fun _ => 0, fun _ => 0, fun _ => 0, fun _ => 0, fun _ => 0, fun _ => 0, fun _ => 0, fun _ => 0, fun _ => 0, fun _ => 0, fun _ => 0, fun _ => 0, fun _ => 0, fun _ => 0) : KM37)) fub 496 2 0 rfl
  have q2 := lp_it (d := fun i => 0 + i) (s := fun i _ => fsr i) (hC (kitf (fun i => 0 + i) (fun i _ => U i) fub 496)) (fun _ _ => ((0, 0, 0, 0, 0, 0, 0, 0, 0, 0, 0, 0, 0, 0, 0, 0, 0, 0, 0, 0, 0, 0, fun _ => 0, fun _ => 0, fun _ => 0, fun _ => 0, fun _ => 0, fun _ => 0, fun _ => 0, fun _ => 0, fun _ => 0, fun _ => 0, fun _ => 0, fun _ => 0, fun _ => 0, fun _ => 0, fun _ => 0) : KM37)) fsb 16 2 0 rfl
  rw [show ((497 - (0 : Int32).toInt : Int).toNat + 1) = 2 + 496 by decide]
  refine Eq.trans q ?_
  rw [Lp_s, E_v_orders_l77.eq_def, if_pos (kn_lel (j := 496) rfl (by omega) (Nat.le_refl _)), show ((17 - (0 : Int32).toInt : Int).toNat + 1) = 2 + 16 by decide]
  refine Eq.trans q2 ?_
  rw [Lp_s, E_v_orders_l104.eq_def, if_pos (kn_lel (j := 16) rfl (by omega) (Nat.le_refl _)), show ((13 - (0 : Int32).toInt : Int).toNat + 1) = 1 + 12 + 1 by decide]
  rfl
theorem ordl_no {L : Nat} {sta nu lw bro dnv mev ofm : Int32} {val sm : Int64} {ft fw fu fsr fb fub fsb frm : Nat → Int32} {fwd fwe fac fe frs fnw : Nat → Int64} (z0 : KO KM37) {a b c q : Int32} {e : Int64} {n1 n2 n3 n4 n5 : Int32} {h1 h2 h3 h4 h5 : Nat → Int32} : E_v_orders_l19 sta nu (nI L) lw bro val sm dnv mev ofm ft fwd fwe fac fw fe frs fu fsr fb fnw fub fsb frm z0 a b c e q 1 n1 n2 n3 n4 n5 h1 h2 h3 h4 h5 = ((-6, -6, nu, a, b, c, e, q, 1, n1, n2, n3, n4, n5, lw, bro, val, sm, dnv, mev, -1, ofm, h1, h2, h3, h4, h5, fw, fe, frs, fu, fsr, fb, fnw, fub, fsb, upd frm 6 (frm 6 + 1)) : KM37) := by
  rw [E_v_orders_l19.eq_def, if_neg (show ¬ (1 : Int32) = 0 by decide), et_bad, Lt2_b, Lt2_b, Lt2_b, Lt2_b, Lt2_b]
  dsimp only
  rw [if_neg (show ¬ (1 : Int32) = 0 by decide), tell_s (b := 6) (by decide), Lt2_b, Lt2_b]
theorem carry_at {n lt nf fi hea ho dn me xb scl sus dr kp br An Al Af Ai Ah Ao gd gk : Int32} {fx fv fh fc sl fs cw f1 f2 f3 Aa Ab Ac fg : Nat → Int32} {fl Ad : Nat → Option Nat} {G : Nat → LC} : ∃ (u0 u1 u2 uh : Nat → Int32) (u3 : Nat → Option Nat), (∀ j, j < 56 → u0 j = f1 j) ∧ (∀ j, j < 6 → u1 j = f2 j) ∧ (∀ j, j < 6 → u3 j = fl j) ∧ (∀ j, j < 476 → uh j = sl j) ∧ E_w_carryOut G dn me (-1) xb fx fv scl sus fh fc dr kp sl br fs cw n lt nf fi hea ho f1 f2 f3 fl An Al Af Ai Ah Ao Aa Ab Ac Ad gd gk fg = Lp (α := KCo) (E_w_carryOut_l29 G (-1) scl sus fh fc dr kp n lt nf fi hea ho f3 fl u0 u1 u2 u3 uh) zCo (1 + 12 + 1) (nI 0) 0 (-1) xb br fi dr kp fx fv fs cw f1 f2 sl := by
  obtain ⟨b1, b2, b3⟩ := become_at (An := An) (Al := Al) (Af := Af) (Ai := Ai) (Ah := Ah) (Ao := Ao) (Aa := Aa) (Ab := Ab) (Ac := Ac) (Ad := Ad) (Bn := n) (Bl := lt) (Bf := nf) (Bi := fi) (Bh := hea) (Bo := ho) (Ba := f1) (Bb := f2) (Bc := f3) (Bd := fl)
  have b4 := become_laws (An := An) (Al := Al) (Af := Af) (Ai := Ai) (Ah := Ah) (Ao := Ao) (Aa := Aa) (Ab := Ab) (Ac := Ac) (Ad := Ad) (Bn := n) (Bl := lt) (Bf := nf) (Bi := fi) (Bh := hea) (Bo := ho) (Ba := f1) (Bb := f2) (Bc := f3) (Bd := fl)
  have hh := fun (j : Nat) (hj : j < 476) => hbec_at (f := fg) (g := sl) (dr := dr) (kp := kp) hj
  rw [E_w_carryOut.eq_def, show ((13 - (0 : Int32).toInt : Int).toNat + 1) = 1 + 12 + 1 by decide]
  generalize E_w_become An Al Af Ai Ah Ao Aa Ab Ac Ad n lt nf fi hea ho f1 f2 f3 fl = Bc at b1 b2 b3 b4 ⊢
  generalize E_w_hbecome fg dr kp sl = Hb at hh ⊢
  rw [Lt2_b, Lt2_b, Lt2_b, Lt_b]
  exact ⟨_, _, _, _, _, b1, b3, b4, hh, rfl⟩
theorem rel_orders {L : Nat} {rb lwc pa fl0 tf tt ti tu dn me sp xb scl sus dr kp br n lt nf fi hea ho An Al Af Ai Ah Ao gd gk thr sta nu fr to so fau bd ncl nc nl pi opn lw bro dnv mev sto ofm : Int32} {wo val sm : Int64} {frf fbt fx fv fh fc sl fs cw f1 f2 f3 Aa Ab Ac fg ft fo fa fp fq fod fw fu fsr fb fub fsb frm : Nat → Int32} {fwd fwe fac fe frs fnw : Nat → Int64} {fl Ad : Nat → Option Nat} {G : Nat → LC} {r1 : Int32} {rb' : Int32} {frf' : Nat → Int32} {pa' : Int32} {fl' : Int32} {tf' : Int32} {tt' : Int32} {ti' : Int32} {tu' : Int32} {dn1 : Int32} {me1 : Int32} {sp' : Int32} {xb' : Int32} {fx' : Nat → Int32} {fv' : Nat → Int32} {scl' : Int32} {us' : Int32} {fh' : Nat → Int32} {fc' : Nat → Int32} {dr' : Int32} {kp' : Int32} {sl' : Nat → Int32} {br' : Int32} {fs' : Nat → Int32} {cw' : Nat → Int32} {fi' : Int32} {f1' : Nat → Int32} {f2' : Nat → Int32} {f3' : Nat → Int32} {fl1' : Nat → Option Nat} {zn : Int32} {zl : Int32} {zf : Int32} {zi : Int32} {zh : Int32} {zo : Int32} {za : Nat → Int32} {zb : Nat → Int32} {zc : Nat → Int32} {zd : Nat → Option Nat} {zr : Int32} {zk : Int32} {zg : Nat → Int32} {r2 : Int32} {sta' : Int32} {nu' : Int32} {fr' : Int32} {to' : Int32} {so' : Int32} {wo' : Int64} {fau' : Int32} {bd' : Int32} {ncl' : Int32} {nc' : Int32} {nl' : Int32} {pi' : Int32} {op' : Int32} {lw' : Int32} {bro' : Int32} {val' : Int64} {sm' : Int64} {dn2 : Int32} {me2 : Int32} {sto' : Int32} {ofm' : Int32} {fo' : Nat → Int32} {fa' : Nat → Int32} {fp' : Nat → Int32} {fq' : Nat → Int32} {fod' : Nat → Int32} {fw' : Nat → Int32} {fe' : Nat → Int64} {frs' : Nat → Int64} {fu' : Nat → Int32} {fsr' : Nat → Int32} {fb' : Nat → Int32} {fnw' : Nat → Int64} {fub' : Nat → Int32} {fsb' : Nat → Int32} {frm' : Nat → Int32} (k1 : (r1, rb', frf', pa', fl', tf', tt', ti', tu', dn1, me1, sp', xb', fx', fv', scl', us', fh', fc', dr', kp', sl', br', fs', cw', fi', f1', f2', f3', fl1', zn, zl, zf, zi, zh, zo, za, zb, zc, zd, zr, zk, zg) = E_w_orders G rb frf lwc pa fl0 (nI L) tf tt ti tu fbt dn me sp xb fx fv scl sus fh fc dr kp sl br fs cw n lt nf fi hea ho f1 f2 f3 fl An Al Af Ai Ah Ao Aa Ab Ac Ad gd gk fg) (k2 : (r2, sta', nu', fr', to', so', wo', fau', bd', ncl', nc', nl', pi', op', lw', bro', val', sm', dn2, me2, sto', ofm', fo', fa', fp', fq', fod', fw', fe', frs', fu', fsr', fb', fnw', fub', fsb', frm') = E_v_orders thr sta nu (nI L) fr to so wo fau bd ncl nc nl pi opn lw bro val sm dnv mev sto ofm ft fo fa fp fq fwd fwe fod fac fw fe frs fu fsr fb fnw fub fsb frm) (hR : KRy L fbt ft fwd fwe) (hb0 : ∀ j, j < L → 0 ≤ (fbt j).toInt) (hh : ∀ j, j < 4 → (fac j).toInt = kwh 1 j) (h : TW n lt nf fi f1 f2 fl G fw) (hr : HR n dr kp nu sl fu fsr fw) (q : RfR rb sta frf frm) (h3 : ∀ j, j < 24 → f3 j = fw (67 + j)) :
    r1 = r2 ∧ RfR rb' sta' frf' frm' ∧ fl' = fau' ∧ sp' = sto' ∧ TW n lt nf fi' f1' f2' fl1' G fw' ∧ HR n dr' kp' nu' sl' fu' fsr' fw' ∧ ∀ j, j < 4 ∨ 35 ≤ j → fw' j = fw j := by
  have kr := reads_ord (lwc := lwc) (pa := pa) (fl := fl0) (tf := tf) (tt := tt) (ti := ti) (tu := tu) (scl := scl) (us := sus) (fh := fh) (fc := fc) (thr := thr) (sta := sta) (nu := nu) (fr := fr) (to := to) (so := so) (wo := wo) (fau := fau) (bd := bd) (ncl := ncl) (nc := nc) (nl := nl) (pi := pi) (opn := opn) (lw := lw) (bro := bro) (val := val) (sm := sm) (dn := dnv) (me := mev) (sto := sto) (ofm := ofm) (fo := fo) (fa := fa) (fp := fp) (fq := fq) (fod := fod) (fw := fw) (fe := fe) (frs := frs) (fu := fu) (fs := fsr) (fb2 := fb) (fnw := fnw) (fub := fub) (fsb := fsb) (frf := frm) hR hb0 hh (fun _ _ _ _ _ _ _ _ _ _ _ _ _ _ _ _ => ((0, 0, 0, 0, 0, 0, 0, 0, 0, 0, 0, 0, 0, 0, 0, 0, 0, 0, 0, 0, 0, 0, fun _ => 0, fun _ => 0, fun _ => 0, fun _ => 0, fun _ => 0, fun _ => 0, fun _ => 0, fun _ => 0, fun _ => 0, fun _ => 0, fun _ => 0, fun _ => 0, fun _ => 0, fun _ => 0, fun _ => 0) : KM37))
  rw [← k2] at kr
  rw [E_w_orders.eq_def] at k1
  generalize E_w_reads 0 lwc pa fl0 (nI L) tf tt ti tu fbt scl sus fh fc = r at k1 kr
  rcases kr with ⟨n1, qq, a, b, c, e, m1, m2, m3, m4, m5, x1, x2, x3, x4, x5, n2, eqx⟩ | ⟨cn, us1, nc1, nl1, t1, t2, t3, t4, a, b, c, e, pi1, op1, fh1, fc1, fo1, fa1, fp1, fq1, fod1, e1, e2, e3, e4, e5⟩
  · rw [ordl_no] at eqx
    rw [Lt2_b, Lt2_b, Lt2_b, Lt2_b, Lt2_b, Lt2_b, Lt2_b, Lt2_b, Lt2_b, Lt2_b, if_pos n1, refuse_b (a := 4) (b := 6) (by decide), Lt2_b] at k1
    simp only [Prod.mk.injEq] at k1 eqx
    obtain ⟨c0, c1, c2, c3, c4, c5, c6, c7, c8, c9, c10, c11, c12, c13, c14, c15, c16, c17, c18, c19, c20, c21, c22, c23, c24, c25, c26, c27, c28, c29, c30, c31, c32, c33, c34, c35, c36, c37, c38, c39, c40, c41, c42⟩ := k1
    obtain ⟨d0, d1, d2, d3, d4, d5, d6, d7, d8, d9, d10, d11, d12, d13, d14, d15, d16, d17, d18, d19, d20, d21, d22, d23, d24, d25, d26, d27, d28, d29, d30, d31, d32, d33, d34, d35, d36⟩ := eqx
    have g := q.no (x := -6) (by decide)
    rw [refuse_b (a := 4) (b := 6) (by decide), tell_s (b := 6) (by decide)] at g
    rw [c0, c1, c2, c4, c11, c25, c26, c27, c29, c19, c20, c21, d0, d1, d36, d7, d20, d27, d2, d30, d31]
    exact ⟨rfl, g.2.2, n2, rfl, h, hr, fun _ _ => rfl⟩
  · subst e1 e3
    rw [ordl_go] at e2
    obtain ⟨u0, u1, u2, uh, u3, v1, v2, v3, v4, v5⟩ := carry_at (n := n) (lt := lt) (nf := nf) (fi := fi) (hea := hea) (ho := ho) (dn := dn) (me := me) (xb := xb) (scl := nI cn) (sus := nI us1) (dr := dr) (kp := kp) (br := br) (An := An) (Al := Al) (Af := Af) (Ai := Ai) (Ah := Ah) (Ao := Ao) (gd := gd) (gk := gk) (fx := fx) (fv := fv) (fh := fh1) (fc := fc1) (sl := sl) (fs := fs) (cw := cw) (f1 := f1) (f2 := f2) (f3 := f3) (Aa := Aa) (Ab := Ab) (Ac := Ac) (fg := fg) (fl := fl) (Ad := Ad) (G := G)
    have ka := fun j => keepAll_at (k := 17) (by omega) (fw := fw) (fu := fu) j
    have ou := co_out (fuS := E_v_keepAll 17 fw fu) (sta := sta) (nc' := nI nc1) (nl := nI nl1) (pi := pi1) (op := op1) (fr := a) (to := b) (so := 0) (wo := e) (fau := -1) (bd := 0) (hea := hea) (ho := ho) (sus := nI us1) (u2 := u2) (fp := fp1) (fq := fq1) (frm := frm) (fub := kitf (fun i => 0 + i) (fun i _ => E_v_keepAll 17 fw fu i) fub 496) (fsb := kitf (fun i => 0 + i) (fun i _ => fsr i) fsb 16) h hr v1 v2 v3 v4 (fun j hj => by rw [kitf_cp, if_pos (by omega), Nat.sub_zero, show (17 : Int32) = nI 17 from rfl, ka, if_neg (by omega)]) (fun j hj => by rw [kitf_cp, if_pos (by omega), Nat.sub_zero]) (fun j hj => by rw [show (17 : Int32) = nI 17 from rfl, ka, if_pos (by omega)]; exact congrArg fw (by omega)) h3 e4.2.2.1 e4.2.2.2.1 e4.2.1 e5 cn 0 (13 - cn) (13 - cn) (by omega) 0 (-1) xb br fi dr kp fx fv fs cw f1 f2 sl nu lw bro val sm ofm fe frs fsr fb fnw fw (E_v_keepAll 17 fw fu) ⟨h, hr.keep (fun j hj => by rw [show (17 : Int32) = nI 17 from rfl, ka, if_neg (by omega)]) (fun _ _ => rfl) (fun _ _ _ => rfl), by decide, by decide, fun _ _ => rfl, fun _ _ => rfl⟩
    rw [show 13 - cn + cn + 1 = 1 + 12 + 1 by have := e4.2.1; omega, ← v5, ← e2] at ou
    rw [Lt2_b, Lt2_b, Lt2_b, Lt2_b, Lt2_b, Lt2_b, Lt2_b, Lt2_b, Lt2_b, Lt2_b] at k1
    dsimp only at k1
    rw [if_neg (show ¬ (1 : Int32) = 0 by decide)] at k1
    generalize E_w_carryOut G dn me (-1) xb fx fv (nI cn) (nI us1) fh1 fc1 dr kp sl br fs cw n lt nf fi hea ho f1 f2 f3 fl An Al Af Ai Ah Ao Aa Ab Ac Ad gd gk fg = CC at k1 ou
    obtain ⟨C0, C1, C2, C3, C4, C5, C6, C7, C8, C9, C10, C11, C12, C13, C14, C15, C16, C17, C18, C19, C20, C21, C22⟩ := CC
    rw [Lt2_b, Lt2_b, Lt2_b, Lt2_b, Lt2_b, Lt2_b, Lt2_b, Lt2_b, Lt2_b, Lt2_b, Lt2_b, Lt2_b, Lt2_b, Lt2_b, Lt2_b, Lt2_b, Lt2_b, Lt2_b, Lt2_b, Lt2_b, Lt2_b, Lt2_b] at k1
    dsimp only at k1
    obtain ⟨o1, o2, o3, o4, o5, o6, o7⟩ := ou
    dsimp only at o1 o2 o3 o4 o5 o6 o7
    rcases o4 with ⟨p1, p2, p3⟩ | ⟨p1, p2, p3⟩
    · rw [if_pos (show (0 : Int32) ≤ C0 from ie_iff.mpr p1), Lt_b, E_w_accept.eq_def] at k1
      simp only [Prod.mk.injEq] at k1
      obtain ⟨c0, c1, c2, c3, c4, c5, c6, c7, c8, c9, c10, c11, c12, c13, c14, c15, c16, c17, c18, c19, c20, c21, c22, c23, c24, c25, c26, c27, c28, c29, c30, c31, c32, c33, c34, c35, c36, c37, c38, c39, c40, c41, c42⟩ := k1
      rw [c0, c1, c2, c4, c11, c25, c26, c27, c29, c19, c20, c21]
      refine ⟨o1, ?_, o3.symm, o2, o5, o6, o7⟩
      rw [p2, p3]; exact q.ok
    · rw [if_neg (show ¬ (0 : Int32) ≤ C0 by rw [p1]; decide), p1, refuse_s (a := 2) (b := 3) (by decide), Lt2_b] at k1
      simp only [Prod.mk.injEq] at k1
      obtain ⟨c0, c1, c2, c3, c4, c5, c6, c7, c8, c9, c10, c11, c12, c13, c14, c15, c16, c17, c18, c19, c20, c21, c22, c23, c24, c25, c26, c27, c28, c29, c30, c31, c32, c33, c34, c35, c36, c37, c38, c39, c40, c41, c42⟩ := k1
      have g := q.no (x := -3) (by decide)
      rw [refuse_s (a := 2) (b := 3) (by decide), tell_s (b := 3) (by decide)] at g
      rw [tell_s (b := 3) (by decide)] at p2 p3
      rw [c0, c1, c2, c4, c11, c25, c26, c27, c29, c19, c20, c21]
      refine ⟨p1.symm.trans o1, ?_, o3.symm, o2, o5, o6, o7⟩
      rw [p2, p3]; exact g.2.2
end
