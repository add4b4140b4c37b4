/-! of -/
theorem bar_01 {X : Int32} {x : Int32} {k : Nat} {fw : Nat → Int32} (hX : X.toInt = RV x 3 k (-1) 0 fw) : X = 0 ∨ X = 1 := by
  have m1 : (aF 3 3).toInt = 1 := by decide
  have rX := kz_rng (g := (E_v_tells x (nI 3) (nI k) (-1) 0 0 0 0 0 fw (fun _ => 0) (fun _ => 0)).1.toInt) (M := (aF 3 3).toInt) (by decide)
  unfold RV at hX
  rcases (show X.toInt = 0 ∨ X.toInt = 1 by omega) with c | c
  · exact Or.inl (i_lit c rfl)
  · exact Or.inr (i_lit c rfl)
theorem rel_of {x y n lt nf fi br lw bro thr : Int32} {val sm : Int64} {f1 f2 f3 fw fs cw : Nat → Int32} {fe frs : Nat → Int64} {fl : Nat → Option Nat} {G : Nat → LC} {r1 br' r2 lw' bro' : Int32} {val' sm' : Int64} {fs' cw' : Nat → Int32} {fe' frs' : Nat → Int64} (k1 : (r1, br', fs', cw') = E_w_of G x y br fs cw n lt nf fi f1 f2 f3 fl) (k2 : (r2, lw', bro', val', sm', fe', frs') = E_v_of x y thr lw bro val sm fw fe frs) (h : TW n lt nf fi f1 f2 fl G fw) (h4 : ∀ j, 24 ≤ j → j < 40 → f1 j = fw (27 + j)) : r1 = r2 := by
  have hn := h.2.2.2.2.2.2.1
  have z0 : (0 : Int32).toInt = 0 := rfl
  have z6 : (6 : Int32).toInt = 6 := rfl
  have z7 : (7 : Int32).toInt = 7 := rfl
  rw [E_w_of.eq_def, Lt_b] at k1
  rw [E_v_of.eq_def, Lt_b, isHouse_at hn] at k2
  by_cases c : 0 ≤ x.toInt ∧ x.toInt < n.toInt
  case neg =>
    rw [has_n c, if_neg (by decide)] at k1 k2
    rw [(Prod.mk.inj k1).1, (Prod.mk.inj k2).1]
  obtain ⟨k, hk, hz⟩ : ∃ k : Nat, x = nI k ∧ (k : Int) = x.toInt := ⟨x.toInt.toNat, i_ofN rfl c.1, by omega⟩
  subst hk
  have hkn : (k : Int) < n.toInt := by omega
  obtain ⟨k8, hh⟩ := h.has hkn
  have e3 : nf = fw 3 := h.2.2.1
  rw [hh, if_pos rfl] at k1 k2
  rw [Lt_b] at k1
  by_cases y0 : y.toInt = 0
  · rw [ifw_p (by omega), Lt_b, i_lit y0 z0, h.note k8] at k1
    rw [if_pos y0, n_ladd (m := 35) rfl (by omega), Lt_b, Lt_b, kn_cl (by omega)] at k2
    rw [(Prod.mk.inj k1).1, (Prod.mk.inj k2).1]
  rw [if_neg y0] at k2
  by_cases y1 : y.toInt = 1
  · rw [ifw_p (by omega), Lt_b, i_lit y1 (show (1 : Int32).toInt = 1 from rfl), h.street k8] at k1
    rw [if_pos y1, n_ladd (m := 43) rfl (by omega), Lt_b, Lt_b, kn_cl (by omega)] at k2
    rw [(Prod.mk.inj k1).1, (Prod.mk.inj k2).1]
  rw [if_neg y1] at k2
  by_cases y2 : y.toInt = 2
  · rw [ifw_p (by omega), Lt_b, i_lit y2 (show (2 : Int32).toInt = 2 from rfl), h.coal k8] at k1
    rw [if_pos y2, n_ladd (m := 19) rfl (by omega), Lt_b, Lt_b, kn_cl (by omega)] at k2
    rw [(Prod.mk.inj k1).1, (Prod.mk.inj k2).1]
  rw [if_neg y2] at k2
  by_cases y3 : y.toInt = 3
  · rw [ifw_p (by omega), Lt_b, fact_at (k := 3) (nIb k8) y3 (by omega), nIt (by omega), h4 _ (by omega) (by omega)] at k1
    rw [if_pos y3, n_ladd (m := 51) rfl (by omega), Lt_b, Lt_b, kn_cl (by omega)] at k2
    rw [(Prod.mk.inj k1).1, (Prod.mk.inj k2).1]
    exact congrArg fw (by omega)
  rw [if_neg y3] at k2
  by_cases y4 : y.toInt = 4
  · rw [ifw_p (by omega), Lt_b, fact_at (k := 4) (nIb k8) y4 (by omega), nIt (by omega), h4 _ (by omega) (by omega)] at k1
    rw [if_pos y4, n_ladd (m := 59) rfl (by omega), Lt_b, Lt_b, kn_cl (by omega)] at k2
    rw [(Prod.mk.inj k1).1, (Prod.mk.inj k2).1]
    exact congrArg fw (by omega)
  rw [if_neg y4] at k2
  by_cases y5 : y.toInt = 5
  · rw [ifw_p (by omega), Lt_b, i_lit y5 (show (5 : Int32).toInt = 5 from rfl), h.fire k8] at k1
    rw [if_pos y5, n_ladd (m := 11) rfl (by omega), Lt_b, Lt_b, kn_cl (by omega)] at k2
    rw [(Prod.mk.inj k1).1, (Prod.mk.inj k2).1]
  rw [if_neg y5] at k2
  by_cases y6 : y.toInt = 6
  · rw [ifw_p (by omega), Lt_b, i_lit y6 (show (6 : Int32).toInt = 6 from rfl), h.warm k8] at k1
    rw [if_pos y6, n_ladd (m := 27) rfl (by omega), Lt_b, Lt_b, kn_cl (by omega)] at k2
    rw [(Prod.mk.inj k1).1, (Prod.mk.inj k2).1]
  rw [if_neg y6] at k2
  rw [ifw_n (by omega)] at k1
  by_cases y7 : y.toInt = 7
  · rw [if_pos (i_lit y7 z7), Lt_b, h.sings k8] at k1
    rw [if_pos y7, Lt_b] at k2
    by_cases s : E_v_isSounding (nI k) fw = 0
    · rw [if_pos s] at k1 k2
      rw [(Prod.mk.inj k1).1, (Prod.mk.inj k2).1]
    · rw [if_neg s] at k1 k2
      rw [(Prod.mk.inj k1).1, (Prod.mk.inj k2).1]
  rw [if_neg y7] at k2
  rw [if_neg (fun q => y7 (by rw [q]; rfl)), Lt_b, h.fire k8, Lt_b] at k1
  have hw := h.words (cw := cw) k8
  generalize E_w_face (nI k) (fw (11 + k)) 0 cw f1 f2 = U at k1 hw
  by_cases y8 : y.toInt = 8
  · obtain ⟨R, hR, _⟩ := RV_ex (w := 0) (by omega) nf k (-1) 1 fw
    rw [if_pos y8, Lt_b] at k1
    obtain ⟨b1, s1, k1⟩ := ask_k (w := 0) (h.askn k8 m1_rng) (by omega) (show (1 : Int64).toInt = (aF 2 0).toInt from by decide) hw hR k1 (fun _ => rfl)
    rw [e3] at hR
    obtain ⟨g1, g2, g3, g4, g5, g6, p2⟩ := burnsOf_at (h.ask k8 m1_rng) hR lw bro val sm fe frs
    rw [if_pos y8, Lt_b, show fw (3 : Int32).toNatClampNeg = fw 3 from rfl, p2] at k2
    simp only [Lt2] at k2
    rw [(Prod.mk.inj k1).1, (Prod.mk.inj k2).1]
  rw [if_neg y8] at k1 k2
  by_cases y9 : y.toInt = 9
  · obtain ⟨R, hR, _⟩ := RV_ex (w := 1) (by omega) nf k (-1) 4 fw
    rw [if_pos y9, Lt_b] at k1
    obtain ⟨b1, s1, k1⟩ := ask_k (w := 1) (h.askn k8 m1_rng) (by omega) (show (4 : Int64).toInt = (aF 2 1).toInt from by decide) hw hR k1 (fun _ => rfl)
    rw [e3] at hR
    obtain ⟨g1, g2, g3, g4, g5, g6, p2⟩ := flaresOf_at (h.ask k8 m1_rng) hR lw bro val sm fe frs
    rw [if_pos y9, Lt_b, show fw (3 : Int32).toNatClampNeg = fw 3 from rfl, p2] at k2
    simp only [Lt2] at k2
    rw [(Prod.mk.inj k1).1, (Prod.mk.inj k2).1]
  rw [if_neg y9] at k1 k2
  by_cases y10 : y.toInt = 10
  · obtain ⟨R, hR, _⟩ := RV_ex (w := 3) (by omega) nf k (-1) 0 fw
    rw [if_pos y10, Lt_b] at k1
    obtain ⟨b1, s1, k1⟩ := ask_k (w := 3) (h.askn k8 m1_rng) (by omega) (show (0 : Int64).toInt = (aF 2 3).toInt from by decide) hw hR k1 (fun _ => rfl)
    have b01 := bar_01 hR
    rw [e3] at hR
    obtain ⟨g1, g2, g3, g4, g5, g6, p2⟩ := isBarred_at (h.ask k8 m1_rng) hR lw bro val sm fe frs
    rw [if_pos y10, p2] at k2
    simp only [Lt2] at k2
    rcases b01 with rfl | rfl
    · rw [if_pos (by trivial)] at k2
      rw [(Prod.mk.inj k1).1, (Prod.mk.inj k2).1]
    · rw [if_neg (by decide)] at k2
      rw [(Prod.mk.inj k1).1, (Prod.mk.inj k2).1]
  rw [if_neg y10] at k1 k2
  rw [(Prod.mk.inj k1).1, (Prod.mk.inj k2).1]
/-! discord, sounds -/
theorem rel_discord {n lt nf fi br lw bro thr : Int32} {val sm : Int64} {f1 f2 f3 fw fs cw : Nat → Int32} {fe frs : Nat → Int64} {fl : Nat → Option Nat} {G : Nat → LC} {r1 br' r2 lw' bro' : Int32} {val' sm' : Int64} {fs' cw' : Nat → Int32} {fe' frs' : Nat → Int64} (k1 : (r1, br', fs', cw') = E_w_discord G br fs cw n lt nf fi f1 f2 f3 fl) (k2 : (r2, lw', bro', val', sm', fe', frs') = E_v_discord thr lw bro val sm fw fe frs) (h : TW n lt nf fi f1 f2 fl G fw) : r1 = r2 := by
  obtain ⟨v, b2, fs2, cw2, lw2, bro2, val2, sm2, fe2, frs2, v1, v2, v3⟩ := disc_at (f3 := f3) h br fi fs cw lw bro val sm fe frs
  rw [E_w_discord.eq_def, v2] at k1
  rw [E_v_discord.eq_def, v3] at k2
  simp only [Lt2] at k1 k2
  rw [(Prod.mk.inj k1).1, (Prod.mk.inj k2).1]
theorem or_128 : ∀ s, s < 128 → ∀ p, p < 7 → nI s ||| 1 <<< (nI p &&& 31) = nI (s ||| 2 ^ p) ∧ s ||| 2 ^ p < 128 := by decide +kernel
theorem or_in {s p : Nat} (hs : s < 128) (hp : p < 7) : ∃ q, q < 128 ∧ nI s ||| 1 <<< (nI p &&& 31) = nI q := ⟨_, (or_128 s hs p hp).2, (or_128 s hs p hp).1⟩
theorem TW.nrng {n lt nf fi : Int32} {f1 f2 fw : Nat → Int32} {fl : Nat → Option Nat} {G : Nat → LC} (h : TW n lt nf fi f1 f2 fl G fw) : ∃ s, s < 128 ∧ E_v_soundingNotes fw = nI s := by
  obtain ⟨N, n8, e1, e2, _⟩ := h.nN
  have go : ∀ d a F s, a + d = N → s < 128 → ∃ q, q < 128 ∧ Lp (α := Int32 → Int32 → (Int32)) (E_v_soundingNotes_l4 fw) (fun _ _ => ((0) : Int32)) (F + d + 1) (nI a) (nI s) = nI q := by
    intro d
    induction d with
    | zero =>
      intro a F s ha hs
      have : a = N := by omega
      subst this
      refine ⟨s, hs, ?_⟩
      rw [Lp_s, E_v_soundingNotes_l4.eq_def, Lt_b, show fw (0 : Int32).toNatClampNeg = nI a from e2, if_pos ((kn_le (by omega) (by omega)).mpr (Nat.le_refl _))]
    | succ d ih =>
      intro a F s ha hs
      have a8 : a < 8 := by omega
      have c1 : ¬ nI N ≤ nI a := fun q => by have := (kn_le (by omega) (by omega)).mp q; omega
      rw [show F + (d + 1) + 1 = F + d + 1 + 1 by omega, Lp_s, E_v_soundingNotes_l4.eq_def, Lt_b, show fw (0 : Int32).toNatClampNeg = nI N from e2, if_neg c1, Lt_b]
      by_cases c : E_v_isSounding (nI a) fw = 0
      · rw [if_pos c, Lt_b, Lt_b, kn_po (by omega)]
        rw [show nI s ||| 0 = nI s from Int32.or_zero]
        exact ih (a + 1) F s (by omega) hs
      · have n1 := (h.2.2.2.2.1 a a8).1
        obtain ⟨p, hp, p7⟩ : ∃ p : Nat, fw (35 + a) = nI p ∧ p < 7 := ⟨(fw (35 + a)).toInt.toNat, i_ofN rfl n1.1, by omega⟩
        obtain ⟨q, q1, q2⟩ := or_in hs p7
        rw [if_neg c, n_ladd (m := 35) rfl (by omega), Lt_b, Lt_b, Lt_b, Lt_b, Lt_b, kn_po (by omega), kn_cl (by omega), hp, q2]
        exact ih (a + 1) F q (by omega) q1
  obtain ⟨q, q1, q2⟩ := go N 0 (9 - N) 0 (by omega) (by omega)
  refine ⟨q, q1, ?_⟩
  rw [E_v_soundingNotes.eq_def, show ((9 - (0 : Int32).toInt : Int).toNat + 1) = 9 - N + N + 1 by rw [show (0 : Int32).toInt = 0 from rfl]; omega]
  exact q2
noncomputable def thr_ (n : Nat) : Int32 := 1 <<< (nI n &&& 31) ||| 1 <<< ((nI n + 2 - (nI n + 2) / 7 * 7) &&& 31) ||| 1 <<< ((nI n + 4 - (nI n + 4) / 7 * 7) &&& 31)
theorem thr_128 : (List.range 128).all (fun s => (List.range 7).all (fun p => decide ((nI s &&& thr_ p = thr_ p) ↔ (¬ E_v_is (nI s) (nI p) = 0 ∧ ¬ E_v_is (nI s) (nI p + 2 - (nI p + 2) / 7 * 7) = 0 ∧ ¬ E_v_is (nI s) (nI p + 4 - (nI p + 4) / 7 * 7) = 0)))) = true := by decide +kernel
theorem thirds_at {s : Nat} (hs : s < 128) {x : Int32} {fw : Nat → Int32} (hx : x = 1) (z z2 : Int32 → Int32 → Int32) : ∀ d a F c, a + d = 7 → Lp (α := Int32 → Int32 → (Int32)) (E_w_thirdsNow_l9 (nI s)) z (F + d + 1) (nI a) c = Lp (α := Int32 → Int32 → (Int32)) (E_v_sounds_l29 x fw (nI s)) z2 (F + d + 1) (nI a) c := by
  intro d
  induction d with
  | zero =>
    intro a F c ha
    have : a = 7 := by omega
    subst this
    rw [Lp_s, Lp_s, E_w_thirdsNow_l9.eq_def, E_v_sounds_l29.eq_def, if_pos (show (7 : Int32) ≤ nI 7 by decide), if_pos (show (7 : Int32) ≤ nI 7 by decide), hx, if_neg (by decide), if_pos rfl]
  | succ d ih =>
    intro a F c ha
    have a7 : a < 7 := by omega
    have t := of_decide_eq_true (all_rng (all_rng thr_128 hs) a7)
    have c1 : ¬ (7 : Int32) ≤ nI a := kn_nlel (j := 7) rfl (by omega) a7
    have st1 : Lp (α := Int32 → Int32 → (Int32)) (E_w_thirdsNow_l9 (nI s)) z (F + d + 1 + 1) (nI a) c = Lp (α := Int32 → Int32 → (Int32)) (E_w_thirdsNow_l9 (nI s)) z (F + d + 1) (nI (a + 1)) (if nI s &&& thr_ a = thr_ a then c + 1 else c + 0) := by
      rw [Lp_s, E_w_thirdsNow_l9.eq_def, if_neg c1, Lt_b, Lt_b, Lt_b, Lt_b, Lt_b, Lt_b, Lt_b, Lt_b, Lt_b, Lt_b]
      show (if nI s &&& thr_ a = thr_ a then _ else _) = _
      by_cases e : nI s &&& thr_ a = thr_ a
      · rw [if_pos e, if_pos e, Lt_b, Lt_b, kn_po (by omega)]
      · rw [if_neg e, if_neg e, Lt_b, Lt_b, kn_po (by omega)]
    have st2 : Lp (α := Int32 → Int32 → (Int32)) (E_v_sounds_l29 x fw (nI s)) z2 (F + d + 1 + 1) (nI a) c = Lp (α := Int32 → Int32 → (Int32)) (E_v_sounds_l29 x fw (nI s)) z2 (F + d + 1) (nI (a + 1)) (if nI s &&& thr_ a = thr_ a then c + 1 else c + 0) := by
      rw [Lp_s, E_v_sounds_l29.eq_def, if_neg c1, Lt_b]
      by_cases u1 : E_v_is (nI s) (nI a) = 0
      · rw [if_pos u1, if_neg (fun q => (t.mp q).1 u1), Lt_b, Lt_b, kn_po (by omega)]
      rw [if_neg u1, Lt_b, Lt_b, Lt_b]
      by_cases u2 : E_v_is (nI s) (nI a + 2 - (nI a + 2) / 7 * 7) = 0
      · rw [if_pos u2, if_neg (fun q => (t.mp q).2.1 u2), Lt_b, Lt_b, kn_po (by omega)]
      rw [if_neg u2, Lt_b, Lt_b, Lt_b]
      by_cases u3 : E_v_is (nI s) (nI a + 4 - (nI a + 4) / 7 * 7) = 0
      · rw [if_pos u3, if_neg (fun q => (t.mp q).2.2 u3), Lt_b, Lt_b, kn_po (by omega)]
      rw [if_neg u3, if_pos (t.mpr ⟨u1, u2, u3⟩), Lt_b, Lt_b, kn_po (by omega)]
    rw [show F + (d + 1) + 1 = F + d + 1 + 1 by omega, st1, st2]
    exact ih (a + 1) F _ (by omega)
theorem sounds_end {x r : Int32} {fw : Nat → Int32} (z2 : Int32 → Int32 → Int32) : ∀ d a F c, a + d = 7 → ∃ c', Lp (α := Int32 → Int32 → (Int32)) (E_v_sounds_l29 x fw r) z2 (F + d + 1) (nI a) c = (if x = 0 then r else (if x = 1 then c' else (if E_v_isMet fw = 0 then 0 else 1))) := by
  intro d
  induction d with
  | zero =>
    intro a F c ha
    have : a = 7 := by omega
    subst this
    refine ⟨c, ?_⟩
    rw [Lp_s, E_v_sounds_l29.eq_def, if_pos (show (7 : Int32) ≤ nI 7 by decide)]
    rfl
  | succ d ih =>
    intro a F c ha
    have c1 : ¬ (7 : Int32) ≤ nI a := kn_nlel (j := 7) rfl (by omega) (by omega)
    rw [show F + (d + 1) + 1 = F + d + 1 + 1 by omega, Lp_s, E_v_sounds_l29.eq_def, if_neg c1, Lt_b]
    by_cases u1 : E_v_is r (nI a) = 0
    · rw [if_pos u1, Lt_b, Lt_b, kn_po (by omega)]; exact ih _ _ _ (by omega)
    rw [if_neg u1, Lt_b, Lt_b, Lt_b]
    by_cases u2 : E_v_is r (nI a + 2 - (nI a + 2) / 7 * 7) = 0
    · rw [if_pos u2, Lt_b, Lt_b, kn_po (by omega)]; exact ih _ _ _ (by omega)
    rw [if_neg u2, Lt_b, Lt_b, Lt_b]
    by_cases u3 : E_v_is r (nI a + 4 - (nI a + 4) / 7 * 7) = 0
    · rw [if_pos u3, Lt_b, Lt_b, kn_po (by omega)]; exact ih _ _ _ (by omega)
    rw [if_neg u3, Lt_b, Lt_b, kn_po (by omega)]; exact ih _ _ _ (by omega)
theorem rel_sounds {x n lt nf fi thr : Int32} {f1 f2 f3 fw : Nat → Int32} {fl : Nat → Option Nat} {G : Nat → LC} {r1 r2 : Int32} (k1 : r1 = E_w_sounds x n lt nf fi f1 f2 f3) (k2 : r2 = E_v_sounds x thr fw) (h : TW n lt nf fi f1 f2 fl G fw) (h3 : ∀ j, j < 24 → f3 j = fw (67 + j)) : r1 = r2 := by
  have z0 : (0 : Int64).toInt = 0 := rfl
  have z2 : (2 : Int64).toInt = 2 := rfl
  have e8 : ((8 - (0 : Int32).toInt : Int).toNat + 1) = 1 + 7 + 1 := by decide
  obtain ⟨s, s1, s2⟩ := h.nrng
  rw [E_w_sounds.eq_def, E_w_thirdsNow.eq_def, h.notes, h.met h3, e8, s2] at k1
  rw [E_v_sounds.eq_def, Lt_b, Lt_b, e8, s2] at k2
  by_cases y0 : x.toInt = 0
  · have x0 : x = 0 := i_lit y0 rfl
    rw [if_pos y0, Lt_b] at k1
    rw [ifi_p (by omega), Lt_b] at k2
    obtain ⟨c', q⟩ := sounds_end (x := x) (r := nI s) (fw := fw) (fun _ _ => ((0) : Int32)) 7 0 1 0 (by omega)
    rw [k1, k2]
    refine Eq.symm (Eq.trans q ?_)
    rw [if_pos x0]
  rw [if_neg y0] at k1
  by_cases y1 : x.toInt = 1
  · rw [if_pos y1, Lt_b, Lt_b] at k1
    rw [ifi_p (by omega), Lt_b] at k2
    rw [k1, k2]
    exact thirds_at s1 (i_lit y1 rfl) _ _ 7 0 1 0 (by omega)
  rw [if_neg y1] at k1
  by_cases y2 : x.toInt = 2
  · rw [if_pos y2, Lt_b] at k1
    rw [ifi_p (by omega), Lt_b] at k2
    obtain ⟨c', q⟩ := sounds_end (x := x) (r := nI s) (fw := fw) (fun _ _ => ((0) : Int32)) 7 0 1 0 (by omega)
    rw [k1, k2]
    refine Eq.symm (Eq.trans q ?_)
    rw [if_neg (fun e => y0 (by rw [e]; rfl)), if_neg (fun e => y1 (by rw [e]; rfl))]
  rw [if_neg y2] at k1
  rw [ifi_n (by omega)] at k2
  rw [k1, k2]
