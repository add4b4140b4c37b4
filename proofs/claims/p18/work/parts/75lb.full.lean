theorem flare_at {x lt F : Int32} {k : Nat} {fl : Nat → Option Nat} {G : Nat → LC} {fw : Nat → Int32} (hA : KAsk x lt fl G fw k (-1)) (hF : F.toInt = RV x 1 k (-1) 4 fw) (lw bro : Int32) (val sm : Int64) (fe frs : Nat → Int64) : ∃ (lw' bro' : Int32) (val' sm' : Int64) (fe' frs' : Nat → Int64), E_v_flare x (nI k) lw bro val sm fw fe frs = (lw', bro', val', sm', upd fw (11 + k) (E_v_within_20 (fw (11 + k) + F).toInt64), fe', frs') := by
  have k8 := hA.2.1
  obtain ⟨lw', bro', val', sm', fe', frs', e⟩ := flaresOf_at hA hF lw bro val sm fe frs
  refine ⟨lw', bro', val', sm', fe', frs', ?_⟩
  rw [E_v_flare.eq_def, e, n_ladd (m := 11) rfl (by omega), Lt_b, Lt_b, Lt_b, Lt2_b, Lt2_b, Lt2_b, Lt2_b, Lt2_b, Lt2_b, Lt_b, Lt_b, Lt_b, Lt_b, kn_cl (by omega)]
theorem canStoke_n {lt X : Int32} {k : Nat} {fl : Nat → Option Nat} {G : Nat → LC} {fw : Nat → Int32} (hA : KAsk (fw 3) lt fl G fw k (-1)) (hX : X.toInt = RV (fw 3) 3 k (-1) 0 fw) (lw bro : Int32) (val sm : Int64) (fe frs : Nat → Int64) (c : fw (19 + k) < 1 ∨ X = 1) : ∃ (lw' bro' : Int32) (val' sm' : Int64) (fe' frs' : Nat → Int64), E_v_canStoke (nI k) lw bro val sm fw fe frs = (0, lw', bro', val', sm', fe', frs') := by
  have k8 := hA.2.1
  obtain ⟨lw', bro', val', sm', fe', frs', e⟩ := isBarred_at hA hX lw bro val sm fe frs
  rw [E_v_canStoke.eq_def, e, n_ladd (m := 19) rfl (by omega), Lt_b, Lt_b, kn_cl (by omega)]
  by_cases d : fw (19 + k) ≤ 0
  · rw [if_pos d, E_v_canStoke_j24.eq_def]
    exact ⟨_, _, _, _, _, _, rfl⟩
  · have z0 : (0 : Int32).toInt = 0 := rfl
    have z1 : (1 : Int32).toInt = 1 := rfl
    have d1 : ¬ (fw (19 + k)).toInt ≤ (0 : Int32).toInt := fun q => d (ie_iff.mpr q)
    have cx : X = 1 := by
      rcases c with c | c
      · have := il_iff.mp c; omega
      · exact c
    rw [if_neg d, Lt2_b, Lt2_b, Lt2_b, Lt2_b, Lt2_b, Lt2_b]
    dsimp only
    rw [if_neg (show ¬ X = 0 by rw [cx]; decide), E_v_canStoke_j24.eq_def]
    exact ⟨_, _, _, _, _, _, rfl⟩
theorem canStoke_p {lt X : Int32} {k : Nat} {fl : Nat → Option Nat} {G : Nat → LC} {fw : Nat → Int32} (hA : KAsk (fw 3) lt fl G fw k (-1)) (hX : X.toInt = RV (fw 3) 3 k (-1) 0 fw) (lw bro : Int32) (val sm : Int64) (fe frs : Nat → Int64) (c : ¬ fw (19 + k) < 1) (d : ¬ X = 1) : ∃ (lw' bro' : Int32) (val' sm' : Int64) (fe' frs' : Nat → Int64), E_v_canStoke (nI k) lw bro val sm fw fe frs = (1, lw', bro', val', sm', fe', frs') := by
  have k8 := hA.2.1
  have z0 : (0 : Int32).toInt = 0 := rfl
  have z1 : (1 : Int32).toInt = 1 := rfl
  have m1 : (aF 3 3).toInt = 1 := by decide
  have c1 : ¬ (fw (19 + k)).toInt < (1 : Int32).toInt := fun q => c (il_iff.mpr q)
  have rX := kz_rng (g := (E_v_tells (fw 3) (nI 3) (nI k) (-1) 0 0 0 0 0 fw (fun _ => 0) (fun _ => 0)).1.toInt) (M := (aF 3 3).toInt) (by decide)
  have x0 : X = 0 := by
    have d1 : X.toInt ≠ 1 := fun q => d (i_lit q z1)
    refine i_lit (x := 0) ?_ z0
    unfold RV at hX; omega
  obtain ⟨lw', bro', val', sm', fe', frs', e⟩ := isBarred_at hA hX lw bro val sm fe frs
  rw [E_v_canStoke.eq_def, e, n_ladd (m := 19) rfl (by omega), Lt_b, Lt_b, kn_cl (by omega), if_neg (fun q => by have := ie_iff.mp q; omega), Lt2_b, Lt2_b, Lt2_b, Lt2_b, Lt2_b, Lt2_b, if_pos x0]
  exact ⟨_, _, _, _, _, _, rfl⟩
theorem stokeIt_at {lt F : Int32} {k : Nat} {fl : Nat → Option Nat} {G : Nat → LC} {fw : Nat → Int32} (hA : KAsk (fw 3) lt fl G fw k (-1)) (hF : F.toInt = RV (fw 3) 1 k (-1) 4 fw) (lw bro : Int32) (val sm : Int64) (fe frs : Nat → Int64) : ∃ (lw' bro' : Int32) (val' sm' : Int64) (fe' frs' : Nat → Int64), E_v_stokeIt (nI k) lw bro val sm fw fe frs = (lw', bro', val', sm', upd (upd fw (11 + k) (E_v_within_20 (fw (11 + k) + F).toInt64)) (19 + k) (fw (19 + k) - 1), fe', frs') := by
  have k8 := hA.2.1
  obtain ⟨lw', bro', val', sm', fe', frs', e⟩ := flare_at hA hF lw bro val sm fe frs
  refine ⟨lw', bro', val', sm', fe', frs', ?_⟩
  rw [E_v_stokeIt.eq_def, Lt_b, show fw (3 : Int32).toNatClampNeg = fw 3 from rfl, e, Lt2_b, Lt2_b, Lt2_b, Lt2_b, Lt2_b, Lt2_b, n_ladd (m := 19) rfl (by omega), Lt_b, Lt_b, Lt_b, Lt_b, kn_cl (by omega)]
  dsimp only
  rw [upd_n (show ¬ 19 + k = 11 + k by omega)]
theorem TW.stoked {n lt nf fi F : Int32} {f1 f2 fw : Nat → Int32} {fl : Nat → Option Nat} {G : Nat → LC} (h : TW n lt nf fi f1 f2 fl G fw) {k : Nat} (hk : (k : Int) < n.toInt) (c : ¬ fw (19 + k) < 1) : TW n lt nf fi (upd (upd f1 (16 + k) (fw (19 + k) - 1)) (40 + k) (E_v_within_20 (fw (11 + k) + F).toInt64)) f2 fl G (upd (upd fw (11 + k) (E_v_within_20 (fw (11 + k) + F).toInt64)) (19 + k) (fw (19 + k) - 1)) := by
  obtain ⟨k8, hh⟩ := h.has hk
  have r := h.1.2.2.2.2.2.2.2.2.2.2.2 k k8
  have z1 : (1 : Int32).toInt = 1 := rfl
  have c1 : ¬ (fw (19 + k)).toInt < (1 : Int32).toInt := fun q => c (il_iff.mpr q)
  have s := i_sub (Eq.refl (fw (19 + k)).toInt) z1 (by omega)
  have v := kz_rng (g := ((fw (11 + k) + F).toInt64).toInt) (M := 20) (by decide)
  rw [← wi20] at v
  generalize E_v_within_20 (fw (11 + k) + F).toInt64 = V at v ⊢
  refine h.step (h.1.one k8 hk (fun j h1 h2 h3 => by rw [upd_n h2, upd_n h1]) (fun j h1 h2 h3 => by rw [upd_n h2, upd_n h1]) ⟨?_, ?_, ?_⟩ ⟨?_, ?_, ?_⟩) (fun j hj => by rw [upd_n (by omega), upd_n (by omega)]) (fun j hj => by rw [upd_n (by omega), upd_n (by omega)])
  · rw [upd_n (by omega), upd_s, upd_s]
  · rw [upd_s, upd_n (by omega), upd_s]
  · rw [upd_n (by omega), upd_n (by omega), upd_n (by omega), upd_n (by omega)]; exact (h.1.2.2.1 k k8).2.2
  · rw [upd_n (by omega), upd_s]; exact v
  · rw [upd_s, s]; omega
  · rw [upd_n (by omega), upd_n (by omega)]; exact r.2.2
theorem act_stoke {x n lt nf fi nu br lw bro : Int32} {val sm : Int64} {f1 f2 f3 fw fs cw fu fsr : Nat → Int32} {fe frs : Nat → Int64} {fl : Nat → Option Nat} {G : Nat → LC} (h : TW n lt nf fi f1 f2 fl G fw) {r br' r2 nu' lw' bro' : Int32} {val' sm' : Int64} {fs' cw' f1' fw' fu' fsr' : Nat → Int32} {fe' frs' : Nat → Int64} (k1 : (r, br', fs', cw', f1') = E_w_kindle G x br fs cw n lt nf fi f1 f2 f3 fl) (k2 : (r2, nu', lw', bro', val', sm', fw', fe', frs', fu', fsr') = E_v_stokeNow x nu lw bro val sm fw fe frs fu fsr) : ActR r r2 0 n lt nf fi fi f1 f2 f1' f2 fl G fw fw' nu nu' fu fsr fu' fsr' := by
  have hn := h.2.2.2.2.2.2.1
  rw [E_v_stokeNow.eq_def, Lt_b, isHouse_at hn] at k2
  by_cases c : 0 ≤ x.toInt ∧ x.toInt < n.toInt
  case neg =>
    rw [has_n c, if_neg (by decide)] at k2
    rw [E_w_kindle.eq_def, Lt_b, has_n c, if_neg (by decide)] at k1
    simp only [Prod.mk.injEq] at k1 k2
    obtain ⟨rfl, rfl, rfl, rfl, rfl⟩ := k1
    obtain ⟨rfl, rfl, rfl, rfl, rfl, rfl, rfl, rfl, rfl, rfl, rfl⟩ := k2
    exact ⟨rfl, Or.inl ⟨by decide, rfl, rfl, rfl, rfl, rfl, rfl, rfl⟩⟩
  obtain ⟨k, hk, hz⟩ : ∃ k : Nat, x = nI k ∧ (k : Int) = x.toInt := ⟨x.toInt.toNat, i_ofN rfl c.1, by omega⟩
  subst hk
  have hkn : (k : Int) < n.toInt := by omega
  obtain ⟨k8, hh⟩ := h.has hkn
  rw [hh, if_pos rfl] at k2
  have e3 : nf = fw 3 := h.2.2.1
  obtain ⟨X, hX, _⟩ := RV_ex (w := 3) (by omega) nf k (-1) 0 fw
  obtain ⟨F, hF, _⟩ := RV_ex (w := 1) (by omega) nf k (-1) 4 fw
  obtain ⟨q1, q2⟩ := kindle_at h hkn hX hF br fs cw f3
  rw [e3] at hX hF
  by_cases d : fw (19 + k) < 1 ∨ X = 1
  · obtain ⟨b1, b2, b3, q⟩ := q1 d
    obtain ⟨a1, a2, a3, a4, a5, a6, p⟩ := canStoke_n (h.ask k8 m1_rng) hX lw bro val sm fe frs d
    rw [q] at k1
    rw [p, Lt2_b, Lt2_b, Lt2_b, Lt2_b, Lt2_b, Lt2_b, if_pos rfl] at k2
    simp only [Prod.mk.injEq] at k1 k2
    obtain ⟨rfl, rfl, rfl, rfl, rfl⟩ := k1
    obtain ⟨rfl, rfl, rfl, rfl, rfl, rfl, rfl, rfl, rfl, rfl, rfl⟩ := k2
    exact ⟨rfl, Or.inl ⟨by decide, rfl, rfl, rfl, rfl, rfl, rfl, rfl⟩⟩
  · have d1 : ¬ fw (19 + k) < 1 := fun q => d (Or.inl q)
    have d2 : ¬ X = 1 := fun q => d (Or.inr q)
    obtain ⟨b1, b2, b3, q⟩ := q2 d1 d2
    obtain ⟨a1, a2, a3, a4, a5, a6, p⟩ := canStoke_p (h.ask k8 m1_rng) hX lw bro val sm fe frs d1 d2
    obtain ⟨g1, g2, g3, g4, g5, g6, p2⟩ := stokeIt_at (h.ask k8 m1_rng) hF a1 a2 a3 a4 a5 a6
    have v := kz_rng (g := ((fw (11 + k) + F).toInt64).toInt) (M := 20) (by decide)
    rw [← wi20] at v
    have ts := h.stoked (F := F) hkn d1
    rw [q] at k1
    rw [p, Lt2_b, Lt2_b, Lt2_b, Lt2_b, Lt2_b, Lt2_b] at k2
    dsimp only at k2
    rw [if_neg (show ¬ (1 : Int32) = 0 by decide), p2] at k2
    generalize E_v_within_20 (fw (11 + k) + F).toInt64 = V at k1 k2 v ts ⊢
    rw [Lt2_b, Lt2_b, Lt2_b, Lt2_b, Lt2_b, Lt2_b, Lt2_b, Lt2_b, n_ladd (m := 11) rfl (by omega), Lt_b, Lt_b, kn_cl (by omega)] at k2
    dsimp only at k2
    rw [upd_n (show ¬ 11 + k = 19 + k by omega), upd_s] at k2
    simp only [Prod.mk.injEq] at k1 k2
    obtain ⟨rfl, rfl, rfl, rfl, rfl⟩ := k1
    obtain ⟨rfl, rfl, rfl, rfl, rfl, rfl, rfl, rfl, rfl, rfl, rfl⟩ := k2
    exact ⟨rfl, Or.inr ⟨v.1, ts, rfl, fun j hj => by rw [upd_n (by omega), upd_n (by omega)]⟩⟩
