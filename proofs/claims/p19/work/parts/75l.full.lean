/-! refusals, on both sides -/
noncomputable def RfR (rb sta : Int32) (frf frm : Nat → Int32) : Prop := rb = sta ∧ frf 0 = frm 1 ∧ frf 1 = frm 2 ∧ frf 2 = frm 3 ∧ frf 3 = frm 5 ∧ frf 4 = frm 6
theorem refuse_s {x rb : Int32} {f : Nat → Int32} {a b : Nat} (hx : (x = -1 ∧ a = 0 ∧ b = 1) ∨ (x = -2 ∧ a = 1 ∧ b = 2) ∨ (x = -3 ∧ a = 2 ∧ b = 3)) : E_w_refuse x rb f = (x, upd f a (f a + 1)) := by
  rcases hx with ⟨rfl, rfl, rfl⟩ | ⟨rfl, rfl, rfl⟩ | ⟨rfl, rfl, rfl⟩
  · rw [E_w_refuse.eq_def, if_neg (by decide), Lt_b, Lt_b, Lt_b, if_pos (by decide)]; rfl
  · rw [E_w_refuse.eq_def, if_neg (by decide), Lt_b, Lt_b, Lt_b, if_pos (by decide)]; rfl
  · rw [E_w_refuse.eq_def, if_neg (by decide), Lt_b, Lt_b, Lt_b, if_pos (by decide)]; rfl
theorem refuse_b {x rb : Int32} {f : Nat → Int32} {a b : Nat} (hx : (x = -5 ∧ a = 3 ∧ b = 5) ∨ (x = -6 ∧ a = 4 ∧ b = 6)) : E_w_refuse x rb f = (x, upd f a (f a + 1)) := by
  rcases hx with ⟨rfl, rfl, rfl⟩ | ⟨rfl, rfl, rfl⟩
  · rw [E_w_refuse.eq_def, if_pos (by decide), Lt_b, Lt_b, Lt_b, if_pos (by decide)]; rfl
  · rw [E_w_refuse.eq_def, if_pos (by decide), Lt_b, Lt_b, Lt_b, if_pos (by decide)]; rfl
theorem tell_s {x sta : Int32} {f : Nat → Int32} {b : Nat} (hx : (x = -1 ∧ b = 1) ∨ (x = -2 ∧ b = 2) ∨ (x = -3 ∧ b = 3) ∨ (x = -5 ∧ b = 5) ∨ (x = -6 ∧ b = 6)) : E_v_tell x sta f = (x, x, upd f b (f b + 1)) := by
  rcases hx with ⟨rfl, rfl⟩ | ⟨rfl, rfl⟩ | ⟨rfl, rfl⟩ | ⟨rfl, rfl⟩ | ⟨rfl, rfl⟩ <;> (rw [E_v_tell.eq_def, if_neg (by decide), if_neg (by decide), Lt_b, Lt_b, Lt_b, Lt_b, E_v_tell_j28.eq_def]; rfl)
theorem tell_p {x sta : Int32} {f : Nat → Int32} (hx : 0 ≤ x.toInt) : E_v_tell x sta f = (x, 0, f) := by
  have q : (0 : Int32) ≤ x := ie_iff.mpr hx
  rw [E_v_tell.eq_def, if_pos q, if_pos q, E_v_tell_j28.eq_def]
theorem RfR.no {rb sta : Int32} {frf frm : Nat → Int32} (h : RfR rb sta frf frm) {x : Int32} (hx : x = -1 ∨ x = -2 ∨ x = -3 ∨ x = -5 ∨ x = -6) : (E_w_refuse x rb frf).1 = x ∧ (E_v_tell x sta frm).1 = x ∧ RfR x (E_v_tell x sta frm).2.1 (E_w_refuse x rb frf).2 (E_v_tell x sta frm).2.2 := by
  obtain ⟨h0, h1, h2, h3, h4, h5⟩ := h
  have go : ∀ {a b : Nat}, E_w_refuse x rb frf = (x, upd frf a (frf a + 1)) → E_v_tell x sta frm = (x, x, upd frm b (frm b + 1)) → ((a = 0 ∧ b = 1) ∨ (a = 1 ∧ b = 2) ∨ (a = 2 ∧ b = 3) ∨ (a = 3 ∧ b = 5) ∨ (a = 4 ∧ b = 6)) → (E_w_refuse x rb frf).1 = x ∧ (E_v_tell x sta frm).1 = x ∧ RfR x (E_v_tell x sta frm).2.1 (E_w_refuse x rb frf).2 (E_v_tell x sta frm).2.2 := by
    intro a b e1 e2 e3
    rw [e1, e2]
    refine ⟨rfl, rfl, rfl, ?_⟩
    dsimp only
    rcases e3 with ⟨rfl, rfl⟩ | ⟨rfl, rfl⟩ | ⟨rfl, rfl⟩ | ⟨rfl, rfl⟩ | ⟨rfl, rfl⟩
    · exact ⟨congrArg (· + 1) h1, h2, h3, h4, h5⟩
    · exact ⟨h1, congrArg (· + 1) h2, h3, h4, h5⟩
    · exact ⟨h1, h2, congrArg (· + 1) h3, h4, h5⟩
    · exact ⟨h1, h2, h3, congrArg (· + 1) h4, h5⟩
    · exact ⟨h1, h2, h3, h4, congrArg (· + 1) h5⟩
  rcases hx with rfl | rfl | rfl | rfl | rfl
  · exact go (refuse_s (a := 0) (b := 1) (by decide)) (tell_s (b := 1) (by decide)) (by decide)
  · exact go (refuse_s (a := 1) (b := 2) (by decide)) (tell_s (b := 2) (by decide)) (by decide)
  · exact go (refuse_s (a := 2) (b := 3) (by decide)) (tell_s (b := 3) (by decide)) (by decide)
  · exact go (refuse_b (a := 3) (b := 5) (by decide)) (tell_s (b := 5) (by decide)) (by decide)
  · exact go (refuse_b (a := 4) (b := 6) (by decide)) (tell_s (b := 6) (by decide)) (by decide)
theorem RfR.ok {rb sta : Int32} {frf frm : Nat → Int32} (h : RfR rb sta frf frm) : RfR 0 0 frf frm := ⟨rfl, h.2⟩
/-! one act, on both sides -/
noncomputable def ActR (r r2 : Int32) (s : Nat) (n lt nf fi fi' : Int32) (f1 f2 f1' f2' : Nat → Int32) (fl : Nat → Option Nat) (G : Nat → LC) (fw fw' : Nat → Int32) (nu nu' : Int32) (fu fs fu' fs' : Nat → Int32) : Prop :=
  r = r2 ∧ (((r = -1 ∨ r = -2 ∨ r = -3) ∧ fi' = fi ∧ f1' = f1 ∧ f2' = f2 ∧ fw' = fw ∧ nu' = nu ∧ fu' = fu ∧ fs' = fs) ∨ (0 ≤ r.toInt ∧ TW n lt nf fi' f1' f2' fl G fw' ∧ (nu', fu', fs') = E_v_remember (nI s) nu fw fu fs ∧ ∀ j, j < 4 ∨ (6 ≤ j ∧ j < 10) ∨ 35 ≤ j → fw' j = fw j))
theorem ActR.settle {r r2 n lt nf fi fi' nu nu' dr kp rb sta : Int32} {s : Nat} {f1 f2 f1' f2' fw fw' fu fs fu' fs' sl frf frm : Nat → Int32} {fl : Nat → Option Nat} {G : Nat → LC} (a : ActR r r2 s n lt nf fi fi' f1 f2 f1' f2' fl G fw fw' nu nu' fu fs fu' fs') (hs : s < 4) (h : HR n dr kp nu sl fu fs fw) (t : TW n lt nf fi f1 f2 fl G fw) (q : RfR rb sta frf frm) {r1 rb' dr' kp' r3 sta' : Int32} {frf' sl' frm' : Nat → Int32} (k1 : (r1, rb', frf', dr', kp', sl') = E_w_settle (nI s) r rb frf dr kp (E_w_draft dr sl fi f1 f2)) (k2 : (r3, sta', frm') = E_v_tell r2 sta frm) : r1 = r3 ∧ RfR rb' sta' frf' frm' ∧ TW n lt nf fi' f1' f2' fl G fw' ∧ HR n dr' kp' nu' sl' fu' fs' fw' := by
  obtain ⟨e, a⟩ := a
  subst e
  rw [E_w_settle.eq_def] at k1
  rcases a with ⟨c, rfl, rfl, rfl, rfl, rfl, rfl, rfl⟩ | ⟨c, t', k3, k4⟩
  · have c1 : ¬ (0 : Int32) ≤ r := by rcases c with rfl | rfl | rfl <;> decide
    obtain ⟨g1, g2, g3⟩ := q.no (x := r) (by rcases c with rfl | rfl | rfl <;> decide)
    rw [if_neg c1, Lt2_b] at k1
    simp only [Prod.mk.injEq] at k1
    obtain ⟨rfl, rfl, rfl, rfl, rfl, rfl⟩ := k1
    rw [← k2] at g2 g3
    exact ⟨g1.trans g2.symm, g3, t, h.draft⟩
  · have c1 : (0 : Int32) ≤ r := ie_iff.mpr c
    rw [tell_p c] at k2
    rw [if_pos c1, Lt2_b, Lt2_b, Lt_b, E_w_accept.eq_def] at k1
    simp only [Prod.mk.injEq] at k1 k2
    obtain ⟨rfl, rfl, rfl, rfl, rfl, rfl⟩ := k1
    obtain ⟨rfl, rfl, rfl⟩ := k2
    exact ⟨rfl, q.ok, t', h.push t.1 hs rfl k3 (fun j h1 h2 => k4 j (by omega))⟩
/-! to stoke -/
theorem cap20 {a b : Int32} (ha : 0 ≤ a.toInt ∧ a.toInt ≤ 1000) (hb : 0 ≤ b.toInt ∧ b.toInt ≤ 1000) : (if a + b < 20 then a + b else 20) = E_v_within_20 (a + b).toInt64 := by
  have z : (20 : Int32).toInt = 20 := rfl
  have s := i_add (Eq.refl a.toInt) (Eq.refl b.toInt) (by omega)
  refine Int32.toInt_inj.mp ?_
  rw [wi20, wide_at, s]
  unfold kz_cl
  by_cases c : a + b < 20
  · have c1 := il_iff.mp c
    rw [if_pos c, if_neg (show ¬ a.toInt + b.toInt < 0 by omega), if_neg (show ¬ 20 < a.toInt + b.toInt by omega)]; exact s
  · have c1 : ¬ (a + b).toInt < (20 : Int32).toInt := fun q => c (il_iff.mpr q)
    rw [if_neg c, if_neg (show ¬ a.toInt + b.toInt < 0 by omega)]
    by_cases d : 20 < a.toInt + b.toInt
    · rw [if_pos d]; rfl
    · rw [if_neg d, z]; omega
theorem nIb {k : Nat} (hk : k < 8) : 0 ≤ (nI k).toInt ∧ (nI k).toInt < 8 := by rw [nI_toInt (by omega)]; omega
theorem nIt {k : Nat} (hk : k < 1000) : (nI k).toInt.toNat = k := by rw [nI_toInt (by omega)]; omega
theorem TW.coal {n lt nf fi : Int32} {f1 f2 fw : Nat → Int32} {fl : Nat → Option Nat} {G : Nat → LC} (h : TW n lt nf fi f1 f2 fl G fw) {k : Nat} (hk : k < 8) : E_w_fact (nI k) 2 f1 = fw (19 + k) := by
  rw [fact_at (k := 2) (nIb hk) rfl (by omega), nIt (by omega)]; exact (h.1.2.2.1 k hk).2.1
theorem TW.fire {n lt nf fi : Int32} {f1 f2 fw : Nat → Int32} {fl : Nat → Option Nat} {G : Nat → LC} (h : TW n lt nf fi f1 f2 fl G fw) {k : Nat} (hk : k < 8) : E_w_fact (nI k) 5 f1 = fw (11 + k) := by
  rw [fact_at (k := 5) (nIb hk) rfl (by omega), nIt (by omega)]; exact (h.1.2.2.1 k hk).1
theorem TW.warm {n lt nf fi : Int32} {f1 f2 fw : Nat → Int32} {fl : Nat → Option Nat} {G : Nat → LC} (h : TW n lt nf fi f1 f2 fl G fw) {k : Nat} (hk : k < 8) : E_w_fact (nI k) 6 f1 = fw (27 + k) := by
  rw [fact_at (k := 6) (nIb hk) rfl (by omega), nIt (by omega)]; exact (h.1.2.2.1 k hk).2.2
theorem TW.note {n lt nf fi : Int32} {f1 f2 fw : Nat → Int32} {fl : Nat → Option Nat} {G : Nat → LC} (h : TW n lt nf fi f1 f2 fl G fw) {k : Nat} (hk : k < 8) : E_w_fact (nI k) 0 f1 = fw (35 + k) := by
  rw [fact_at (k := 0) (nIb hk) rfl (by omega), nIt (by omega), Nat.mul_zero, Nat.zero_add]; exact h.2.2.2.2.2.2.2 k (by omega)
theorem TW.street {n lt nf fi : Int32} {f1 f2 fw : Nat → Int32} {fl : Nat → Option Nat} {G : Nat → LC} (h : TW n lt nf fi f1 f2 fl G fw) {k : Nat} (hk : k < 8) : E_w_fact (nI k) 1 f1 = fw (43 + k) := by
  rw [fact_at (k := 1) (nIb hk) rfl (by omega), nIt (by omega)]; exact (h.2.2.2.2.2.2.2 _ (by omega)).trans (congrArg fw (by omega))
theorem TW.has {n lt nf fi : Int32} {f1 f2 fw : Nat → Int32} {fl : Nat → Option Nat} {G : Nat → LC} (h : TW n lt nf fi f1 f2 fl G fw) {k : Nat} (hk : (k : Int) < n.toInt) : k < 8 ∧ E_w_has (nI k) n = 1 := by
  have q := h.2.2.2.2.2.2.1.2
  exact ⟨by omega, has_p (by rw [nI_toInt (by omega)]; omega)⟩
theorem TW.askn {n lt nf fi : Int32} {f1 f2 fw : Nat → Int32} {fl : Nat → Option Nat} {G : Nat → LC} (h : TW n lt nf fi f1 f2 fl G fw) {k : Nat} (hk : k < 8) {o : Int32} (ho : -1 ≤ o.toInt ∧ o.toInt ≤ 6) : KAsk nf lt fl G fw k o :=
  ⟨h.2.2.2.1, hk, h.2.2.2.2.2.1, h.bw hk ho⟩
theorem kindle_at {n lt nf fi X F : Int32} {f1 f2 fw : Nat → Int32} {fl : Nat → Option Nat} {G : Nat → LC} (h : TW n lt nf fi f1 f2 fl G fw) {k : Nat} (hk : (k : Int) < n.toInt) (hX : X.toInt = RV nf 3 k (-1) 0 fw) (hF : F.toInt = RV nf 1 k (-1) 4 fw) (br : Int32) (fs cw f3 : Nat → Int32) :
    ((fw (19 + k) < 1 ∨ X = 1) → ∃ br' fs' cw', E_w_kindle G (nI k) br fs cw n lt nf fi f1 f2 f3 fl = (-3, br', fs', cw', f1)) ∧ (¬ fw (19 + k) < 1 → ¬ X = 1 → ∃ br' fs' cw', E_w_kindle G (nI k) br fs cw n lt nf fi f1 f2 f3 fl = (E_v_within_20 (fw (11 + k) + F).toInt64, br', fs', cw', upd (upd f1 (16 + k) (fw (19 + k) - 1)) (40 + k) (E_v_within_20 (fw (11 + k) + F).toInt64))) := by
  obtain ⟨k8, hh⟩ := h.has hk
  have rf := (h.1.2.2.2.2.2.2.2.2.2.2.2 k k8).1
  have rF := kz_rng (g := (E_v_tells nf (nI 1) (nI k) (-1) 4 0 0 0 0 fw (fun _ => 0) (fun _ => 0)).1.toInt) (M := (aF 3 1).toInt) (by decide)
  have m20 : (aF 3 1).toInt = 20 := by decide
  have rF2 : 0 ≤ F.toInt ∧ F.toInt ≤ 20 := by
    rw [hF]; unfold RV; omega
  obtain ⟨res, e⟩ : ∃ res, res = E_w_kindle G (nI k) br fs cw n lt nf fi f1 f2 f3 fl := ⟨_, rfl⟩
  rw [← e]
  rw [E_w_kindle.eq_def, Lt_b, hh, if_pos rfl, Lt_b, Lt_b, Lt_b, h.coal k8, h.fire k8] at e
  have hw := h.words (cw := cw) k8
  generalize E_w_face (nI k) (fw (11 + k)) 0 cw f1 f2 = U at e hw
  by_cases c : fw (19 + k) < 1
  · rw [if_pos c, E_w_kindle_j59.eq_def] at e
    exact ⟨fun _ => ⟨_, _, _, e⟩, fun q => absurd c q⟩
  rw [if_neg c, Lt_b] at e
  obtain ⟨br1, fs1, e⟩ := ask_k (w := 3) (h.askn k8 m1_rng) (by omega) (show (0 : Int64).toInt = (aF 2 3).toInt from by decide) hw hX e (fun _ => rfl)
  by_cases cx : X = 1
  · rw [if_pos cx, E_w_kindle_j59.eq_def] at e
    exact ⟨fun _ => ⟨_, _, _, e⟩, fun _ q => absurd cx q⟩
  refine ⟨fun q => by rcases q with q | q <;> contradiction, fun _ _ => ?_⟩
  rw [if_neg cx, Lt_b] at e
  obtain ⟨br2, fs2, e⟩ := ask_k (w := 1) (h.askn k8 m1_rng) (by omega) (show (4 : Int64).toInt = (aF 2 1).toInt from by decide) hw hF e (fun _ => rfl)
  rw [Lt_b, Lt_b, Lt_b, Lt_b, Lt_b, cap20 (by omega) (by omega), put2_at (nIb k8), put5_at (nIb k8), nIt (by omega)] at e
  exact ⟨_, _, _, e⟩
theorem flare_at {x lt F : Int32} {k : Nat} {fl : Nat → Option Nat} {G : Nat → LC} {fw : Nat → Int32} (hA : KAsk x lt fl G fw k (-1)) (hF : F.toInt = RV x 1 k (-1) 4 fw) (lw bro : Int32) (val sm : Int64) (fe frs : Nat → Int64) : ∃ (lw' bro' : Int32) (val' sm' : Int64) (fe' frs' : Nat → Int64), E_v_flare x (nI k) lw bro val sm fw fe frs = (lw', bro', val', sm', upd fw (11 + k) (E_v_within_20 (fw (11 + k) + F).toInt64), fe', frs') := by
  have k8 := hA.2.1
  obtain ⟨lw', bro', val', sm', fe', frs', e⟩ := flaresOf_at hA hF lw bro val sm fe frs
  refine ⟨lw', bro', val', sm', fe', frs', ?_⟩
  rw [E_v_flare.eq_def, e, n_ladd (m := 11) rfl (by omega), Lt_b, Lt_b, Lt_b, Lt2_b, Lt2_b, Lt2_b, Lt2_b, Lt2_b, Lt2_b, Lt_b, Lt_b, Lt_b, Lt_b, kn_cl (by omega)]
theorem canStoke_n {lt X : Int32} {k : Nat} {fl : Nat → Option Nat} {G : Nat → LC} {fw : Nat → Int32} (hA : KAsk (fw 3) lt fl G fw k (-1)) (hX : X.toInt = RV (fw 3) 3 k (-1) 0 fw) (lw bro : Int32) (val sm : Int64) (fe frs : Nat → Int64) (c : fw (19 + k) < 1 ∨ X = 1) : ∃ (lw' bro' : Int32) (val' sm' : Int64) (fe' frs' : Nat → Int64), E_v_canStoke (nI k) lw bro val sm fw fe frs = (0, lw', bro', val', sm', fe', frs') := by
  have k8 := hA.2.1
  obtain ⟨lw', bro', val', sm', fe', frs', e⟩ := isBarred_at hA hX lw bro val sm fe frs
  rw [E_v_canStoke.eq_def, e, n_ladd (m := 19) rfl (by omega), Lt_b, Lt_b, kn_cl (by omega)]
  by_cases d : fw (19 + k) ≤ 0
  · rw [if_pos d, E_v_canStoke_j24.eq_def]
    exact ⟨_, _, _, _, _, _, rfl⟩
  · have z0 : (0 : Int32).toInt = 0 := rfl
    have z1 : (1 : Int32).toInt = 1 := rfl
    have d1 : ¬ (fw (19 + k)).toInt ≤ (0 : Int32).toInt := fun q => d (ie_iff.mpr q)
    have cx : X = 1 := by
      rcases c with c | c
      · have := il_iff.mp c; omega
      · exact c
    rw [if_neg d, Lt2_b, Lt2_b, Lt2_b, Lt2_b, Lt2_b, Lt2_b]
    dsimp only
    rw [if_neg (show ¬ X = 0 by rw [cx]; decide), E_v_canStoke_j24.eq_def]
    exact ⟨_, _, _, _, _, _, rfl⟩
theorem canStoke_p {lt X : Int32} {k : Nat} {fl : Nat → Option Nat} {G : Nat → LC} {fw : Nat → Int32} (hA : KAsk (fw 3) lt fl G fw k (-1)) (hX : X.toInt = RV (fw 3) 3 k (-1) 0 fw) (lw bro : Int32) (val sm : Int64) (fe frs : Nat → Int64) (c : ¬ fw (19 + k) < 1) (d : ¬ X = 1) : ∃ (lw' bro' : Int32) (val' sm' : Int64) (fe' frs' : Nat → Int64), E_v_canStoke (nI k) lw bro val sm fw fe frs = (1, lw', bro', val', sm', fe', frs') := by
  have k8 := hA.2.1
  have z0 : (0 : Int32).toInt = 0 := rfl
  have z1 : (1 : Int32).toInt = 1 := rfl
  have m1 : (aF 3 3).toInt = 1 := by decide
  have c1 : ¬ (fw (19 + k)).toInt < (1 : Int32).toInt := fun q => c (il_iff.mpr q)
  have rX := kz_rng (g := (E_v_tells (fw 3) (nI 3) (nI k) (-1) 0 0 0 0 0 fw (fun _ => 0) (fun _ => 0)).1.toInt) (M := (aF 3 3).toInt) (by decide)
  have x0 : X = 0 := by
    have d1 : X.toInt ≠ 1 := fun q => d (i_lit q z1)
    refine i_lit (x := 0) ?_ z0
    unfold RV at hX; omega
  obtain ⟨lw', bro', val', sm', fe', frs', e⟩ := isBarred_at hA hX lw bro val sm fe frs
  rw [E_v_canStoke.eq_def, e, n_ladd (m := 19) rfl (by omega), Lt_b, Lt_b, kn_cl (by omega), if_neg (fun q => by have := ie_iff.mp q; omega), Lt2_b, Lt2_b, Lt2_b, Lt2_b, Lt2_b, Lt2_b, if_pos x0]
  exact ⟨_, _, _, _, _, _, rfl⟩
theorem stokeIt_at {lt F : Int32} {k : Nat} {fl : Nat → Option Nat} {G : Nat → LC} {fw : Nat → Int32} (hA : KAsk (fw 3) lt fl G fw k (-1)) (hF : F.toInt = RV (fw 3) 1 k (-1) 4 fw) (lw bro : Int32) (val sm : Int64) (fe frs : Nat → Int64) : ∃ (lw' bro' : Int32) (val' sm' : Int64) (fe' frs' : Nat → Int64), E_v_stokeIt (nI k) lw bro val sm fw fe frs = (lw', bro', val', sm', upd (upd fw (11 + k) (E_v_within_20 (fw (11 + k) + F).toInt64)) (19 + k) (fw (19 + k) - 1), fe', frs') := by
  have k8 := hA.2.1
  obtain ⟨lw', bro', val', sm', fe', frs', e⟩ := flare_at hA hF lw bro val sm fe frs
  refine ⟨lw', bro', val', sm', fe', frs', ?_⟩
  rw [E_v_stokeIt.eq_def, Lt_b, show fw (3 : Int32).toNatClampNeg = fw 3 from rfl, e, Lt2_b, Lt2_b, Lt2_b, Lt2_b, Lt2_b, Lt2_b, n_ladd (m := 19) rfl (by omega), Lt_b, Lt_b, Lt_b, Lt_b, kn_cl (by omega)]
  dsimp only
  rw [upd_n (show ¬ 19 + k = 11 + k by omega)]
theorem TW.stoked {n lt nf fi F : Int32} {f1 f2 fw : Nat → Int32} {fl : Nat → Option Nat} {G : Nat → LC} (h : TW n lt nf fi f1 f2 fl G fw) {k : Nat} (hk : (k : Int) < n.toInt) (c : ¬ fw (19 + k) < 1) : TW n lt nf fi (upd (upd f1 (16 + k) (fw (19 + k) - 1)) (40 + k) (E_v_within_20 (fw (11 + k) + F).toInt64)) f2 fl G (upd (upd fw (11 + k) (E_v_within_20 (fw (11 + k) + F).toInt64)) (19 + k) (fw (19 + k) - 1)) := by
  obtain ⟨k8, hh⟩ := h.has hk
  have r := h.1.2.2.2.2.2.2.2.2.2.2.2 k k8
  have z1 : (1 : Int32).toInt = 1 := rfl
  have c1 : ¬ (fw (19 + k)).toInt < (1 : Int32).toInt := fun q => c (il_iff.mpr q)
  have s := i_sub (Eq.refl (fw (19 + k)).toInt) z1 (by omega)
  have v := kz_rng (g := ((fw (11 + k) + F).toInt64).toInt) (M := 20) (by decide)
  rw [← wi20] at v
  generalize E_v_within_20 (fw (11 + k) + F).toInt64 = V at v ⊢
  refine h.step (h.1.one k8 hk (fun j h1 h2 h3 => by rw [upd_n h2, upd_n h1]) (fun j h1 h2 h3 => by rw [upd_n h2, upd_n h1]) ⟨?_, ?_, ?_⟩ ⟨?_, ?_, ?_⟩) (fun j hj => by rw [upd_n (by omega), upd_n (by omega)]) (fun j hj => by rw [upd_n (by omega), upd_n (by omega)])
  · rw [upd_n (by omega), upd_s, upd_s]
  · rw [upd_s, upd_n (by omega), upd_s]
  · rw [upd_n (by omega), upd_n (by omega), upd_n (by omega), upd_n (by omega)]; exact (h.1.2.2.1 k k8).2.2
  · rw [upd_n (by omega), upd_s]; exact v
  · rw [upd_s, s]; omega
  · rw [upd_n (by omega), upd_n (by omega)]; exact r.2.2
theorem act_stoke {x n lt nf fi nu br lw bro : Int32} {val sm : Int64} {f1 f2 f3 fw fs cw fu fsr : Nat → Int32} {fe frs : Nat → Int64} {fl : Nat → Option Nat} {G : Nat → LC} (h : TW n lt nf fi f1 f2 fl G fw) {r br' r2 nu' lw' bro' : Int32} {val' sm' : Int64} {fs' cw' f1' fw' fu' fsr' : Nat → Int32} {fe' frs' : Nat → Int64} (k1 : (r, br', fs', cw', f1') = E_w_kindle G x br fs cw n lt nf fi f1 f2 f3 fl) (k2 : (r2, nu', lw', bro', val', sm', fw', fe', frs', fu', fsr') = E_v_stokeNow x nu lw bro val sm fw fe frs fu fsr) : ActR r r2 0 n lt nf fi fi f1 f2 f1' f2 fl G fw fw' nu nu' fu fsr fu' fsr' := by
  have hn := h.2.2.2.2.2.2.1
  rw [E_v_stokeNow.eq_def, Lt_b, isHouse_at hn] at k2
  by_cases c : 0 ≤ x.toInt ∧ x.toInt < n.toInt
  case neg =>
    rw [has_n c, if_neg (by decide)] at k2
    rw [E_w_kindle.eq_def, Lt_b, has_n c, if_neg (by decide)] at k1
    simp only [Prod.mk.injEq] at k1 k2
    obtain ⟨rfl, rfl, rfl, rfl, rfl⟩ := k1
    obtain ⟨rfl, rfl, rfl, rfl, rfl, rfl, rfl, rfl, rfl, rfl, rfl⟩ := k2
    exact ⟨rfl, Or.inl ⟨by decide, rfl, rfl, rfl, rfl, rfl, rfl, rfl⟩⟩
  obtain ⟨k, hk, hz⟩ : ∃ k : Nat, x = nI k ∧ (k : Int) = x.toInt := ⟨x.toInt.toNat, i_ofN rfl c.1, by omega⟩
  subst hk
  have hkn : (k : Int) < n.toInt := by omega
  obtain ⟨k8, hh⟩ := h.has hkn
  rw [hh, if_pos rfl] at k2
  have e3 : nf = fw 3 := h.2.2.1
  obtain ⟨X, hX, _⟩ := RV_ex (w := 3) (by omega) nf k (-1) 0 fw
  obtain ⟨F, hF, _⟩ := RV_ex (w := 1) (by omega) nf k (-1) 4 fw
  obtain ⟨q1, q2⟩ := kindle_at h hkn hX hF br fs cw f3
  rw [e3] at hX hF
  by_cases d : fw (19 + k) < 1 ∨ X = 1
  · obtain ⟨b1, b2, b3, q⟩ := q1 d
    obtain ⟨a1, a2, a3, a4, a5, a6, p⟩ := canStoke_n (h.ask k8 m1_rng) hX lw bro val sm fe frs d
    rw [q] at k1
    rw [p, Lt2_b, Lt2_b, Lt2_b, Lt2_b, Lt2_b, Lt2_b, if_pos rfl] at k2
    simp only [Prod.mk.injEq] at k1 k2
    obtain ⟨rfl, rfl, rfl, rfl, rfl⟩ := k1
    obtain ⟨rfl, rfl, rfl, rfl, rfl, rfl, rfl, rfl, rfl, rfl, rfl⟩ := k2
    exact ⟨rfl, Or.inl ⟨by decide, rfl, rfl, rfl, rfl, rfl, rfl, rfl⟩⟩
  · have d1 : ¬ fw (19 + k) < 1 := fun q => d (Or.inl q)
    have d2 : ¬ X = 1 := fun q => d (Or.inr q)
    obtain ⟨b1, b2, b3, q⟩ := q2 d1 d2
    obtain ⟨a1, a2, a3, a4, a5, a6, p⟩ := canStoke_p (h.ask k8 m1_rng) hX lw bro val sm fe frs d1 d2
    obtain ⟨g1, g2, g3, g4, g5, g6, p2⟩ := stokeIt_at (h.ask k8 m1_rng) hF a1 a2 a3 a4 a5 a6
    have v := kz_rng (g := ((fw (11 + k) + F).toInt64).toInt) (M := 20) (by decide)
    rw [← wi20] at v
    have ts := h.stoked (F := F) hkn d1
    rw [q] at k1
    rw [p, Lt2_b, Lt2_b, Lt2_b, Lt2_b, Lt2_b, Lt2_b] at k2
    dsimp only at k2
    rw [if_neg (show ¬ (1 : Int32) = 0 by decide), p2] at k2
    generalize E_v_within_20 (fw (11 + k) + F).toInt64 = V at k1 k2 v ts ⊢
    rw [Lt2_b, Lt2_b, Lt2_b, Lt2_b, Lt2_b, Lt2_b, Lt2_b, Lt2_b, n_ladd (m := 11) rfl (by omega), Lt_b, Lt_b, kn_cl (by omega)] at k2
    dsimp only at k2
    rw [upd_n (show ¬ 11 + k = 19 + k by omega), upd_s] at k2
    simp only [Prod.mk.injEq] at k1 k2
    obtain ⟨rfl, rfl, rfl, rfl, rfl⟩ := k1
    obtain ⟨rfl, rfl, rfl, rfl, rfl, rfl, rfl, rfl, rfl, rfl, rfl⟩ := k2
    exact ⟨rfl, Or.inr ⟨v.1, ts, rfl, fun j hj => by rw [upd_n (by omega), upd_n (by omega)]⟩⟩
/-! to damp, to buy -/
theorem cap0 {a b : Int32} (ha : 0 ≤ a.toInt ∧ a.toInt ≤ 20) (hb : -1000000 ≤ b.toInt ∧ b.toInt ≤ 1000000) (hb0 : 0 ≤ b.toInt) : (if 0 < a - b then a - b else 0) = E_v_within_20 (a - b).toInt64 := by
  have z : (0 : Int32).toInt = 0 := rfl
  have s := i_sub (Eq.refl a.toInt) (Eq.refl b.toInt) (by omega)
  refine Int32.toInt_inj.mp ?_
  rw [wi20, wide_at, s]
  unfold kz_cl
  by_cases c : 0 < a - b
  · have c1 := il_iff.mp c
    rw [if_pos c, if_neg (show ¬ a.toInt - b.toInt < 0 by omega), if_neg (show ¬ 20 < a.toInt - b.toInt by omega)]; exact s
  · have c1 : ¬ (0 : Int32).toInt < (a - b).toInt := fun q => c (il_iff.mpr q)
    rw [if_neg c]
    by_cases d : a.toInt - b.toInt < 0
    · rw [if_pos d]; rfl
    · rw [if_neg d, if_neg (show ¬ 20 < a.toInt - b.toInt by omega), z]; omega
theorem cap999 {a b : Int32} (ha : 0 ≤ a.toInt ∧ a.toInt ≤ 100000) (hb : 0 ≤ b.toInt ∧ b.toInt ≤ 100000) : (if a + b < 999 then a + b else 999) = E_v_within_999 (a + b).toInt64 := by
  have z : (999 : Int32).toInt = 999 := rfl
  have s := i_add (Eq.refl a.toInt) (Eq.refl b.toInt) (by omega)
  refine Int32.toInt_inj.mp ?_
  rw [wi999, wide_at, s]
  unfold kz_cl
  by_cases c : a + b < 999
  · have c1 := il_iff.mp c
    rw [if_pos c, if_neg (show ¬ a.toInt + b.toInt < 0 by omega), if_neg (show ¬ 999 < a.toInt + b.toInt by omega)]; exact s
  · have c1 : ¬ (a + b).toInt < (999 : Int32).toInt := fun q => c (il_iff.mpr q)
    rw [if_neg c, if_neg (show ¬ a.toInt + b.toInt < 0 by omega)]
    by_cases d : 999 < a.toInt + b.toInt
    · rw [if_pos d]; rfl
    · rw [if_neg d, z]; omega
theorem cap9999 {a b : Int32} (ha : 0 ≤ a.toInt ∧ a.toInt ≤ 100000) (hb : 0 ≤ b.toInt ∧ b.toInt ≤ 100000) : (if a + b < 9999 then a + b else 9999) = E_v_within_9999 (a + b).toInt64 := by
  have z : (9999 : Int32).toInt = 9999 := rfl
  have s := i_add (Eq.refl a.toInt) (Eq.refl b.toInt) (by omega)
  refine Int32.toInt_inj.mp ?_
  rw [wi9999, wide_at, s]
  unfold kz_cl
  by_cases c : a + b < 9999
  · have c1 := il_iff.mp c
    rw [if_pos c, if_neg (show ¬ a.toInt + b.toInt < 0 by omega), if_neg (show ¬ 9999 < a.toInt + b.toInt by omega)]; exact s
  · have c1 : ¬ (a + b).toInt < (9999 : Int32).toInt := fun q => c (il_iff.mpr q)
    rw [if_neg c, if_neg (show ¬ a.toInt + b.toInt < 0 by omega)]
    by_cases d : 9999 < a.toInt + b.toInt
    · rw [if_pos d]; rfl
    · rw [if_neg d, z]; omega
theorem cap99999 {a b : Int32} (ha : 0 ≤ a.toInt ∧ a.toInt ≤ 100000) (hb : 0 ≤ b.toInt ∧ b.toInt ≤ 1000000) : (if a + b < 99999 then a + b else 99999) = E_v_within_99999 (a + b).toInt64 := by
  have z : (99999 : Int32).toInt = 99999 := rfl
  have s := i_add (Eq.refl a.toInt) (Eq.refl b.toInt) (by omega)
  refine Int32.toInt_inj.mp ?_
  rw [wi99999, wide_at, s]
  unfold kz_cl
  by_cases c : a + b < 99999
  · have c1 := il_iff.mp c
    rw [if_pos c, if_neg (show ¬ a.toInt + b.toInt < 0 by omega), if_neg (show ¬ 99999 < a.toInt + b.toInt by omega)]; exact s
  · have c1 : ¬ (a + b).toInt < (99999 : Int32).toInt := fun q => c (il_iff.mpr q)
    rw [if_neg c, if_neg (show ¬ a.toInt + b.toInt < 0 by omega)]
    by_cases d : 99999 < a.toInt + b.toInt
    · rw [if_pos d]; rfl
    · rw [if_neg d, z]; omega
theorem TW.fire1 {n lt nf fi : Int32} {f1 f2 fw : Nat → Int32} {fl : Nat → Option Nat} {G : Nat → LC} (h : TW n lt nf fi f1 f2 fl G fw) {k : Nat} (hk : (k : Int) < n.toInt) {V : Int32} (v : 0 ≤ V.toInt ∧ V.toInt ≤ 20) : TW n lt nf fi (upd f1 (40 + k) V) f2 fl G (upd fw (11 + k) V) := by
  obtain ⟨k8, hh⟩ := h.has hk
  have r := h.1.2.2.2.2.2.2.2.2.2.2.2 k k8
  refine h.step (h.1.one k8 hk (fun j h1 h2 h3 => upd_n h2) (fun j h1 h2 h3 => upd_n h1) ⟨?_, ?_, ?_⟩ ⟨?_, ?_, ?_⟩) (fun j hj => upd_n (by omega)) (fun j hj => upd_n (by omega))
  · rw [upd_n (by omega), upd_n (by omega)]; exact (h.1.2.2.1 k k8).2.1
  · rw [upd_s, upd_s]
  · rw [upd_n (by omega), upd_n (by omega)]; exact (h.1.2.2.1 k k8).2.2
  · rw [upd_s]; exact v
  · rw [upd_n (by omega)]; exact r.2.1
  · rw [upd_n (by omega)]; exact r.2.2
theorem TW.coal1 {n lt nf fi : Int32} {f1 f2 fw : Nat → Int32} {fl : Nat → Option Nat} {G : Nat → LC} (h : TW n lt nf fi f1 f2 fl G fw) {k : Nat} (hk : (k : Int) < n.toInt) {V : Int32} (v : 0 ≤ V.toInt ∧ V.toInt ≤ 999) : TW n lt nf fi (upd f1 (16 + k) V) f2 fl G (upd fw (19 + k) V) := by
  obtain ⟨k8, hh⟩ := h.has hk
  have r := h.1.2.2.2.2.2.2.2.2.2.2.2 k k8
  refine h.step (h.1.one k8 hk (fun j h1 h2 h3 => upd_n h1) (fun j h1 h2 h3 => upd_n h2) ⟨?_, ?_, ?_⟩ ⟨?_, ?_, ?_⟩) (fun j hj => upd_n (by omega)) (fun j hj => upd_n (by omega))
  · rw [upd_s, upd_s]
  · rw [upd_n (by omega), upd_n (by omega)]; exact (h.1.2.2.1 k k8).1
  · rw [upd_n (by omega), upd_n (by omega)]; exact (h.1.2.2.1 k k8).2.2
  · rw [upd_n (by omega)]; exact r.1
  · rw [upd_s]; exact v
  · rw [upd_n (by omega)]; exact r.2.2
theorem act_damp {x y n lt nf fi nu : Int32} {f1 f2 fw fu fsr : Nat → Int32} {fl : Nat → Option Nat} {G : Nat → LC} (h : TW n lt nf fi f1 f2 fl G fw) {r r2 nu' : Int32} {f1' fw' fu' fsr' : Nat → Int32} (k1 : (r, f1') = E_w_quench x y n f1) (k2 : (r2, nu', fw', fu', fsr') = E_v_dampNow x y nu fw fu fsr) : ActR r r2 1 n lt nf fi fi f1 f2 f1' f2 fl G fw fw' nu nu' fu fsr fu' fsr' := by
  have hn := h.2.2.2.2.2.2.1
  rw [E_v_dampNow.eq_def, Lt_b, Lt_b] at k2
  rw [E_w_quench.eq_def, Lt_b] at k1
  by_cases d : (1 : Int32).toInt ≤ y.toInt ∧ y.toInt ≤ (20 : Int32).toInt
  case neg =>
    rw [ifw_n d] at k1
    rw [ifi_n (by exact d)] at k2
    simp only [Prod.mk.injEq] at k1 k2
    obtain ⟨rfl, rfl⟩ := k1
    obtain ⟨rfl, rfl, rfl, rfl, rfl⟩ := k2
    exact ⟨rfl, Or.inl ⟨by decide, rfl, rfl, rfl, rfl, rfl, rfl, rfl⟩⟩
  rw [ifw_p d, Lt_b] at k1
  rw [ifi_p (by exact d), Lt_b, isHouse_at hn] at k2
  by_cases c : 0 ≤ x.toInt ∧ x.toInt < n.toInt
  case neg =>
    rw [has_n c, if_neg (by decide)] at k1 k2
    simp only [Prod.mk.injEq] at k1 k2
    obtain ⟨rfl, rfl⟩ := k1
    obtain ⟨rfl, rfl, rfl, rfl, rfl⟩ := k2
    exact ⟨rfl, Or.inl ⟨by decide, rfl, rfl, rfl, rfl, rfl, rfl, rfl⟩⟩
  obtain ⟨k, hk, hz⟩ : ∃ k : Nat, x = nI k ∧ (k : Int) = x.toInt := ⟨x.toInt.toNat, i_ofN rfl c.1, by omega⟩
  subst hk
  have hkn : (k : Int) < n.toInt := by omega
  obtain ⟨k8, hh⟩ := h.has hkn
  have z1 : (1 : Int32).toInt = 1 := rfl
  have z20 : (20 : Int32).toInt = 20 := rfl
  have v := kz_rng (g := ((fw (11 + k) - y).toInt64).toInt) (M := 20) (by decide)
  rw [← wi20] at v
  have r0 := (h.1.2.2.2.2.2.2.2.2.2.2.2 k k8).1
  rw [hh, if_pos rfl] at k1 k2
  rw [Lt_b, h.fire k8, Lt_b, Lt_b, cap0 r0 (by omega) (by omega), Lt_b, put5_at (nIb k8), nIt (by omega)] at k1
  rw [n_ladd (m := 11) rfl (by omega), Lt2_b, Lt2_b, Lt_b, Lt_b, Lt_b, Lt_b, Lt_b, Lt_b, Lt_b, Lt_b, Lt_b, kn_cl (by omega)] at k2
  have ts := h.fire1 hkn v
  generalize E_v_within_20 (fw (11 + k) - y).toInt64 = V at k1 k2 v ts
  rw [upd_s] at k2
  simp only [Prod.mk.injEq] at k1 k2
  obtain ⟨rfl, rfl⟩ := k1
  obtain ⟨rfl, rfl, rfl, rfl, rfl⟩ := k2
  exact ⟨rfl, Or.inr ⟨v.1, ts, rfl, fun j hj => upd_n (by omega)⟩⟩
theorem act_buy {x y n lt nf fi nu : Int32} {f1 f2 fw fu fsr : Nat → Int32} {fl : Nat → Option Nat} {G : Nat → LC} (h : TW n lt nf fi f1 f2 fl G fw) {r r2 nu' : Int32} {f1' fw' fu' fsr' : Nat → Int32} (k1 : (r, f1') = E_w_supply x y n f1) (k2 : (r2, nu', fw', fu', fsr') = E_v_buyNow x y nu fw fu fsr) : ActR r r2 2 n lt nf fi fi f1 f2 f1' f2 fl G fw fw' nu nu' fu fsr fu' fsr' := by
  have hn := h.2.2.2.2.2.2.1
  rw [E_v_buyNow.eq_def, Lt_b, Lt_b] at k2
  rw [E_w_supply.eq_def, Lt_b] at k1
  by_cases d : (1 : Int32).toInt ≤ y.toInt ∧ y.toInt ≤ (999 : Int32).toInt
  case neg =>
    rw [ifw_n d] at k1
    rw [ifi_n (by exact d)] at k2
    simp only [Prod.mk.injEq] at k1 k2
    obtain ⟨rfl, rfl⟩ := k1
    obtain ⟨rfl, rfl, rfl, rfl, rfl⟩ := k2
    exact ⟨rfl, Or.inl ⟨by decide, rfl, rfl, rfl, rfl, rfl, rfl, rfl⟩⟩
  rw [ifw_p d, Lt_b] at k1
  rw [ifi_p (by exact d), Lt_b, isHouse_at hn] at k2
  by_cases c : 0 ≤ x.toInt ∧ x.toInt < n.toInt
  case neg =>
    rw [has_n c, if_neg (by decide)] at k1 k2
    simp only [Prod.mk.injEq] at k1 k2
    obtain ⟨rfl, rfl⟩ := k1
    obtain ⟨rfl, rfl, rfl, rfl, rfl⟩ := k2
    exact ⟨rfl, Or.inl ⟨by decide, rfl, rfl, rfl, rfl, rfl, rfl, rfl⟩⟩
  obtain ⟨k, hk, hz⟩ : ∃ k : Nat, x = nI k ∧ (k : Int) = x.toInt := ⟨x.toInt.toNat, i_ofN rfl c.1, by omega⟩
  subst hk
  have hkn : (k : Int) < n.toInt := by omega
  obtain ⟨k8, hh⟩ := h.has hkn
  have z1 : (1 : Int32).toInt = 1 := rfl
  have z20 : (999 : Int32).toInt = 999 := rfl
  have v := kz_rng (g := ((fw (19 + k) + y).toInt64).toInt) (M := 999) (by decide)
  rw [← wi999] at v
  have r0 := (h.1.2.2.2.2.2.2.2.2.2.2.2 k k8).2.1
  rw [hh, if_pos rfl] at k1 k2
  rw [Lt_b, h.coal k8, Lt_b, Lt_b, cap999 (by omega) (by omega), Lt_b, put2_at (nIb k8), nIt (by omega)] at k1
  rw [n_ladd (m := 19) rfl (by omega), Lt2_b, Lt2_b, Lt_b, Lt_b, Lt_b, Lt_b, Lt_b, Lt_b, Lt_b, Lt_b, Lt_b, kn_cl (by omega)] at k2
  have ts := h.coal1 hkn v
  generalize E_v_within_999 (fw (19 + k) + y).toInt64 = V at k1 k2 v ts
  rw [upd_s] at k2
  simp only [Prod.mk.injEq] at k1 k2
  obtain ⟨rfl, rfl⟩ := k1
  obtain ⟨rfl, rfl, rfl, rfl, rfl⟩ := k2
  exact ⟨rfl, Or.inr ⟨v.1, ts, rfl, fun j hj => upd_n (by omega)⟩⟩
/-! the calls -/
theorem rel_stoke {x n lt nf fi nu br lw bro dr kp rb sta thr : Int32} {val sm : Int64} {f1 f2 f3 fw fs cw fu fsr sl frf frm : Nat → Int32} {fe frs : Nat → Int64} {fl : Nat → Option Nat} {G : Nat → LC} {r1 rb' dr' kp' br' r2 sta' nu' lw' bro' : Int32} {val' sm' : Int64} {frf' sl' fs' cw' f1' fw' fu' fsr' frm' : Nat → Int32} {fe' frs' : Nat → Int64} (k1 : (r1, rb', frf', dr', kp', sl', br', fs', cw', f1') = E_w_stoke G x rb frf dr kp sl br fs cw n lt nf fi f1 f2 f3 fl) (k2 : (r2, sta', nu', lw', bro', val', sm', fw', fe', frs', fu', fsr', frm') = E_v_stoke x thr sta nu lw bro val sm fw fe frs fu fsr frm) (h : TW n lt nf fi f1 f2 fl G fw) (hr : HR n dr kp nu sl fu fsr fw) (q : RfR rb sta frf frm) : r1 = r2 ∧ RfR rb' sta' frf' frm' ∧ TW n lt nf fi f1' f2 fl G fw' ∧ HR n dr' kp' nu' sl' fu' fsr' fw' := by
  rw [E_w_stoke.eq_def, Lt_b] at k1
  rw [E_v_stoke.eq_def] at k2
  generalize hA : E_w_kindle G x br fs cw n lt nf fi f1 f2 f3 fl = A at k1
  generalize hB : E_v_stokeNow x nu lw bro val sm fw fe frs fu fsr = B at k2
  obtain ⟨A1, A2, A3, A4, A5⟩ := A
  obtain ⟨B1, B2, B3, B4, B5, B6, B7, B8, B9, B10, B11⟩ := B
  have a := act_stoke h hA.symm hB.symm
  simp only [Lt2, Prod.mk.injEq] at k1 k2
  obtain ⟨a1, a2, a3, a4, a5, a6, a7, a8, a9, a10⟩ := k1
  obtain ⟨b1, b2, b3, b4, b5, b6, b7, b8, b9, b10, b11, b12, b13⟩ := k2
  have s := a.settle (by omega) hr h q (r1 := r1) (rb' := rb') (dr' := dr') (kp' := kp') (frf' := frf') (sl' := sl') (r3 := r2) (sta' := sta') (frm' := frm') (by rw [a1, a2, a3, a4, a5, a6]; rfl) (by rw [b1, b2, b13])
  rw [a10, b3, b8, b11, b12]
  exact s
theorem rel_damp {x y n lt nf fi nu br lw bro dr kp rb sta thr : Int32} {val sm : Int64} {f1 f2 f3 fw fs cw fu fsr sl frf frm : Nat → Int32} {fe frs : Nat → Int64} {fl : Nat → Option Nat} {G : Nat → LC} {r1 rb' dr' kp' r2 sta' nu' : Int32} {frf' sl' f1' fw' fu' fsr' frm' : Nat → Int32} (k1 : (r1, rb', frf', dr', kp', sl', f1') = E_w_damp x y rb frf dr kp sl br fs cw n lt nf fi f1 f2 f3 fl) (k2 : (r2, sta', nu', fw', fu', fsr', frm') = E_v_damp x y thr sta nu lw bro val sm fw fe frs fu fsr frm) (h : TW n lt nf fi f1 f2 fl G fw) (hr : HR n dr kp nu sl fu fsr fw) (q : RfR rb sta frf frm) : r1 = r2 ∧ RfR rb' sta' frf' frm' ∧ TW n lt nf fi f1' f2 fl G fw' ∧ HR n dr' kp' nu' sl' fu' fsr' fw' := by
  rw [E_w_damp.eq_def, Lt_b] at k1
  rw [E_v_damp.eq_def] at k2
  generalize hA : E_w_quench x y n f1 = A at k1
  generalize hB : E_v_dampNow x y nu fw fu fsr = B at k2
  obtain ⟨A1, A2⟩ := A
  obtain ⟨B1, B2, B3, B4, B5⟩ := B
  have a := act_damp h hA.symm hB.symm
  simp only [Lt2, Prod.mk.injEq] at k1 k2
  obtain ⟨a1, a2, a3, a4, a5, a6, a7⟩ := k1
  obtain ⟨b1, b2, b3, b4, b5, b6, b7⟩ := k2
  have s := a.settle (by omega) hr h q (r1 := r1) (rb' := rb') (dr' := dr') (kp' := kp') (frf' := frf') (sl' := sl') (r3 := r2) (sta' := sta') (frm' := frm') (by rw [a1, a2, a3, a4, a5, a6]; rfl) (by rw [b1, b2, b7])
  rw [a7, b3, b4, b5, b6]
  exact s
theorem rel_buy {x y n lt nf fi nu br lw bro dr kp rb sta thr : Int32} {val sm : Int64} {f1 f2 f3 fw fs cw fu fsr sl frf frm : Nat → Int32} {fe frs : Nat → Int64} {fl : Nat → Option Nat} {G : Nat → LC} {r1 rb' dr' kp' r2 sta' nu' : Int32} {frf' sl' f1' fw' fu' fsr' frm' : Nat → Int32} (k1 : (r1, rb', frf', dr', kp', sl', f1') = E_w_buy x y rb frf dr kp sl br fs cw n lt nf fi f1 f2 f3 fl) (k2 : (r2, sta', nu', fw', fu', fsr', frm') = E_v_buy x y thr sta nu lw bro val sm fw fe frs fu fsr frm) (h : TW n lt nf fi f1 f2 fl G fw) (hr : HR n dr kp nu sl fu fsr fw) (q : RfR rb sta frf frm) : r1 = r2 ∧ RfR rb' sta' frf' frm' ∧ TW n lt nf fi f1' f2 fl G fw' ∧ HR n dr' kp' nu' sl' fu' fsr' fw' := by
  rw [E_w_buy.eq_def, Lt_b] at k1
  rw [E_v_buy.eq_def] at k2
  generalize hA : E_w_supply x y n f1 = A at k1
  generalize hB : E_v_buyNow x y nu fw fu fsr = B at k2
  obtain ⟨A1, A2⟩ := A
  obtain ⟨B1, B2, B3, B4, B5⟩ := B
  have a := act_buy h hA.symm hB.symm
  simp only [Lt2, Prod.mk.injEq] at k1 k2
  obtain ⟨a1, a2, a3, a4, a5, a6, a7⟩ := k1
  obtain ⟨b1, b2, b3, b4, b5, b6, b7⟩ := k2
  have s := a.settle (by omega) hr h q (r1 := r1) (rb' := rb') (dr' := dr') (kp' := kp') (frf' := frf') (sl' := sl') (r3 := r2) (sta' := sta') (frm' := frm') (by rw [a1, a2, a3, a4, a5, a6]; rfl) (by rw [b1, b2, b7])
  rw [a7, b3, b4, b5, b6]
  exact s
