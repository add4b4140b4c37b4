/-! refusals, on both sides -/
noncomputable def RfR (rb sta : Int32) (frf frm : Nat → Int32) : Prop := rb = sta ∧ frf 0 = frm 1 ∧ frf 1 = frm 2 ∧ frf 2 = frm 3 ∧ frf 3 = frm 5 ∧ frf 4 = frm 6
theorem refuse_s {x rb : Int32} {f : Nat → Int32} {a b : Nat} (hx : (x = -1 ∧ a = 0 ∧ b = 1) ∨ (x = -2 ∧ a = 1 ∧ b = 2) ∨ (x = -3 ∧ a = 2 ∧ b = 3)) : E_w_refuse x rb f = (x, upd f a (f a + 1)) := by
  rcases hx with ⟨rfl, rfl, rfl⟩ | ⟨rfl, rfl, rfl⟩ | ⟨rfl, rfl, rfl⟩
  · rw [E_w_refuse.eq_def, if_neg (by decide), Lt_b, Lt_b, Lt_b, if_pos (by decide)]; rfl
  · rw [E_w_refuse.eq_def, if_neg (by decide), Lt_b, Lt_b, Lt_b, if_pos (by decide)]; rfl
  · rw [E_w_refuse.eq_def, if_neg (by decide), Lt_b, Lt_b, Lt_b, if_pos (by decide)]; rfl
theorem refuse_b {x rb : Int32} {f : Nat → Int32} {a b : Nat} (hx : (x = -5 ∧ a = 3 ∧ b = 5) ∨ (x = -6 ∧ a = 4 ∧ b = 6)) : E_w_refuse x rb f = (x, upd f a (f a + 1)) := by
  rcases hx with ⟨rfl, rfl, rfl⟩ | ⟨rfl, rfl, rfl⟩
  · rw [E_w_refuse.eq_def, if_pos (by decide), Lt_b, Lt_b, Lt_b, if_pos (by decide)]; rfl
  · rw [E_w_refuse.eq_def, if_pos (by decide), Lt_b, Lt_b, Lt_b, if_pos (by decide)]; rfl
theorem tell_s {x sta : Int32} {f : Nat → Int32} {b : Nat} (hx : (x = -1 ∧ b = 1) ∨ (x = -2 ∧ b = 2) ∨ (x = -3 ∧ b = 3) ∨ (x = -5 ∧ b = 5) ∨ (x = -6 ∧ b = 6)) : E_v_tell x sta f = (x, x, upd f b (f b + 1)) := by
  rcases hx with ⟨rfl, rfl⟩ | ⟨rfl, rfl⟩ | ⟨rfl, rfl⟩ | ⟨rfl, rfl⟩ | ⟨rfl, rfl⟩ <;> (rw [E_v_tell.eq_def, if_neg (by decide), if_neg (by decide), Lt_b, Lt_b, Lt_b, Lt_b, E_v_tell_j28.eq_def]; rfl)
theorem tell_p {x sta : Int32} {f : Nat → Int32} (hx : 0 ≤ x.toInt) : E_v_tell x sta f = (x, 0, f) := by
  have q : (0 : Int32) ≤ x := ie_iff.mpr hx
  rw [E_v_tell.eq_def, if_pos q, if_pos q, E_v_tell_j28.eq_def]
theorem RfR.no {rb sta : Int32} {frf frm : Nat → Int32} (h : RfR rb sta frf frm) {x : Int32} (hx : x = -1 ∨ x = -2 ∨ x = -3 ∨ x = -5 ∨ x = -6) : (E_w_refuse x rb frf).1 = x ∧ (E_v_tell x sta frm).1 = x ∧ RfR x (E_v_tell x sta frm).2.1 (E_w_refuse x rb frf).2 (E_v_tell x sta frm).2.2 := by
  obtain ⟨h0, h1, h2, h3, h4, h5⟩ := h
  have go : ∀ {a b : Nat}, E_w_refuse x rb frf = (x, upd frf a (frf a + 1)) → E_v_tell x sta frm = (x, x, upd frm b (frm b + 1)) → ((a = 0 ∧ b = 1) ∨ (a = 1 ∧ b = 2) ∨ (a = 2 ∧ b = 3) ∨ (a = 3 ∧ b = 5) ∨ (a = 4 ∧ b = 6)) → (E_w_refuse x rb frf).1 = x ∧ (E_v_tell x sta frm).1 = x ∧ RfR x (E_v_tell x sta frm).2.1 (E_w_refuse x rb frf).2 (E_v_tell x sta frm).2.2 := by
    intro a b e1 e2 e3
    rw [e1, e2]
    refine ⟨rfl, rfl, rfl, ?_⟩
    dsimp only
    rcases e3 with ⟨rfl, rfl⟩ | ⟨rfl, rfl⟩ | ⟨rfl, rfl⟩ | ⟨rfl, rfl⟩ | ⟨rfl, rfl⟩
    · exact ⟨congrArg (· + 1) h1, h2, h3, h4, h5⟩
    · exact ⟨h1, congrArg (· + 1) h2, h3, h4, h5⟩
    · exact ⟨h1, h2, congrArg (· + 1) h3, h4, h5⟩
    · exact ⟨h1, h2, h3, congrArg (· + 1) h4, h5⟩
    · exact ⟨h1, h2, h3, h4, congrArg (· + 1) h5⟩
  rcases hx with rfl | rfl | rfl | rfl | rfl
  · exact go (refuse_s (a := 0) (b := 1) (by decide)) (tell_s (b := 1) (by decide)) (by decide)
  · exact go (refuse_s (a := 1) (b := 2) (by decide)) (tell_s (b := 2) (by decide)) (by decide)
  · exact go (refuse_s (a := 2) (b := 3) (by decide)) (tell_s (b := 3) (by decide)) (by decide)
  · exact go (refuse_b (a := 3) (b := 5) (by decide)) (tell_s (b := 5) (by decide)) (by decide)
  · exact go (refuse_b (a := 4) (b := 6) (by decide)) (tell_s (b := 6) (by decide)) (by decide)
theorem RfR.ok {rb sta : Int32} {frf frm : Nat → Int32} (h : RfR rb sta frf frm) : RfR 0 0 frf frm := ⟨rfl, h.2⟩
/-! one act, on both sides -/
noncomputable def ActR (r r2 : Int32) (s : Nat) (n lt nf fi fi' : Int32) (f1 f2 f1' f2' : Nat → Int32) (fl : Nat → Option Nat) (G : Nat → LC) (fw fw' : Nat → Int32) (nu nu' : Int32) (fu fs fu' fs' : Nat → Int32) : Prop :=
  r = r2 ∧ (((r = -1 ∨ r = -2 ∨ r = -3) ∧ fi' = fi ∧ f1' = f1 ∧ f2' = f2 ∧ fw' = fw ∧ nu' = nu ∧ fu' = fu ∧ fs' = fs) ∨ (0 ≤ r.toInt ∧ TW n lt nf fi' f1' f2' fl G fw' ∧ (nu', fu', fs') = E_v_remember (nI s) nu fw fu fs ∧ ∀ j, j < 4 ∨ (6 ≤ j ∧ j < 10) ∨ 35 ≤ j → fw' j = fw j))
theorem ActR.settle {r r2 n lt nf fi fi' nu nu' dr kp rb sta : Int32} {s : Nat} {f1 f2 f1' f2' fw fw' fu fs fu' fs' sl frf frm : Nat → Int32} {fl : Nat → Option Nat} {G : Nat → LC} (a : ActR r r2 s n lt nf fi fi' f1 f2 f1' f2' fl G fw fw' nu nu' fu fs fu' fs') (hs : s < 4) (h : HR n dr kp nu sl fu fs fw) (t : TW n lt nf fi f1 f2 fl G fw) (q : RfR rb sta frf frm) {r1 rb' dr' kp' r3 sta' : Int32} {frf' sl' frm' : Nat → Int32} (k1 : (r1, rb', frf', dr', kp', sl') = E_w_settle (nI s) r rb frf dr kp (E_w_draft dr sl fi f1 f2)) (k2 : (r3, sta', frm') = E_v_tell r2 sta frm) : r1 = r3 ∧ RfR rb' sta' frf' frm' ∧ TW n lt nf fi' f1' f2' fl G fw' ∧ HR n dr' kp' nu' sl' fu' fs' fw' := by
  obtain ⟨e, a⟩ := a
  subst e
  rw [E_w_settle.eq_def] at k1
  rcases a with ⟨c, rfl, rfl, rfl, rfl, rfl, rfl, rfl⟩ | ⟨c, t', k3, k4⟩
  · have c1 : ¬ (0 : Int32) ≤ r := by rcases c with rfl | rfl | rfl <;> decide
    obtain ⟨g1, g2, g3⟩ := q.no (x := r) (by rcases c with rfl | rfl | rfl <;> decide)
    rw [if_neg c1, Lt2_b] at k1
    simp only [Prod.mk.injEq] at k1
    obtain ⟨rfl, rfl, rfl, rfl, rfl, rfl⟩ := k1
    rw [← k2] at g2 g3
    exact ⟨g1.trans g2.symm, g3, t, h.draft⟩
  · have c1 : (0 : Int32) ≤ r := ie_iff.mpr c
    rw [tell_p c] at k2
    rw [if_pos c1, Lt2_b, Lt2_b, Lt_b, E_w_accept.eq_def] at k1
    simp only [Prod.mk.injEq] at k1 k2
    obtain ⟨rfl, rfl, rfl, rfl, rfl, rfl⟩ := k1
    obtain ⟨rfl, rfl, rfl⟩ := k2
    exact ⟨rfl, q.ok, t', h.push t.1 hs rfl k3 (fun j h1 h2 => k4 j (by omega))⟩
/-! to stoke -/
theorem cap20 {a b : Int32} (ha : 0 ≤ a.toInt ∧ a.toInt ≤ 1000) (hb : 0 ≤ b.toInt ∧ b.toInt ≤ 1000) : (if a + b < 20 then a + b else 20) = E_v_within_20 (a + b).toInt64 := by
  have z : (20 : Int32).toInt = 20 := rfl
  have s := i_add (Eq.refl a.toInt) (Eq.refl b.toInt) (by omega)
  refine Int32.toInt_inj.mp ?_
  rw [wi20, wide_at, s]
  unfold kz_cl
  by_cases c : a + b < 20
  · have c1 := il_iff.mp c
    rw [if_pos c, if_neg (show ¬ a.toInt + b.toInt < 0 by omega), if_neg (show ¬ 20 < a.toInt + b.toInt by omega)]; exact s
  · have c1 : ¬ (a + b).toInt < (20 : Int32).toInt := fun q => c (il_iff.mpr q)
    rw [if_neg c, if_neg (show ¬ a.toInt + b.toInt < 0 by omega)]
    by_cases d : 20 < a.toInt + b.toInt
    · rw [if_pos d]; rfl
    · rw [if_neg d, z]; omega
theorem nIb {k : Nat} (hk : k < 8) : 0 ≤ (nI k).toInt ∧ (nI k).toInt < 8 := by rw [nI_toInt (by omega)]; omega
theorem nIt {k : Nat} (hk : k < 1000) : (nI k).toInt.toNat = k := by rw [nI_toInt (by omega)]; omega
theorem TW.coal {n lt nf fi : Int32} {f1 f2 fw : Nat → Int32} {fl : Nat → Option Nat} {G : Nat → LC} (h : TW n lt nf fi f1 f2 fl G fw) {k : Nat} (hk : k < 8) : E_w_fact (nI k) 2 f1 = fw (19 + k) := by
  rw [fact_at (k := 2) (nIb hk) rfl (by omega), nIt (by omega)]; exact (h.1.2.2.1 k hk).2.1
theorem TW.fire {n lt nf fi : Int32} {f1 f2 fw : Nat → Int32} {fl : Nat → Option Nat} {G : Nat → LC} (h : TW n lt nf fi f1 f2 fl G fw) {k : Nat} (hk : k < 8) : E_w_fact (nI k) 5 f1 = fw (11 + k) := by
  rw [fact_at (k := 5) (nIb hk) rfl (by omega), nIt (by omega)]; exact (h.1.2.2.1 k hk).1
theorem TW.warm {n lt nf fi : Int32} {f1 f2 fw : Nat → Int32} {fl : Nat → Option Nat} {G : Nat → LC} (h : TW n lt nf fi f1 f2 fl G fw) {k : Nat} (hk : k < 8) : E_w_fact (nI k) 6 f1 = fw (27 + k) := by
  rw [fact_at (k := 6) (nIb hk) rfl (by omega), nIt (by omega)]; exact (h.1.2.2.1 k hk).2.2
theorem TW.note {n lt nf fi : Int32} {f1 f2 fw : Nat → Int32} {fl : Nat → Option Nat} {G : Nat → LC} (h : TW n lt nf fi f1 f2 fl G fw) {k : Nat} (hk : k < 8) : E_w_fact (nI k) 0 f1 = fw (35 + k) := by
  rw [fact_at (k := 0) (nIb hk) rfl (by omega), nIt (by omega), Nat.mul_zero, Nat.zero_add]; exact h.2.2.2.2.2.2.2 k (by omega)
theorem TW.street {n lt nf fi : Int32} {f1 f2 fw : Nat → Int32} {fl : Nat → Option Nat} {G : Nat → LC} (h : TW n lt nf fi f1 f2 fl G fw) {k : Nat} (hk : k < 8) : E_w_fact (nI k) 1 f1 = fw (43 + k) := by
  rw [fact_at (k := 1) (nIb hk) rfl (by omega), nIt (by omega)]; exact (h.2.2.2.2.2.2.2 _ (by omega)).trans (congrArg fw (by omega))
theorem TW.has {n lt nf fi : Int32} {f1 f2 fw : Nat → Int32} {fl : Nat → Option Nat} {G : Nat → LC} (h : TW n lt nf fi f1 f2 fl G fw) {k : Nat} (hk : (k : Int) < n.toInt) : k < 8 ∧ E_w_has (nI k) n = 1 := by
  have q := h.2.2.2.2.2.2.1.2
  exact ⟨by omega, has_p (by rw [nI_toInt (by omega)]; omega)⟩
theorem TW.askn {n lt nf fi : Int32} {f1 f2 fw : Nat → Int32} {fl : Nat → Option Nat} {G : Nat → LC} (h : TW n lt nf fi f1 f2 fl G fw) {k : Nat} (hk : k < 8) {o : Int32} (ho : -1 ≤ o.toInt ∧ o.toInt ≤ 6) : KAsk nf lt fl G fw k o :=
  ⟨h.2.2.2.1, hk, h.2.2.2.2.2.1, h.bw hk ho⟩
theorem kindle_at {n lt nf fi X F : Int32} {f1 f2 fw : Nat → Int32} {fl : Nat → Option Nat} {G : Nat → LC} (h : TW n lt nf fi f1 f2 fl G fw) {k : Nat} (hk : (k : Int) < n.toInt) (hX : X.toInt = RV nf 3 k (-1) 0 fw) (hF : F.toInt = RV nf 1 k (-1) 4 fw) (br : Int32) (fs cw f3 : Nat → Int32) :
    ((fw (19 + k) < 1 ∨ X = 1) → ∃ br' fs' cw', E_w_kindle G (nI k) br fs cw n lt nf fi f1 f2 f3 fl = (-3, br', fs', cw', f1)) ∧ (¬ fw (19 + k) < 1 → ¬ X = 1 → ∃ br' fs' cw', E_w_kindle G (nI k) br fs cw n lt nf fi f1 f2 f3 fl = (E_v_within_20 (fw (11 + k) + F).toInt64, br', fs', cw', upd (upd f1 (16 + k) (fw (19 + k) - 1)) (40 + k) (E_v_within_20 (fw (11 + k) + F).toInt64))) := by
  obtain ⟨k8, hh⟩ := h.has hk
  have rf := (h.1.2.2.2.2.2.2.2.2.2.2.2 k k8).1
  have rF := kz_rng (g := (E_v_tells nf (nI 1) (nI k) (-1) 4 0 0 0 0 fw (fun _ => 0) (fun _ => 0)).1.toInt) (M := (aF 3 1).toInt) (by decide)
  have m20 : (aF 3 1).toInt = 20 := by decide
  have rF2 : 0 ≤ F.toInt ∧ F.toInt ≤ 20 := by
    rw [hF]; unfold RV; omega
  obtain ⟨res, e⟩ : ∃ res, res = E_w_kindle G (nI k) br fs cw n lt nf fi f1 f2 f3 fl := ⟨_, rfl⟩
  rw [← e]
  rw [E_w_kindle.eq_def, Lt_b, hh, if_pos rfl, Lt_b, Lt_b, Lt_b, h.coal k8, h.fire k8] at e
  have hw := h.words (cw := cw) k8
  generalize E_w_face (nI k) (fw (11 + k)) 0 cw f1 f2 = U at e hw
  by_cases c : fw (19 + k) < 1
  · rw [if_pos c, E_w_kindle_j59.eq_def] at e
    exact ⟨fun _ => ⟨_, _, _, e⟩, fun q => absurd c q⟩
  rw [if_neg c, Lt_b] at e
  obtain ⟨br1, fs1, e⟩ := ask_k (w := 3) (h.askn k8 m1_rng) (by omega) (show (0 : Int64).toInt = (aF 2 3).toInt from by decide) hw hX e (fun _ => rfl)
  by_cases cx : X = 1
  · rw [if_pos cx, E_w_kindle_j59.eq_def] at e
    exact ⟨fun _ => ⟨_, _, _, e⟩, fun _ q => absurd cx q⟩
  refine ⟨fun q => by rcases q with q | q <;> contradiction, fun _ _ => ?_⟩
  rw [if_neg cx, Lt_b] at e
  obtain ⟨br2, fs2, e⟩ := ask_k (w := 1) (h.askn k8 m1_rng) (by omega) (show (4 : Int64).toInt = (aF 2 1).toInt from by decide) hw hF e (fun _ => rfl)
  rw [Lt_b, Lt_b, Lt_b, Lt_b, Lt_b, cap20 (by omega) (by omega), put2_at (nIb k8), put5_at (nIb k8), nIt (by omega)] at e
  exact ⟨_, _, _, e⟩
