/-! a law is asked, on both sides -/
noncomputable def KWo (cw fw : Nat → Int32) (h : Nat) (o : Int32) : Prop := cw 0 = nI h ∧ cw 1 = fw (35 + h) ∧ cw 2 = fw (43 + h) ∧ cw 3 = fw (11 + h) ∧ cw 4 = fw (19 + h) ∧ cw 5 = fw 4 ∧ cw 6 = fw 5 ∧ cw 7 = fw 9 ∧ cw 8 = o
noncomputable def KBd (v : Int32) : Prop := -1000000000 ≤ v.toInt ∧ v.toInt ≤ 1000000000
noncomputable def KBw (fw : Nat → Int32) (h : Nat) (o : Int32) : Prop := KBd (fw (35 + h)) ∧ KBd (fw (43 + h)) ∧ KBd (fw (11 + h)) ∧ KBd (fw (19 + h)) ∧ KBd (fw 4) ∧ KBd (fw 5) ∧ KBd (fw 9) ∧ KBd o
noncomputable def KLs (lt : Int32) (fl : Nat → Option Nat) (G : Nat → LC) (fw : Nat → Int32) : Prop := (0 ≤ lt.toInt ∧ lt.toInt ≤ 6) ∧ ∀ i : Nat, (i : Int) < lt.toInt → ∃ a, fl i = some a ∧ KLaw (G a) (ktx fw (100 + 900 * i))
theorem n_900 {k : Nat} (h : k < 100) : (900 : Int32) * nI k = nI (900 * k) := Int32.toInt_inj.mp (by
  rw [i_mul (show (900 : Int32).toInt = 900 from rfl) (nI_toInt (by omega)) (by omega), nI_toInt (by omega)]; omega)
theorem tells_at {x h : Nat} (hx : x < 6) (hh : h < 8) {w o lw bro : Int32} {v val sm : Int64} {fw : Nat → Int32} {fe frs : Nat → Int64} : ∃ fe' : Nat → Int64, (fe' 1 = (nI h).toInt64 ∧ fe' 2 = (fw (35 + h)).toInt64 ∧ fe' 3 = (fw (43 + h)).toInt64 ∧ fe' 4 = (fw (11 + h)).toInt64 ∧ fe' 5 = (fw (19 + h)).toInt64 ∧ fe' 6 = (fw 4).toInt64 ∧ fe' 7 = (fw 5).toInt64 ∧ fe' 8 = (fw 9).toInt64 ∧ fe' 9 = o.toInt64) ∧ E_v_tells (nI x) w (nI h) o v lw bro val sm fw fe frs = Lp (α := KTR) (E_v_tells_l148 w fw (nI (100 + 900 * x)) fe') (fun _ _ _ _ _ _ => ((0, 0, 0, 0, 0, fun _ => 0, fun _ => 0) : Int64 × Int32 × Int32 × Int64 × Int64 × (Nat → Int64) × (Nat → Int64))) 14 0 v bro val sm frs := by
  refine ⟨vp_updL (vp_updL (vp_updL (vp_updL (vp_updL (vp_updL (vp_updL (vp_updL (vp_updL fe 1 (nI h).toInt64) 2 (fw (35 + h)).toInt64) 3 (fw (43 + h)).toInt64) 4 (fw (11 + h)).toInt64) 5 (fw (19 + h)).toInt64) 6 (fw 4).toInt64) 7 (fw 5).toInt64) 8 (fw 9).toInt64) 9 o.toInt64, ⟨rfl, rfl, rfl, rfl, rfl, rfl, rfl, rfl, rfl⟩, ?_⟩
  rw [E_v_tells.eq_def, if_neg (fun q => by have := congrArg Int32.toInt q; rw [nI_toInt (by omega)] at this; have z : (-1 : Int32).toInt = -1 := rfl; omega)]
  rw [Lt_b, Lt_b, Lt_b, Lt_b, Lt_b, Lt_b, Lt_b, Lt_b, Lt_b, Lt_b, Lt_b, Lt_b, Lt_b, Lt_b, Lt_b, Lt_b, Lt_b, Lt_b, Lt_b, Lt_b, Lt_b, Lt_b, Lt_b, Lt_b, Lt_b, Lt_b, Lt_b, Lt_b, Lt_b, Lt_b, Lt_b]
  rw [n_900 (by omega), n_ladd (m := 100) rfl (by omega), n_ladd (m := 35) rfl (by omega), n_ladd (m := 43) rfl (by omega), n_ladd (m := 11) rfl (by omega), n_ladd (m := 19) rfl (by omega), kn_cl (by omega), kn_cl (by omega), kn_cl (by omega), kn_cl (by omega)]
  rfl
theorem KWo.wd {cw fw : Nat → Int32} {h : Nat} {o : Int32} {fe : Nat → Int64} (k : KWo cw fw h o) (hh : h < 8) (hb : KBw fw h o) (e : fe 1 = (nI h).toInt64 ∧ fe 2 = (fw (35 + h)).toInt64 ∧ fe 3 = (fw (43 + h)).toInt64 ∧ fe 4 = (fw (11 + h)).toInt64 ∧ fe 5 = (fw (19 + h)).toInt64 ∧ fe 6 = (fw 4).toInt64 ∧ fe 7 = (fw 5).toInt64 ∧ fe 8 = (fw 9).toInt64 ∧ fe 9 = o.toInt64) : KWd cw fe := by
  obtain ⟨c0, c1, c2, c3, c4, c5, c6, c7, c8⟩ := k
  obtain ⟨e1, e2, e3, e4, e5, e6, e7, e8, e9⟩ := e
  obtain ⟨b1, b2, b3, b4, b5, b6, b7, b8⟩ := hb
  have g : ∀ {a b : Int32} {c : Int64}, a = b → c = b.toInt64 → KBd b → c.toInt = a.toInt ∧ -1000000000 ≤ a.toInt ∧ a.toInt ≤ 1000000000 := fun q1 q2 q3 => ⟨by rw [q2, q1]; exact wide_at, by rw [q1]; exact q3.1, by rw [q1]; exact q3.2⟩
  intro j hj
  rcases (show j = 0 ∨ j = 1 ∨ j = 2 ∨ j = 3 ∨ j = 4 ∨ j = 5 ∨ j = 6 ∨ j = 7 ∨ j = 8 by omega) with rfl | rfl | rfl | rfl | rfl | rfl | rfl | rfl | rfl
  · exact g c0 e1 ⟨by rw [nI_toInt (by omega)]; omega, by rw [nI_toInt (by omega)]; omega⟩
  · exact g c1 e2 b1
  · exact g c2 e3 b2
  · exact g c3 e4 b3
  · exact g c4 e5 b4
  · exact g c5 e6 b5
  · exact g c6 e7 b6
  · exact g c7 e8 b7
  · exact g c8 e9 b8
/-- what the reference tells (scratch aside), within its bounds -/
noncomputable def RV (x : Int32) (w h : Nat) (o : Int32) (v : Int64) (fw : Nat → Int32) : Int := kz_cl (E_v_tells x (nI w) (nI h) o v 0 0 0 0 fw (fun _ => 0) (fun _ => 0)).1.toInt (aF 3 w).toInt
theorem kz_dflt {w : Nat} (hw : w < 4) {v : Int64} (hv : v.toInt = (aF 2 w).toInt) : kz_cl v.toInt (aF 3 w).toInt = (aF 2 w).toInt := by
  rw [hv]
  rcases (show w = 0 ∨ w = 1 ∨ w = 2 ∨ w = 3 by omega) with rfl | rfl | rfl | rfl <;> decide
/-- one asking, both sides -/
theorem ask_0 {x w h : Nat} {o : Int32} {v : Int64} {fw : Nat → Int32} {c : LC} (hx : x < 6) (hh : h < 8) (hw : w < 4) (hv : v.toInt = (aF 2 w).toInt) (hL : KLaw c (ktx fw (100 + 900 * x))) (hb : KBw fw h o) {cw : Nat → Int32} (hc : KWo cw fw h o) (lw bro : Int32) (val sm : Int64) (fe frs : Nat → Int64) :
    ∃ (t : Int64) (lw' bro' : Int32) (val' sm' : Int64) (fe' frs' : Nat → Int64), E_v_tells (nI x) (nI w) (nI h) o v lw bro val sm fw fe frs = (t, lw', bro', val', sm', fe', frs') ∧ (w = 3 → t.toInt = 0 ∨ t.toInt = 1) ∧ ∀ br fs, ∃ r br' f', E_w_told c.1 c.2.1 c.2.2.1 c.2.2.2.1 c.2.2.2.2.1 (nI w) br fs cw = (r, br', f') ∧ r.toInt = kz_cl t.toInt (aF 3 w).toInt := by
  obtain ⟨fe', e1, e2⟩ := tells_at hx hh (w := nI w) (o := o) (lw := lw) (bro := bro) (v := v) (val := val) (sm := sm) (fw := fw) (fe := fe) (frs := frs)
  rcases told_at hL hw (show 100 + 900 * x ≤ 100000 by omega) (hc.wd hh hb e1) (fun _ _ _ _ _ _ => ((0, 0, 0, 0, 0, fun _ => 0, fun _ => 0) : Int64 × Int32 × Int32 × Int64 × Int64 × (Nat → Int64) × (Nat → Int64))) with ⟨d1, d2⟩ | ⟨g, d0, d1, d2⟩
  · obtain ⟨br', vl', sm', f', q⟩ := d2 v bro val sm frs
    refine ⟨v, _, br', vl', sm', fe', f', e2.trans q, fun q3 => ?_, fun br fs => ?_⟩
    · subst q3; exact Or.inl hv
    · obtain ⟨b1, f1, q1⟩ := d1 br fs
      exact ⟨_, b1, f1, q1, (kz_dflt hw hv).symm⟩
  · obtain ⟨t, br', vl', sm', f', q, q2⟩ := d2 v bro val sm frs
    refine ⟨t, _, br', vl', sm', fe', f', e2.trans q, fun q3 => Or.inr (q2.trans (d0 q3)), fun br fs => ?_⟩
    obtain ⟨r, b1, f1, q1, q3⟩ := d1 br fs
    exact ⟨r, b1, f1, q1, by rw [q2]; exact q3⟩
noncomputable def cwo (fw : Nat → Int32) (h : Nat) (o : Int32) : Nat → Int32 := fun j => if j = 0 then nI h else if j = 1 then fw (35 + h) else if j = 2 then fw (43 + h) else if j = 3 then fw (11 + h) else if j = 4 then fw (19 + h) else if j = 5 then fw 4 else if j = 6 then fw 5 else if j = 7 then fw 9 else o
theorem cwo_at {fw : Nat → Int32} {h : Nat} {o : Int32} : KWo (cwo fw h o) fw h o := ⟨rfl, rfl, rfl, rfl, rfl, rfl, rfl, rfl, rfl⟩
theorem lawAt_n {x lt : Int32} {fl : Nat → Option Nat} (hx : x.toInt = -1) : E_w_lawAt x lt fl = none := by
  rw [E_w_lawAt.eq_def, Lt_b, Lt_b, ifw_n (by have z : (0 : Int32).toInt = 0 := rfl; omega)]
theorem lawAt_p {k : Nat} {lt : Int32} {fl : Nat → Option Nat} (hl : 0 ≤ lt.toInt ∧ lt.toInt ≤ 6) (hx : (k : Int) < lt.toInt) : E_w_lawAt (nI k) lt fl = fl k := by
  have z : (lt - 1).toInt = lt.toInt - 1 := i_sub rfl (show (1 : Int32).toInt = 1 from rfl) (by omega)
  have z0 : (0 : Int32).toInt = 0 := rfl
  rw [E_w_lawAt.eq_def, Lt_b, Lt_b, ifw_p (by rw [z, nI_toInt (by omega)]; omega), Lt_b, kn_cl (by omega)]
/-- THE CLASS ASKS: nothing or a law, the same as the reference tells -/
theorem ask_w {x lt : Int32} {w h : Nat} {o : Int32} {v : Int64} {fl : Nat → Option Nat} {G : Nat → LC} {fw : Nat → Int32} (hx : -1 ≤ x.toInt ∧ x.toInt < lt.toInt) (hh : h < 8) (hw : w < 4) (hv : v.toInt = (aF 2 w).toInt) (hL : KLs lt fl G fw) (hb : KBw fw h o) {cw : Nat → Int32} (hc : KWo cw fw h o) {R : Int32} (hR : R.toInt = RV x w h o v fw) :
    (E_w_lawAt x lt fl = none ∧ aF 2 w = R) ∨ ∃ a, E_w_lawAt x lt fl = some a ∧ ∀ br fs, ∃ br' f', E_w_told (G a).1 (G a).2.1 (G a).2.2.1 (G a).2.2.2.1 (G a).2.2.2.2.1 (nI w) br fs cw = (R, br', f') := by
  by_cases c : x.toInt = -1
  · refine Or.inl ⟨lawAt_n c, ?_⟩
    have xe : x = -1 := i_lit c rfl
    subst xe
    refine Int32.toInt_inj.mp ?_
    rw [hR]
    unfold RV
    rw [E_v_tells.eq_def, if_pos rfl]
    exact (kz_dflt hw hv).symm
  · obtain ⟨k, hk, hz⟩ : ∃ k : Nat, x = nI k ∧ (k : Int) = x.toInt := ⟨x.toInt.toNat, i_ofN rfl (by omega), by omega⟩
    subst hk
    have h6 := hL.1
    obtain ⟨a, q1, q2⟩ := hL.2 k (by omega)
    refine Or.inr ⟨a, (lawAt_p hL.1 (by omega)).trans q1, fun br fs => ?_⟩
    obtain ⟨t, lw', bro', val', sm', fe', frs', e1, _, e2⟩ := ask_0 (show k < 6 by omega) hh hw hv q2 hb hc 0 0 0 0 (fun _ => 0) (fun _ => 0)
    obtain ⟨r, br', f', e3, e4⟩ := e2 br fs
    refine ⟨br', f', ?_⟩
    rw [e3]
    have : r = R := Int32.toInt_inj.mp (by rw [e4, hR]; unfold RV; rw [e1])
    rw [this]
/-- THE REFERENCE TELLS, whatever its scratch -/
theorem ask_v {x lt : Int32} {w h : Nat} {o : Int32} {v : Int64} {fl : Nat → Option Nat} {G : Nat → LC} {fw : Nat → Int32} (hx : -1 ≤ x.toInt ∧ x.toInt < lt.toInt) (hh : h < 8) (hw : w < 4) (hv : v.toInt = (aF 2 w).toInt) (hL : KLs lt fl G fw) (hb : KBw fw h o) (lw bro : Int32) (val sm : Int64) (fe frs : Nat → Int64) :
    ∃ (t : Int64) (lw' bro' : Int32) (val' sm' : Int64) (fe' frs' : Nat → Int64), E_v_tells x (nI w) (nI h) o v lw bro val sm fw fe frs = (t, lw', bro', val', sm', fe', frs') ∧ (w = 3 → t.toInt = 0 ∨ t.toInt = 1) ∧ kz_cl t.toInt (aF 3 w).toInt = RV x w h o v fw := by
  by_cases c : x.toInt = -1
  · have xe : x = -1 := i_lit c rfl
    subst xe
    refine ⟨v, lw, bro, val, sm, fe, frs, by rw [E_v_tells.eq_def, if_pos rfl], fun q => ?_, ?_⟩
    · subst q; exact Or.inl hv
    · unfold RV
      rw [E_v_tells.eq_def, if_pos rfl]
  · obtain ⟨k, hk, hz⟩ : ∃ k : Nat, x = nI k ∧ (k : Int) = x.toInt := ⟨x.toInt.toNat, i_ofN rfl (by omega), by omega⟩
    subst hk
    have h6 := hL.1
    obtain ⟨a, q1, q2⟩ := hL.2 k (by omega)
    obtain ⟨t, lw', bro', val', sm', fe', frs', e1, e0, e2⟩ := ask_0 (show k < 6 by omega) hh hw hv q2 hb cwo_at lw bro val sm fe frs
    obtain ⟨t2, lw2, bro2, val2, sm2, fe2, frs2, e3, _, e4⟩ := ask_0 (show k < 6 by omega) hh hw hv q2 hb cwo_at 0 0 0 0 (fun _ => 0) (fun _ => 0)
    obtain ⟨r, br', f', e5, e6⟩ := e2 0 (fun _ => 0)
    obtain ⟨r2, br2, f2, e7, e8⟩ := e4 0 (fun _ => 0)
    refine ⟨t, lw', bro', val', sm', fe', frs', e1, e0, ?_⟩
    have er : r = r2 := (Prod.mk.inj (e5.symm.trans e7)).1
    unfold RV
    rw [e3, ← e6, er, e8]
/-! bounds, and what is asked by name -/
theorem wi_gen {M : Int64} {m : Int32} {k : Int} (hM : M.toInt = k) (hm : m.toInt = k) (hk : 0 ≤ k ∧ k ≤ 2000000000) (x : Int64) : (if 0 ≤ lg_cmp x 0 then (if lg_cmp x M ≤ 0 then x.toInt32 else m) else (0 : Int32)).toInt = kz_cl x.toInt k := by
  have z0 : (0 : Int64).toInt = 0 := rfl
  unfold kz_cl
  by_cases c : 0 ≤ lg_cmp x 0
  · have c1 := je_iff.mp ((lg_cmp_ge _ _).mp c)
    by_cases d : lg_cmp x M ≤ 0
    · have d1 := je_iff.mp ((lg_cmp_le _ _).mp d)
      rw [if_pos c, if_pos d, if_neg (show ¬ x.toInt < 0 by omega), if_neg (show ¬ k < x.toInt by omega)]
      exact l_nar (Eq.refl x.toInt) (by omega)
    · have d1 : ¬ x.toInt ≤ M.toInt := fun q => d ((lg_cmp_le _ _).mpr (je_iff.mpr q))
      rw [if_pos c, if_neg d, if_neg (show ¬ x.toInt < 0 by omega), if_pos (show k < x.toInt by omega)]; exact hm
  · have c1 : ¬ (0 : Int64).toInt ≤ x.toInt := fun q => c ((lg_cmp_ge _ _).mpr (je_iff.mpr q))
    rw [if_neg c, if_pos (show x.toInt < 0 by omega)]; rfl
theorem wi20 (t : Int64) : (E_v_within_20 t).toInt = kz_cl t.toInt 20 := wi_gen (M := 20) (m := 20) rfl rfl (by decide) t
theorem wi999 (t : Int64) : (E_v_within_999 t).toInt = kz_cl t.toInt 999 := wi_gen (M := 999) (m := 999) rfl rfl (by decide) t
theorem wi9999 (t : Int64) : (E_v_within_9999 t).toInt = kz_cl t.toInt 9999 := wi_gen (M := 9999) (m := 9999) rfl rfl (by decide) t
theorem wi99999 (t : Int64) : (E_v_within_99999 t).toInt = kz_cl t.toInt 99999 := wi_gen (M := 99999) (m := 99999) rfl rfl (by decide) t
theorem kz_id {g M : Int} (h : 0 ≤ g ∧ g ≤ M) : kz_cl g M = g := by
  unfold kz_cl; rw [if_neg (by omega), if_neg (by omega)]
theorem kz_rng {g M : Int} (h : 0 ≤ M) : 0 ≤ kz_cl g M ∧ kz_cl g M ≤ M := by
  unfold kz_cl
  by_cases c : g < 0
  · rw [if_pos c]; omega
  · rw [if_neg c]
    by_cases d : M < g
    · rw [if_pos d]; omega
    · rw [if_neg d]; omega
noncomputable def KAsk (x lt : Int32) (fl : Nat → Option Nat) (G : Nat → LC) (fw : Nat → Int32) (h : Nat) (o : Int32) : Prop := (-1 ≤ x.toInt ∧ x.toInt < lt.toInt) ∧ h < 8 ∧ KLs lt fl G fw ∧ KBw fw h o
theorem aF3_0 {w : Nat} (hw : w < 4) : 0 ≤ (aF 3 w).toInt ∧ (aF 3 w).toInt ≤ 999 := by
  rcases (show w = 0 ∨ w = 1 ∨ w = 2 ∨ w = 3 by omega) with rfl | rfl | rfl | rfl <;> decide
theorem RV_ex {w : Nat} (hw : w < 4) (x : Int32) (h : Nat) (o : Int32) (v : Int64) (fw : Nat → Int32) : ∃ R : Int32, R.toInt = RV x w h o v fw ∧ 0 ≤ R.toInt ∧ R.toInt ≤ (aF 3 w).toInt := by
  have q := aF3_0 hw
  have r := kz_rng (g := (E_v_tells x (nI w) (nI h) o v 0 0 0 0 fw (fun _ => 0) (fun _ => 0)).1.toInt) q.1
  refine ⟨nI (RV x w h o v fw).toNat, ?_, ?_⟩
  · rw [nI_toInt (by unfold RV; omega)]
    exact Int.toNat_of_nonneg r.1
  · rw [nI_toInt (by unfold RV; omega)]
    rw [Int.toNat_of_nonneg (by exact r.1)]
    exact r
theorem burnsOf_at {x lt : Int32} {h : Nat} {fl : Nat → Option Nat} {G : Nat → LC} {fw : Nat → Int32} (hA : KAsk x lt fl G fw h (-1)) {R : Int32} (hR : R.toInt = RV x 0 h (-1) 1 fw) (lw bro : Int32) (val sm : Int64) (fe frs : Nat → Int64) : ∃ (lw' bro' : Int32) (val' sm' : Int64) (fe' frs' : Nat → Int64), E_v_burnsOf x (nI h) lw bro val sm fw fe frs = (R, lw', bro', val', sm', fe', frs') := by
  obtain ⟨a1, a2, a3, a4⟩ := hA
  obtain ⟨t, lw', bro', val', sm', fe', frs', e1, _, e2⟩ := ask_v (w := 0) a1 a2 (by omega) (show (1 : Int64).toInt = (aF 2 0).toInt from by decide) a3 a4 lw bro val sm fe frs
  have e1' : E_v_tells x 0 (nI h) (-1) 1 lw bro val sm fw fe frs = (t, lw', bro', val', sm', fe', frs') := e1
  refine ⟨lw', bro', val', sm', fe', frs', ?_⟩
  rw [E_v_burnsOf.eq_def, e1']
  simp only [Lt2, Lt]
  have : E_v_within_20 t = R := Int32.toInt_inj.mp (by rw [wi20, hR, ← e2]; rfl)
  rw [this]
theorem flaresOf_at {x lt : Int32} {h : Nat} {fl : Nat → Option Nat} {G : Nat → LC} {fw : Nat → Int32} (hA : KAsk x lt fl G fw h (-1)) {R : Int32} (hR : R.toInt = RV x 1 h (-1) 4 fw) (lw bro : Int32) (val sm : Int64) (fe frs : Nat → Int64) : ∃ (lw' bro' : Int32) (val' sm' : Int64) (fe' frs' : Nat → Int64), E_v_flaresOf x (nI h) lw bro val sm fw fe frs = (R, lw', bro', val', sm', fe', frs') := by
  obtain ⟨a1, a2, a3, a4⟩ := hA
  obtain ⟨t, lw', bro', val', sm', fe', frs', e1, _, e2⟩ := ask_v (w := 1) a1 a2 (by omega) (show (4 : Int64).toInt = (aF 2 1).toInt from by decide) a3 a4 lw bro val sm fe frs
  have e1' : E_v_tells x 1 (nI h) (-1) 4 lw bro val sm fw fe frs = (t, lw', bro', val', sm', fe', frs') := e1
  refine ⟨lw', bro', val', sm', fe', frs', ?_⟩
  rw [E_v_flaresOf.eq_def, e1']
  simp only [Lt2, Lt]
  have : E_v_within_20 t = R := Int32.toInt_inj.mp (by rw [wi20, hR, ← e2]; rfl)
  rw [this]
theorem isBarred_at {lt : Int32} {h : Nat} {fl : Nat → Option Nat} {G : Nat → LC} {fw : Nat → Int32} (hA : KAsk (fw 3) lt fl G fw h (-1)) {R : Int32} (hR : R.toInt = RV (fw 3) 3 h (-1) 0 fw) (lw bro : Int32) (val sm : Int64) (fe frs : Nat → Int64) : ∃ (lw' bro' : Int32) (val' sm' : Int64) (fe' frs' : Nat → Int64), E_v_isBarred (nI h) lw bro val sm fw fe frs = (R, lw', bro', val', sm', fe', frs') := by
  obtain ⟨a1, a2, a3, a4⟩ := hA
  obtain ⟨t, lw', bro', val', sm', fe', frs', e1, e0, e2⟩ := ask_v (w := 3) a1 a2 (by omega) (show (0 : Int64).toInt = (aF 2 3).toInt from by decide) a3 a4 lw bro val sm fe frs
  have e1' : E_v_tells (fw 3) 3 (nI h) (-1) 0 lw bro val sm fw fe frs = (t, lw', bro', val', sm', fe', frs') := e1
  refine ⟨lw', bro', val', sm', fe', frs', ?_⟩
  have m1 : (aF 3 3).toInt = 1 := by decide
  rw [m1] at e2
  rw [E_v_isBarred.eq_def, Lt_b, show fw (3 : Int32).toNatClampNeg = fw 3 from rfl, e1']
  simp only [Lt2]
  rcases e0 rfl with e0 | e0
  · rw [if_neg (fun q => by have := congrArg Int64.toInt ((lg_cmp_eq _ _).mp q); have z : (1 : Int64).toInt = 1 := rfl; omega)]
    have : R = 0 := Int32.toInt_inj.mp (by rw [hR, ← e2, e0]; decide)
    rw [this]
  · rw [if_pos ((lg_cmp_eq _ _).mpr (Int64.toInt_inj.mp e0))]
    have : R = 1 := Int32.toInt_inj.mp (by rw [hR, ← e2, e0]; decide)
    rw [this]
/-- the class asks: one step -/
theorem ask_k {α : Type} {res : α} {x lt : Int32} {w h : Nat} {o : Int32} {v : Int64} {fl : Nat → Option Nat} {G : Nat → LC} {fw : Nat → Int32} (hA : KAsk x lt fl G fw h o) (hw : w < 4) (hv : v.toInt = (aF 2 w).toInt) {cw : Nat → Int32} (hc : KWo cw fw h o) {br : Int32} {fs : Nat → Int32} {R : Int32} (hR : R.toInt = RV x w h o v fw) {K1 : Int32 → α} {K2 : Int32 → Int32 → (Nat → Int32) → α} (k : res = Oc (E_w_lawAt x lt fl) (Lt (E_w_told_n (nI w) br fs cw) K1) (fun q => Lt2 (E_w_told (G q).1 (G q).2.1 (G q).2.2.1 (G q).2.2.2.1 (G q).2.2.2.2.1 (nI w) br fs cw) (fun r q0 => Lt2 q0 (fun u1 u2 => K2 r u1 u2)))) (hK : ∀ r, K1 r = K2 r br fs) : ∃ br' fs', res = K2 R br' fs' := by
  obtain ⟨a1, a2, a3, a4⟩ := hA
  rcases ask_w a1 a2 hw hv a3 a4 hc hR with ⟨e1, e2⟩ | ⟨a, e1, e2⟩
  · rw [e1] at k
    refine ⟨br, fs, ?_⟩
    have e3 : E_w_told_n (nI w) br fs cw = R := by
      rw [E_w_told_n.eq_def, Lt_b, kn_cl (by omega)]; exact e2
    rw [k]
    show K1 (E_w_told_n (nI w) br fs cw) = _
    rw [e3]; exact hK R
  · rw [e1] at k
    obtain ⟨br', f', e3⟩ := e2 br fs
    refine ⟨br', f', ?_⟩
    rw [k]
    show Lt2 (E_w_told (G a).1 (G a).2.1 (G a).2.2.1 (G a).2.2.2.1 (G a).2.2.2.2.1 (nI w) br fs cw) (fun r q0 => Lt2 q0 (fun u1 u2 => K2 r u1 u2)) = _
    rw [e3]
    rfl
theorem n_mod24 : ∀ a, a < 200 → nI a - nI a / 24 * 24 = nI (a % 24) ∧ nI a / 24 = nI (a / 24) := by decide +kernel
/-- the words that a house is asked with -/
theorem face_at {h z hr : Nat} {y : Int32} {cw f1 f2 : Nat → Int32} (hh : h < 8) (hz : z ≤ 100) (hr2 : hr ≤ 23) (h0 : f2 0 = nI hr) : (E_w_face (nI h) y (nI z) cw f1 f2) 0 = nI h ∧ (E_w_face (nI h) y (nI z) cw f1 f2) 1 = f1 h ∧ (E_w_face (nI h) y (nI z) cw f1 f2) 2 = f1 (8 + h) ∧ (E_w_face (nI h) y (nI z) cw f1 f2) 3 = y ∧ (E_w_face (nI h) y (nI z) cw f1 f2) 4 = f1 (16 + h) ∧ (E_w_face (nI h) y (nI z) cw f1 f2) 5 = nI ((hr + z) % 24) ∧ (E_w_face (nI h) y (nI z) cw f1 f2) 6 = f2 1 + nI ((hr + z) / 24) ∧ (E_w_face (nI h) y (nI z) cw f1 f2) 7 = f2 5 ∧ (E_w_face (nI h) y (nI z) cw f1 f2) 8 = -1 := by
  have hb : 0 ≤ (nI h).toInt ∧ (nI h).toInt < 8 := by rw [nI_toInt (by omega)]; omega
  have ht : (nI h).toInt.toNat = h := by rw [nI_toInt (by omega)]; omega
  have q := n_mod24 (hr + z) (by omega)
  have e : E_w_face (nI h) y (nI z) cw f1 f2 = upd (upd (upd (upd (upd (upd (upd (upd (upd cw 0 (nI h)) 1 (f1 h)) 2 (f1 (8 + h))) 3 y) 4 (f1 (16 + h))) 5 (nI ((hr + z) % 24))) 6 (f2 1 + nI ((hr + z) / 24))) 7 (f2 5)) 8 (-1) := by
    rw [E_w_face.eq_def]
    simp only [Lt]
    rw [show f2 (0 : Int32).toNatClampNeg = nI hr from h0, n_add (by omega), q.1, q.2, fact_at (k := 0) hb rfl (by omega), fact_at (k := 1) hb rfl (by omega), fact_at (k := 2) hb rfl (by omega), ht, show 8 * 0 + h = h by omega]
    rfl
  rw [e]
  exact ⟨rfl, rfl, rfl, rfl, rfl, rfl, rfl, rfl, rfl⟩
/-! the town and the reference's row, whole (what is told of them apart from the score and what was heard) -/
noncomputable def TW (n lt nf fi : Int32) (f1 f2 : Nat → Int32) (fl : Nat → Option Nat) (G : Nat → LC) (fw : Nat → Int32) : Prop :=
  KNow n fi f1 f2 fw ∧ lt = fw 2 ∧ nf = fw 3 ∧ (-1 ≤ nf.toInt ∧ nf.toInt < lt.toInt) ∧ (∀ j, j < 8 → (0 ≤ (fw (35 + j)).toInt ∧ (fw (35 + j)).toInt ≤ 6) ∧ 0 ≤ (fw (43 + j)).toInt ∧ (fw (43 + j)).toInt ≤ 3) ∧ KLs lt fl G fw ∧ (n = fw 0 ∧ 0 ≤ n.toInt ∧ n.toInt ≤ 8) ∧ ∀ j, j < 16 → f1 j = fw (35 + j)
theorem TW.of {n lt nf fi ht ho : Int32} {f1 f2 f3 fw : Nat → Int32} {fl : Nat → Option Nat} {G : Nat → LC} (h : TQ 0 n lt nf fi f1 f2 fl G fw) (r : RF 0 n ht ho f1 f3 fw) (hn : 0 ≤ n.toInt ∧ n.toInt ≤ 8) (hl : 0 ≤ lt.toInt ∧ lt.toInt ≤ 6) : TW n lt nf fi f1 f2 fl G fw := by
  obtain ⟨a, b1, b2, b3, b4, b5⟩ := h
  obtain ⟨r1, r2, r3, r4, r5, r6⟩ := r
  have z : ∀ j, fw (0 + j) = fw j := fun j => congrArg fw (Nat.zero_add j)
  refine ⟨a.ext (fun _ _ => rfl) (fun _ _ => rfl) (fun j _ _ => (z j).symm), by rw [b1, z], by rw [b2, z], b3, fun j hj => ?_, ⟨hl, fun i hi => ?_⟩, ⟨by rw [r1, z], hn⟩, fun j hj => by rw [r3 j hj, z]⟩
  · have q := b4 j hj
    rw [z, z] at q; exact q
  · have q := b5 i hi
    rw [Nat.zero_add] at q; exact q
theorem TW.tq {n lt nf fi : Int32} {f1 f2 fw : Nat → Int32} {fl : Nat → Option Nat} {G : Nat → LC} (h : TW n lt nf fi f1 f2 fl G fw) : TQ 0 n lt nf fi f1 f2 fl G fw := by
  obtain ⟨a, b1, b2, b3, b4, b5, b6, b7⟩ := h
  have z : ∀ j, fw (0 + j) = fw j := fun j => congrArg fw (Nat.zero_add j)
  refine ⟨a.ext (fun _ _ => rfl) (fun _ _ => rfl) (fun j _ _ => z j), by rw [b1, z], by rw [b2, z], b3, fun j hj => by rw [z, z]; exact b4 j hj, fun i hi => ?_⟩
  rw [Nat.zero_add]; exact b5.2 i hi
theorem KLs.ext {lt : Int32} {fl : Nat → Option Nat} {G : Nat → LC} {fw fw' : Nat → Int32} (h : KLs lt fl G fw) (e : ∀ j, 100 ≤ j → j < 5500 → fw' j = fw j) : KLs lt fl G fw' := by
  refine ⟨h.1, fun i hi => ?_⟩
  obtain ⟨a, q1, q2⟩ := h.2 i hi
  have h6 := h.1
  exact ⟨a, q1, q2.ext (fun j hj => e _ (by omega) (by omega))⟩
theorem TW.step {n lt nf fi fi' : Int32} {f1 f2 fw f1' f2' fw' : Nat → Int32} {fl : Nat → Option Nat} {G : Nat → LC} (h : TW n lt nf fi f1 f2 fl G fw) (k : KNow n fi' f1' f2' fw') (e : ∀ j, j < 4 ∨ (35 ≤ j ∧ j < 51) ∨ 100 ≤ j → fw' j = fw j) (e1 : ∀ j, j < 16 → f1' j = f1 j) : TW n lt nf fi' f1' f2' fl G fw' := by
  obtain ⟨a, b1, b2, b3, b4, b5, b6, b7⟩ := h
  refine ⟨k, by rw [e 2 (by omega)]; exact b1, by rw [e 3 (by omega)]; exact b2, b3, fun j hj => by rw [e _ (by omega), e _ (by omega)]; exact b4 j hj, b5.ext (fun j h1 _ => e j (by omega)), ⟨by rw [e 0 (by omega)]; exact b6.1, b6.2⟩, fun j hj => by rw [e1 j hj, e _ (by omega)]; exact b7 j hj⟩
/-- a house that changed alone -/
theorem KNow.one {n fi : Int32} {f1 f2 fw f1' fw' : Nat → Int32} {h : Nat} (k : KNow n fi f1 f2 fw) (hh : h < 8) (hn : (h : Int) < n.toInt) (e1 : ∀ j, j ≠ 16 + h → j ≠ 40 + h → j ≠ 48 + h → f1' j = f1 j) (e2 : ∀ j, j ≠ 11 + h → j ≠ 19 + h → j ≠ 27 + h → fw' j = fw j) (c : f1' (16 + h) = fw' (19 + h) ∧ f1' (40 + h) = fw' (11 + h) ∧ f1' (48 + h) = fw' (27 + h)) (r : (0 ≤ (fw' (11 + h)).toInt ∧ (fw' (11 + h)).toInt ≤ 20) ∧ (0 ≤ (fw' (19 + h)).toInt ∧ (fw' (19 + h)).toInt ≤ 999) ∧ (0 ≤ (fw' (27 + h)).toInt ∧ (fw' (27 + h)).toInt ≤ 9999)) : KNow n fi f1' f2 fw' := by
  obtain ⟨t1, t2, t3, t4, g1, g2, g3, g4, g5, g6, g7, g8⟩ := k
  refine ⟨fun j hj => ?_, ?_, fun j hj => ?_, fun i hi h8 => ⟨?_, ?_⟩, ?_, ?_, ?_, ?_, ?_, ?_, ?_, fun j hj => ?_⟩
  · rw [e2 _ (by omega) (by omega) (by omega)]; exact t1 j hj
  · rw [e2 _ (by omega) (by omega) (by omega)]; exact t2
  · by_cases q : j = h
    · rw [q]; exact ⟨c.2.1, c.1, c.2.2⟩
    · rw [e1 _ (by omega) (by omega) (by omega), e1 _ (by omega) (by omega) (by omega), e1 _ (by omega) (by omega) (by omega), e2 _ (by omega) (by omega) (by omega), e2 _ (by omega) (by omega) (by omega), e2 _ (by omega) (by omega) (by omega)]
      exact t3 j hj
  · rw [e2 _ (by omega) (by omega) (by omega)]; exact (t4 i hi h8).1
  · rw [e2 _ (by omega) (by omega) (by omega)]; exact (t4 i hi h8).2
  · rw [e2 _ (by omega) (by omega) (by omega)]; exact g1
  · rw [e2 _ (by omega) (by omega) (by omega)]; exact g2
  · rw [e2 _ (by omega) (by omega) (by omega)]; exact g3
  · rw [e2 _ (by omega) (by omega) (by omega)]; exact g4
  · rw [e2 _ (by omega) (by omega) (by omega)]; exact g5
  · rw [e2 _ (by omega) (by omega) (by omega)]; exact g6
  · rw [e2 _ (by omega) (by omega) (by omega)]; exact g7
  · by_cases q : j = h
    · rw [q]; exact r
    · rw [e2 _ (by omega) (by omega) (by omega), e2 _ (by omega) (by omega) (by omega), e2 _ (by omega) (by omega) (by omega)]
      exact g8 j hj
theorem KBd_of {v : Int32} {a b : Int} (h : a ≤ v.toInt ∧ v.toInt ≤ b) (ha : -1000000 ≤ a) (hb : b ≤ 1000000) : KBd v := ⟨by omega, by omega⟩
theorem TW.bw {n lt nf fi : Int32} {f1 f2 fw : Nat → Int32} {fl : Nat → Option Nat} {G : Nat → LC} (h : TW n lt nf fi f1 f2 fl G fw) {k : Nat} (hk : k < 8) {o : Int32} (ho : -1 ≤ o.toInt ∧ o.toInt ≤ 6) : KBw fw k o := by
  obtain ⟨⟨_, _, _, _, g1, g2, g3, g4, g5, g6, g7, g8⟩, b1, b2, b3, b4, b5, b6, b7⟩ := h
  exact ⟨KBd_of (b4 k hk).1 (by decide) (by decide), KBd_of (b4 k hk).2 (by decide) (by decide), KBd_of (g8 k hk).1 (by decide) (by decide), KBd_of (g8 k hk).2.1 (by decide) (by decide), KBd_of g1 (by decide) (by decide), KBd_of g2 (by decide) (by decide), KBd_of g6 (by decide) (by decide), KBd_of ho (by decide) (by decide)⟩
theorem TW.ask {n lt nf fi : Int32} {f1 f2 fw : Nat → Int32} {fl : Nat → Option Nat} {G : Nat → LC} (h : TW n lt nf fi f1 f2 fl G fw) {k : Nat} (hk : k < 8) {o : Int32} (ho : -1 ≤ o.toInt ∧ o.toInt ≤ 6) : KAsk (fw 3) lt fl G fw k o :=
  ⟨by rw [← h.2.2.1]; exact h.2.2.2.1, hk, h.2.2.2.2.2.1, h.bw hk ho⟩
theorem m1_rng : -1 ≤ (-1 : Int32).toInt ∧ (-1 : Int32).toInt ≤ 6 := by decide
theorem TW.hour {n lt nf fi : Int32} {f1 f2 fw : Nat → Int32} {fl : Nat → Option Nat} {G : Nat → LC} (h : TW n lt nf fi f1 f2 fl G fw) : ∃ hr : Nat, hr ≤ 23 ∧ fw 4 = nI hr ∧ f2 0 = nI hr := by
  obtain ⟨⟨t1, _, _, _, g1, _⟩, _⟩ := h
  exact ⟨(fw 4).toInt.toNat, by omega, i_ofN rfl g1.1, (t1 0 (by omega)).trans (i_ofN rfl g1.1)⟩
/-- the class's words for a house as it stands now -/
theorem TW.words {n lt nf fi : Int32} {f1 f2 fw cw : Nat → Int32} {fl : Nat → Option Nat} {G : Nat → LC} (h : TW n lt nf fi f1 f2 fl G fw) {k : Nat} (hk : k < 8) : KWo (E_w_face (nI k) (fw (11 + k)) 0 cw f1 f2) fw k (-1) := by
  obtain ⟨hr, r1, r2, r3⟩ := h.hour
  obtain ⟨q0, q1, q2, q3, q4, q5, q6, q7, q8⟩ := face_at (h := k) (z := 0) (hr := hr) (y := fw (11 + k)) (cw := cw) (f1 := f1) (f2 := f2) hk (by omega) r1 r3
  obtain ⟨⟨t1, _, t3, _⟩, _, _, _, _, _, _, b7⟩ := h
  refine ⟨q0, q1.trans (b7 k (by omega)), q2.trans ((b7 _ (by omega)).trans (congrArg fw (by omega))), q3, q4.trans (t3 k hk).2.1, q5.trans ?_, q6.trans ?_, q7.trans (t1 5 (by omega)), q8⟩
  · rw [r2, show (hr + 0) % 24 = hr by omega]
  · rw [show (hr + 0) / 24 = 0 by omega, t1 1 (by omega)]
    exact Int32.toInt_inj.mp (by rw [i_add rfl (show (nI 0).toInt = 0 from rfl) (by have := i_rng (Eq.refl (fw (4 + 1)).toInt); omega), Int.add_zero])
theorem put5_at {x z : Int32} {f : Nat → Int32} (hx : 0 ≤ x.toInt ∧ x.toInt < 8) : E_w_put_5 x z f = upd f (40 + x.toInt.toNat) z := by
  have z0 : (0 : Int32).toInt = 0 := rfl
  have z7 : (7 : Int32).toInt = 7 := rfl
  rw [E_w_put_5.eq_def, Lt_b, ifw_p (by omega), Lt_b, ifw_p (by decide), Lt_b, Lt_b, add_c (k := 40) rfl (by omega) (by omega)]
theorem put6_at {x z : Int32} {f : Nat → Int32} (hx : 0 ≤ x.toInt ∧ x.toInt < 8) : E_w_put_6 x z f = upd f (48 + x.toInt.toNat) z := by
  have z0 : (0 : Int32).toInt = 0 := rfl
  have z7 : (7 : Int32).toInt = 7 := rfl
  rw [E_w_put_6.eq_def, Lt_b, ifw_p (by omega), Lt_b, ifw_p (by decide), Lt_b, Lt_b, add_c (k := 48) rfl (by omega) (by omega)]
theorem has_p {x n : Int32} (h : 0 ≤ x.toInt ∧ x.toInt < n.toInt) : E_w_has x n = 1 := by
  have z0 : (0 : Int32).toInt = 0 := rfl
  rw [E_w_has.eq_def, if_neg (fun q => by have := il_iff.mp q; omega), if_neg (fun q => by have := ie_iff.mp q; omega)]
theorem has_n {x n : Int32} (h : ¬ (0 ≤ x.toInt ∧ x.toInt < n.toInt)) : E_w_has x n = 0 := by
  have z0 : (0 : Int32).toInt = 0 := rfl
  rw [E_w_has.eq_def]
  by_cases c : x < 0
  · rw [if_pos c]
  · have c2 : ¬ x.toInt < (0 : Int32).toInt := fun q => c (il_iff.mpr q)
    rw [if_neg c, if_pos (ie_iff.mpr (by omega))]
theorem isHouse_at {x n : Int32} {fw : Nat → Int32} (hn : n = fw 0 ∧ 0 ≤ n.toInt ∧ n.toInt ≤ 8) : E_v_isHouse x fw = E_w_has x n := by
  have z0 : (0 : Int64).toInt = 0 := rfl
  have z1 : ((fw 0).toInt64 - 1).toInt = n.toInt - 1 := by
    rw [← hn.1, l_sub (show n.toInt64.toInt = n.toInt from wide_at) (show (1 : Int64).toInt = 1 from rfl) (by omega)]
  rw [E_v_isHouse.eq_def, Lt_b, Lt_b, Lt_b, Lt_b, Lt_b, show fw (0 : Int32).toNatClampNeg = fw 0 from rfl]
  by_cases c : 0 ≤ x.toInt ∧ x.toInt < n.toInt
  · rw [has_p c, if_pos (in_p (by rw [z1]; omega))]
  · rw [has_n c, if_neg (by rw [in_n (by rw [z1]; omega)]; decide)]
