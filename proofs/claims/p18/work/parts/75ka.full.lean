/-! a law is asked, on both sides -/
noncomputable def KWo (cw fw : Nat → Int32) (h : Nat) (o : Int32) : Prop := cw 0 = nI h ∧ cw 1 = fw (35 + h) ∧ cw 2 = fw (43 + h) ∧ cw 3 = fw (11 + h) ∧ cw 4 = fw (19 + h) ∧ cw 5 = fw 4 ∧ cw 6 = fw 5 ∧ cw 7 = fw 9 ∧ cw 8 = o
noncomputable def KBd (v : Int32) : Prop := -1000000000 ≤ v.toInt ∧ v.toInt ≤ 1000000000
noncomputable def KBw (fw : Nat → Int32) (h : Nat) (o : Int32) : Prop := KBd (fw (35 + h)) ∧ KBd (fw (43 + h)) ∧ KBd (fw (11 + h)) ∧ KBd (fw (19 + h)) ∧ KBd (fw 4) ∧ KBd (fw 5) ∧ KBd (fw 9) ∧ KBd o
noncomputable def KLs (lt : Int32) (fl : Nat → Option Nat) (G : Nat → LC) (fw : Nat → Int32) : Prop := (0 ≤ lt.toInt ∧ lt.toInt ≤ 6) ∧ ∀ i : Nat, (i : Int) < lt.toInt → ∃ a, fl i = some a ∧ KLaw (G a) (ktx fw (100 + 900 * i))
theorem n_900 {k : Nat} (h : k < 100) : (900 : Int32) * nI k = nI (900 * k) := Int32.toInt_inj.mp (by
  rw [i_mul (show (900 : Int32).toInt = 900 from rfl) (nI_toInt (by omega)) (by omega), nI_toInt (by omega)]; omega)
theorem tells_at {x h : Nat} (hx : x < 6) (hh : h < 8) {w o lw bro : Int32} {v val sm : Int64} {fw : Nat → Int32} {fe frs : Nat → Int64} : ∃ fe' : Nat → Int64, (fe' 1 = (nI h).toInt64 ∧ fe' 2 = (fw (35 + h)).toInt64 ∧ fe' 3 = (fw (43 + h)).toInt64 ∧ fe' 4 = (fw (11 + h)).toInt64 ∧ fe' 5 = (fw (19 + h)).toInt64 ∧ fe' 6 = (fw 4).toInt64 ∧ fe' 7 = (fw 5).toInt64 ∧ fe' 8 = (fw 9).toInt64 ∧ fe' 9 = o.toInt64) ∧ E_v_tells (nI x) w (nI h) o v lw bro val sm fw fe frs = Lp (α := KTR) (E_v_tells_l148 w fw (nI (100 + 900 * x)) fe') (fun _ _ _ _ _ _ => ((0, 0, 0, 0, 0, fun _ => 0, fun _ => 0) : Int64 × Int32 × Int32 × Int64 × Int64 × (Nat → Int64) × (Nat → Int64))) 14 0 v bro val sm frs := by
  refine ⟨vp_updL (vp_updL (vp_updL (vp_updL (vp_updL (vp_updL (vp_updL (vp_updL (vp_updL fe 1 (nI h).toInt64) 2 (fw (35 + h)).toInt64) 3 (fw (43 + h)).toInt64) 4 (fw (11 + h)).toInt64) 5 (fw (19 + h)).toInt64) 6 (fw 4).toInt64) 7 (fw 5).toInt64) 8 (fw 9).toInt64) 9 o.toInt64, ⟨rfl, rfl, rfl, rfl, rfl, rfl, rfl, rfl, rfl⟩, ?_⟩
  rw [E_v_tells.eq_def, if_neg (fun q => by have := congrArg Int32.toInt q; rw [nI_toInt (by omega)] at this; have z : (-1 : Int32).toInt = -1 := rfl; omega)]
  rw [Lt_b, Lt_b, Lt_b, Lt_b, Lt_b, Lt_b, Lt_b, Lt_b, Lt_b, Lt_b, Lt_b, Lt_b, Lt_b, Lt_b, Lt_b, Lt_b, Lt_b, Lt_b, Lt_b, Lt_b, Lt_b, Lt_b, Lt_b, Lt_b, Lt_b, Lt_b, Lt_b, Lt_b, Lt_b, Lt_b, Lt_b]
  rw [n_900 (by omega), n_ladd (m := 100) rfl (by omega), n_ladd (m := 35) rfl (by omega), n_ladd (m := 43) rfl (by omega), n_ladd (m := 11) rfl (by omega), n_ladd (m := 19) rfl (by omega), kn_cl (by omega), kn_cl (by omega), kn_cl (by omega), kn_cl (by omega)]
  rfl
theorem KWo.wd {cw fw : Nat → Int32} {h : Nat} {o : Int32} {fe : Nat → Int64} (k : KWo cw fw h o) (hh : h < 8) (hb : KBw fw h o) (e : fe 1 = (nI h).toInt64 ∧ fe 2 = (fw (35 + h)).toInt64 ∧ fe 3 = (fw (43 + h)).toInt64 ∧ fe 4 = (fw (11 + h)).toInt64 ∧ fe 5 = (fw (19 + h)).toInt64 ∧ fe 6 = (fw 4).toInt64 ∧ fe 7 = (fw 5).toInt64 ∧ fe 8 = (fw 9).toInt64 ∧ fe 9 = o.toInt64) : KWd cw fe := by
  obtain ⟨c0, c1, c2, c3, c4, c5, c6, c7, c8⟩ := k
  obtain ⟨e1, e2, e3, e4, e5, e6, e7, e8, e9⟩ := e
  obtain ⟨b1, b2, b3, b4, b5, b6, b7, b8⟩ := hb
  have g : ∀ {a b : Int32} {c : Int64}, a = b → c = b.toInt64 → KBd b → c.toInt = a.toInt ∧ -1000000000 ≤ a.toInt ∧ a.toInt ≤ 1000000000 := fun q1 q2 q3 => ⟨by rw [q2, q1]; exact wide_at, by rw [q1]; exact q3.1, by rw [q1]; exact q3.2⟩
  intro j hj
  rcases (show j = 0 ∨ j = 1 ∨ j = 2 ∨ j = 3 ∨ j = 4 ∨ j = 5 ∨ j = 6 ∨ j = 7 ∨ j = 8 by omega) with rfl | rfl | rfl | rfl | rfl | rfl | rfl | rfl | rfl
  · exact g c0 e1 ⟨by rw [nI_toInt (by omega)]; omega, by rw [nI_toInt (by omega)]; omega⟩
  · exact g c1 e2 b1
  · exact g c2 e3 b2
  · exact g c3 e4 b3
  · exact g c4 e5 b4
  · exact g c5 e6 b5
  · exact g c6 e7 b6
  · exact g c7 e8 b7
  · exact g c8 e9 b8
/-- what the reference tells (scratch aside), within its bounds -/
noncomputable def RV (x : Int32) (w h : Nat) (o : Int32) (v : Int64) (fw : Nat → Int32) : Int := kz_cl (E_v_tells x (nI w) (nI h) o v 0 0 0 0 fw (fun _ => 0) (fun _ => 0)).1.toInt (aF 3 w).toInt
theorem kz_dflt {w : Nat} (hw : w < 4) {v : Int64} (hv : v.toInt = (aF 2 w).toInt) : kz_cl v.toInt (aF 3 w).toInt = (aF 2 w).toInt := by
  rw [hv]
  rcases (show w = 0 ∨ w = 1 ∨ w = 2 ∨ w = 3 by omega) with rfl | rfl | rfl | rfl <;> decide
/-- one asking, both sides -/
theorem ask_0 {x w h : Nat} {o : Int32} {v : Int64} {fw : Nat → Int32} {c : LC} (hx : x < 6) (hh : h < 8) (hw : w < 4) (hv : v.toInt = (aF 2 w).toInt) (hL : KLaw c (ktx fw (100 + 900 * x))) (hb : KBw fw h o) {cw : Nat → Int32} (hc : KWo cw fw h o) (lw bro : Int32) (val sm : Int64) (fe frs : Nat → Int64) :
    ∃ (t : Int64) (lw' bro' : Int32) (val' sm' : Int64) (fe' frs' : Nat → Int64), E_v_tells (nI x) (nI w) (nI h) o v lw bro val sm fw fe frs = (t, lw', bro', val', sm', fe', frs') ∧ (w = 3 → t.toInt = 0 ∨ t.toInt = 1) ∧ ∀ br fs, ∃ r br' f', E_w_told c.1 c.2.1 c.2.2.1 c.2.2.2.1 c.2.2.2.2.1 (nI w) br fs cw = (r, br', f') ∧ r.toInt = kz_cl t.toInt (aF 3 w).toInt := by
  obtain ⟨fe', e1, e2⟩ := tells_at hx hh (w := nI w) (o := o) (lw := lw) (bro := bro) (v := v) (val := val) (sm := sm) (fw := fw) (fe := fe) (frs := frs)
  rcases told_at hL hw (show 100 + 900 * x ≤ 100000 by omega) (hc.wd hh hb e1) (fun _ _ _ _ _ _ => ((0, 0, 0, 0, 0, fun _ => 0, fun _ => 0) : Int64 × Int32 × Int32 × Int64 × Int64 × (Nat → Int64) × (Nat → Int64))) with ⟨d1, d2⟩ | ⟨g, d0, d1, d2⟩
  · obtain ⟨br', vl', sm', f', q⟩ := d2 v bro val sm frs
    refine ⟨v, _, br', vl', sm', fe', f', e2.trans q, fun q3 => ?_, fun br fs => ?_⟩
    · subst q3; exact Or.inl hv
    · obtain ⟨b1, f1, q1⟩ := d1 br fs
      exact ⟨_, b1, f1, q1, (kz_dflt hw hv).symm⟩
  · obtain ⟨t, br', vl', sm', f', q, q2⟩ := d2 v bro val sm frs
    refine ⟨t, _, br', vl', sm', fe', f', e2.trans q, fun q3 => Or.inr (q2.trans (d0 q3)), fun br fs => ?_⟩
    obtain ⟨r, b1, f1, q1, q3⟩ := d1 br fs
    exact ⟨r, b1, f1, q1, by rw [q2]; exact q3⟩
noncomputable def cwo (fw : Nat → Int32) (h : Nat) (o : Int32) : Nat → Int32 := fun j => if j = 0 then nI h else if j = 1 then fw (35 + h) else if j = 2 then fw (43 + h) else if j = 3 then fw (11 + h) else if j = 4 then fw (19 + h) else if j = 5 then fw 4 else if j = 6 then fw 5 else if j = 7 then fw 9 else o
theorem cwo_at {fw : Nat → Int32} {h : Nat} {o : Int32} : KWo (cwo fw h o) fw h o := ⟨rfl, rfl, rfl, rfl, rfl, rfl, rfl, rfl, rfl⟩
theorem lawAt_n {x lt : Int32} {fl : Nat → Option Nat} (hx : x.toInt = -1) : E_w_lawAt x lt fl = none := by
  rw [E_w_lawAt.eq_def, Lt_b, Lt_b, ifw_n (by have z : (0 : Int32).toInt = 0 := rfl; omega)]
theorem lawAt_p {k : Nat} {lt : Int32} {fl : Nat → Option Nat} (hl : 0 ≤ lt.toInt ∧ lt.toInt ≤ 6) (hx : (k : Int) < lt.toInt) : E_w_lawAt (nI k) lt fl = fl k := by
  have z : (lt - 1).toInt = lt.toInt - 1 := i_sub rfl (show (1 : Int32).toInt = 1 from rfl) (by omega)
  have z0 : (0 : Int32).toInt = 0 := rfl
  rw [E_w_lawAt.eq_def, Lt_b, Lt_b, ifw_p (by rw [z, nI_toInt (by omega)]; omega), Lt_b, kn_cl (by omega)]
/-- THE CLASS ASKS: nothing or a law, the same as the reference tells -/
theorem ask_w {x lt : Int32} {w h : Nat} {o : Int32} {v : Int64} {fl : Nat → Option Nat} {G : Nat → LC} {fw : Nat → Int32} (hx : -1 ≤ x.toInt ∧ x.toInt < lt.toInt) (hh : h < 8) (hw : w < 4) (hv : v.toInt = (aF 2 w).toInt) (hL : KLs lt fl G fw) (hb : KBw fw h o) {cw : Nat → Int32} (hc : KWo cw fw h o) {R : Int32} (hR : R.toInt = RV x w h o v fw) :
    (E_w_lawAt x lt fl = none ∧ aF 2 w = R) ∨ ∃ a, E_w_lawAt x lt fl = some a ∧ ∀ br fs, ∃ br' f', E_w_told (G a).1 (G a).2.1 (G a).2.2.1 (G a).2.2.2.1 (G a).2.2.2.2.1 (nI w) br fs cw = (R, br', f') := by
  by_cases c : x.toInt = -1
  · refine Or.inl ⟨lawAt_n c, ?_⟩
    have xe : x = -1 := i_lit c rfl
    subst xe
    refine Int32.toInt_inj.mp ?_
    rw [hR]
    unfold RV
    rw [E_v_tells.eq_def, if_pos rfl]
    exact (kz_dflt hw hv).symm
  · obtain ⟨k, hk, hz⟩ : ∃ k : Nat, x = nI k ∧ (k : Int) = x.toInt := ⟨x.toInt.toNat, i_ofN rfl (by omega), by omega⟩
    subst hk
    have h6 := hL.1
    obtain ⟨a, q1, q2⟩ := hL.2 k (by omega)
    refine Or.inr ⟨a, (lawAt_p hL.1 (by omega)).trans q1, fun br fs => ?_⟩
    obtain ⟨t, lw', bro', val', sm', fe', frs', e1, _, e2⟩ := ask_0 (show k < 6 by omega) hh hw hv q2 hb hc 0 0 0 0 (fun _ => 0) (fun _ => 0)
    obtain ⟨r, br', f', e3, e4⟩ := e2 br fs
    refine ⟨br', f', ?_⟩
    rw [e3]
    have : r = R := Int32.toInt_inj.mp (by rw [e4, hR]; unfold RV; rw [e1])
    rw [this]
/-- THE REFERENCE TELLS, whatever its scratch -/
theorem ask_v {x lt : Int32} {w h : Nat} {o : Int32} {v : Int64} {fl : Nat → Option Nat} {G : Nat → LC} {fw : Nat → Int32} (hx : -1 ≤ x.toInt ∧ x.toInt < lt.toInt) (hh : h < 8) (hw : w < 4) (hv : v.toInt = (aF 2 w).toInt) (hL : KLs lt fl G fw) (hb : KBw fw h o) (lw bro : Int32) (val sm : Int64) (fe frs : Nat → Int64) :
    ∃ (t : Int64) (lw' bro' : Int32) (val' sm' : Int64) (fe' frs' : Nat → Int64), E_v_tells x (nI w) (nI h) o v lw bro val sm fw fe frs = (t, lw', bro', val', sm', fe', frs') ∧ (w = 3 → t.toInt = 0 ∨ t.toInt = 1) ∧ kz_cl t.toInt (aF 3 w).toInt = RV x w h o v fw := by
  by_cases c : x.toInt = -1
  · have xe : x = -1 := i_lit c rfl
    subst xe
    refine ⟨v, lw, bro, val, sm, fe, frs, by rw [E_v_tells.eq_def, if_pos rfl], fun q => ?_, ?_⟩
    · subst q; exact Or.inl hv
    · unfold RV
      rw [E_v_tells.eq_def, if_pos rfl]
  · obtain ⟨k, hk, hz⟩ : ∃ k : Nat, x = nI k ∧ (k : Int) = x.toInt := ⟨x.toInt.toNat, i_ofN rfl (by omega), by omega⟩
    subst hk
    have h6 := hL.1
    obtain ⟨a, q1, q2⟩ := hL.2 k (by omega)
    obtain ⟨t, lw', bro', val', sm', fe', frs', e1, e0, e2⟩ := ask_0 (show k < 6 by omega) hh hw hv q2 hb cwo_at lw bro val sm fe frs
    obtain ⟨t2, lw2, bro2, val2, sm2, fe2, frs2, e3, _, e4⟩ := ask_0 (show k < 6 by omega) hh hw hv q2 hb cwo_at 0 0 0 0 (fun _ => 0) (fun _ => 0)
    obtain ⟨r, br', f', e5, e6⟩ := e2 0 (fun _ => 0)
    obtain ⟨r2, br2, f2, e7, e8⟩ := e4 0 (fun _ => 0)
    refine ⟨t, lw', bro', val', sm', fe', frs', e1, e0, ?_⟩
    have er : r = r2 := (Prod.mk.inj (e5.symm.trans e7)).1
    unfold RV
    rw [e3, ← e6, er, e8]
