/-! bounds, and what is asked by name -/
theorem wi_gen {M : Int64} {m : Int32} {k : Int} (hM : M.toInt = k) (hm : m.toInt = k) (hk : 0 ≤ k ∧ k ≤ 2000000000) (x : Int64) : (if 0 ≤ lg_cmp x 0 then (if lg_cmp x M ≤ 0 then x.toInt32 else m) else (0 : Int32)).toInt = kz_cl x.toInt k := by
  have z0 : (0 : Int64).toInt = 0 := rfl
  unfold kz_cl
  by_cases c : 0 ≤ lg_cmp x 0
  · have c1 := je_iff.mp ((lg_cmp_ge _ _).mp c)
    by_cases d : lg_cmp x M ≤ 0
    · have d1 := je_iff.mp ((lg_cmp_le _ _).mp d)
      rw [if_pos c, if_pos d, if_neg (show ¬ x.toInt < 0 by omega), if_neg (show ¬ k < x.toInt by omega)]
      exact l_nar (Eq.refl x.toInt) (by omega)
    · have d1 : ¬ x.toInt ≤ M.toInt := fun q => d ((lg_cmp_le _ _).mpr (je_iff.mpr q))
      rw [if_pos c, if_neg d, if_neg (show ¬ x.toInt < 0 by omega), if_pos (show k < x.toInt by omega)]; exact hm
  · have c1 : ¬ (0 : Int64).toInt ≤ x.toInt := fun q => c ((lg_cmp_ge _ _).mpr (je_iff.mpr q))
    rw [if_neg c, if_pos (show x.toInt < 0 by omega)]; rfl
theorem wi20 (t : Int64) : (E_v_within_20 t).toInt = kz_cl t.toInt 20 := wi_gen (M := 20) (m := 20) rfl rfl (by decide) t
theorem wi999 (t : Int64) : (E_v_within_999 t).toInt = kz_cl t.toInt 999 := wi_gen (M := 999) (m := 999) rfl rfl (by decide) t
theorem wi9999 (t : Int64) : (E_v_within_9999 t).toInt = kz_cl t.toInt 9999 := wi_gen (M := 9999) (m := 9999) rfl rfl (by decide) t
theorem wi99999 (t : Int64) : (E_v_within_99999 t).toInt = kz_cl t.toInt 99999 := wi_gen (M := 99999) (m := 99999) rfl rfl (by decide) t
theorem kz_id {g M : Int} (h : 0 ≤ g ∧ g ≤ M) : kz_cl g M = g := by
  unfold kz_cl; rw [if_neg (by omega), if_neg (by omega)]
theorem kz_rng {g M : Int} (h : 0 ≤ M) : 0 ≤ kz_cl g M ∧ kz_cl g M ≤ M := by
  unfold kz_cl
  by_cases c : g < 0
  · rw [if_pos c]; omega
  · rw [if_neg c]
    by_cases d : M < g
    · rw [if_pos d]; omega
    · rw [if_neg d]; omega
noncomputable def KAsk (x lt : Int32) (fl : Nat → Option Nat) (G : Nat → LC) (fw : Nat → Int32) (h : Nat) (o : Int32) : Prop := (-1 ≤ x.toInt ∧ x.toInt < lt.toInt) ∧ h < 8 ∧ KLs lt fl G fw ∧ KBw fw h o
theorem aF3_0 {w : Nat} (hw : w < 4) : 0 ≤ (aF 3 w).toInt ∧ (aF 3 w).toInt ≤ 999 := by
  rcases (show w = 0 ∨ w = 1 ∨ w = 2 ∨ w = 3 by omega) with rfl | rfl | rfl | rfl <;> decide
theorem RV_ex {w : Nat} (hw : w < 4) (x : Int32) (h : Nat) (o : Int32) (v : Int64) (fw : Nat → Int32) : ∃ R : Int32, R.toInt = RV x w h o v fw ∧ 0 ≤ R.toInt ∧ R.toInt ≤ (aF 3 w).toInt := by
  have q := aF3_0 hw
  have r := kz_rng (g := (E_v_tells x (nI w) (nI h) o v 0 0 0 0 fw (fun _ => 0) (fun _ => 0)).1.toInt) q.1
  refine ⟨nI (RV x w h o v fw).toNat, ?_, ?_⟩
  · rw [nI_toInt (by unfold RV; omega)]
    exact Int.toNat_of_nonneg r.1
  · rw [nI_toInt (by unfold RV; omega)]
    rw [Int.toNat_of_nonneg (by exact r.1)]
    exact r
theorem burnsOf_at {x lt : Int32} {h : Nat} {fl : Nat → Option Nat} {G : Nat → LC} {fw : Nat → Int32} (hA : KAsk x lt fl G fw h (-1)) {R : Int32} (hR : R.toInt = RV x 0 h (-1) 1 fw) (lw bro : Int32) (val sm : Int64) (fe frs : Nat → Int64) : ∃ (lw' bro' : Int32) (val' sm' : Int64) (fe' frs' : Nat → Int64), E_v_burnsOf x (nI h) lw bro val sm fw fe frs = (R, lw', bro', val', sm', fe', frs') := by
  obtain ⟨a1, a2, a3, a4⟩ := hA
  obtain ⟨t, lw', bro', val', sm', fe', frs', e1, _, e2⟩ := ask_v (w := 0) a1 a2 (by omega) (show (1 : Int64).toInt = (aF 2 0).toInt from by decide) a3 a4 lw bro val sm fe frs
  have e1' : E_v_tells x 0 (nI h) (-1) 1 lw bro val sm fw fe frs = (t, lw', bro', val', sm', fe', frs') := e1
  refine ⟨lw', bro', val', sm', fe', frs', ?_⟩
  rw [E_v_burnsOf.eq_def, e1']
  simp only [Lt2, Lt]
  have : E_v_within_20 t = R := Int32.toInt_inj.mp (by rw [wi20, hR, ← e2]; rfl)
  rw [this]
theorem flaresOf_at {x lt : Int32} {h : Nat} {fl : Nat → Option Nat} {G : Nat → LC} {fw : Nat → Int32} (hA : KAsk x lt fl G fw h (-1)) {R : Int32} (hR : R.toInt = RV x 1 h (-1) 4 fw) (lw bro : Int32) (val sm : Int64) (fe frs : Nat → Int64) : ∃ (lw' bro' : Int32) (val' sm' : Int64) (fe' frs' : Nat → Int64), E_v_flaresOf x (nI h) lw bro val sm fw fe frs = (R, lw', bro', val', sm', fe', frs') := by
  obtain ⟨a1, a2, a3, a4⟩ := hA
  obtain ⟨t, lw', bro', val', sm', fe', frs', e1, _, e2⟩ := ask_v (w := 1) a1 a2 (by omega) (show (4 : Int64).toInt = (aF 2 1).toInt from by decide) a3 a4 lw bro val sm fe frs
  have e1' : E_v_tells x 1 (nI h) (-1) 4 lw bro val sm fw fe frs = (t, lw', bro', val', sm', fe', frs') := e1
  refine ⟨lw', bro', val', sm', fe', frs', ?_⟩
  rw [E_v_flaresOf.eq_def, e1']
  simp only [Lt2, Lt]
  have : E_v_within_20 t = R := Int32.toInt_inj.mp (by rw [wi20, hR, ← e2]; rfl)
  rw [this]
theorem isBarred_at {lt : Int32} {h : Nat} {fl : Nat → Option Nat} {G : Nat → LC} {fw : Nat → Int32} (hA : KAsk (fw 3) lt fl G fw h (-1)) {R : Int32} (hR : R.toInt = RV (fw 3) 3 h (-1) 0 fw) (lw bro : Int32) (val sm : Int64) (fe frs : Nat → Int64) : ∃ (lw' bro' : Int32) (val' sm' : Int64) (fe' frs' : Nat → Int64), E_v_isBarred (nI h) lw bro val sm fw fe frs = (R, lw', bro', val', sm', fe', frs') := by
  obtain ⟨a1, a2, a3, a4⟩ := hA
  obtain ⟨t, lw', bro', val', sm', fe', frs', e1, e0, e2⟩ := ask_v (w := 3) a1 a2 (by omega) (show (0 : Int64).toInt = (aF 2 3).toInt from by decide) a3 a4 lw bro val sm fe frs
  have e1' : E_v_tells (fw 3) 3 (nI h) (-1) 0 lw bro val sm fw fe frs = (t, lw', bro', val', sm', fe', frs') := e1
  refine ⟨lw', bro', val', sm', fe', frs', ?_⟩
  have m1 : (aF 3 3).toInt = 1 := by decide
  rw [m1] at e2
  rw [E_v_isBarred.eq_def, Lt_b, show fw (3 : Int32).toNatClampNeg = fw 3 from rfl, e1']
  simp only [Lt2]
  rcases e0 rfl with e0 | e0
  · rw [if_neg (fun q => by have := congrArg Int64.toInt ((lg_cmp_eq _ _).mp q); have z : (1 : Int64).toInt = 1 := rfl; omega)]
    have : R = 0 := Int32.toInt_inj.mp (by rw [hR, ← e2, e0]; decide)
    rw [this]
  · rw [if_pos ((lg_cmp_eq _ _).mpr (Int64.toInt_inj.mp e0))]
    have : R = 1 := Int32.toInt_inj.mp (by rw [hR, ← e2, e0]; decide)
    rw [this]
/-- the class asks: one step -/
theorem ask_k {α : Type} {res : α} {x lt : Int32} {w h : Nat} {o : Int32} {v : Int64} {fl : Nat → Option Nat} {G : Nat → LC} {fw : Nat → Int32} (hA : KAsk x lt fl G fw h o) (hw : w < 4) (hv : v.toInt = (aF 2 w).toInt) {cw : Nat → Int32} (hc : KWo cw fw h o) {br : Int32} {fs : Nat → Int32} {R : Int32} (hR : R.toInt = RV x w h o v fw) {K1 : Int32 → α} {K2 : Int32 → Int32 → (Nat → Int32) → α} (k : res = Oc (E_w_lawAt x lt fl) (Lt (E_w_told_n (nI w) br fs cw) K1) (fun q => Lt2 (E_w_told (G q).1 (G q).2.1 (G q).2.2.1 (G q).2.2.2.1 (G q).2.2.2.2.1 (nI w) br fs cw) (fun r q0 => Lt2 q0 (fun u1 u2 => K2 r u1 u2)))) (hK : ∀ r, K1 r = K2 r br fs) : ∃ br' fs', res = K2 R br' fs' := by
  obtain ⟨a1, a2, a3, a4⟩ := hA
  rcases ask_w a1 a2 hw hv a3 a4 hc hR with ⟨e1, e2⟩ | ⟨a, e1, e2⟩
  · rw [e1] at k
    refine ⟨br, fs, ?_⟩
    have e3 : E_w_told_n (nI w) br fs cw = R := by
      rw [E_w_told_n.eq_def, Lt_b, kn_cl (by omega)]; exact e2
    rw [k]
    show K1 (E_w_told_n (nI w) br fs cw) = _
    rw [e3]; exact hK R
  · rw [e1] at k
    obtain ⟨br', f', e3⟩ := e2 br fs
    refine ⟨br', f', ?_⟩
    rw [k]
    show Lt2 (E_w_told (G a).1 (G a).2.1 (G a).2.2.1 (G a).2.2.2.1 (G a).2.2.2.2.1 (nI w) br fs cw) (fun r q0 => Lt2 q0 (fun u1 u2 => K2 r u1 u2)) = _
    rw [e3]
    rfl
theorem n_mod24 : ∀ a, a < 200 → nI a - nI a / 24 * 24 = nI (a % 24) ∧ nI a / 24 = nI (a / 24) := by decide +kernel
/-- the words that a house is asked with -/
theorem face_at {h z hr : Nat} {y : Int32} {cw f1 f2 : Nat → Int32} (hh : h < 8) (hz : z ≤ 100) (hr2 : hr ≤ 23) (h0 : f2 0 = nI hr) : (E_w_face (nI h) y (nI z) cw f1 f2) 0 = nI h ∧ (E_w_face (nI h) y (nI z) cw f1 f2) 1 = f1 h ∧ (E_w_face (nI h) y (nI z) cw f1 f2) 2 = f1 (8 + h) ∧ (E_w_face (nI h) y (nI z) cw f1 f2) 3 = y ∧ (E_w_face (nI h) y (nI z) cw f1 f2) 4 = f1 (16 + h) ∧ (E_w_face (nI h) y (nI z) cw f1 f2) 5 = nI ((hr + z) % 24) ∧ (E_w_face (nI h) y (nI z) cw f1 f2) 6 = f2 1 + nI ((hr + z) / 24) ∧ (E_w_face (nI h) y (nI z) cw f1 f2) 7 = f2 5 ∧ (E_w_face (nI h) y (nI z) cw f1 f2) 8 = -1 := by
  have hb : 0 ≤ (nI h).toInt ∧ (nI h).toInt < 8 := by rw [nI_toInt (by omega)]; omega
  have ht : (nI h).toInt.toNat = h := by rw [nI_toInt (by omega)]; omega
  have q := n_mod24 (hr + z) (by omega)
  have e : E_w_face (nI h) y (nI z) cw f1 f2 = upd (upd (upd (upd (upd (upd (upd (upd (upd cw 0 (nI h)) 1 (f1 h)) 2 (f1 (8 + h))) 3 y) 4 (f1 (16 + h))) 5 (nI ((hr + z) % 24))) 6 (f2 1 + nI ((hr + z) / 24))) 7 (f2 5)) 8 (-1) := by
    rw [E_w_face.eq_def]
    simp only [Lt]
    rw [show f2 (0 : Int32).toNatClampNeg = nI hr from h0, n_add (by omega), q.1, q.2, fact_at (k := 0) hb rfl (by omega), fact_at (k := 1) hb rfl (by omega), fact_at (k := 2) hb rfl (by omega), ht, show 8 * 0 + h = h by omega]
    rfl
  rw [e]
  exact ⟨rfl, rfl, rfl, rfl, rfl, rfl, rfl, rfl, rfl⟩
