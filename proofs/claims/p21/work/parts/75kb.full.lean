section
/-! bounds, and what is asked by name -/
theorem wi_gen {M : Int64} {m : Int32} {k : Int} (hM : M.toInt = k) (hm : m.toInt = k) (hk : 0 ≤ k ∧ k ≤ 2000000000) (x : Int64) : (if 0 ≤ lg_cmp x 0 then (if lg_cmp x M ≤ 0 then x.toInt32 else m) else (0 : Int32)).toInt = kz_cl x.toInt k := by
  have z0 : (0 : Int64).toInt = 0 := rfl
  unfold kz_cl
  by_cases c : 0 ≤ lg_cmp x 0
  · have c1 := je_iff.mp ((lg_cmp_ge _ _).mp c)
    by_cases d : lg_cmp x M ≤ 0
    · have d1 := je_iff.mp ((lg_cmp_le _ _).mp d)
      rw [if_pos c, if_pos d, if_neg (show ¬ x.toInt < 0 by omega), if_neg (show ¬ k < x.toInt by omega)]
      exact l_nar (Eq.refl x.toInt) (by omega)
    · have d1 : ¬ x.toInt ≤ M.toInt := fun q => d ((lg_cmp_le _ _).mpr (je_iff.mpr q))
      rw [if_pos c, if_neg d, if_neg (show ¬ x.toInt < 0 by omega), if_pos (show k < x.toInt by omega)]; exact hm
  · have c1 : ¬ (0 : Int64).toInt ≤ x.toInt := fun q => c ((lg_cmp_ge _ _).mpr (je_iff.mpr q))
    rw [if_neg c, if_pos (show x.toInt < 0 by omega)]; rfl
theorem wi20 (t : Int64) : (E_v_within_20 t).toInt = kz_cl t.toInt 20 := wi_gen (M := 20) (m := 20) rfl rfl (by decide) t
theorem wi999 (t : Int64) : (E_v_within_999 t).toInt = kz_cl t.toInt 999 := wi_gen (M := 999) (m := 999) rfl rfl (by decide) t
theorem wi9999 (t : Int64) : (E_v_within_9999 t).toInt = kz_cl t.toInt 9999 := wi_gen (M := 9999) (m := 9999) rfl rfl (by decide) t
theorem wi99999 (t : Int64) : (E_v_within_99999 t).toInt = kz_cl t.toInt 99999 := wi_gen (M := 99999) (m := 99999) rfl rfl (by decide) t
theorem kz_id {g M : Int} (h : 0 ≤ g ∧ g ≤ M) : kz_cl g M = g := by
  unfold kz_cl; rw [if_neg (by omega), if_neg (by omega)]
theorem kz_rng {g M : Int} (h : 0 ≤ M) : 0 ≤ kz_cl g M ∧ kz_cl g M ≤ M := by
  unfold kz_cl
  by_cases c : g < 0
  · rw [if_pos c]; omega
  · rw [if_neg c]
    by_cases d : M < g
    · rw [if_pos d]; omega
    · rw [if_neg d]; omega
noncomputable def KAsk (x lt : Int32) (fl : Nat → Option Nat) (G : Nat → LC) (fw : Nat → Int32) (h : Nat) (o : Int32) : Prop := (-1 ≤ x.toInt ∧ x.toInt < lt.toInt) ∧ h < 8 ∧ KLs lt fl G fw ∧ KBw fw h o
theorem aF3_0 {w : Nat} (hw : w < 4) : 0 ≤ (aF 3 w).toInt ∧ (aF 3 w).toInt ≤ 999 := by
  rcases (show w = 0 ∨ w = 1 ∨ w = 2 ∨ w = 3 by omega) with rfl | rfl | rfl | rfl <;> decide
theorem RV_ex {w : Nat} (hw : w < 4) (x : Int32) (h : Nat) (o : Int32) (v : Int64) (fw : Nat → Int32) : ∃ R : Int32, R.toInt = RV x w h o v fw ∧ 0 ≤ R.toInt ∧ R.toInt ≤ (aF 3 w).toInt := by
  have q := aF3_0 hw
  have r := kz_rng (g := (E_v_tells x (nI w) (nI h) o v 0 0 0 0 fw (fun _ => 0) (fun _ => 0)).1.toInt) q.1
  refine ⟨nI (RV x w h o v fw).toNat, ?_, ?_⟩
  · rw [nI_toInt (by unfold RV; omega)]
    exact Int.toNat_of_nonneg r.1
  · rw [nI_toInt (by unfold RV; omega)]
    rw [Int.toNat_of_nonneg (by exact r.1)]
    exact r
theorem burnsOf_at {x lt : Int32} {h : Nat} {fl : Nat → Option Nat} {G : Nat → LC} {fw : Nat → Int32} (hA : KAsk x lt fl G fw h (-1)) {R : Int32} (hR : R.toInt = RV x 0 h (-1) 1 fw) (lw bro : Int32) (val sm : Int64) (fe frs : Nat → Int64) : ∃ (lw' bro' : Int32) (val' sm' : Int64) (fe' frs' : Nat → Int64), E_v_burnsOf x (nI h) lw bro val sm fw fe frs = (R, lw', bro', val', sm', fe', frs') := by
  obtain ⟨a1, a2, a3, a4⟩ := hA
  obtain ⟨t, lw', bro', val', sm', fe', frs', e1, _, e2⟩ := ask_v (w := 0) a1 a2 (by omega) (show (1 : Int64).toInt = (aF 2 0).toInt from by decide) a3 a4 lw bro val sm fe frs
  have e1' : E_v_tells x 0 (nI h) (-1) 1 lw bro val sm fw fe frs = (t, lw', bro', val', sm', fe', frs') := e1
  refine ⟨lw', bro', val', sm', fe', frs', ?_⟩
  rw [E_v_burnsOf.eq_def, e1']
  simp only [Lt2, Lt]
  have : E_v_within_20 t = R := Int32.toInt_inj.mp (by rw [wi20, hR, ← e2]; rfl)
  rw [this]
theorem flaresOf_at {x lt : Int32} {h : Nat} {fl : Nat → Option Nat} {G : Nat → LC} {fw : Nat → Int32} (hA : KAsk x lt fl G fw h (-1)) {R : Int32} (hR : R.toInt = RV x 1 h (-1) 4 fw) (lw bro : Int32) (val sm : Int64) (fe frs : Nat → Int64) : ∃ (lw' bro' : Int32) (val' sm' : Int64) (fe' frs' : Nat → Int64), E_v_flaresOf x (nI h) lw bro val sm fw fe frs = (R, lw', bro', val', sm', fe', frs') := by
  obtain ⟨a1, a2, a3, a4⟩ := hA
  obtain ⟨t, lw', bro', val', sm', fe', frs', e1, _, e2⟩ := ask_v (w := 1) a1 a2 (by omega) (show (4 : Int64).toInt = (aF 2 1).toInt from by decide) a3 a4 lw bro val sm fe frs
  have e1' : E_v_tells x 1 (nI h) (-1) 4 lw bro val sm fw fe frs = (t, lw', bro', val', sm', fe', frs') := e1
  refine ⟨lw', bro', val', sm', fe', frs', ?_⟩
  rw [E_v_flaresOf.eq_def, e1']
  simp only [Lt2, Lt]
  have : E_v_within_20 t = R := Int32.toInt_inj.mp (by rw [wi20, hR, ← e2]; rfl)
  rw [this]
theorem isBarred_at {lt : Int32} {h : Nat} {fl : Nat → Option Nat} {G : Nat → LC} {fw : Nat → Int32} (hA : KAsk (fw 3) lt fl G fw h (-1)) {R : Int32} (hR : R.toInt = RV (fw 3) 3 h (-1) 0 fw) (lw bro : Int32) (val sm : Int64) (fe frs : Nat → Int64) : ∃ (lw' bro' : Int32) (val' sm' : Int64) (fe' frs' : Nat → Int64), E_v_isBarred (nI h) lw bro val sm fw fe frs = (R, lw', bro', val', sm', fe', frs') := by
  obtain ⟨a1, a2, a3, a4⟩ := hA
  obtain ⟨t, lw', bro', val', sm', fe', frs', e1, e0, e2⟩ := ask_v (w := 3) a1 a2 (by omega) (show (0 : Int64).toInt = (aF 2 3).toInt from by decide) a3 a4 lw bro val sm fe frs
  have e1' : E_v_tells (fw 3) 3 (nI h) (-1) 0 lw bro val sm fw fe frs = (t, lw', bro', val', sm', fe', frs') := e1
  refine ⟨lw', bro', val', sm', fe', frs', ?_⟩
  have m1 : (aF 3 3).toInt = 1 := by decide
  rw [m1] at e2
  rw [E_v_isBarred.eq_def, Lt_b, show fw (3 : Int32).toNatClampNeg = fw 3 from rfl, e1']
  simp only [Lt2]
  rcases e0 rfl with e0 | e0
  · rw [if_neg (fun q => by have := congrArg Int64.toInt ((lg_cmp_eq _ _).mp q); have z : (1 : Int64).toInt = 1 := rfl; omega)]
    have : R = 0 := Int32.toInt_inj.mp (by rw [hR, ← e2, e0]; decide)
    rw [this]
  · rw [if_pos ((lg_cmp_eq _ _).mpr (Int64.toInt_inj.mp e0))]
    have : R = 1 := Int32.toInt_inj.mp (by rw [hR, ← e2, e0]; decide)
    rw [this]
/-- the class asks: one step -/
theorem ask_k {α : Type} {res : α} {x lt : Int32} {w h : Nat} {o : Int32} {v : Int64} {fl : Nat → Option Nat} {G : Nat → LC} {fw : Nat → Int32} (hA : KAsk x lt fl G fw h o) (hw : w < 4) (hv : v.toInt = (aF 2 w).toInt) {cw : Nat → Int32} (hc : KWo cw fw h o) {br : Int32} {fs : Nat → Int32} {R : Int32} (hR : R.toInt = RV x w h o v fw) {K1 : Int32 → α} {K2 : Int32 → Int32 → (Nat → Int32) → α} (k : res = Oc (E_w_lawAt x lt fl) (Lt (E_w_told_n (nI w) br fs cw) K1) (fun q => Lt2 (E_w_told (G q).1 (G q).2.1 (G q).2.2.1 (G q).2.2.2.1 (G q).2.2.2.2.1 (nI w) br fs cw) (fun r q0 => Lt2 q0 (fun u1 u2 => K2 r u1 u2)))) (hK : ∀ r, K1 r = K2 r br fs) : ∃ br' fs', res = K2 R br' fs' := by
  obtain ⟨a1, a2, a3, a4⟩ := hA
  rcases ask_w a1 a2 hw hv a3 a4 hc hR with ⟨e1, e2⟩ | ⟨a, e1, e2⟩
  · rw [e1] at k
    refine ⟨br, fs, ?_⟩
    have e3 : E_w_told_n (nI w) br fs cw = R := by
      rw [E_w_told_n.eq_def, Lt_b, kn_cl (by omega)]; exact e2
    rw [k]
    show K1 (E_w_told_n (nI w) br fs cw) = _
    rw [e3]; exact hK R
  · rw [e1] at k
    obtain ⟨br', f', e3⟩ := e2 br fs
    refine ⟨br', f', ?_⟩
    rw [k]
    show Lt2 (E_w_told (G a).1 (G a).2.1 (G a).2.2.1 (G a).2.2.2.1 (G a).2.2.2.2.1 (nI w) br fs cw) (fun r q0 => Lt2 q0 (fun u1 u2 => K2 r u1 u2)) = _
    rw [e3]
    rfl
theorem n_mod24 : ∀ a, a < 200 → nI a - nI a / 24 * 24 = nI (a % 24) ∧ nI a / 24 = nI (a / 24) := by decide +kernel
/-- the words that a house is asked with -/
theorem face_at {h z hr : Nat} {y : Int32} {cw f1 f2 : Nat → Int32} (hh : h < 8) (hz : z ≤ 100) (hr2 : hr ≤ 23) (h0 : f2 0 = nI hr) : (E_w_face (nI h) y (nI z) cw f1 f2) 0 = nI h ∧ (E_w_face (nI h) y (nI z) cw f1 f2) 1 = f1 h ∧ (E_w_face (nI h) y (nI z) cw f1 f2) 2 = f1 (8 + h) ∧ (E_w_face (nI h) y (nI z) cw f1 f2) 3 = y ∧ (E_w_face (nI h) y (nI z) cw f1 f2) 4 = f1 (16 + h) ∧ (E_w_face (nI h) y (nI z) cw f1 f2) 5 = nI ((hr + z) % 24) ∧ (E_w_face (nI h) y (nI z) cw f1 f2) 6 = f2 1 + nI ((hr + z) / 24) ∧ (E_w_face (nI h) y (nI z) cw f1 f2) 7 = f2 5 ∧ (E_w_face (nI h) y (nI z) cw f1 f2) 8 = -1 := by
  have hb : 0 ≤ (nI h).toInt ∧ (nI h).toInt < 8 := by rw [nI_toInt (by omega)]; omega
  have ht : (nI h).toInt.toNat = h := by rw [nI_toInt (by omega)]; omega
  have q := n_mod24 (hr + z) (by omega)
  have e : E_w_face (nI h) y (nI z) cw f1 f2 = upd (upd (upd (upd (upd (upd (upd (upd (upd cw 0 (nI h)) 1 (f1 h)) 2 (f1 (8 + h))) 3 y) 4 (f1 (16 + h))) 5 (nI ((hr + z) % 24))) 6 (f2 1 + nI ((hr + z) / 24))) 7 (f2 5)) 8 (-1) := by
    rw [E_w_face.eq_def]
    simp only [Lt]
    rw [show f2 (0 : Int32).toNatClampNeg = nI hr from h0, n_add (by omega), q.1, q.2, fact_at (k := 0) hb rfl (by omega), fact_at (k := 1) hb rfl (by omega), fact_at (k := 2) hb rfl (by omega), ht, show 8 * 0 + h = h by omega]
    rfl
  rw [e]
  exact ⟨rfl, rfl, rfl, rfl, rfl, rfl, rfl, rfl, rfl⟩
end
section
/-! the town and the reference's row, whole (what is told of them apart from the score and what was heard) -/
noncomputable def TW (n lt nf fi : Int32) (f1 f2 : Nat → Int32) (fl : Nat → Option Nat) (G : Nat → LC) (fw : Nat → Int32) : Prop :=
  KNow n fi f1 f2 fw ∧ lt = fw 2 ∧ nf = fw 3 ∧ (-1 ≤ nf.toInt ∧ nf.toInt < lt.toInt) ∧ (∀ j, j < 8 → (0 ≤ (fw (35 + j)).toInt ∧ (fw (35 + j)).toInt ≤ 6) ∧ 0 ≤ (fw (43 + j)).toInt ∧ (fw (43 + j)).toInt ≤ 3) ∧ KLs lt fl G fw ∧ (n = fw 0 ∧ 0 ≤ n.toInt ∧ n.toInt ≤ 8) ∧ ∀ j, j < 16 → f1 j = fw (35 + j)
theorem TW.of {n lt nf fi ht ho : Int32} {f1 f2 f3 fw : Nat → Int32} {fl : Nat → Option Nat} {G : Nat → LC} (h : TQ 0 n lt nf fi f1 f2 fl G fw) (r : RF 0 n ht ho f1 f3 fw) (hn : 0 ≤ n.toInt ∧ n.toInt ≤ 8) (hl : 0 ≤ lt.toInt ∧ lt.toInt ≤ 6) : TW n lt nf fi f1 f2 fl G fw := by
  obtain ⟨a, b1, b2, b3, b4, b5⟩ := h
  obtain ⟨r1, r2, r3, r4, r5, r6⟩ := r
  have z : ∀ j, fw (0 + j) = fw j := fun j => congrArg fw (Nat.zero_add j)
  refine ⟨a.ext (fun _ _ => rfl) (fun _ _ => rfl) (fun j _ _ => (z j).symm), by rw [b1, z], by rw [b2, z], b3, fun j hj => ?_, ⟨hl, fun i hi => ?_⟩, ⟨by rw [r1, z], hn⟩, fun j hj => by rw [r3 j hj, z]⟩
  · have q := b4 j hj
    rw [z, z] at q; exact q
  · have q := b5 i hi
    rw [Nat.zero_add] at q; exact q
theorem TW.tq {n lt nf fi : Int32} {f1 f2 fw : Nat → Int32} {fl : Nat → Option Nat} {G : Nat → LC} (h : TW n lt nf fi f1 f2 fl G fw) : TQ 0 n lt nf fi f1 f2 fl G fw := by
  obtain ⟨a, b1, b2, b3, b4, b5, b6, b7⟩ := h
  have z : ∀ j, fw (0 + j) = fw j := fun j => congrArg fw (Nat.zero_add j)
  refine ⟨a.ext (fun _ _ => rfl) (fun _ _ => rfl) (fun j _ _ => z j), by rw [b1, z], by rw [b2, z], b3, fun j hj => by rw [z, z]; exact b4 j hj, fun i hi => ?_⟩
  rw [Nat.zero_add]; exact b5.2 i hi
theorem KLs.ext {lt : Int32} {fl : Nat → Option Nat} {G : Nat → LC} {fw fw' : Nat → Int32} (h : KLs lt fl G fw) (e : ∀ j, 100 ≤ j → j < 5500 → fw' j = fw j) : KLs lt fl G fw' := by
  refine ⟨h.1, fun i hi => ?_⟩
  obtain ⟨a, q1, q2⟩ := h.2 i hi
  have h6 := h.1
  exact ⟨a, q1, q2.ext (fun j hj => e _ (by omega) (by omega))⟩
theorem TW.step {n lt nf fi fi' : Int32} {f1 f2 fw f1' f2' fw' : Nat → Int32} {fl : Nat → Option Nat} {G : Nat → LC} (h : TW n lt nf fi f1 f2 fl G fw) (k : KNow n fi' f1' f2' fw') (e : ∀ j, j < 4 ∨ (35 ≤ j ∧ j < 51) ∨ 100 ≤ j → fw' j = fw j) (e1 : ∀ j, j < 16 → f1' j = f1 j) : TW n lt nf fi' f1' f2' fl G fw' := by
  obtain ⟨a, b1, b2, b3, b4, b5, b6, b7⟩ := h
  refine ⟨k, by rw [e 2 (by omega)]; exact b1, by rw [e 3 (by omega)]; exact b2, b3, fun j hj => by rw [e _ (by omega), e _ (by omega)]; exact b4 j hj, b5.ext (fun j h1 _ => e j (by omega)), ⟨by rw [e 0 (by omega)]; exact b6.1, b6.2⟩, fun j hj => by rw [e1 j hj, e _ (by omega)]; exact b7 j hj⟩
/-- a house that changed alone -/
theorem KNow.one {n fi : Int32} {f1 f2 fw f1' fw' : Nat → Int32} {h : Nat} (k : KNow n fi f1 f2 fw) (hh : h < 8) (hn : (h : Int) < n.toInt) (e1 : ∀ j, j ≠ 16 + h → j ≠ 40 + h → j ≠ 48 + h → f1' j = f1 j) (e2 : ∀ j, j ≠ 11 + h → j ≠ 19 + h → j ≠ 27 + h → fw' j = fw j) (c : f1' (16 + h) = fw' (19 + h) ∧ f1' (40 + h) = fw' (11 + h) ∧ f1' (48 + h) = fw' (27 + h)) (r : (0 ≤ (fw' (11 + h)).toInt ∧ (fw' (11 + h)).toInt ≤ 20) ∧ (0 ≤ (fw' (19 + h)).toInt ∧ (fw' (19 + h)).toInt ≤ 999) ∧ (0 ≤ (fw' (27 + h)).toInt ∧ (fw' (27 + h)).toInt ≤ 9999)) : KNow n fi f1' f2 fw' := by
  obtain ⟨t1, t2, t3, t4, g1, g2, g3, g4, g5, g6, g7, g8⟩ := k
  refine ⟨fun j hj => ?_, ?_, fun j hj => ?_, fun i hi h8 => ⟨?_, ?_⟩, ?_, ?_, ?_, ?_, ?_, ?_, ?_, fun j hj => ?_⟩
  · rw [e2 _ (by omega) (by omega) (by omega)]; exact t1 j hj
  · rw [e2 _ (by omega) (by omega) (by omega)]; exact t2
  · by_cases q : j = h
    · rw [q]; exact ⟨c.2.1, c.1, c.2.2⟩
    · rw [e1 _ (by omega) (by omega) (by omega), e1 _ (by omega) (by omega) (by omega), e1 _ (by omega) (by omega) (by omega), e2 _ (by omega) (by omega) (by omega), e2 _ (by omega) (by omega) (by omega), e2 _ (by omega) (by omega) (by omega)]
      exact t3 j hj
  · rw [e2 _ (by omega) (by omega) (by omega)]; exact (t4 i hi h8).1
  · rw [e2 _ (by omega) (by omega) (by omega)]; exact (t4 i hi h8).2
  · rw [e2 _ (by omega) (by omega) (by omega)]; exact g1
  · rw [e2 _ (by omega) (by omega) (by omega)]; exact g2
  · rw [e2 _ (by omega) (by omega) (by omega)]; exact g3
  · rw [e2 _ (by omega) (by omega) (by omega)]; exact g4
  · rw [e2 _ (by omega) (by omega) (by omega)]; exact g5
  · rw [e2 _ (by omega) (by omega) (by omega)]; exact g6
  · rw [e2 _ (by omega) (by omega) (by omega)]; exact g7
  · by_cases q : j = h
    · rw [q]; exact r
    · rw [e2 _ (by omega) (by omega) (by omega), e2 _ (by omega) (by omega) (by omega), e2 _ (by omega) (by omega) (by omega)]
      exact g8 j hj
theorem KBd_of {v : Int32} {a b : Int} (h : a ≤ v.toInt ∧ v.toInt ≤ b) (ha : -1000000 ≤ a) (hb : b ≤ 1000000) : KBd v := ⟨by omega, by omega⟩
theorem TW.bw {n lt nf fi : Int32} {f1 f2 fw : Nat → Int32} {fl : Nat → Option Nat} {G : Nat → LC} (h : TW n lt nf fi f1 f2 fl G fw) {k : Nat} (hk : k < 8) {o : Int32} (ho : -1 ≤ o.toInt ∧ o.toInt ≤ 6) : KBw fw k o := by
  obtain ⟨⟨_, _, _, _, g1, g2, g3, g4, g5, g6, g7, g8⟩, b1, b2, b3, b4, b5, b6, b7⟩ := h
  exact ⟨KBd_of (b4 k hk).1 (by decide) (by decide), KBd_of (b4 k hk).2 (by decide) (by decide), KBd_of (g8 k hk).1 (by decide) (by decide), KBd_of (g8 k hk).2.1 (by decide) (by decide), KBd_of g1 (by decide) (by decide), KBd_of g2 (by decide) (by decide), KBd_of g6 (by decide) (by decide), KBd_of ho (by decide) (by decide)⟩
theorem TW.ask {n lt nf fi : Int32} {f1 f2 fw : Nat → Int32} {fl : Nat → Option Nat} {G : Nat → LC} (h : TW n lt nf fi f1 f2 fl G fw) {k : Nat} (hk : k < 8) {o : Int32} (ho : -1 ≤ o.toInt ∧ o.toInt ≤ 6) : KAsk (fw 3) lt fl G fw k o :=
  ⟨by rw [← h.2.2.1]; exact h.2.2.2.1, hk, h.2.2.2.2.2.1, h.bw hk ho⟩
theorem m1_rng : -1 ≤ (-1 : Int32).toInt ∧ (-1 : Int32).toInt ≤ 6 := by decide
theorem TW.hour {n lt nf fi : Int32} {f1 f2 fw : Nat → Int32} {fl : Nat → Option Nat} {G : Nat → LC} (h : TW n lt nf fi f1 f2 fl G fw) : ∃ hr : Nat, hr ≤ 23 ∧ fw 4 = nI hr ∧ f2 0 = nI hr := by
  obtain ⟨⟨t1, _, _, _, g1, _⟩, _⟩ := h
  exact ⟨(fw 4).toInt.toNat, by omega, i_ofN rfl g1.1, (t1 0 (by omega)).trans (i_ofN rfl g1.1)⟩
/-- the class's words for a house as it stands now -/
theorem TW.words {n lt nf fi : Int32} {f1 f2 fw cw : Nat → Int32} {fl : Nat → Option Nat} {G : Nat → LC} (h : TW n lt nf fi f1 f2 fl G fw) {k : Nat} (hk : k < 8) : KWo (E_w_face (nI k) (fw (11 + k)) 0 cw f1 f2) fw k (-1) := by
  obtain ⟨hr, r1, r2, r3⟩ := h.hour
  obtain ⟨q0, q1, q2, q3, q4, q5, q6, q7, q8⟩ := face_at (h := k) (z := 0) (hr := hr) (y := fw (11 + k)) (cw := cw) (f1 := f1) (f2 := f2) hk (by omega) r1 r3
  obtain ⟨⟨t1, _, t3, _⟩, _, _, _, _, _, _, b7⟩ := h
  refine ⟨q0, q1.trans (b7 k (by omega)), q2.trans ((b7 _ (by omega)).trans (congrArg fw (by omega))), q3, q4.trans (t3 k hk).2.1, q5.trans ?_, q6.trans ?_, q7.trans (t1 5 (by omega)), q8⟩
  · rw [r2, show (hr + 0) % 24 = hr by omega]
  · rw [show (hr + 0) / 24 = 0 by omega, t1 1 (by omega)]
    exact Int32.toInt_inj.mp (by rw [i_add rfl (show (nI 0).toInt = 0 from rfl) (by have := i_rng (Eq.refl (fw (4 + 1)).toInt); omega), Int.add_zero])
theorem put5_at {x z : Int32} {f : Nat → Int32} (hx : 0 ≤ x.toInt ∧ x.toInt < 8) : E_w_put_5 x z f = upd f (40 + x.toInt.toNat) z := by
  have z0 : (0 : Int32).toInt = 0 := rfl
  have z7 : (7 : Int32).toInt = 7 := rfl
  rw [E_w_put_5.eq_def, Lt_b, ifw_p (by omega), Lt_b, ifw_p (by decide), Lt_b, Lt_b, add_c (k := 40) rfl (by omega) (by omega)]
theorem put6_at {x z : Int32} {f : Nat → Int32} (hx : 0 ≤ x.toInt ∧ x.toInt < 8) : E_w_put_6 x z f = upd f (48 + x.toInt.toNat) z := by
  have z0 : (0 : Int32).toInt = 0 := rfl
  have z7 : (7 : Int32).toInt = 7 := rfl
  rw [E_w_put_6.eq_def, Lt_b, ifw_p (by omega), Lt_b, ifw_p (by decide), Lt_b, Lt_b, add_c (k := 48) rfl (by omega) (by omega)]
theorem has_p {x n : Int32} (h : 0 ≤ x.toInt ∧ x.toInt < n.toInt) : E_w_has x n = 1 := by
  have z0 : (0 : Int32).toInt = 0 := rfl
  rw [E_w_has.eq_def, if_neg (fun q => by have := il_iff.mp q; omega), if_neg (fun q => by have := ie_iff.mp q; omega)]
theorem has_n {x n : Int32} (h : ¬ (0 ≤ x.toInt ∧ x.toInt < n.toInt)) : E_w_has x n = 0 := by
  have z0 : (0 : Int32).toInt = 0 := rfl
  rw [E_w_has.eq_def]
  by_cases c : x < 0
  · rw [if_pos c]
  · have c2 : ¬ x.toInt < (0 : Int32).toInt := fun q => c (il_iff.mpr q)
    rw [if_neg c, if_pos (ie_iff.mpr (by omega))]
theorem isHouse_at {x n : Int32} {fw : Nat → Int32} (hn : n = fw 0 ∧ 0 ≤ n.toInt ∧ n.toInt ≤ 8) : E_v_isHouse x fw = E_w_has x n := by
  have z0 : (0 : Int64).toInt = 0 := rfl
  have z1 : ((fw 0).toInt64 - 1).toInt = n.toInt - 1 := by
    rw [← hn.1, l_sub (show n.toInt64.toInt = n.toInt from wide_at) (show (1 : Int64).toInt = 1 from rfl) (by omega)]
  rw [E_v_isHouse.eq_def, Lt_b, Lt_b, Lt_b, Lt_b, Lt_b, show fw (0 : Int32).toNatClampNeg = fw 0 from rfl]
  by_cases c : 0 ≤ x.toInt ∧ x.toInt < n.toInt
  · rw [has_p c, if_pos (in_p (by rw [z1]; omega))]
  · rw [has_n c, if_neg (by rw [in_n (by rw [z1]; omega)]; decide)]
end
section
/-! refusals, on both sides -/
noncomputable def RfR (rb sta : Int32) (frf frm : Nat → Int32) : Prop := rb = sta ∧ frf 0 = frm 1 ∧ frf 1 = frm 2 ∧ frf 2 = frm 3 ∧ frf 3 = frm 5 ∧ frf 4 = frm 6
theorem refuse_s {x rb : Int32} {f : Nat → Int32} {a b : Nat} (hx : (x = -1 ∧ a = 0 ∧ b = 1) ∨ (x = -2 ∧ a = 1 ∧ b = 2) ∨ (x = -3 ∧ a = 2 ∧ b = 3)) : E_w_refuse x rb f = (x, upd f a (f a + 1)) := by
  rcases hx with ⟨rfl, rfl, rfl⟩ | ⟨rfl, rfl, rfl⟩ | ⟨rfl, rfl, rfl⟩
  · rw [E_w_refuse.eq_def, if_neg (by decide), Lt_b, Lt_b, Lt_b, if_pos (by decide)]; rfl
  · rw [E_w_refuse.eq_def, if_neg (by decide), Lt_b, Lt_b, Lt_b, if_pos (by decide)]; rfl
  · rw [E_w_refuse.eq_def, if_neg (by decide), Lt_b, Lt_b, Lt_b, if_pos (by decide)]; rfl
theorem refuse_b {x rb : Int32} {f : Nat → Int32} {a b : Nat} (hx : (x = -5 ∧ a = 3 ∧ b = 5) ∨ (x = -6 ∧ a = 4 ∧ b = 6)) : E_w_refuse x rb f = (x, upd f a (f a + 1)) := by
  rcases hx with ⟨rfl, rfl, rfl⟩ | ⟨rfl, rfl, rfl⟩
  · rw [E_w_refuse.eq_def, if_pos (by decide), Lt_b, Lt_b, Lt_b, if_pos (by decide)]; rfl
  · rw [E_w_refuse.eq_def, if_pos (by decide), Lt_b, Lt_b, Lt_b, if_pos (by decide)]; rfl
theorem tell_s {x sta : Int32} {f : Nat → Int32} {b : Nat} (hx : (x = -1 ∧ b = 1) ∨ (x = -2 ∧ b = 2) ∨ (x = -3 ∧ b = 3) ∨ (x = -5 ∧ b = 5) ∨ (x = -6 ∧ b = 6)) : E_v_tell x sta f = (x, x, upd f b (f b + 1)) := by
  rcases hx with ⟨rfl, rfl⟩ | ⟨rfl, rfl⟩ | ⟨rfl, rfl⟩ | ⟨rfl, rfl⟩ | ⟨rfl, rfl⟩ <;> (rw [E_v_tell.eq_def, if_neg (by decide), if_neg (by decide), Lt_b, Lt_b, Lt_b, Lt_b, E_v_tell_j28.eq_def]; rfl)
theorem tell_p {x sta : Int32} {f : Nat → Int32} (hx : 0 ≤ x.toInt) : E_v_tell x sta f = (x, 0, f) := by
  have q : (0 : Int32) ≤ x := ie_iff.mpr hx
  rw [E_v_tell.eq_def, if_pos q, if_pos q, E_v_tell_j28.eq_def]
theorem RfR.no {rb sta : Int32} {frf frm : Nat → Int32} (h : RfR rb sta frf frm) {x : Int32} (hx : x = -1 ∨ x = -2 ∨ x = -3 ∨ x = -5 ∨ x = -6) : (E_w_refuse x rb frf).1 = x ∧ (E_v_tell x sta frm).1 = x ∧ RfR x (E_v_tell x sta frm).2.1 (E_w_refuse x rb frf).2 (E_v_tell x sta frm).2.2 := by
  obtain ⟨h0, h1, h2, h3, h4, h5⟩ := h
  have go : ∀ {a b : Nat}, E_w_refuse x rb frf = (x, upd frf a (frf a + 1)) → E_v_tell x sta frm = (x, x, upd frm b (frm b + 1)) → ((a = 0 ∧ b = 1) ∨ (a = 1 ∧ b = 2) ∨ (a = 2 ∧ b = 3) ∨ (a = 3 ∧ b = 5) ∨ (a = 4 ∧ b = 6)) → (E_w_refuse x rb frf).1 = x ∧ (E_v_tell x sta frm).1 = x ∧ RfR x (E_v_tell x sta frm).2.1 (E_w_refuse x rb frf).2 (E_v_tell x sta frm).2.2 := by
    intro a b e1 e2 e3
    rw [e1, e2]
    refine ⟨rfl, rfl, rfl, ?_⟩
    dsimp only
    rcases e3 with ⟨rfl, rfl⟩ | ⟨rfl, rfl⟩ | ⟨rfl, rfl⟩ | ⟨rfl, rfl⟩ | ⟨rfl, rfl⟩
    · exact ⟨congrArg (· + 1) h1, h2, h3, h4, h5⟩
    · exact ⟨h1, congrArg (· + 1) h2, h3, h4, h5⟩
    · exact ⟨h1, h2, congrArg (· + 1) h3, h4, h5⟩
    · exact ⟨h1, h2, h3, congrArg (· + 1) h4, h5⟩
    · exact ⟨h1, h2, h3, h4, congrArg (· + 1) h5⟩
  rcases hx with rfl | rfl | rfl | rfl | rfl
  · exact go (refuse_s (a := 0) (b := 1) (by decide)) (tell_s (b := 1) (by decide)) (by decide)
  · exact go (refuse_s (a := 1) (b := 2) (by decide)) (tell_s (b := 2) (by decide)) (by decide)
  · exact go (refuse_s (a := 2) (b := 3) (by decide)) (tell_s (b := 3) (by decide)) (by decide)
  · exact go (refuse_b (a := 3) (b := 5) (by decide)) (tell_s (b := 5) (by decide)) (by decide)
  · exact go (refuse_b (a := 4) (b := 6) (by decide)) (tell_s (b := 6) (by decide)) (by decide)
theorem RfR.ok {rb sta : Int32} {frf frm : Nat → Int32} (h : RfR rb sta frf frm) : RfR 0 0 frf frm := ⟨rfl, h.2⟩
/-! one act, on both sides -/
noncomputable def ActR (r r2 : Int32) (s : Nat) (n lt nf fi fi' : Int32) (f1 f2 f1' f2' : Nat → Int32) (fl : Nat → Option Nat) (G : Nat → LC) (fw fw' : Nat → Int32) (nu nu' : Int32) (fu fs fu' fs' : Nat → Int32) : Prop :=
  r = r2 ∧ (((r = -1 ∨ r = -2 ∨ r = -3) ∧ fi' = fi ∧ f1' = f1 ∧ f2' = f2 ∧ fw' = fw ∧ nu' = nu ∧ fu' = fu ∧ fs' = fs) ∨ (0 ≤ r.toInt ∧ TW n lt nf fi' f1' f2' fl G fw' ∧ (nu', fu', fs') = E_v_remember (nI s) nu fw fu fs ∧ ∀ j, j < 4 ∨ (6 ≤ j ∧ j < 10) ∨ 35 ≤ j → fw' j = fw j))
theorem ActR.settle {r r2 n lt nf fi fi' nu nu' dr kp rb sta : Int32} {s : Nat} {f1 f2 f1' f2' fw fw' fu fs fu' fs' sl frf frm : Nat → Int32} {fl : Nat → Option Nat} {G : Nat → LC} (a : ActR r r2 s n lt nf fi fi' f1 f2 f1' f2' fl G fw fw' nu nu' fu fs fu' fs') (hs : s < 4) (h : HR n dr kp nu sl fu fs fw) (t : TW n lt nf fi f1 f2 fl G fw) (q : RfR rb sta frf frm) {r1 rb' dr' kp' r3 sta' : Int32} {frf' sl' frm' : Nat → Int32} (k1 : (r1, rb', frf', dr', kp', sl') = E_w_settle (nI s) r rb frf dr kp (E_w_draft dr sl fi f1 f2)) (k2 : (r3, sta', frm') = E_v_tell r2 sta frm) : r1 = r3 ∧ RfR rb' sta' frf' frm' ∧ TW n lt nf fi' f1' f2' fl G fw' ∧ HR n dr' kp' nu' sl' fu' fs' fw' := by
  obtain ⟨e, a⟩ := a
  subst e
  rw [E_w_settle.eq_def] at k1
  rcases a with ⟨c, rfl, rfl, rfl, rfl, rfl, rfl, rfl⟩ | ⟨c, t', k3, k4⟩
  · have c1 : ¬ (0 : Int32) ≤ r := by rcases c with rfl | rfl | rfl <;> decide
    obtain ⟨g1, g2, g3⟩ := q.no (x := r) (by rcases c with rfl | rfl | rfl <;> decide)
    rw [if_neg c1, Lt2_b] at k1
    simp only [Prod.mk.injEq] at k1
    obtain ⟨rfl, rfl, rfl, rfl, rfl, rfl⟩ := k1
    rw [← k2] at g2 g3
    exact ⟨g1.trans g2.symm, g3, t, h.draft⟩
  · have c1 : (0 : Int32) ≤ r := ie_iff.mpr c
    rw [tell_p c] at k2
    rw [if_pos c1, Lt2_b, Lt2_b, Lt_b, E_w_accept.eq_def] at k1
    simp only [Prod.mk.injEq] at k1 k2
    obtain ⟨rfl, rfl, rfl, rfl, rfl, rfl⟩ := k1
    obtain ⟨rfl, rfl, rfl⟩ := k2
    exact ⟨rfl, q.ok, t', h.push t.1 hs rfl k3 (fun j h1 h2 => k4 j (by omega))⟩
/-! to stoke -/
theorem cap20 {a b : Int32} (ha : 0 ≤ a.toInt ∧ a.toInt ≤ 1000) (hb : 0 ≤ b.toInt ∧ b.toInt ≤ 1000) : (if a + b < 20 then a + b else 20) = E_v_within_20 (a + b).toInt64 := by
  have z : (20 : Int32).toInt = 20 := rfl
  have s := i_add (Eq.refl a.toInt) (Eq.refl b.toInt) (by omega)
  refine Int32.toInt_inj.mp ?_
  rw [wi20, wide_at, s]
  unfold kz_cl
  by_cases c : a + b < 20
  · have c1 := il_iff.mp c
    rw [if_pos c, if_neg (show ¬ a.toInt + b.toInt < 0 by omega), if_neg (show ¬ 20 < a.toInt + b.toInt by omega)]; exact s
  · have c1 : ¬ (a + b).toInt < (20 : Int32).toInt := fun q => c (il_iff.mpr q)
    rw [if_neg c, if_neg (show ¬ a.toInt + b.toInt < 0 by omega)]
    by_cases d : 20 < a.toInt + b.toInt
    · rw [if_pos d]; rfl
    · rw [if_neg d, z]; omega
theorem nIb {k : Nat} (hk : k < 8) : 0 ≤ (nI k).toInt ∧ (nI k).toInt < 8 := by rw [nI_toInt (by omega)]; omega
theorem nIt {k : Nat} (hk : k < 1000) : (nI k).toInt.toNat = k := by rw [nI_toInt (by omega)]; omega
theorem TW.coal {n lt nf fi : Int32} {f1 f2 fw : Nat → Int32} {fl : Nat → Option Nat} {G : Nat → LC} (h : TW n lt nf fi f1 f2 fl G fw) {k : Nat} (hk : k < 8) : E_w_fact (nI k) 2 f1 = fw (19 + k) := by
  rw [fact_at (k := 2) (nIb hk) rfl (by omega), nIt (by omega)]; exact (h.1.2.2.1 k hk).2.1
theorem TW.fire {n lt nf fi : Int32} {f1 f2 fw : Nat → Int32} {fl : Nat → Option Nat} {G : Nat → LC} (h : TW n lt nf fi f1 f2 fl G fw) {k : Nat} (hk : k < 8) : E_w_fact (nI k) 5 f1 = fw (11 + k) := by
  rw [fact_at (k := 5) (nIb hk) rfl (by omega), nIt (by omega)]; exact (h.1.2.2.1 k hk).1
theorem TW.warm {n lt nf fi : Int32} {f1 f2 fw : Nat → Int32} {fl : Nat → Option Nat} {G : Nat → LC} (h : TW n lt nf fi f1 f2 fl G fw) {k : Nat} (hk : k < 8) : E_w_fact (nI k) 6 f1 = fw (27 + k) := by
  rw [fact_at (k := 6) (nIb hk) rfl (by omega), nIt (by omega)]; exact (h.1.2.2.1 k hk).2.2
theorem TW.note {n lt nf fi : Int32} {f1 f2 fw : Nat → Int32} {fl : Nat → Option Nat} {G : Nat → LC} (h : TW n lt nf fi f1 f2 fl G fw) {k : Nat} (hk : k < 8) : E_w_fact (nI k) 0 f1 = fw (35 + k) := by
  rw [fact_at (k := 0) (nIb hk) rfl (by omega), nIt (by omega), Nat.mul_zero, Nat.zero_add]; exact h.2.2.2.2.2.2.2 k (by omega)
theorem TW.street {n lt nf fi : Int32} {f1 f2 fw : Nat → Int32} {fl : Nat → Option Nat} {G : Nat → LC} (h : TW n lt nf fi f1 f2 fl G fw) {k : Nat} (hk : k < 8) : E_w_fact (nI k) 1 f1 = fw (43 + k) := by
  rw [fact_at (k := 1) (nIb hk) rfl (by omega), nIt (by omega)]; exact (h.2.2.2.2.2.2.2 _ (by omega)).trans (congrArg fw (by omega))
theorem TW.has {n lt nf fi : Int32} {f1 f2 fw : Nat → Int32} {fl : Nat → Option Nat} {G : Nat → LC} (h : TW n lt nf fi f1 f2 fl G fw) {k : Nat} (hk : (k : Int) < n.toInt) : k < 8 ∧ E_w_has (nI k) n = 1 := by
  have q := h.2.2.2.2.2.2.1.2
  exact ⟨by omega, has_p (by rw [nI_toInt (by omega)]; omega)⟩
theorem TW.askn {n lt nf fi : Int32} {f1 f2 fw : Nat → Int32} {fl : Nat → Option Nat} {G : Nat → LC} (h : TW n lt nf fi f1 f2 fl G fw) {k : Nat} (hk : k < 8) {o : Int32} (ho : -1 ≤ o.toInt ∧ o.toInt ≤ 6) : KAsk nf lt fl G fw k o :=
  ⟨h.2.2.2.1, hk, h.2.2.2.2.2.1, h.bw hk ho⟩
theorem kindle_at {n lt nf fi X F : Int32} {f1 f2 fw : Nat → Int32} {fl : Nat → Option Nat} {G : Nat → LC} (h : TW n lt nf fi f1 f2 fl G fw) {k : Nat} (hk : (k : Int) < n.toInt) (hX : X.toInt = RV nf 3 k (-1) 0 fw) (hF : F.toInt = RV nf 1 k (-1) 4 fw) (br : Int32) (fs cw f3 : Nat → Int32) :
    ((fw (19 + k) < 1 ∨ X = 1) → ∃ br' fs' cw', E_w_kindle G (nI k) br fs cw n lt nf fi f1 f2 f3 fl = (-3, br', fs', cw', f1)) ∧ (¬ fw (19 + k) < 1 → ¬ X = 1 → ∃ br' fs' cw', E_w_kindle G (nI k) br fs cw n lt nf fi f1 f2 f3 fl = (E_v_within_20 (fw (11 + k) + F).toInt64, br', fs', cw', upd (upd f1 (16 + k) (fw (19 + k) - 1)) (40 + k) (E_v_within_20 (fw (11 + k) + F).toInt64))) := by
  obtain ⟨k8, hh⟩ := h.has hk
  have rf := (h.1.2.2.2.2.2.2.2.2.2.2.2 k k8).1
  have rF := kz_rng (g := (E_v_tells nf (nI 1) (nI k) (-1) 4 0 0 0 0 fw (fun _ => 0) (fun _ => 0)).1.toInt) (M := (aF 3 1).toInt) (by decide)
  have m20 : (aF 3 1).toInt = 20 := by decide
  have rF2 : 0 ≤ F.toInt ∧ F.toInt ≤ 20 := by
    rw [hF]; unfold RV; omega
  obtain ⟨res, e⟩ : ∃ res, res = E_w_kindle G (nI k) br fs cw n lt nf fi f1 f2 f3 fl := ⟨_, rfl⟩
  rw [← e]
  rw [E_w_kindle.eq_def, Lt_b, hh, if_pos rfl, Lt_b, Lt_b, Lt_b, h.coal k8, h.fire k8] at e
  have hw := h.words (cw := cw) k8
  generalize E_w_face (nI k) (fw (11 + k)) 0 cw f1 f2 = U at e hw
  by_cases c : fw (19 + k) < 1
  · rw [if_pos c, E_w_kindle_j59.eq_def] at e
    exact ⟨fun _ => ⟨_, _, _, e⟩, fun q => absurd c q⟩
  rw [if_neg c, Lt_b] at e
  obtain ⟨br1, fs1, e⟩ := ask_k (w := 3) (h.askn k8 m1_rng) (by omega) (show (0 : Int64).toInt = (aF 2 3).toInt from by decide) hw hX e (fun _ => rfl)
  by_cases cx : X = 1
  · rw [if_pos cx, E_w_kindle_j59.eq_def] at e
    exact ⟨fun _ => ⟨_, _, _, e⟩, fun _ q => absurd cx q⟩
  refine ⟨fun q => by rcases q with q | q <;> contradiction, fun _ _ => ?_⟩
  rw [if_neg cx, Lt_b] at e
  obtain ⟨br2, fs2, e⟩ := ask_k (w := 1) (h.askn k8 m1_rng) (by omega) (show (4 : Int64).toInt = (aF 2 1).toInt from by decide) hw hF e (fun _ => rfl)
  rw [Lt_b, Lt_b, Lt_b, Lt_b, Lt_b, cap20 (by omega) (by omega), put2_at (nIb k8), put5_at (nIb k8), nIt (by omega)] at e
  exact ⟨_, _, _, e⟩
end
section
theorem flare_at {x lt F : Int32} {k : Nat} {fl : Nat → Option Nat} {G : Nat → LC} {fw : Nat → Int32} (hA : KAsk x lt fl G fw k (-1)) (hF : F.toInt = RV x 1 k (-1) 4 fw) (lw bro : Int32) (val sm : Int64) (fe frs : Nat → Int64) : ∃ (lw' bro' : Int32) (val' sm' : Int64) (fe' frs' : Nat → Int64), E_v_flare x (nI k) lw bro val sm fw fe frs = (lw', bro', val', sm', upd fw (11 + k) (E_v_within_20 (fw (11 + k) + F).toInt64), fe', frs') := by
  have k8 := hA.2.1
  obtain ⟨lw', bro', val', sm', fe', frs', e⟩ := flaresOf_at hA hF lw bro val sm fe frs
  refine ⟨lw', bro', val', sm', fe', frs', ?_⟩
  rw [E_v_flare.eq_def, e, n_ladd (m := 11) rfl (by omega), Lt_b, Lt_b, Lt_b, Lt2_b, Lt2_b, Lt2_b, Lt2_b, Lt2_b, Lt2_b, Lt_b, Lt_b, Lt_b, Lt_b, kn_cl (by omega)]
theorem canStoke_n {lt X : Int32} {k : Nat} {fl : Nat → Option Nat} {G : Nat → LC} {fw : Nat → Int32} (hA : KAsk (fw 3) lt fl G fw k (-1)) (hX : X.toInt = RV (fw 3) 3 k (-1) 0 fw) (lw bro : Int32) (val sm : Int64) (fe frs : Nat → Int64) (c : fw (19 + k) < 1 ∨ X = 1) : ∃ (lw' bro' : Int32) (val' sm' : Int64) (fe' frs' : Nat → Int64), E_v_canStoke (nI k) lw bro val sm fw fe frs = (0, lw', bro', val', sm', fe', frs') := by
  have k8 := hA.2.1
  obtain ⟨lw', bro', val', sm', fe', frs', e⟩ := isBarred_at hA hX lw bro val sm fe frs
  rw [E_v_canStoke.eq_def, e, n_ladd (m := 19) rfl (by omega), Lt_b, Lt_b, kn_cl (by omega)]
  by_cases d : fw (19 + k) ≤ 0
  · rw [if_pos d, E_v_canStoke_j24.eq_def]
    exact ⟨_, _, _, _, _, _, rfl⟩
  · have z0 : (0 : Int32).toInt = 0 := rfl
    have z1 : (1 : Int32).toInt = 1 := rfl
    have d1 : ¬ (fw (19 + k)).toInt ≤ (0 : Int32).toInt := fun q => d (ie_iff.mpr q)
    have cx : X = 1 := by
      rcases c with c | c
      · have := il_iff.mp c; omega
      · exact c
    rw [if_neg d, Lt2_b, Lt2_b, Lt2_b, Lt2_b, Lt2_b, Lt2_b]
    dsimp only
    rw [if_neg (show ¬ X = 0 by rw [cx]; decide), E_v_canStoke_j24.eq_def]
    exact ⟨_, _, _, _, _, _, rfl⟩
theorem canStoke_p {lt X : Int32} {k : Nat} {fl : Nat → Option Nat} {G : Nat → LC} {fw : Nat → Int32} (hA : KAsk (fw 3) lt fl G fw k (-1)) (hX : X.toInt = RV (fw 3) 3 k (-1) 0 fw) (lw bro : Int32) (val sm : Int64) (fe frs : Nat → Int64) (c : ¬ fw (19 + k) < 1) (d : ¬ X = 1) : ∃ (lw' bro' : Int32) (val' sm' : Int64) (fe' frs' : Nat → Int64), E_v_canStoke (nI k) lw bro val sm fw fe frs = (1, lw', bro', val', sm', fe', frs') := by
  have k8 := hA.2.1
  have z0 : (0 : Int32).toInt = 0 := rfl
  have z1 : (1 : Int32).toInt = 1 := rfl
  have m1 : (aF 3 3).toInt = 1 := by decide
  have c1 : ¬ (fw (19 + k)).toInt < (1 : Int32).toInt := fun q => c (il_iff.mpr q)
  have rX := kz_rng (g := (E_v_tells (fw 3) (nI 3) (nI k) (-1) 0 0 0 0 0 fw (fun _ => 0) (fun _ => 0)).1.toInt) (M := (aF 3 3).toInt) (by decide)
  have x0 : X = 0 := by
    have d1 : X.toInt ≠ 1 := fun q => d (i_lit q z1)
    refine i_lit (x := 0) ?_ z0
    unfold RV at hX; omega
  obtain ⟨lw', bro', val', sm', fe', frs', e⟩ := isBarred_at hA hX lw bro val sm fe frs
  rw [E_v_canStoke.eq_def, e, n_ladd (m := 19) rfl (by omega), Lt_b, Lt_b, kn_cl (by omega), if_neg (fun q => by have := ie_iff.mp q; omega), Lt2_b, Lt2_b, Lt2_b, Lt2_b, Lt2_b, Lt2_b, if_pos x0]
  exact ⟨_, _, _, _, _, _, rfl⟩
theorem stokeIt_at {lt F : Int32} {k : Nat} {fl : Nat → Option Nat} {G : Nat → LC} {fw : Nat → Int32} (hA : KAsk (fw 3) lt fl G fw k (-1)) (hF : F.toInt = RV (fw 3) 1 k (-1) 4 fw) (lw bro : Int32) (val sm : Int64) (fe frs : Nat → Int64) : ∃ (lw' bro' : Int32) (val' sm' : Int64) (fe' frs' : Nat → Int64), E_v_stokeIt (nI k) lw bro val sm fw fe frs = (lw', bro', val', sm', upd (upd fw (11 + k) (E_v_within_20 (fw (11 + k) + F).toInt64)) (19 + k) (fw (19 + k) - 1), fe', frs') := by
  have k8 := hA.2.1
  obtain ⟨lw', bro', val', sm', fe', frs', e⟩ := flare_at hA hF lw bro val sm fe frs
  refine ⟨lw', bro', val', sm', fe', frs', ?_⟩
  rw [E_v_stokeIt.eq_def, Lt_b, show fw (3 : Int32).toNatClampNeg = fw 3 from rfl, e, Lt2_b, Lt2_b, Lt2_b, Lt2_b, Lt2_b, Lt2_b, n_ladd (m := 19) rfl (by omega), Lt_b, Lt_b, Lt_b, Lt_b, kn_cl (by omega)]
  dsimp only
  rw [upd_n (show ¬ 19 + k = 11 + k by omega)]
theorem TW.stoked {n lt nf fi F : Int32} {f1 f2 fw : Nat → Int32} {fl : Nat → Option Nat} {G : Nat → LC} (h : TW n lt nf fi f1 f2 fl G fw) {k : Nat} (hk : (k : Int) < n.toInt) (c : ¬ fw (19 + k) < 1) : TW n lt nf fi (upd (upd f1 (16 + k) (fw (19 + k) - 1)) (40 + k) (E_v_within_20 (fw (11 + k) + F).toInt64)) f2 fl G (upd (upd fw (11 + k) (E_v_within_20 (fw (11 + k) + F).toInt64)) (19 + k) (fw (19 + k) - 1)) := by
  obtain ⟨k8, hh⟩ := h.has hk
  have r := h.1.2.2.2.2.2.2.2.2.2.2.2 k k8
  have z1 : (1 : Int32).toInt = 1 := rfl
  have c1 : ¬ (fw (19 + k)).toInt < (1 : Int32).toInt := fun q => c (il_iff.mpr q)
  have s := i_sub (Eq.refl (fw (19 + k)).toInt) z1 (by omega)
  have v := kz_rng (g := ((fw (11 + k) + F).toInt64).toInt) (M := 20) (by decide)
  rw [← wi20] at v
  generalize E_v_within_20 (fw (11 + k) + F).toInt64 = V at v ⊢
  refine h.step (h.1.one k8 hk (fun j h1 h2 h3 => by rw [upd_n h2, upd_n h1]) (fun j h1 h2 h3 => by rw [upd_n h2, upd_n h1]) ⟨?_, ?_, ?_⟩ ⟨?_, ?_, ?_⟩) (fun j hj => by rw [upd_n (by omega), upd_n (by omega)]) (fun j hj => by rw [upd_n (by omega), upd_n (by omega)])
  · rw [upd_n (by omega), upd_s, upd_s]
  · rw [upd_s, upd_n (by omega), upd_s]
  · rw [upd_n (by omega), upd_n (by omega), upd_n (by omega), upd_n (by omega)]; exact (h.1.2.2.1 k k8).2.2
  · rw [upd_n (by omega), upd_s]; exact v
  · rw [upd_s, s]; omega
  · rw [upd_n (by omega), upd_n (by omega)]; exact r.2.2
theorem act_stoke {x n lt nf fi nu br lw bro : Int32} {val sm : Int64} {f1 f2 f3 fw fs cw fu fsr : Nat → Int32} {fe frs : Nat → Int64} {fl : Nat → Option Nat} {G : Nat → LC} (h : TW n lt nf fi f1 f2 fl G fw) {r br' r2 nu' lw' bro' : Int32} {val' sm' : Int64} {fs' cw' f1' fw' fu' fsr' : Nat → Int32} {fe' frs' : Nat → Int64} (k1 : (r, br', fs', cw', f1') = E_w_kindle G x br fs cw n lt nf fi f1 f2 f3 fl) (k2 : (r2, nu', lw', bro', val', sm', fw', fe', frs', fu', fsr') = E_v_stokeNow x nu lw bro val sm fw fe frs fu fsr) : ActR r r2 0 n lt nf fi fi f1 f2 f1' f2 fl G fw fw' nu nu' fu fsr fu' fsr' := by
  have hn := h.2.2.2.2.2.2.1
  rw [E_v_stokeNow.eq_def, Lt_b, isHouse_at hn] at k2
  by_cases c : 0 ≤ x.toInt ∧ x.toInt < n.toInt
  case neg =>
    rw [has_n c, if_neg (by decide)] at k2
    rw [E_w_kindle.eq_def, Lt_b, has_n c, if_neg (by decide)] at k1
    simp only [Prod.mk.injEq] at k1 k2
    obtain ⟨rfl, rfl, rfl, rfl, rfl⟩ := k1
    obtain ⟨rfl, rfl, rfl, rfl, rfl, rfl, rfl, rfl, rfl, rfl, rfl⟩ := k2
    exact ⟨rfl, Or.inl ⟨by decide, rfl, rfl, rfl, rfl, rfl, rfl, rfl⟩⟩
  obtain ⟨k, hk, hz⟩ : ∃ k : Nat, x = nI k ∧ (k : Int) = x.toInt := ⟨x.toInt.toNat, i_ofN rfl c.1, by omega⟩
  subst hk
  have hkn : (k : Int) < n.toInt := by omega
  obtain ⟨k8, hh⟩ := h.has hkn
  rw [hh, if_pos rfl] at k2
  have e3 : nf = fw 3 := h.2.2.1
  obtain ⟨X, hX, _⟩ := RV_ex (w := 3) (by omega) nf k (-1) 0 fw
  obtain ⟨F, hF, _⟩ := RV_ex (w := 1) (by omega) nf k (-1) 4 fw
  obtain ⟨q1, q2⟩ := kindle_at h hkn hX hF br fs cw f3
  rw [e3] at hX hF
  by_cases d : fw (19 + k) < 1 ∨ X = 1
  · obtain ⟨b1, b2, b3, q⟩ := q1 d
    obtain ⟨a1, a2, a3, a4, a5, a6, p⟩ := canStoke_n (h.ask k8 m1_rng) hX lw bro val sm fe frs d
    rw [q] at k1
    rw [p, Lt2_b, Lt2_b, Lt2_b, Lt2_b, Lt2_b, Lt2_b, if_pos rfl] at k2
    simp only [Prod.mk.injEq] at k1 k2
    obtain ⟨rfl, rfl, rfl, rfl, rfl⟩ := k1
    obtain ⟨rfl, rfl, rfl, rfl, rfl, rfl, rfl, rfl, rfl, rfl, rfl⟩ := k2
    exact ⟨rfl, Or.inl ⟨by decide, rfl, rfl, rfl, rfl, rfl, rfl, rfl⟩⟩
  · have d1 : ¬ fw (19 + k) < 1 := fun q => d (Or.inl q)
    have d2 : ¬ X = 1 := fun q => d (Or.inr q)
    obtain ⟨b1, b2, b3, q⟩ := q2 d1 d2
    obtain ⟨a1, a2, a3, a4, a5, a6, p⟩ := canStoke_p (h.ask k8 m1_rng) hX lw bro val sm fe frs d1 d2
    obtain ⟨g1, g2, g3, g4, g5, g6, p2⟩ := stokeIt_at (h.ask k8 m1_rng) hF a1 a2 a3 a4 a5 a6
    have v := kz_rng (g := ((fw (11 + k) + F).toInt64).toInt) (M := 20) (by decide)
    rw [← wi20] at v
    have ts := h.stoked (F := F) hkn d1
    rw [q] at k1
    rw [p, Lt2_b, Lt2_b, Lt2_b, Lt2_b, Lt2_b, Lt2_b] at k2
    dsimp only at k2
    rw [if_neg (show ¬ (1 : Int32) = 0 by decide), p2] at k2
    generalize E_v_within_20 (fw (11 + k) + F).toInt64 = V at k1 k2 v ts ⊢
    rw [Lt2_b, Lt2_b, Lt2_b, Lt2_b, Lt2_b, Lt2_b, Lt2_b, Lt2_b, n_ladd (m := 11) rfl (by omega), Lt_b, Lt_b, kn_cl (by omega)] at k2
    dsimp only at k2
    rw [upd_n (show ¬ 11 + k = 19 + k by omega), upd_s] at k2
    simp only [Prod.mk.injEq] at k1 k2
    obtain ⟨rfl, rfl, rfl, rfl, rfl⟩ := k1
    obtain ⟨rfl, rfl, rfl, rfl, rfl, rfl, rfl, rfl, rfl, rfl, rfl⟩ := k2
    exact ⟨rfl, Or.inr ⟨v.1, ts, rfl, fun j hj => by rw [upd_n (by omega), upd_n (by omega)]⟩⟩
end
section
/-! to damp, to buy -/
theorem cap0 {a b : Int32} (ha : 0 ≤ a.toInt ∧ a.toInt ≤ 20) (hb : -1000000 ≤ b.toInt ∧ b.toInt ≤ 1000000) (hb0 : 0 ≤ b.toInt) : (if 0 < a - b then a - b else 0) = E_v_within_20 (a - b).toInt64 := by
  have z : (0 : Int32).toInt = 0 := rfl
  have s := i_sub (Eq.refl a.toInt) (Eq.refl b.toInt) (by omega)
  refine Int32.toInt_inj.mp ?_
  rw [wi20, wide_at, s]
  unfold kz_cl
  by_cases c : 0 < a - b
  · have c1 := il_iff.mp c
    rw [if_pos c, if_neg (show ¬ a.toInt - b.toInt < 0 by omega), if_neg (show ¬ 20 < a.toInt - b.toInt by omega)]; exact s
  · have c1 : ¬ (0 : Int32).toInt < (a - b).toInt := fun q => c (il_iff.mpr q)
    rw [if_neg c]
    by_cases d : a.toInt - b.toInt < 0
    · rw [if_pos d]; rfl
    · rw [if_neg d, if_neg (show ¬ 20 < a.toInt - b.toInt by omega), z]; omega
theorem cap999 {a b : Int32} (ha : 0 ≤ a.toInt ∧ a.toInt ≤ 100000) (hb : 0 ≤ b.toInt ∧ b.toInt ≤ 100000) : (if a + b < 999 then a + b else 999) = E_v_within_999 (a + b).toInt64 := by
  have z : (999 : Int32).toInt = 999 := rfl
  have s := i_add (Eq.refl a.toInt) (Eq.refl b.toInt) (by omega)
  refine Int32.toInt_inj.mp ?_
  rw [wi999, wide_at, s]
  unfold kz_cl
  by_cases c : a + b < 999
  · have c1 := il_iff.mp c
    rw [if_pos c, if_neg (show ¬ a.toInt + b.toInt < 0 by omega), if_neg (show ¬ 999 < a.toInt + b.toInt by omega)]; exact s
  · have c1 : ¬ (a + b).toInt < (999 : Int32).toInt := fun q => c (il_iff.mpr q)
    rw [if_neg c, if_neg (show ¬ a.toInt + b.toInt < 0 by omega)]
    by_cases d : 999 < a.toInt + b.toInt
    · rw [if_pos d]; rfl
    · rw [if_neg d, z]; omega
theorem cap9999 {a b : Int32} (ha : 0 ≤ a.toInt ∧ a.toInt ≤ 100000) (hb : 0 ≤ b.toInt ∧ b.toInt ≤ 100000) : (if a + b < 9999 then a + b else 9999) = E_v_within_9999 (a + b).toInt64 := by
  have z : (9999 : Int32).toInt = 9999 := rfl
  have s := i_add (Eq.refl a.toInt) (Eq.refl b.toInt) (by omega)
  refine Int32.toInt_inj.mp ?_
  rw [wi9999, wide_at, s]
  unfold kz_cl
  by_cases c : a + b < 9999
  · have c1 := il_iff.mp c
    rw [if_pos c, if_neg (show ¬ a.toInt + b.toInt < 0 by omega), if_neg (show ¬ 9999 < a.toInt + b.toInt by omega)]; exact s
  · have c1 : ¬ (a + b).toInt < (9999 : Int32).toInt := fun q => c (il_iff.mpr q)
    rw [if_neg c, if_neg (show ¬ a.toInt + b.toInt < 0 by omega)]
    by_cases d : 9999 < a.toInt + b.toInt
    · rw [if_pos d]; rfl
    · rw [if_neg d, z]; omega
theorem cap99999 {a b : Int32} (ha : 0 ≤ a.toInt ∧ a.toInt ≤ 100000) (hb : 0 ≤ b.toInt ∧ b.toInt ≤ 1000000) : (if a + b < 99999 then a + b else 99999) = E_v_within_99999 (a + b).toInt64 := by
  have z : (99999 : Int32).toInt = 99999 := rfl
  have s := i_add (Eq.refl a.toInt) (Eq.refl b.toInt) (by omega)
  refine Int32.toInt_inj.mp ?_
  rw [wi99999, wide_at, s]
  unfold kz_cl
  by_cases c : a + b < 99999
  · have c1 := il_iff.mp c
    rw [if_pos c, if_neg (show ¬ a.toInt + b.toInt < 0 by omega), if_neg (show ¬ 99999 < a.toInt + b.toInt by omega)]; exact s
  · have c1 : ¬ (a + b).toInt < (99999 : Int32).toInt := fun q => c (il_iff.mpr q)
    rw [if_neg c, if_neg (show ¬ a.toInt + b.toInt < 0 by omega)]
    by_cases d : 99999 < a.toInt + b.toInt
    · rw [if_pos d]; rfl
    · rw [if_neg d, z]; omega
theorem TW.fire1 {n lt nf fi : Int32} {f1 f2 fw : Nat → Int32} {fl : Nat → Option Nat} {G : Nat → LC} (h : TW n lt nf fi f1 f2 fl G fw) {k : Nat} (hk : (k : Int) < n.toInt) {V : Int32} (v : 0 ≤ V.toInt ∧ V.toInt ≤ 20) : TW n lt nf fi (upd f1 (40 + k) V) f2 fl G (upd fw (11 + k) V) := by
  obtain ⟨k8, hh⟩ := h.has hk
  have r := h.1.2.2.2.2.2.2.2.2.2.2.2 k k8
  refine h.step (h.1.one k8 hk (fun j h1 h2 h3 => upd_n h2) (fun j h1 h2 h3 => upd_n h1) ⟨?_, ?_, ?_⟩ ⟨?_, ?_, ?_⟩) (fun j hj => upd_n (by omega)) (fun j hj => upd_n (by omega))
  · rw [upd_n (by omega), upd_n (by omega)]; exact (h.1.2.2.1 k k8).2.1
  · rw [upd_s, upd_s]
  · rw [upd_n (by omega), upd_n (by omega)]; exact (h.1.2.2.1 k k8).2.2
  · rw [upd_s]; exact v
  · rw [upd_n (by omega)]; exact r.2.1
  · rw [upd_n (by omega)]; exact r.2.2
theorem TW.coal1 {n lt nf fi : Int32} {f1 f2 fw : Nat → Int32} {fl : Nat → Option Nat} {G : Nat → LC} (h : TW n lt nf fi f1 f2 fl G fw) {k : Nat} (hk : (k : Int) < n.toInt) {V : Int32} (v : 0 ≤ V.toInt ∧ V.toInt ≤ 999) : TW n lt nf fi (upd f1 (16 + k) V) f2 fl G (upd fw (19 + k) V) := by
  obtain ⟨k8, hh⟩ := h.has hk
  have r := h.1.2.2.2.2.2.2.2.2.2.2.2 k k8
  refine h.step (h.1.one k8 hk (fun j h1 h2 h3 => upd_n h1) (fun j h1 h2 h3 => upd_n h2) ⟨?_, ?_, ?_⟩ ⟨?_, ?_, ?_⟩) (fun j hj => upd_n (by omega)) (fun j hj => upd_n (by omega))
  · rw [upd_s, upd_s]
  · rw [upd_n (by omega), upd_n (by omega)]; exact (h.1.2.2.1 k k8).1
  · rw [upd_n (by omega), upd_n (by omega)]; exact (h.1.2.2.1 k k8).2.2
  · rw [upd_n (by omega)]; exact r.1
  · rw [upd_s]; exact v
  · rw [upd_n (by omega)]; exact r.2.2
theorem act_damp {x y n lt nf fi nu : Int32} {f1 f2 fw fu fsr : Nat → Int32} {fl : Nat → Option Nat} {G : Nat → LC} (h : TW n lt nf fi f1 f2 fl G fw) {r r2 nu' : Int32} {f1' fw' fu' fsr' : Nat → Int32} (k1 : (r, f1') = E_w_quench x y n f1) (k2 : (r2, nu', fw', fu', fsr') = E_v_dampNow x y nu fw fu fsr) : ActR r r2 1 n lt nf fi fi f1 f2 f1' f2 fl G fw fw' nu nu' fu fsr fu' fsr' := by
  have hn := h.2.2.2.2.2.2.1
  rw [E_v_dampNow.eq_def, Lt_b, Lt_b] at k2
  rw [E_w_quench.eq_def, Lt_b] at k1
  by_cases d : (1 : Int32).toInt ≤ y.toInt ∧ y.toInt ≤ (20 : Int32).toInt
  case neg =>
    rw [ifw_n d] at k1
    rw [ifi_n (by exact d)] at k2
    simp only [Prod.mk.injEq] at k1 k2
    obtain ⟨rfl, rfl⟩ := k1
    obtain ⟨rfl, rfl, rfl, rfl, rfl⟩ := k2
    exact ⟨rfl, Or.inl ⟨by decide, rfl, rfl, rfl, rfl, rfl, rfl, rfl⟩⟩
  rw [ifw_p d, Lt_b] at k1
  rw [ifi_p (by exact d), Lt_b, isHouse_at hn] at k2
  by_cases c : 0 ≤ x.toInt ∧ x.toInt < n.toInt
  case neg =>
    rw [has_n c, if_neg (by decide)] at k1 k2
    simp only [Prod.mk.injEq] at k1 k2
    obtain ⟨rfl, rfl⟩ := k1
    obtain ⟨rfl, rfl, rfl, rfl, rfl⟩ := k2
    exact ⟨rfl, Or.inl ⟨by decide, rfl, rfl, rfl, rfl, rfl, rfl, rfl⟩⟩
  obtain ⟨k, hk, hz⟩ : ∃ k : Nat, x = nI k ∧ (k : Int) = x.toInt := ⟨x.toInt.toNat, i_ofN rfl c.1, by omega⟩
  subst hk
  have hkn : (k : Int) < n.toInt := by omega
  obtain ⟨k8, hh⟩ := h.has hkn
  have z1 : (1 : Int32).toInt = 1 := rfl
  have z20 : (20 : Int32).toInt = 20 := rfl
  have v := kz_rng (g := ((fw (11 + k) - y).toInt64).toInt) (M := 20) (by decide)
  rw [← wi20] at v
  have r0 := (h.1.2.2.2.2.2.2.2.2.2.2.2 k k8).1
  rw [hh, if_pos rfl] at k1 k2
  rw [Lt_b, h.fire k8, Lt_b, Lt_b, cap0 r0 (by omega) (by omega), Lt_b, put5_at (nIb k8), nIt (by omega)] at k1
  rw [n_ladd (m := 11) rfl (by omega), Lt2_b, Lt2_b, Lt_b, Lt_b, Lt_b, Lt_b, Lt_b, Lt_b, Lt_b, Lt_b, Lt_b, kn_cl (by omega)] at k2
  have ts := h.fire1 hkn v
  generalize E_v_within_20 (fw (11 + k) - y).toInt64 = V at k1 k2 v ts
  rw [upd_s] at k2
  simp only [Prod.mk.injEq] at k1 k2
  obtain ⟨rfl, rfl⟩ := k1
  obtain ⟨rfl, rfl, rfl, rfl, rfl⟩ := k2
  exact ⟨rfl, Or.inr ⟨v.1, ts, rfl, fun j hj => upd_n (by omega)⟩⟩
theorem act_buy {x y n lt nf fi nu : Int32} {f1 f2 fw fu fsr : Nat → Int32} {fl : Nat → Option Nat} {G : Nat → LC} (h : TW n lt nf fi f1 f2 fl G fw) {r r2 nu' : Int32} {f1' fw' fu' fsr' : Nat → Int32} (k1 : (r, f1') = E_w_supply x y n f1) (k2 : (r2, nu', fw', fu', fsr') = E_v_buyNow x y nu fw fu fsr) : ActR r r2 2 n lt nf fi fi f1 f2 f1' f2 fl G fw fw' nu nu' fu fsr fu' fsr' := by
  have hn := h.2.2.2.2.2.2.1
  rw [E_v_buyNow.eq_def, Lt_b, Lt_b] at k2
  rw [E_w_supply.eq_def, Lt_b] at k1
  by_cases d : (1 : Int32).toInt ≤ y.toInt ∧ y.toInt ≤ (999 : Int32).toInt
  case neg =>
    rw [ifw_n d] at k1
    rw [ifi_n (by exact d)] at k2
    simp only [Prod.mk.injEq] at k1 k2
    obtain ⟨rfl, rfl⟩ := k1
    obtain ⟨rfl, rfl, rfl, rfl, rfl⟩ := k2
    exact ⟨rfl, Or.inl ⟨by decide, rfl, rfl, rfl, rfl, rfl, rfl, rfl⟩⟩
  rw [ifw_p d, Lt_b] at k1
  rw [ifi_p (by exact d), Lt_b, isHouse_at hn] at k2
  by_cases c : 0 ≤ x.toInt ∧ x.toInt < n.toInt
  case neg =>
    rw [has_n c, if_neg (by decide)] at k1 k2
    simp only [Prod.mk.injEq] at k1 k2
    obtain ⟨rfl, rfl⟩ := k1
    obtain ⟨rfl, rfl, rfl, rfl, rfl⟩ := k2
    exact ⟨rfl, Or.inl ⟨by decide, rfl, rfl, rfl, rfl, rfl, rfl, rfl⟩⟩
  obtain ⟨k, hk, hz⟩ : ∃ k : Nat, x = nI k ∧ (k : Int) = x.toInt := ⟨x.toInt.toNat, i_ofN rfl c.1, by omega⟩
  subst hk
  have hkn : (k : Int) < n.toInt := by omega
  obtain ⟨k8, hh⟩ := h.has hkn
  have z1 : (1 : Int32).toInt = 1 := rfl
  have z20 : (999 : Int32).toInt = 999 := rfl
  have v := kz_rng (g := ((fw (19 + k) + y).toInt64).toInt) (M := 999) (by decide)
  rw [← wi999] at v
  have r0 := (h.1.2.2.2.2.2.2.2.2.2.2.2 k k8).2.1
  rw [hh, if_pos rfl] at k1 k2
  rw [Lt_b, h.coal k8, Lt_b, Lt_b, cap999 (by omega) (by omega), Lt_b, put2_at (nIb k8), nIt (by omega)] at k1
  rw [n_ladd (m := 19) rfl (by omega), Lt2_b, Lt2_b, Lt_b, Lt_b, Lt_b, Lt_b, Lt_b, Lt_b, Lt_b, Lt_b, Lt_b, kn_cl (by omega)] at k2
  have ts := h.coal1 hkn v
  generalize E_v_within_999 (fw (19 + k) + y).toInt64 = V at k1 k2 v ts
  rw [upd_s] at k2
  simp only [Prod.mk.injEq] at k1 k2
  obtain ⟨rfl, rfl⟩ := k1
  obtain ⟨rfl, rfl, rfl, rfl, rfl⟩ := k2
  exact ⟨rfl, Or.inr ⟨v.1, ts, rfl, fun j hj => upd_n (by omega)⟩⟩
/-! the calls -/
theorem rel_stoke {x n lt nf fi nu br lw bro dr kp rb sta thr : Int32} {val sm : Int64} {f1 f2 f3 fw fs cw fu fsr sl frf frm : Nat → Int32} {fe frs : Nat → Int64} {fl : Nat → Option Nat} {G : Nat → LC} {r1 rb' dr' kp' br' r2 sta' nu' lw' bro' : Int32} {val' sm' : Int64} {frf' sl' fs' cw' f1' fw' fu' fsr' frm' : Nat → Int32} {fe' frs' : Nat → Int64} (k1 : (r1, rb', frf', dr', kp', sl', br', fs', cw', f1') = E_w_stoke G x rb frf dr kp sl br fs cw n lt nf fi f1 f2 f3 fl) (k2 : (r2, sta', nu', lw', bro', val', sm', fw', fe', frs', fu', fsr', frm') = E_v_stoke x thr sta nu lw bro val sm fw fe frs fu fsr frm) (h : TW n lt nf fi f1 f2 fl G fw) (hr : HR n dr kp nu sl fu fsr fw) (q : RfR rb sta frf frm) : r1 = r2 ∧ RfR rb' sta' frf' frm' ∧ TW n lt nf fi f1' f2 fl G fw' ∧ HR n dr' kp' nu' sl' fu' fsr' fw' := by
  rw [E_w_stoke.eq_def, Lt_b] at k1
  rw [E_v_stoke.eq_def] at k2
  generalize hA : E_w_kindle G x br fs cw n lt nf fi f1 f2 f3 fl = A at k1
  generalize hB : E_v_stokeNow x nu lw bro val sm fw fe frs fu fsr = B at k2
  obtain ⟨A1, A2, A3, A4, A5⟩ := A
  obtain ⟨B1, B2, B3, B4, B5, B6, B7, B8, B9, B10, B11⟩ := B
  have a := act_stoke h hA.symm hB.symm
  simp only [Lt2, Prod.mk.injEq] at k1 k2
  obtain ⟨a1, a2, a3, a4, a5, a6, a7, a8, a9, a10⟩ := k1
  obtain ⟨b1, b2, b3, b4, b5, b6, b7, b8, b9, b10, b11, b12, b13⟩ := k2
  have s := a.settle (by omega) hr h q (r1 := r1) (rb' := rb') (dr' := dr') (kp' := kp') (frf' := frf') (sl' := sl') (r3 := r2) (sta' := sta') (frm' := frm') (by rw [a1, a2, a3, a4, a5, a6]; rfl) (by rw [b1, b2, b13])
  rw [a10, b3, b8, b11, b12]
  exact s
theorem rel_damp {x y n lt nf fi nu br lw bro dr kp rb sta thr : Int32} {val sm : Int64} {f1 f2 f3 fw fs cw fu fsr sl frf frm : Nat → Int32} {fe frs : Nat → Int64} {fl : Nat → Option Nat} {G : Nat → LC} {r1 rb' dr' kp' r2 sta' nu' : Int32} {frf' sl' f1' fw' fu' fsr' frm' : Nat → Int32} (k1 : (r1, rb', frf', dr', kp', sl', f1') = E_w_damp x y rb frf dr kp sl br fs cw n lt nf fi f1 f2 f3 fl) (k2 : (r2, sta', nu', fw', fu', fsr', frm') = E_v_damp x y thr sta nu lw bro val sm fw fe frs fu fsr frm) (h : TW n lt nf fi f1 f2 fl G fw) (hr : HR n dr kp nu sl fu fsr fw) (q : RfR rb sta frf frm) : r1 = r2 ∧ RfR rb' sta' frf' frm' ∧ TW n lt nf fi f1' f2 fl G fw' ∧ HR n dr' kp' nu' sl' fu' fsr' fw' := by
  rw [E_w_damp.eq_def, Lt_b] at k1
  rw [E_v_damp.eq_def] at k2
  generalize hA : E_w_quench x y n f1 = A at k1
  generalize hB : E_v_dampNow x y nu fw fu fsr = B at k2
  obtain ⟨A1, A2⟩ := A
  obtain ⟨B1, B2, B3, B4, B5⟩ := B
  have a := act_damp h hA.symm hB.symm
  simp only [Lt2, Prod.mk.injEq] at k1 k2
  obtain ⟨a1, a2, a3, a4, a5, a6, a7⟩ := k1
  obtain ⟨b1, b2, b3, b4, b5, b6, b7⟩ := k2
  have s := a.settle (by omega) hr h q (r1 := r1) (rb' := rb') (dr' := dr') (kp' := kp') (frf' := frf') (sl' := sl') (r3 := r2) (sta' := sta') (frm' := frm') (by rw [a1, a2, a3, a4, a5, a6]; rfl) (by rw [b1, b2, b7])
  rw [a7, b3, b4, b5, b6]
  exact s
theorem rel_buy {x y n lt nf fi nu br lw bro dr kp rb sta thr : Int32} {val sm : Int64} {f1 f2 f3 fw fs cw fu fsr sl frf frm : Nat → Int32} {fe frs : Nat → Int64} {fl : Nat → Option Nat} {G : Nat → LC} {r1 rb' dr' kp' r2 sta' nu' : Int32} {frf' sl' f1' fw' fu' fsr' frm' : Nat → Int32} (k1 : (r1, rb', frf', dr', kp', sl', f1') = E_w_buy x y rb frf dr kp sl br fs cw n lt nf fi f1 f2 f3 fl) (k2 : (r2, sta', nu', fw', fu', fsr', frm') = E_v_buy x y thr sta nu lw bro val sm fw fe frs fu fsr frm) (h : TW n lt nf fi f1 f2 fl G fw) (hr : HR n dr kp nu sl fu fsr fw) (q : RfR rb sta frf frm) : r1 = r2 ∧ RfR rb' sta' frf' frm' ∧ TW n lt nf fi f1' f2 fl G fw' ∧ HR n dr' kp' nu' sl' fu' fsr' fw' := by
  rw [E_w_buy.eq_def, Lt_b] at k1
  rw [E_v_buy.eq_def] at k2
  generalize hA : E_w_supply x y n f1 = A at k1
  generalize hB : E_v_buyNow x y nu fw fu fsr = B at k2
  obtain ⟨A1, A2⟩ := A
  obtain ⟨B1, B2, B3, B4, B5⟩ := B
  have a := act_buy h hA.symm hB.symm
  simp only [Lt2, Prod.mk.injEq] at k1 k2
  obtain ⟨a1, a2, a3, a4, a5, a6, a7⟩ := k1
  obtain ⟨b1, b2, b3, b4, b5, b6, b7⟩ := k2
  have s := a.settle (by omega) hr h q (r1 := r1) (rb' := rb') (dr' := dr') (kp' := kp') (frf' := frf') (sl' := sl') (r3 := r2) (sta' := sta') (frm' := frm') (by rw [a1, a2, a3, a4, a5, a6]; rfl) (by rw [b1, b2, b7])
  rw [a7, b3, b4, b5, b6]
  exact s
end
section
/-! who sounds; what beside is -/
theorem TW.sings {n lt nf fi : Int32} {f1 f2 fw : Nat → Int32} {fl : Nat → Option Nat} {G : Nat → LC} (h : TW n lt nf fi f1 f2 fl G fw) {k : Nat} (hk : k < 8) : E_w_sings (nI k) f1 f2 = E_v_isSounding (nI k) fw := by
  have t1 := h.1.1
  rw [E_w_sings.eq_def, Lt_b, h.fire hk, Lt_b, E_w_loud.eq_def, E_v_isSounding.eq_def, n_ladd (m := 11) rfl (by omega), Lt_b, Lt_b, Lt_b, Lt_b, Lt_b, Lt_b, Lt_b, Lt_b, Lt_b, Lt_b, kn_cl (by omega), show E_v_term 2 fw = fw 6 from rfl, show E_v_term 3 fw = fw 7 from rfl, show f2 (2 : Int32).toNatClampNeg = fw 6 from t1 2 (by omega), show f2 (3 : Int32).toNatClampNeg = fw 7 from t1 3 (by omega)]
  have w6 : (fw 6).toInt64.toInt = (fw 6).toInt := wide_at
  have w7 : (fw 7).toInt64.toInt = (fw 7).toInt := wide_at
  by_cases c : (fw 6).toInt ≤ (fw (11 + k)).toInt ∧ (fw (11 + k)).toInt ≤ (fw 7).toInt
  · rw [ifi_p (by rw [w6, w7]; exact c), if_neg (fun q => by have := il_iff.mp q; omega), if_neg (fun q => by have := il_iff.mp q; omega)]
  · rw [ifi_n (by rw [w6, w7]; exact c)]
    by_cases d : fw (11 + k) < fw 6
    · rw [if_pos d]; rfl
    · have d1 : ¬ (fw (11 + k)).toInt < (fw 6).toInt := fun q => d (il_iff.mpr q)
      rw [if_neg d, if_pos (il_iff.mpr (by omega))]; rfl
theorem bes_0 : ∀ p, p < 7 → ∀ q, q < 7 → (if (if 0 ≤ nI p - nI q then nI p - nI q else 0 - (nI p - nI q)) = 1 then (1 : Int32) else if (if 0 ≤ nI p - nI q then nI p - nI q else 0 - (nI p - nI q)) = 6 then 1 else 0) = (if (nI p - nI q + 7 - (nI p - nI q + 7) / 7 * 7) = 1 then 1 else if (nI p - nI q + 7 - (nI p - nI q + 7) / 7 * 7) = 6 then 1 else 0) := by decide +kernel
theorem TW.beside {n lt nf fi : Int32} {f1 f2 fw : Nat → Int32} {fl : Nat → Option Nat} {G : Nat → LC} (h : TW n lt nf fi f1 f2 fl G fw) {a b : Nat} (ha : a < 8) (hb : b < 8) : E_w_beside (nI a) (nI b) f1 = if fw (43 + a) = fw (43 + b) then E_v_areBeside (fw (35 + a)) (fw (35 + b)) else 0 := by
  rw [E_w_beside.eq_def, h.note ha, h.note hb, h.street ha, h.street hb, Lt_b, Lt_b, Lt_b, Lt_b, Lt_b, Lt_b]
  by_cases c : fw (43 + a) = fw (43 + b)
  · rw [if_pos c, if_pos c]
    have n1 := (h.2.2.2.2.1 a ha).1
    have n2 := (h.2.2.2.2.1 b hb).1
    obtain ⟨p, hp, p7⟩ : ∃ p : Nat, fw (35 + a) = nI p ∧ p < 7 := ⟨(fw (35 + a)).toInt.toNat, i_ofN rfl n1.1, by omega⟩
    obtain ⟨q, hq, q7⟩ : ∃ q : Nat, fw (35 + b) = nI q ∧ q < 7 := ⟨(fw (35 + b)).toInt.toNat, i_ofN rfl n2.1, by omega⟩
    rw [hp, hq]
    exact bes_0 p p7 q q7
  · rw [if_neg c, if_neg c]; rfl
theorem isS_01 {x : Int32} {fw : Nat → Int32} : E_v_isSounding x fw = 0 ∨ E_v_isSounding x fw = 1 := by
  rw [E_v_isSounding.eq_def]
  simp only [Lt]
  split
  · exact Or.inr rfl
  · exact Or.inl rfl
theorem TW.nN {n lt nf fi : Int32} {f1 f2 fw : Nat → Int32} {fl : Nat → Option Nat} {G : Nat → LC} (h : TW n lt nf fi f1 f2 fl G fw) : ∃ N : Nat, N ≤ 8 ∧ n = nI N ∧ fw 0 = nI N ∧ (N : Int) = n.toInt := by
  obtain ⟨h1, h2, h3⟩ := h.2.2.2.2.2.2.1
  have e := i_ofN (Eq.refl n.toInt) h2
  exact ⟨n.toInt.toNat, by omega, e, h1.symm.trans e, by omega⟩
theorem TW.notes {n lt nf fi : Int32} {f1 f2 fw : Nat → Int32} {fl : Nat → Option Nat} {G : Nat → LC} (h : TW n lt nf fi f1 f2 fl G fw) : E_w_notesNow n f1 f2 = E_v_soundingNotes fw := by
  obtain ⟨N, n8, e1, e2, _⟩ := h.nN
  have go : ∀ d a F acc, a + d = N → Lp (α := Int32 → Int32 → (Int32)) (E_w_notesNow_l4 n f1 f2) (fun _ _ => ((0) : Int32)) (F + d + 1) (nI a) acc = Lp (α := Int32 → Int32 → (Int32)) (E_v_soundingNotes_l4 fw) (fun _ _ => ((0) : Int32)) (F + d + 1) (nI a) acc := by
    intro d
    induction d with
    | zero =>
      intro a F acc ha
      have : a = N := by omega
      subst this
      have c1 : nI a ≤ nI a := (kn_le (by omega) (by omega)).mpr (Nat.le_refl _)
      rw [Lp_s, E_w_notesNow_l4.eq_def, e1, if_pos c1, Lp_s, E_v_soundingNotes_l4.eq_def, Lt_b, show fw (0 : Int32).toNatClampNeg = nI a from e2, if_pos c1]
    | succ d ih =>
      intro a F acc ha
      have c1 : ¬ nI N ≤ nI a := fun q => by have := (kn_le (by omega) (by omega)).mp q; omega
      have a8 : a < 8 := by omega
      have f0 : fw (0 : Int32).toNatClampNeg = nI N := e2
      have st1 : Lp (α := Int32 → Int32 → (Int32)) (E_w_notesNow_l4 n f1 f2) (fun _ _ => ((0) : Int32)) (F + d + 1 + 1) (nI a) acc = Lp (α := Int32 → Int32 → (Int32)) (E_w_notesNow_l4 n f1 f2) (fun _ _ => ((0) : Int32)) (F + d + 1) (nI (a + 1)) (if E_v_isSounding (nI a) fw = 0 then acc ||| 0 else acc ||| 1 <<< (fw (35 + a) &&& 31)) := by
        rw [Lp_s, E_w_notesNow_l4.eq_def, e1, if_neg c1, Lt_b, h.sings a8]
        by_cases s : E_v_isSounding (nI a) fw = 0
        · rw [if_pos s, if_pos s, Lt_b, Lt_b, kn_po (by omega)]
        · rw [if_neg s, if_neg s, Lt_b, h.note a8, Lt_b, Lt_b, Lt_b, kn_po (by omega)]
      have st2 : Lp (α := Int32 → Int32 → (Int32)) (E_v_soundingNotes_l4 fw) (fun _ _ => ((0) : Int32)) (F + d + 1 + 1) (nI a) acc = Lp (α := Int32 → Int32 → (Int32)) (E_v_soundingNotes_l4 fw) (fun _ _ => ((0) : Int32)) (F + d + 1) (nI (a + 1)) (if E_v_isSounding (nI a) fw = 0 then acc ||| 0 else acc ||| 1 <<< (fw (35 + a) &&& 31)) := by
        rw [Lp_s, E_v_soundingNotes_l4.eq_def, Lt_b, f0, if_neg c1, Lt_b]
        by_cases s : E_v_isSounding (nI a) fw = 0
        · rw [if_pos s, if_pos s, Lt_b, Lt_b, kn_po (by omega)]
        · rw [if_neg s, if_neg s, n_ladd (m := 35) rfl (by omega), Lt_b, Lt_b, Lt_b, Lt_b, Lt_b, kn_po (by omega), kn_cl (by omega)]
      rw [show F + (d + 1) + 1 = F + d + 1 + 1 by omega, st1, st2]
      exact ih (a + 1) F _ (by omega)
  have q := go N 0 (9 - N) 0 (by omega)
  rw [E_w_notesNow.eq_def, E_v_soundingNotes.eq_def, show ((9 - (0 : Int32).toInt : Int).toNat + 1) = 9 - N + N + 1 by rw [show (0 : Int32).toInt = 0 from rfl]; omega]
  exact q
theorem bit_met {s w : Int32} : (s &&& w = w) ↔ (w &&& (s ^^^ (-1)) = 0) := by
  have m : ∀ i : Nat, i < 32 → (-1 : Int32).toBitVec.getLsbD i = true := by decide
  constructor
  · intro h
    rw [← h]
    apply Int32.toBitVec_inj.mp
    apply BitVec.eq_of_getLsbD_eq
    intro i hi
    simp only [Int32.toBitVec_and, Int32.toBitVec_xor, BitVec.getLsbD_and, BitVec.getLsbD_xor, m i hi]
    show _ = (0 : Int32).toBitVec.getLsbD i
    rw [show (0 : Int32).toBitVec = 0#32 from rfl, BitVec.getLsbD_zero]
    cases s.toBitVec.getLsbD i <;> cases w.toBitVec.getLsbD i <;> rfl
  · intro h
    apply Int32.toBitVec_inj.mp
    apply BitVec.eq_of_getLsbD_eq
    intro i hi
    have q := congrArg (fun x : Int32 => x.toBitVec.getLsbD i) h
    simp only [Int32.toBitVec_and, Int32.toBitVec_xor, BitVec.getLsbD_and, BitVec.getLsbD_xor, m i hi] at q
    rw [show (0 : Int32).toBitVec = 0#32 from rfl, BitVec.getLsbD_zero] at q
    simp only [Int32.toBitVec_and, BitVec.getLsbD_and]
    revert q
    cases s.toBitVec.getLsbD i <;> cases w.toBitVec.getLsbD i <;> decide
theorem TW.met {n lt nf fi : Int32} {f1 f2 f3 fw : Nat → Int32} {fl : Nat → Option Nat} {G : Nat → LC} (h : TW n lt nf fi f1 f2 fl G fw) (h3 : ∀ j, j < 24 → f3 j = fw (67 + j)) : E_w_meetsChord n f1 f2 f3 = E_v_isMet fw := by
  obtain ⟨hr, r1, r2, r3⟩ := h.hour
  rw [E_w_meetsChord.eq_def, E_v_isMet.eq_def, show f2 (0 : Int32).toNatClampNeg = nI hr from r3, show E_v_term_0 fw = nI hr from r2, h.notes]
  simp only [Lt]
  rw [E_w_chordAt.eq_def, if_neg (kn_nl (by omega)), if_neg (kn_nlel (j := 24) rfl (by omega) (by omega)), Lt_b, n_ladd (m := 67) rfl (by omega), kn_cl (by omega), kn_cl (by omega), h3 hr (by omega)]
  by_cases c : E_v_soundingNotes fw &&& fw (67 + hr) = fw (67 + hr)
  · rw [if_pos c, if_pos (bit_met.mp c)]
  · rw [if_neg c, if_neg (fun q => c (bit_met.mpr q))]
/-! discords -/
noncomputable abbrev DCr : Type := Int32 → Int32 → Int32 → (Nat → Int32) → (Nat → Int32) → (Int32 × Int32 × (Nat → Int32) × (Nat → Int32))
noncomputable abbrev DRr : Type := Int32 → Int32 → Int32 → Int32 → Int64 → Int64 → (Nat → Int64) → (Nat → Int64) → (Int32 × Int32 × Int32 × Int64 × Int64 × (Nat → Int64) × (Nat → Int64))
theorem KWo.facing {cw fw : Nat → Int32} {h : Nat} {o p : Int32} (k : KWo cw fw h o) : KWo (E_w_facing p cw) fw h p := by
  obtain ⟨c0, c1, c2, c3, c4, c5, c6, c7, c8⟩ := k
  rw [E_w_facing.eq_def, Lt_b, show (8 : Int32).toNatClampNeg = 8 from rfl]
  refine ⟨?_, ?_, ?_, ?_, ?_, ?_, ?_, ?_, upd_s⟩ <;> rw [upd_n (by omega)] <;> assumption
theorem disc_in {n lt nf fi : Int32} {f1 f2 fw : Nat → Int32} {fl : Nat → Option Nat} {G : Nat → LC} (h : TW n lt nf fi f1 f2 fl G fw) {N a : Nat} (hN : N ≤ 8) (e1 : n = nI N) (e2 : fw 0 = nI N) (z1 rc1 : DCr) (z2 rc2 : DRr) : ∀ (d b F F2 : Nat), b + d = N → a < b → ∀ (acc : Int32) (A : Nat) (br : Int32) (fs cw : Nat → Int32) (lw bro : Int32) (val sm : Int64) (fe frs : Nat → Int64), 0 ≤ acc.toInt ∧ acc.toInt ≤ A ∧ A + 999 * d ≤ 1000000 → ∃ (acc' br' : Int32) (fs' cw' : Nat → Int32) (lw' bro' : Int32) (val' sm' : Int64) (fe' frs' : Nat → Int64), (0 ≤ acc'.toInt ∧ acc'.toInt ≤ (A + 999 * d : Nat)) ∧ Lp (E_w_discords_l17 G n lt nf f1 f2 fl (nI a) rc1) z1 (F + d + 1) (nI b) acc br fs cw = rc1 (nI (a + 1)) acc' br' fs' cw' ∧ Lp (E_v_discords_l18 fw (nI a) rc2) z2 (F2 + d + 1) (nI b) acc lw bro val sm fe frs = rc2 (nI (a + 1)) acc' lw' bro' val' sm' fe' frs' := by
  intro d
  induction d with
  | zero =>
    intro b F F2 hb hab acc A br fs cw lw bro val sm fe frs hA
    have : b = N := by omega
    subst this
    refine ⟨acc, br, fs, cw, lw, bro, val, sm, fe, frs, ⟨hA.1, by omega⟩, ?_, ?_⟩
    · rw [Lp_s, E_w_discords_l17.eq_def, e1, if_pos ((kn_le (by omega) (by omega)).mpr (Nat.le_refl _)), Lt_b, kn_po (by omega)]
    · rw [Lp_s, E_v_discords_l18.eq_def, Lt_b, show fw (0 : Int32).toNatClampNeg = nI b from e2, if_pos ((kn_le (by omega) (by omega)).mpr (Nat.le_refl _)), Lt_b, kn_po (by omega)]
  | succ d ih =>
    intro b F F2 hb hab acc A br fs cw lw bro val sm fe frs hA
    have a8 : a < 8 := by omega
    have b8 : b < 8 := by omega
    have c1 : ¬ n ≤ nI b := fun q => by rw [e1] at q; have := (kn_le (by omega) (by omega)).mp q; omega
    have c2 : ¬ fw (0 : Int32).toNatClampNeg ≤ nI b := fun q => by rw [show fw (0 : Int32).toNatClampNeg = nI N from e2] at q; have := (kn_le (by omega) (by omega)).mp q; omega
    have skip : ∀ (acc : Int32) (A : Nat) (br : Int32) (fs cw : Nat → Int32) (lw bro : Int32) (val sm : Int64) (fe frs : Nat → Int64), 0 ≤ acc.toInt ∧ acc.toInt ≤ A ∧ A + 999 * d ≤ 1000000 → ∃ (acc' br' : Int32) (fs' cw' : Nat → Int32) (lw' bro' : Int32) (val' sm' : Int64) (fe' frs' : Nat → Int64), (0 ≤ acc'.toInt ∧ acc'.toInt ≤ (A + 999 * d : Nat)) ∧ E_w_discords_j98 (nI b) (Lp (E_w_discords_l17 G n lt nf f1 f2 fl (nI a) rc1) z1 (F + (d + 1))) acc br fs cw = rc1 (nI (a + 1)) acc' br' fs' cw' ∧ E_v_discords_j121 (nI b) (Lp (E_v_discords_l18 fw (nI a) rc2) z2 (F2 + (d + 1))) acc lw bro val sm fe frs = rc2 (nI (a + 1)) acc' lw' bro' val' sm' fe' frs' := by
      intro acc A br fs cw lw bro val sm fe frs hA
      rw [E_w_discords_j98.eq_def, E_v_discords_j121.eq_def, Lt_b, Lt_b, kn_po (by omega)]
      exact ih (b + 1) F F2 (by omega) (by omega) acc A br fs cw lw bro val sm fe frs hA
    obtain ⟨p, ep⟩ : ∃ p, p = Lp (E_w_discords_l17 G n lt nf f1 f2 fl (nI a) rc1) z1 (F + (d + 1) + 1) (nI b) acc br fs cw := ⟨_, rfl⟩
    obtain ⟨r, er⟩ : ∃ r, r = Lp (E_v_discords_l18 fw (nI a) rc2) z2 (F2 + (d + 1) + 1) (nI b) acc lw bro val sm fe frs := ⟨_, rfl⟩
    rw [← ep, ← er]
    rw [Lp_s, E_w_discords_l17.eq_def, if_neg c1, Lt_b, h.sings a8, h.sings b8, h.beside a8 b8] at ep
    rw [Lp_s, E_v_discords_l18.eq_def, Lt_b, if_neg c2, Lt_b] at er
    have out : ∀ {A' : Nat}, (∃ (acc' br' : Int32) (fs' cw' : Nat → Int32) (lw' bro' : Int32) (val' sm' : Int64) (fe' frs' : Nat → Int64), (0 ≤ acc'.toInt ∧ acc'.toInt ≤ (A' + 999 * d : Nat)) ∧ p = rc1 (nI (a + 1)) acc' br' fs' cw' ∧ r = rc2 (nI (a + 1)) acc' lw' bro' val' sm' fe' frs') → A' ≤ A + 999 → ∃ (acc' br' : Int32) (fs' cw' : Nat → Int32) (lw' bro' : Int32) (val' sm' : Int64) (fe' frs' : Nat → Int64), (0 ≤ acc'.toInt ∧ acc'.toInt ≤ (A + 999 * (d + 1) : Nat)) ∧ p = rc1 (nI (a + 1)) acc' br' fs' cw' ∧ r = rc2 (nI (a + 1)) acc' lw' bro' val' sm' fe' frs' := by
      intro A' ⟨x1, x2, x3, x4, x5, x6, x7, x8, x9, x10, x11, x12⟩ hA'
      exact ⟨x1, x2, x3, x4, x5, x6, x7, x8, x9, x10, ⟨x11.1, by omega⟩, x12⟩
    have sk := skip acc A br fs cw lw bro val sm fe frs ⟨hA.1, hA.2.1, by omega⟩
    by_cases s1 : E_v_isSounding (nI a) fw = 0
    · rw [if_pos s1] at ep er
      rw [← ep, ← er] at sk
      exact out sk (by omega)
    rw [if_neg s1, Lt_b] at ep er
    by_cases s2 : E_v_isSounding (nI b) fw = 0
    · rw [if_pos s2] at ep er
      rw [← ep, ← er] at sk
      exact out sk (by omega)
    rw [if_neg s2, Lt_b] at ep er
    rw [n_ladd (m := 43) rfl (by omega), n_ladd (m := 43) rfl (by omega), Lt_b, Lt_b, Lt_b, kn_cl (by omega), kn_cl (by omega)] at er
    by_cases s3 : fw (43 + a) = fw (43 + b)
    case neg =>
      rw [if_neg s3, if_pos rfl] at ep
      rw [if_neg s3] at er
      rw [← ep, ← er] at sk
      exact out sk (by omega)
    rw [if_pos s3] at ep er
    rw [n_ladd (m := 35) rfl (by omega), n_ladd (m := 35) rfl (by omega), Lt_b, Lt_b, Lt_b, Lt_b, Lt_b, kn_cl (by omega), kn_cl (by omega)] at er
    by_cases s4 : E_v_areBeside (fw (35 + a)) (fw (35 + b)) = 0
    · rw [if_pos s4] at ep er
      rw [← ep, ← er] at sk
      exact out sk (by omega)
    rw [if_neg s4, Lt_b, Lt_b, Lt_b, Lt_b, Lt_b, h.fire a8, h.note b8] at ep
    rw [if_neg s4, Lt_b, Lt_b, Lt_b, show fw (3 : Int32).toNatClampNeg = fw 3 from rfl, kn_cl (by omega)] at er
    have hw := (h.words (cw := cw) a8).facing (p := fw (35 + b))
    have hob := (h.2.2.2.2.1 b b8).1
    have e3 : nf = fw 3 := h.2.2.1
    obtain ⟨R, hR, hR2⟩ := RV_ex (w := 2) (by omega) nf a (fw (35 + b)) 1 fw
    have m9 : (aF 3 2).toInt = 999 := by decide
    obtain ⟨br1, fs1, ep⟩ := ask_k (w := 2) (h.askn a8 ⟨by omega, hob.2⟩) (by omega) (show (1 : Int64).toInt = (aF 2 2).toInt from by decide) hw hR ep (fun _ => rfl)
    obtain ⟨t, lw', bro', val', sm', fe', frs', q1, _, q2⟩ := ask_v (w := 2) (h.ask a8 (o := fw (35 + b)) ⟨by omega, hob.2⟩).1 a8 (by omega) (show (1 : Int64).toInt = (aF 2 2).toInt from by decide) h.2.2.2.2.2.1 (h.bw a8 ⟨by omega, hob.2⟩) lw bro val sm fe frs
    have q1' : E_v_tells (fw 3) 2 (nI a) (fw (35 + b)) 1 lw bro val sm fw fe frs = (t, lw', bro', val', sm', fe', frs') := q1
    rw [q1', Lt2_b, Lt2_b, Lt2_b, Lt2_b, Lt2_b, Lt2_b, Lt_b, Lt_b] at er
    have e9 : E_v_within_999 t = R := Int32.toInt_inj.mp (by rw [wi999, hR, e3, ← q2, m9])
    dsimp only at er
    rw [e9] at er
    rw [Lt_b] at ep
    have sum := i_add (Eq.refl acc.toInt) (Eq.refl R.toInt) (by omega)
    have sk2 := skip (acc + R) (A + 999) br1 fs1 (E_w_facing (fw (35 + b)) (E_w_face (nI a) (fw (11 + a)) 0 cw f1 f2)) lw' bro' val' sm' fe' frs' (by omega)
    rw [← ep, ← er] at sk2
    exact out sk2 (Nat.le_refl _)
theorem disc_out {n lt nf fi : Int32} {f1 f2 fw : Nat → Int32} {fl : Nat → Option Nat} {G : Nat → LC} (h : TW n lt nf fi f1 f2 fl G fw) {N : Nat} (hN : N ≤ 8) (e1 : n = nI N) (e2 : fw 0 = nI N) (z1 : DCr) (z2 : DRr) : ∀ (d a F F2 : Nat), a + d = N → ∀ (acc : Int32) (A : Nat) (br : Int32) (fs cw : Nat → Int32) (lw bro : Int32) (val sm : Int64) (fe frs : Nat → Int64), 0 ≤ acc.toInt ∧ acc.toInt ≤ A ∧ A + 8000 * d ≤ 900000 → ∃ (acc' br' : Int32) (fs' cw' : Nat → Int32) (lw' bro' : Int32) (val' sm' : Int64) (fe' frs' : Nat → Int64), (0 ≤ acc'.toInt ∧ acc'.toInt ≤ (A + 8000 * d : Nat)) ∧ Lp (E_w_discords_l4 G n lt nf f1 f2 fl) z1 (F + d + 1) (nI a) acc br fs cw = (acc', br', fs', cw') ∧ Lp (E_v_discords_l4 fw) z2 (F2 + d + 1) (nI a) acc lw bro val sm fe frs = (acc', lw', bro', val', sm', fe', frs') := by
  intro d
  induction d with
  | zero =>
    intro a F F2 ha acc A br fs cw lw bro val sm fe frs hA
    have : a = N := by omega
    subst this
    refine ⟨acc, br, fs, cw, lw, bro, val, sm, fe, frs, ⟨hA.1, by omega⟩, ?_, ?_⟩
    · rw [Lp_s, E_w_discords_l4.eq_def, e1, if_pos ((kn_le (by omega) (by omega)).mpr (Nat.le_refl _))]
    · rw [Lp_s, E_v_discords_l4.eq_def, Lt_b, show fw (0 : Int32).toNatClampNeg = nI a from e2, if_pos ((kn_le (by omega) (by omega)).mpr (Nat.le_refl _))]
  | succ d ih =>
    intro a F F2 ha acc A br fs cw lw bro val sm fe frs hA
    have c1 : ¬ n ≤ nI a := fun q => by rw [e1] at q; have := (kn_le (by omega) (by omega)).mp q; omega
    have c2 : ¬ fw (0 : Int32).toNatClampNeg ≤ nI a := fun q => by rw [show fw (0 : Int32).toNatClampNeg = nI N from e2] at q; have := (kn_le (by omega) (by omega)).mp q; omega
    rw [Lp_s, Lp_s, E_w_discords_l4.eq_def, E_v_discords_l4.eq_def, if_neg c1, Lt_b, Lt_b, if_neg c2, Lt_b, kn_p1 (by omega), show (9 - (nI (a + 1)).toInt : Int).toNat + 1 = 9 - N + d + 1 by rw [nI_toInt (by omega)]; omega]
    obtain ⟨x1, x2, x3, x4, x5, x6, x7, x8, x9, x10, x11, x12, x13⟩ := disc_in h hN e1 e2 (a := a) (fun _ _ _ _ _ => ((0, 0, fun _ => 0, fun _ => 0) : Int32 × Int32 × (Nat → Int32) × (Nat → Int32))) (Lp (E_w_discords_l4 G n lt nf f1 f2 fl) z1 (F + (d + 1))) (fun _ _ _ _ _ _ _ _ => ((0, 0, 0, 0, 0, fun _ => 0, fun _ => 0) : Int32 × Int32 × Int32 × Int64 × Int64 × (Nat → Int64) × (Nat → Int64))) (Lp (E_v_discords_l4 fw) z2 (F2 + (d + 1))) d (a + 1) (9 - N) (9 - N) (by omega) (by omega) acc A br fs cw lw bro val sm fe frs ⟨hA.1, hA.2.1, by omega⟩
    rw [x12, x13]
    obtain ⟨y1, y2, y3, y4, y5, y6, y7, y8, y9, y10, y11, y12⟩ := ih (a + 1) F F2 (by omega) x1 (A + 999 * d) x2 x3 x4 x5 x6 x7 x8 x9 x10 ⟨x11.1, x11.2, by omega⟩
    exact ⟨y1, y2, y3, y4, y5, y6, y7, y8, y9, y10, ⟨y11.1, by omega⟩, y12⟩
/-- DISCORDS, both sides -/
theorem disc_at {n lt nf fi : Int32} {f1 f2 f3 fw : Nat → Int32} {fl : Nat → Option Nat} {G : Nat → LC} (h : TW n lt nf fi f1 f2 fl G fw) (br fi' : Int32) (fs cw : Nat → Int32) (lw bro : Int32) (val sm : Int64) (fe frs : Nat → Int64) : ∃ (v br' : Int32) (fs' cw' : Nat → Int32) (lw' bro' : Int32) (val' sm' : Int64) (fe' frs' : Nat → Int64), (0 ≤ v.toInt ∧ v.toInt ≤ 100000) ∧ E_w_discords G br fs cw n lt nf fi' f1 f2 f3 fl = (v, br', fs', cw') ∧ E_v_discords lw bro val sm fw fe frs = (v, lw', bro', val', sm', fe', frs') := by
  obtain ⟨N, n8, e1, e2, _⟩ := h.nN
  obtain ⟨y1, y2, y3, y4, y5, y6, y7, y8, y9, y10, y11, y12, y13⟩ := disc_out h n8 e1 e2 (fun _ _ _ _ _ => ((0, 0, fun _ => 0, fun _ => 0) : Int32 × Int32 × (Nat → Int32) × (Nat → Int32))) (fun _ _ _ _ _ _ _ _ => ((0, 0, 0, 0, 0, fun _ => 0, fun _ => 0) : Int32 × Int32 × Int32 × Int64 × Int64 × (Nat → Int64) × (Nat → Int64))) N 0 (9 - N) (9 - N) (by omega) 0 0 br fs cw lw bro val sm fe frs ⟨by decide, by decide, by omega⟩
  have fu : ((9 - (0 : Int32).toInt : Int).toNat + 1) = 9 - N + N + 1 := by rw [show (0 : Int32).toInt = 0 from rfl]; omega
  refine ⟨y1, y2, y3, y4, y5, y6, y7, y8, y9, y10, ⟨y11.1, by omega⟩, ?_, ?_⟩
  · rw [E_w_discords.eq_def, fu]; exact y12
  · rw [E_v_discords.eq_def, fu]; exact y13
end
section
/-! an hour passes -/
theorem TW.words2 {n lt nf fi : Int32} {f1 f2 fw cw f : Nat → Int32} {fl : Nat → Option Nat} {G : Nat → LC} (h : TW n lt nf fi f1 f2 fl G fw) {k : Nat} (hk : k < 8) (hf : ∀ j, j < 24 → f j = f1 j) : KWo (E_w_face (nI k) (fw (11 + k)) 0 cw f f2) fw k (-1) := by
  obtain ⟨hr, r1, r2, r3⟩ := h.hour
  obtain ⟨q0, q1, q2, q3, q4, q5, q6, q7, q8⟩ := face_at (h := k) (z := 0) (hr := hr) (y := fw (11 + k)) (cw := cw) (f1 := f) (f2 := f2) hk (by omega) r1 r3
  obtain ⟨⟨t1, _, t3, _⟩, _, _, _, _, _, _, b7⟩ := h
  refine ⟨q0, q1.trans ((hf k (by omega)).trans (b7 k (by omega))), q2.trans ((hf _ (by omega)).trans ((b7 _ (by omega)).trans (congrArg fw (by omega)))), q3, q4.trans ((hf _ (by omega)).trans (t3 k hk).2.1), q5.trans ?_, q6.trans ?_, q7.trans (t1 5 (by omega)), q8⟩
  · rw [r2, show (hr + 0) % 24 = hr by omega]
  · rw [show (hr + 0) / 24 = 0 by omega, t1 1 (by omega)]
    exact Int32.toInt_inj.mp (by rw [i_add rfl (show (nI 0).toInt = 0 from rfl) (by have := i_rng (Eq.refl (fw (4 + 1)).toInt); omega), Int.add_zero])
noncomputable abbrev BUr : Type := Int32 → Int32 → (Nat → Int32) → (Nat → Int32) → (Nat → Int32) → (Int32 × (Nat → Int32) × (Nat → Int32) × (Nat → Int32))
theorem burn_in {n lt nf fi : Int32} {f1 f2 fw : Nat → Int32} {fl : Nat → Option Nat} {G : Nat → LC} (h : TW n lt nf fi f1 f2 fl G fw) {N : Nat} (hN : N ≤ 8) (e1 : n = nI N) {B : Nat → Int32} (hB : ∀ a, a < N → (B a).toInt = RV nf 0 a (-1) 1 fw) (hB2 : ∀ a, a < N → 0 ≤ (B a).toInt ∧ (B a).toInt ≤ 20) (z : BUr) : ∀ (d a F : Nat), a + d = N → ∀ (br : Int32) (fs cw f : Nat → Int32), (∀ j, j < 24 → f j = f1 j) → (∀ j, a ≤ j → j < 8 → f (40 + j) = f1 (40 + j) ∧ f (48 + j) = f1 (48 + j)) → ∃ br' fs' cw' f', Lp (E_w_burnDown_l2 G n lt nf f2 fl) z (F + d + 1) (nI a) br fs cw f = (br', fs', cw', f') ∧ (∀ j, a ≤ j → j < N → f' (40 + j) = E_v_within_20 (fw (11 + j) - B j).toInt64 ∧ f' (48 + j) = E_v_within_9999 (fw (27 + j) + fw (11 + j)).toInt64) ∧ ∀ j, ¬ (40 + a ≤ j ∧ j < 40 + N) → ¬ (48 + a ≤ j ∧ j < 48 + N) → f' j = f j := by
  intro d
  induction d with
  | zero =>
    intro a F ha br fs cw f h1 h2
    have : a = N := by omega
    subst this
    refine ⟨br, fs, cw, f, ?_, fun j h3 h4 => by omega, fun _ _ _ => rfl⟩
    rw [Lp_s, E_w_burnDown_l2.eq_def, e1, if_pos ((kn_le (by omega) (by omega)).mpr (Nat.le_refl _))]
  | succ d ih =>
    intro a F ha br fs cw f h1 h2
    have a8 : a < 8 := by omega
    have c1 : ¬ n ≤ nI a := fun q => by rw [e1] at q; have := (kn_le (by omega) (by omega)).mp q; omega
    have rg := h.1.2.2.2.2.2.2.2.2.2.2.2 a a8
    have t3 := h.1.2.2.1 a a8
    have g5 : E_w_fact (nI a) 5 f = fw (11 + a) := by
      rw [fact_at (k := 5) (nIb a8) rfl (by omega), nIt (by omega)]; exact ((h2 a (Nat.le_refl _) a8).1).trans t3.1
    have g6 : E_w_fact (nI a) 6 f = fw (27 + a) := by
      rw [fact_at (k := 6) (nIb a8) rfl (by omega), nIt (by omega)]; exact ((h2 a (Nat.le_refl _) a8).2).trans t3.2.2
    have hw := h.words2 (cw := cw) a8 h1
    obtain ⟨p, ep⟩ : ∃ p, p = Lp (E_w_burnDown_l2 G n lt nf f2 fl) z (F + (d + 1) + 1) (nI a) br fs cw f := ⟨_, rfl⟩
    rw [← ep]
    rw [Lp_s, E_w_burnDown_l2.eq_def, if_neg c1, Lt_b, g5, Lt_b, Lt_b, g6, Lt_b, Lt_b, cap9999 (by omega) (by omega), Lt_b, Lt_b, put6_at (nIb a8), nIt (by omega)] at ep
    obtain ⟨br1, fs1, ep⟩ := ask_k (w := 0) (h.askn a8 m1_rng) (by omega) (show (1 : Int64).toInt = (aF 2 0).toInt from by decide) hw (hB a (by omega)) ep (fun _ => rfl)
    have hb2 := hB2 a (by omega)
    rw [Lt_b, Lt_b, cap0 (by omega) (by omega) (by omega), Lt_b, put5_at (nIb a8), nIt (by omega), Lt_b, kn_po (by omega)] at ep
    obtain ⟨br', fs', cw', f', q1, q2, q3⟩ := ih (a + 1) F (by omega) br1 fs1 (E_w_face (nI a) (fw (11 + a)) 0 cw f f2) (upd (upd f (48 + a) (E_v_within_9999 (fw (27 + a) + fw (11 + a)).toInt64)) (40 + a) (E_v_within_20 (fw (11 + a) - B a).toInt64)) (fun j hj => by rw [upd_n (by omega), upd_n (by omega)]; exact h1 j hj) (fun j h3 h4 => by rw [upd_n (by omega), upd_n (by omega), upd_n (by omega), upd_n (by omega)]; exact h2 j (by omega) h4)
    refine ⟨br', fs', cw', f', ep.trans q1, fun j h3 h4 => ?_, fun j h3 h4 => ?_⟩
    · by_cases ja : j = a
      · subst ja
        rw [q3 _ (by omega) (by omega), q3 _ (by omega) (by omega), upd_s, upd_n (by omega), upd_s]
        exact ⟨rfl, rfl⟩
      · exact q2 j (by omega) h4
    · rw [q3 _ (by omega) (by omega), upd_n (by omega), upd_n (by omega)]
noncomputable abbrev P3r : Type := Int32 → Int32 → Int32 → Int64 → Int64 → (Nat → Int32) → (Nat → Int64) → (Nat → Int64) → (Int32 × Int32 × Int32 × Int64 × Int64 × (Nat → Int32) × (Nat → Int64) × (Nat → Int64) × (Nat → Int32))
noncomputable abbrev P6r : Type := Int32 → (Nat → Int32) → (Int32 × Int32 × Int32 × Int64 × Int64 × (Nat → Int32) × (Nat → Int64) × (Nat → Int64) × (Nat → Int32))
noncomputable def P6z : P6r := fun _ _ => (0, 0, 0, 0, 0, fun _ => 0, fun _ => 0, fun _ => 0, fun _ => 0)
theorem pas_in1 {n lt nf fi : Int32} {f1 f2 fw : Nat → Int32} {fl : Nat → Option Nat} {G : Nat → LC} (h : TW n lt nf fi f1 f2 fl G fw) {N : Nat} (hN : N ≤ 8) (e2 : fw 0 = nI N) {B : Nat → Int32} (hB : ∀ a, a < N → (B a).toInt = RV nf 0 a (-1) 1 fw) (r : Int32) (z : P3r) : ∀ (d a F : Nat), a + d = N → ∀ (lw bro : Int32) (val sm : Int64) (fb : Nat → Int32) (fe frs : Nat → Int64), (∀ j, j < a → fb j = B j) → ∃ (lw' bro' : Int32) (val' sm' : Int64) (fb' : Nat → Int32) (fe' frs' : Nat → Int64), Lp (E_v_passIt_l34 r fw) z (F + d + 1) (nI a) lw bro val sm fb fe frs = Lp (E_v_passIt_l69 r lw' bro' val' sm' fb' fe' frs') P6z (9 - N + N + 1) (nI 0) fw ∧ ∀ j, j < N → fb' j = B j := by
  intro d
  induction d with
  | zero =>
    intro a F ha lw bro val sm fb fe frs hb
    have : a = N := by omega
    subst this
    refine ⟨lw, bro, val, sm, fb, fe, frs, ?_, hb⟩
    rw [Lp_s, E_v_passIt_l34.eq_def, Lt_b, show fw (0 : Int32).toNatClampNeg = nI a from e2, if_pos ((kn_le (by omega) (by omega)).mpr (Nat.le_refl _)), show ((9 - (0 : Int32).toInt : Int).toNat + 1) = 9 - a + a + 1 by rw [show (0 : Int32).toInt = 0 from rfl]; omega]
    rfl
  | succ d ih =>
    intro a F ha lw bro val sm fb fe frs hb
    have a8 : a < 8 := by omega
    have e3 : nf = fw 3 := h.2.2.1
    have c1 : ¬ nI N ≤ nI a := fun q => by have := (kn_le (by omega) (by omega)).mp q; omega
    obtain ⟨x1, x2, x3, x4, x5, x6, x7⟩ := burnsOf_at (h.ask a8 m1_rng) (by rw [← e3]; exact hB a (by omega)) lw bro val sm fe frs
    rw [Lp_s, E_v_passIt_l34.eq_def, Lt_b, show fw (0 : Int32).toNatClampNeg = nI N from e2, if_neg c1, Lt_b, show fw (3 : Int32).toNatClampNeg = fw 3 from rfl, x7, Lt2_b, Lt2_b, Lt2_b, Lt2_b, Lt2_b, Lt2_b, Lt_b, Lt_b, kn_po (by omega), kn_cl (by omega)]
    exact ih (a + 1) F (by omega) x1 x2 x3 x4 (upd fb a (B a)) x5 x6 (fun j hj => by
      by_cases ja : j = a
      · rw [ja, upd_s]
      · rw [upd_n ja]; exact hb j (by omega))
theorem pas_in2 {fw fb : Nat → Int32} {N : Nat} (hN : N ≤ 8) (e2 : fw 0 = nI N) {r lw bro : Int32} {val sm : Int64} {fe frs : Nat → Int64} (z : P6r) : ∀ (d a F : Nat), a + d = N → ∀ f : Nat → Int32, (∀ j, j < 11 → f j = fw j) → (∀ j, a ≤ j → j < 8 → f (11 + j) = fw (11 + j) ∧ f (27 + j) = fw (27 + j)) → ∃ f', Lp (E_v_passIt_l69 r lw bro val sm fb fe frs) z (F + d + 1) (nI a) f = (r, lw, bro, val, sm, E_v_goOn f', fe, frs, fb) ∧ (∀ j, a ≤ j → j < N → f' (11 + j) = E_v_within_20 (fw (11 + j) - fb j).toInt64 ∧ f' (27 + j) = E_v_within_9999 (fw (27 + j) + fw (11 + j)).toInt64) ∧ ∀ j, ¬ (11 + a ≤ j ∧ j < 11 + N) → ¬ (27 + a ≤ j ∧ j < 27 + N) → f' j = f j := by
  intro d
  induction d with
  | zero =>
    intro a F ha f h1 h2
    have : a = N := by omega
    subst this
    refine ⟨f, ?_, fun j h3 h4 => by omega, fun _ _ _ => rfl⟩
    rw [Lp_s, E_v_passIt_l69.eq_def, Lt_b, show f (0 : Int32).toNatClampNeg = nI a from (h1 0 (by omega)).trans e2, if_pos ((kn_le (by omega) (by omega)).mpr (Nat.le_refl _)), Lt_b]
  | succ d ih =>
    intro a F ha f h1 h2
    have a8 : a < 8 := by omega
    have c1 : ¬ nI N ≤ nI a := fun q => by have := (kn_le (by omega) (by omega)).mp q; omega
    obtain ⟨f', q1, q2, q3⟩ := ih (a + 1) F (by omega) (upd (upd f (27 + a) (E_v_within_9999 (fw (27 + a) + fw (11 + a)).toInt64)) (11 + a) (E_v_within_20 (fw (11 + a) - fb a).toInt64)) (fun j hj => by rw [upd_n (by omega), upd_n (by omega)]; exact h1 j hj) (fun j h3 h4 => by rw [upd_n (by omega), upd_n (by omega), upd_n (by omega), upd_n (by omega)]; exact h2 j (by omega) h4)
    refine ⟨f', ?_, fun j h3 h4 => ?_, fun j h3 h4 => ?_⟩
    · rw [← q1, Lp_s, E_v_passIt_l69.eq_def, Lt_b, show f (0 : Int32).toNatClampNeg = nI N from (h1 0 (by omega)).trans e2, if_neg c1, n_ladd (m := 27) rfl (by omega), n_ladd (m := 11) rfl (by omega), Lt_b, Lt_b, Lt_b, Lt_b, Lt_b, Lt_b, Lt_b, Lt_b, Lt_b, Lt_b, Lt_b, Lt_b, Lt_b, Lt_b, Lt_b, Lt_b, Lt_b, Lt_b, kn_po (by omega), kn_cl (by omega), kn_cl (by omega), kn_cl (by omega), upd_n (show ¬ 11 + a = 27 + a by omega), (h2 a (Nat.le_refl _) a8).1, (h2 a (Nat.le_refl _) a8).2]
      rfl
    · by_cases ja : j = a
      · subst ja
        rw [q3 _ (by omega) (by omega), q3 _ (by omega) (by omega), upd_s, upd_n (by omega), upd_s]
        exact ⟨rfl, rfl⟩
      · exact q2 j (by omega) h4
    · rw [q3 _ (by omega) (by omega), upd_n (by omega), upd_n (by omega)]
/-- the hour goes on -/
theorem goOn_at {f : Nat → Int32} {hr : Nat} (h : hr ≤ 23) (e : f 4 = nI hr) : E_v_goOn f 4 = (if hr = 23 then 0 else nI (hr + 1)) ∧ E_v_goOn f 5 = (if hr = 23 then f 5 + 1 else f 5) ∧ ∀ j, j ≠ 4 → j ≠ 5 → E_v_goOn f j = f j := by
  rw [E_v_goOn.eq_def, show f (4 : Int32).toNatClampNeg = nI hr from e, Lt_b, Lt_b, Lt_b, kn_p1 (by omega), show (4 : Int32).toNatClampNeg = 4 from rfl, show (5 : Int32).toNatClampNeg = 5 from rfl]
  have tk : E_v_term_k (nI (hr + 1)) (upd f 4 (nI (hr + 1))) = nI (hr + 1) := rfl
  rw [Lt_b, tk]
  by_cases c : hr = 23
  · subst c
    rw [if_pos rfl, if_pos (show nI (23 + 1) = 24 from rfl), if_pos rfl, Lt_b, Lt_b, Lt_b, Lt_b]
    refine ⟨?_, ?_, fun j h1 h2 => ?_⟩
    · rw [upd_n (by omega), upd_s]
    · rw [upd_s, upd_n (by omega), upd_n (by omega)]
    · rw [upd_n h2, upd_n h1, upd_n h1]
  · rw [if_neg c, if_neg (kn_nz (j := 24) rfl (by omega) (by omega)), if_neg c]
    refine ⟨upd_s, upd_n (by omega), fun j h1 h2 => upd_n h1⟩
end
section
theorem TW.fined {n lt nf fi V : Int32} {f1 f2 fw : Nat → Int32} {fl : Nat → Option Nat} {G : Nat → LC} (h : TW n lt nf fi f1 f2 fl G fw) (v : 0 ≤ V.toInt ∧ V.toInt ≤ 99999) : TW n lt nf V f1 f2 fl G (upd fw 10 V) := by
  have hs := h
  obtain ⟨⟨t1, t2, t3, t4, g1, g2, g3, g4, g5, g6, g7, g8⟩, _⟩ := h
  refine hs.step ⟨fun j hj => ?_, upd_s.symm, fun j hj => ?_, fun k hk h8 => ?_, ?_, ?_, ?_, ?_, ?_, ?_, ?_, fun j hj => ?_⟩ (fun j hj => upd_n (by omega)) (fun _ _ => rfl)
  · rw [upd_n (by omega)]; exact t1 j hj
  · rw [upd_n (by omega), upd_n (by omega), upd_n (by omega)]; exact t3 j hj
  · rw [upd_n (by omega), upd_n (by omega)]; exact t4 k hk h8
  · exact g1
  · exact g2
  · exact g3
  · exact g4
  · exact g5
  · exact g6
  · exact v
  · rw [upd_n (by omega), upd_n (by omega), upd_n (by omega)]; exact g8 j hj
/-- all houses have changed, and the hour -/
theorem TW.burned {n lt nf fi : Int32} {f1 f2 fw f1' f2' fw' : Nat → Int32} {fl : Nat → Option Nat} {G : Nat → LC} (h : TW n lt nf fi f1 f2 fl G fw) {N hr : Nat} (hN : N ≤ 8) (eN : (N : Int) = n.toInt) (hr2 : hr ≤ 23) (e0 : fw 4 = nI hr) (can : hr = 23 → (fw 5).toInt < 999) {B : Nat → Int32}
    (c1 : ∀ j, j < N → f1' (40 + j) = E_v_within_20 (fw (11 + j) - B j).toInt64 ∧ f1' (48 + j) = E_v_within_9999 (fw (27 + j) + fw (11 + j)).toInt64) (c2 : ∀ j, ¬ (40 ≤ j ∧ j < 40 + N) → ¬ (48 ≤ j ∧ j < 48 + N) → f1' j = f1 j)
    (c3 : ∀ j, j < N → fw' (11 + j) = E_v_within_20 (fw (11 + j) - B j).toInt64 ∧ fw' (27 + j) = E_v_within_9999 (fw (27 + j) + fw (11 + j)).toInt64) (c4 : ∀ j, j ≠ 4 → j ≠ 5 → ¬ (11 ≤ j ∧ j < 11 + N) → ¬ (27 ≤ j ∧ j < 27 + N) → fw' j = fw j)
    (d1 : fw' 4 = (if hr = 23 then 0 else nI (hr + 1)) ∧ fw' 5 = (if hr = 23 then fw 5 + 1 else fw 5)) (d2 : f2' 0 = fw' 4 ∧ f2' 1 = fw' 5 ∧ ∀ j, 2 ≤ j → f2' j = f2 j) : TW n lt nf fi f1' f2' fl G fw' := by
  have hs := h
  obtain ⟨⟨t1, t2, t3, t4, g1, g2, g3, g4, g5, g6, g7, g8⟩, _⟩ := h
  have z0 : (0 : Int32).toInt = 0 := rfl
  have k : ∀ {j : Nat}, j ≠ 4 → j ≠ 5 → ¬ (11 ≤ j ∧ j < 11 + N) → ¬ (27 ≤ j ∧ j < 27 + N) → fw' j = fw j := fun h1 h2 h3 h4 => c4 _ h1 h2 h3 h4
  refine hs.step ⟨fun j hj => ?_, ?_, fun j hj => ⟨?_, ?_, ?_⟩, fun i hi h8 => ⟨?_, ?_⟩, ?_, ?_, ?_, ?_, ?_, ?_, ?_, fun j hj => ⟨?_, ?_, ?_⟩⟩ (fun j hj => k (by omega) (by omega) (by omega) (by omega)) (fun j hj => c2 j (by omega) (by omega))
  · rcases (show j = 0 ∨ j = 1 ∨ 2 ≤ j by omega) with rfl | rfl | q
    · exact d2.1
    · exact d2.2.1
    · rw [d2.2.2 j q, k (by omega) (by omega) (by omega) (by omega)]; exact t1 j hj
  · rw [k (by omega) (by omega) (by omega) (by omega)]; exact t2
  · by_cases q : j < N
    · rw [(c1 j q).1, (c3 j q).1]
    · rw [c2 _ (by omega) (by omega), k (by omega) (by omega) (by omega) (by omega)]; exact (t3 j hj).1
  · rw [c2 _ (by omega) (by omega), k (by omega) (by omega) (by omega) (by omega)]; exact (t3 j hj).2.1
  · by_cases q : j < N
    · rw [(c1 j q).2, (c3 j q).2]
    · rw [c2 _ (by omega) (by omega), k (by omega) (by omega) (by omega) (by omega)]; exact (t3 j hj).2.2
  · rw [k (by omega) (by omega) (by omega) (by omega)]; exact (t4 i hi h8).1
  · rw [k (by omega) (by omega) (by omega) (by omega)]; exact (t4 i hi h8).2
  · rw [d1.1]
    by_cases q : hr = 23
    · rw [if_pos q]; decide
    · rw [if_neg q, nI_toInt (by omega)]; omega
  · rw [d1.2]
    by_cases q : hr = 23
    · have := can q
      rw [if_pos q, i_add (Eq.refl (fw 5).toInt) (show (1 : Int32).toInt = 1 from rfl) (by omega)]; omega
    · rw [if_neg q]; exact g2
  · rw [k (by omega) (by omega) (by omega) (by omega)]; exact g3
  · rw [k (by omega) (by omega) (by omega) (by omega)]; exact g4
  · rw [k (by omega) (by omega) (by omega) (by omega)]; exact g5
  · rw [k (by omega) (by omega) (by omega) (by omega)]; exact g6
  · rw [k (by omega) (by omega) (by omega) (by omega)]; exact g7
  · by_cases q : j < N
    · rw [(c3 j q).1, wi20]; exact kz_rng (by decide)
    · rw [k (by omega) (by omega) (by omega) (by omega)]; exact (g8 j hj).1
  · rw [k (by omega) (by omega) (by omega) (by omega)]; exact (g8 j hj).2.1
  · by_cases q : j < N
    · rw [(c3 j q).2, wi9999]; exact kz_rng (by decide)
    · rw [k (by omega) (by omega) (by omega) (by omega)]; exact (g8 j hj).2.2
theorem j36_at {G : Nat → LC} {br n lt nf fi b2 V b3 : Int32} {fs cw f1 f2 f3 fs2 cw2 fs3 cw3 f1' : Nat → Int32} {fl : Nat → Option Nat} {d : Int32} {x : Int32} (hx : x = 0 ∨ x = 1) (hm : E_w_meetsChord n f1 f2 f3 = 0 ∨ E_w_meetsChord n f1 f2 f3 = 1) (h1 : E_w_discords G br fs cw n lt nf fi f1 f2 f3 fl = (d, b2, fs2, cw2)) (h2 : (if fi + d < 99999 then fi + d else 99999) = V) (h3 : E_w_burnDown G b2 fs2 cw2 n lt nf V f1 f2 f3 fl = (b3, fs3, cw3, f1')) : E_w_nextHour_j36 G br fs cw n lt nf fi f1 f2 f3 fl x = (E_w_meetsChord n f1 f2 f3, b3, fs3, cw3, V, f1', if x = 0 then upd (upd f2 0 (f2 0 + 1)) 1 (f2 1 + 0) else upd (upd f2 0 0) 1 (f2 1 + 1)) := by
  rw [E_w_nextHour_j36.eq_def, Lt_b]
  rcases hm with m | m
  · rw [if_pos m, m, h1, Lt2_b, Lt2_b, Lt2_b, Lt_b, Lt_b]
    dsimp only
    rw [h2, h3, Lt2_b, Lt2_b, Lt2_b]
    rcases hx with rfl | rfl
    · rw [if_pos rfl, if_pos rfl, Lt_b, Lt_b, Lt_b, Lt_b, if_pos rfl, Lt_b, Lt_b]; rfl
    · rw [if_neg (show ¬ (1 : Int32) = 0 by decide), if_neg (show ¬ (1 : Int32) = 0 by decide), Lt_b, Lt_b, if_neg (show ¬ (1 : Int32) = 0 by decide), Lt_b, Lt_b]; rfl
  · rw [if_neg (by rw [m]; decide), m, h1, Lt2_b, Lt2_b, Lt2_b, Lt_b, Lt_b]
    dsimp only
    rw [h2, h3, Lt2_b, Lt2_b, Lt2_b]
    rcases hx with rfl | rfl
    · rw [if_pos rfl, if_pos rfl, Lt_b, Lt_b, Lt_b, Lt_b, if_pos rfl, Lt_b, Lt_b]; rfl
    · rw [if_neg (show ¬ (1 : Int32) = 0 by decide), if_neg (show ¬ (1 : Int32) = 0 by decide), Lt_b, Lt_b, if_neg (show ¬ (1 : Int32) = 0 by decide), Lt_b, Lt_b]; rfl
theorem met_01 {fw : Nat → Int32} : E_v_isMet fw = 0 ∨ E_v_isMet fw = 1 := by
  rw [E_v_isMet.eq_def, Lt_b, Lt_b, Lt_b, Lt_b, Lt_b, Lt_b]
  split
  · exact Or.inr rfl
  · exact Or.inl rfl
/-- AN HOUR THAT CAN PASS, both sides -/
theorem pass_at {n lt nf fi : Int32} {f1 f2 f3 fw : Nat → Int32} {fl : Nat → Option Nat} {G : Nat → LC} (h : TW n lt nf fi f1 f2 fl G fw) (h3 : ∀ j, j < 24 → f3 j = fw (67 + j)) (can : (fw 4).toInt < 23 ∨ (fw 5).toInt < 999) (br : Int32) (fs cw : Nat → Int32) (lw bro : Int32) (val sm : Int64) (fe frs : Nat → Int64) (fb : Nat → Int32) :
    ∃ (br' : Int32) (fs' cw' : Nat → Int32) (fi' : Int32) (f1' f2' : Nat → Int32) (lw' bro' : Int32) (val' sm' : Int64) (fw' : Nat → Int32) (fe' frs' : Nat → Int64) (fb' : Nat → Int32), E_w_nextHour G br fs cw n lt nf fi f1 f2 f3 fl = (E_v_isMet fw, br', fs', cw', fi', f1', f2') ∧ E_v_passIt lw bro val sm fw fe frs fb = (E_v_isMet fw, lw', bro', val', sm', fw', fe', frs', fb') ∧ TW n lt nf fi' f1' f2' fl G fw' ∧ (∀ j, j < 4 ∨ (6 ≤ j ∧ j < 10) ∨ 35 ≤ j → fw' j = fw j) ∧ ∀ j, j < 40 → f1' j = f1 j := by
  obtain ⟨N, n8, e1, e2, eN⟩ := h.nN
  obtain ⟨hr, r1, r2, r3⟩ := h.hour
  obtain ⟨v, b2, fs2, cw2, lw2, bro2, val2, sm2, fe2, frs2, v1, v2, v3⟩ := disc_at (f3 := f3) h br fi fs cw lw bro val sm fe frs
  have g7 := h.1.2.2.2.2.2.2.2.2.2.2.1
  have t2 := h.1.2.1
  have vV := kz_rng (g := ((fw 10 + v).toInt64).toInt) (M := 99999) (by decide)
  rw [← wi99999] at vV
  have cp := cap99999 (a := fw 10) (b := v) (by omega) (by omega)
  have hV := h.fined vV
  have md := h.met h3
  generalize hVV : E_v_within_99999 (fw 10 + v).toInt64 = V at vV cp hV
  have hB : ∃ B : Nat → Int32, ∀ a, (B a).toInt = RV nf 0 a (-1) 1 (upd fw 10 V) ∧ 0 ≤ (B a).toInt ∧ (B a).toInt ≤ (aF 3 0).toInt := ⟨fun a => (RV_ex (w := 0) (by omega) nf a (-1) 1 (upd fw 10 V)).choose, fun a => (RV_ex (w := 0) (by omega) nf a (-1) 1 (upd fw 10 V)).choose_spec⟩
  obtain ⟨B, hB⟩ := hB
  have m20 : (aF 3 0).toInt = 20 := by decide
  obtain ⟨b3, fs3, cw3, f1', u1, u2, u3⟩ := burn_in hV n8 e1 (fun a _ => (hB a).1) (fun a _ => by have := (hB a).2; omega) (fun _ _ _ _ _ => ((0, fun _ => 0, fun _ => 0, fun _ => 0) : Int32 × (Nat → Int32) × (Nat → Int32) × (Nat → Int32))) N 0 (9 - N) (by omega) b2 fs2 cw2 f1 (fun _ _ => rfl) (fun _ _ _ => ⟨rfl, rfl⟩)
  have fu : ((9 - (0 : Int32).toInt : Int).toNat + 1) = 9 - N + N + 1 := by rw [show (0 : Int32).toInt = 0 from rfl]; omega
  have e2V : upd fw 10 V 0 = nI N := by rw [upd_n (by omega)]; exact e2
  obtain ⟨lw4, bro4, val4, sm4, fb4, fe4, frs4, w1, w2⟩ := pas_in1 hV n8 e2V (fun a _ => (hB a).1) (E_v_isMet fw) (fun _ _ _ _ _ _ _ _ => ((0, 0, 0, 0, 0, fun _ => 0, fun _ => 0, fun _ => 0, fun _ => 0) : Int32 × Int32 × Int32 × Int64 × Int64 × (Nat → Int32) × (Nat → Int64) × (Nat → Int64) × (Nat → Int32))) N 0 (9 - N) (by omega) lw2 bro2 val2 sm2 fb fe2 frs2 (fun j hj => by omega)
  obtain ⟨f5, x1, x2, x3⟩ := pas_in2 (fw := upd fw 10 V) (fb := fb4) n8 e2V (r := E_v_isMet fw) (lw := lw4) (bro := bro4) (val := val4) (sm := sm4) (fe := fe4) (frs := frs4) P6z N 0 (9 - N) (by omega) (upd fw 10 V) (fun _ _ => rfl) (fun _ _ _ => ⟨rfl, rfl⟩)
  have f54 : f5 4 = nI hr := by rw [x3 _ (by omega) (by omega), upd_n (by omega)]; exact r2
  have f55 : f5 5 = fw 5 := by rw [x3 _ (by omega) (by omega), upd_n (by omega)]
  obtain ⟨y1, y2, y3⟩ := goOn_at r1 f54
  have hb : E_w_burnDown G b2 fs2 cw2 n lt nf V f1 f2 f3 fl = (b3, fs3, cw3, f1') := by rw [E_w_burnDown.eq_def, fu]; exact u1
  have m01 : E_w_meetsChord n f1 f2 f3 = 0 ∨ E_w_meetsChord n f1 f2 f3 = 1 := by rw [md]; exact met_01
  have j36 : ∀ x : Int32, (x = 0 ∨ x = 1) → E_w_nextHour_j36 G br fs cw n lt nf fi f1 f2 f3 fl x = (E_v_isMet fw, b3, fs3, cw3, V, f1', if x = 0 then upd (upd f2 0 (f2 0 + 1)) 1 (f2 1 + 0) else upd (upd f2 0 0) 1 (f2 1 + 1)) := fun x hx => by
    rw [← md]; exact j36_at hx m01 v2 (by rw [t2]; exact cp) hb
  have t10 := h.1.1 1 (by omega)
  have hvs : E_v_passIt lw bro val sm fw fe frs fb = (E_v_isMet fw, lw4, bro4, val4, sm4, E_v_goOn f5, fe4, frs4, fb4) := by
    rw [E_v_passIt.eq_def, Lt_b, Lt_b, v3, Lt2_b, Lt2_b, Lt2_b, Lt2_b, Lt2_b, Lt2_b, Lt_b, Lt_b, Lt_b, Lt_b, fu, show (10 : Int32).toNatClampNeg = 10 from rfl]
    dsimp only
    rw [hVV]
    exact w1.trans x1
  have keep : ∀ j, j < 4 ∨ (6 ≤ j ∧ j < 10) ∨ 35 ≤ j → E_v_goOn f5 j = fw j := fun j hj => by
    rw [y3 j (by omega) (by omega), x3 _ (by omega) (by omega), upd_n (by omega)]
  have cls : ∃ f2', E_w_nextHour G br fs cw n lt nf fi f1 f2 f3 fl = (E_v_isMet fw, b3, fs3, cw3, V, f1', f2') ∧ f2' 0 = E_v_goOn f5 4 ∧ f2' 1 = E_v_goOn f5 5 ∧ ∀ j, 2 ≤ j → f2' j = f2 j := by
    rw [E_w_nextHour.eq_def, Lt_b, show f2 (0 : Int32).toNatClampNeg = nI hr from r3, show f2 (1 : Int32).toNatClampNeg = fw 5 from t10]
    by_cases c : hr = 23
    · subst c
      have z9 : (999 : Int32).toInt = 999 := rfl
      have z4 : (fw 4).toInt = 23 := by rw [r2]; rfl
      rw [if_pos (show nI 23 = 23 from rfl), Lt_b, if_pos (il_iff.mpr (by omega)), j36 1 (Or.inr rfl), if_neg (show ¬ (1 : Int32) = 0 by decide), y1, y2, if_pos rfl, if_pos rfl, f55]
      refine ⟨_, rfl, by rw [upd_n (by omega), upd_s], by rw [upd_s, t10], fun j hj => by rw [upd_n (by omega), upd_n (by omega)]⟩
    · rw [if_neg (kn_nz (j := 23) rfl (by omega) c), j36 0 (Or.inl rfl), if_pos rfl, y1, y2, if_neg c, if_neg c, f55]
      refine ⟨_, rfl, by rw [upd_n (by omega), upd_s, r3, kn_p1 (by omega)], ?_, fun j hj => by rw [upd_n (by omega), upd_n (by omega)]⟩
      rw [upd_s, t10]
      exact Int32.toInt_inj.mp (by rw [i_add rfl (show (0 : Int32).toInt = 0 from rfl) (by have := i_rng (Eq.refl (fw (4 + 1)).toInt); omega), Int.add_zero])
  obtain ⟨f2', p1, p2, p3, p4⟩ := cls
  refine ⟨b3, fs3, cw3, V, f1', f2', lw4, bro4, val4, sm4, E_v_goOn f5, fe4, frs4, fb4, p1, hvs, ?_, keep, fun j hj => u3 j (by omega) (by omega)⟩
  refine hV.burned (hr := hr) (B := B) n8 eN r1 (by rw [upd_n (by omega)]; exact r2) (fun q => ?_) (fun j hj => u2 j (Nat.zero_le _) hj) (fun j q1 q2 => u3 j (by omega) (by omega)) (fun j hj => ?_) (fun j q1 q2 q3 q4 => ?_) ⟨y1, ?_⟩ ⟨p2, p3, p4⟩
  · rw [upd_n (by omega)]
    subst q
    have z4 : (fw 4).toInt = 23 := by rw [r2]; rfl
    omega
  · rw [y3 _ (by omega) (by omega), y3 _ (by omega) (by omega)]
    have q := x2 j (Nat.zero_le _) hj
    rw [w2 j hj] at q
    exact q
  · rw [y3 _ q1 q2]
    exact x3 j (by omega) (by omega)
  · rw [y2, f55, upd_n (by omega)]
theorem canPass_at {fw : Nat → Int32} (h4 : 0 ≤ (fw 4).toInt ∧ (fw 4).toInt ≤ 23) : E_v_canPass fw = if (fw 4).toInt < 23 ∨ (fw 5).toInt < 999 then 1 else 0 := by
  have z9 : (999 : Int32).toInt = 999 := rfl
  have z23 : (23 : Int32).toInt = 23 := rfl
  rw [E_v_canPass.eq_def, show E_v_term 1 fw = fw 5 from rfl, show E_v_term_0 fw = fw 4 from rfl, Lt_b]
  by_cases c : fw 5 < 999
  · have c1 := il_iff.mp c
    rw [if_pos c, if_pos (Or.inr (by omega)), E_v_canPass_j21.eq_def]
  · have c1 : ¬ (fw 5).toInt < (999 : Int32).toInt := fun q => c (il_iff.mpr q)
    rw [if_neg c, Lt_b]
    by_cases d : 23 ≤ fw 4
    · have d1 := ie_iff.mp d
      rw [if_pos d, if_neg (by omega)]
    · have d1 : ¬ (23 : Int32).toInt ≤ (fw 4).toInt := fun q => d (ie_iff.mpr q)
      rw [if_neg d, if_pos (by omega), E_v_canPass_j21.eq_def]
theorem noPass_at {n lt nf fi : Int32} {f1 f2 f3 fw : Nat → Int32} {fl : Nat → Option Nat} {G : Nat → LC} (h : TW n lt nf fi f1 f2 fl G fw) (can : ¬ ((fw 4).toInt < 23 ∨ (fw 5).toInt < 999)) (br : Int32) (fs cw : Nat → Int32) : E_w_nextHour G br fs cw n lt nf fi f1 f2 f3 fl = (-3, br, fs, cw, fi, f1, f2) := by
  obtain ⟨hr, r1, r2, r3⟩ := h.hour
  have t10 := h.1.1 1 (by omega)
  have z9 : (999 : Int32).toInt = 999 := rfl
  have z4 : (fw 4).toInt = (hr : Int) := by rw [r2, nI_toInt (by omega)]
  have c : hr = 23 := by omega
  subst c
  rw [E_w_nextHour.eq_def, Lt_b, show f2 (0 : Int32).toNatClampNeg = nI 23 from r3, show f2 (1 : Int32).toNatClampNeg = fw 5 from t10, if_pos (show nI 23 = 23 from rfl), Lt_b, if_neg (fun q => by have := il_iff.mp q; omega)]
theorem act_pass {n lt nf fi nu br lw bro : Int32} {val sm : Int64} {f1 f2 f3 fw fs cw fu fsr fb : Nat → Int32} {fe frs : Nat → Int64} {fl : Nat → Option Nat} {G : Nat → LC} (h : TW n lt nf fi f1 f2 fl G fw) (h3 : ∀ j, j < 24 → f3 j = fw (67 + j)) {r br' r2 nu' lw' bro' fi' : Int32} {val' sm' : Int64} {fs' cw' f1' f2' fw' fu' fsr' fb' : Nat → Int32} {fe' frs' : Nat → Int64} (k1 : (r, br', fs', cw', fi', f1', f2') = E_w_nextHour G br fs cw n lt nf fi f1 f2 f3 fl) (k2 : (r2, nu', lw', bro', val', sm', fw', fe', frs', fu', fsr', fb') = E_v_passNow nu lw bro val sm fw fe frs fu fsr fb) : ActR r r2 3 n lt nf fi fi' f1 f2 f1' f2' fl G fw fw' nu nu' fu fsr fu' fsr' := by
  have g1 := h.1.2.2.2.2.1
  rw [E_v_passNow.eq_def, Lt_b, canPass_at g1] at k2
  by_cases c : (fw 4).toInt < 23 ∨ (fw 5).toInt < 999
  · obtain ⟨b1, b2, b3, b4, b5, b6, b7, b8, b9, b10, b11, b12, b13, b14, p1, p2, p3, p4, p5⟩ := pass_at h h3 c br fs cw lw bro val sm fe frs fb
    rw [p1] at k1
    rw [if_pos c, if_neg (show ¬ (1 : Int32) = 0 by decide), Lt2_b, Lt2_b, p2, Lt2_b, Lt2_b, Lt2_b, Lt2_b, Lt2_b, Lt2_b, Lt2_b, Lt2_b] at k2
    dsimp only at k2
    have m := met_01 (fw := fw)
    have k3 : (r2, nu', lw', bro', val', sm', fw', fe', frs', fu', fsr', fb') = (E_v_isMet fw, (E_v_remember 3 nu fw fu fsr).1, b7, b8, b9, b10, b11, b12, b13, (E_v_remember 3 nu fw fu fsr).2.1, (E_v_remember 3 nu fw fu fsr).2.2, b14) := by
      rcases m with m | m
      · rw [if_pos m] at k2; rw [k2, m]
      · rw [if_neg (by rw [m]; decide)] at k2; rw [k2, m]
    have m0 : 0 ≤ (E_v_isMet fw).toInt := by
      rcases m with m | m <;> rw [m] <;> decide
    simp only [Prod.mk.injEq] at k1 k3
    obtain ⟨rfl, rfl, rfl, rfl, rfl, rfl, rfl⟩ := k1
    obtain ⟨rfl, rfl, rfl, rfl, rfl, rfl, rfl, rfl, rfl, rfl, rfl, rfl⟩ := k3
    exact ⟨rfl, Or.inr ⟨m0, p3, rfl, fun j hj => p4 j (by omega)⟩⟩
  · rw [noPass_at h c] at k1
    rw [if_neg c, if_pos rfl] at k2
    simp only [Prod.mk.injEq] at k1 k2
    obtain ⟨rfl, rfl, rfl, rfl, rfl, rfl, rfl⟩ := k1
    obtain ⟨rfl, rfl, rfl, rfl, rfl, rfl, rfl, rfl, rfl, rfl, rfl, rfl⟩ := k2
    exact ⟨rfl, Or.inl ⟨by decide, rfl, rfl, rfl, rfl, rfl, rfl, rfl⟩⟩
theorem rel_pass {n lt nf fi nu br lw bro dr kp rb sta thr : Int32} {val sm : Int64} {f1 f2 f3 fw fs cw fu fsr sl frf frm fb : Nat → Int32} {fe frs : Nat → Int64} {fl : Nat → Option Nat} {G : Nat → LC} {r1 rb' dr' kp' br' fi' r2 sta' nu' lw' bro' : Int32} {val' sm' : Int64} {frf' sl' fs' cw' f1' f2' fw' fu' fsr' frm' fb' : Nat → Int32} {fe' frs' : Nat → Int64} (k1 : (r1, rb', frf', dr', kp', sl', br', fs', cw', fi', f1', f2') = E_w_pass G rb frf dr kp sl br fs cw n lt nf fi f1 f2 f3 fl) (k2 : (r2, sta', nu', lw', bro', val', sm', fw', fe', frs', fu', fsr', fb', frm') = E_v_pass thr sta nu lw bro val sm fw fe frs fu fsr fb frm) (h : TW n lt nf fi f1 f2 fl G fw) (h3 : ∀ j, j < 24 → f3 j = fw (67 + j)) (hr : HR n dr kp nu sl fu fsr fw) (q : RfR rb sta frf frm) : r1 = r2 ∧ RfR rb' sta' frf' frm' ∧ TW n lt nf fi' f1' f2' fl G fw' ∧ HR n dr' kp' nu' sl' fu' fsr' fw' := by
  rw [E_w_pass.eq_def, Lt_b] at k1
  rw [E_v_pass.eq_def] at k2
  generalize hA : E_w_nextHour G br fs cw n lt nf fi f1 f2 f3 fl = A at k1
  generalize hB : E_v_passNow nu lw bro val sm fw fe frs fu fsr fb = B at k2
  obtain ⟨A1, A2, A3, A4, A5, A6, A7⟩ := A
  obtain ⟨B1, B2, B3, B4, B5, B6, B7, B8, B9, B10, B11, B12⟩ := B
  have a := act_pass h h3 hA.symm hB.symm
  simp only [Lt2, Prod.mk.injEq] at k1 k2
  obtain ⟨a1, a2, a3, a4, a5, a6, a7, a8, a9, a10, a11, a12⟩ := k1
  obtain ⟨b1, b2, b3, b4, b5, b6, b7, b8, b9, b10, b11, b12, b13, b14⟩ := k2
  have s := a.settle (by omega) hr h q (r1 := r1) (rb' := rb') (dr' := dr') (kp' := kp') (frf' := frf') (sl' := sl') (r3 := r2) (sta' := sta') (frm' := frm') (by rw [a1, a2, a3, a4, a5, a6]; rfl) (by rw [b1, b2, b14])
  rw [a10, a11, a12, b3, b8, b11, b12]
  exact s
end
section
/-! undo -/
theorem undo_tw {n lt nf fi q1 q2 q3 : Int32} {f1 f2 fw sl fu fs f1' fw' : Nat → Int32} {fl : Nat → Option Nat} {G : Nat → LC} (h : TW n lt nf fi f1 f2 fl G fw) {q u : Nat} (e : HE n sl fu fs fw q u) (p1 : q1 = sl (28 * q + 1)) (p2 : q2 = sl (28 * q + 2)) (p3 : q3 = sl (28 * q + 3)) (c1 : ∀ j, j < 8 → f1' (16 + j) = sl (28 * q + 4 + j) ∧ f1' (40 + j) = sl (28 * q + 12 + j) ∧ f1' (48 + j) = sl (28 * q + 20 + j)) (c2 : ∀ j, j < 16 → f1' j = f1 j) (c3 : ∀ j, fw' j = if 4 ≤ j ∧ j < 35 then fu (31 * u + (j - 4)) else fw j) : TW n lt nf q1 f1' (upd (upd f2 0 q2) 1 q3) fl G fw' := by
  obtain ⟨⟨s0, s1, s2, s3, s4⟩, b, _, z, g⟩ := e
  have i4 : ∀ j, j < 31 → fw' (4 + j) = fu (31 * u + j) := fun j hj => by
    rw [c3, if_pos (by omega), show 4 + j - 4 = j by omega]
  have t1 := h.1.1
  refine h.step ⟨fun j hj => ?_, ?_, fun j hj => ⟨?_, ?_, ?_⟩, fun k hk h8 => ⟨?_, ?_⟩, g.ext (fun j h1 h2 => by rw [c3, if_pos (by omega)])⟩ (fun j hj => by rw [c3, if_neg (by omega)]) c2
  · rw [i4 j (by omega)]
    rcases (show j = 0 ∨ j = 1 ∨ 2 ≤ j by omega) with rfl | rfl | q
    · rw [upd_n (by omega), upd_s, p2, s2, Nat.add_zero]
    · rw [upd_s, p3, s3]
    · rw [upd_n (by omega), upd_n (by omega), b j q hj]; exact t1 j hj
  · rw [show fw' 10 = fw' (4 + 6) from rfl, i4 6 (by omega), p1, s1]
  · rw [(c1 j hj).2.1, (s4 j hj).2.1, snf_f hj, show 11 + j = 4 + (7 + j) by omega, i4 _ (by omega)]
  · rw [(c1 j hj).1, (s4 j hj).1, snf_c hj, show 19 + j = 4 + (15 + j) by omega, i4 _ (by omega)]
  · rw [(c1 j hj).2.2, (s4 j hj).2.2, snf_w hj, show 27 + j = 4 + (23 + j) by omega, i4 _ (by omega)]
  · rw [show 11 + k = 4 + (7 + k) by omega, i4 _ (by omega), ← Nat.add_assoc]; exact (z k hk h8).1
  · rw [show 27 + k = 4 + (23 + k) by omega, i4 _ (by omega), ← Nat.add_assoc]; exact (z k hk h8).2
theorem rel_undo {n lt nf fi nu dr kp rb sta thr : Int32} {f1 f2 fw fu fsr sl frf frm : Nat → Int32} {fl : Nat → Option Nat} {G : Nat → LC} {r1 rb' dr' kp' fi' r2 sta' nu' : Int32} {frf' f1' f2' fw' frm' : Nat → Int32} (k1 : (r1, rb', frf', dr', kp', fi', f1', f2') = E_w_undo rb frf dr kp sl n lt nf fi f1 f2) (k2 : (r2, sta', nu', fw', frm') = E_v_undo thr sta nu fw fu fsr frm) (h : TW n lt nf fi f1 f2 fl G fw) (hr : HR n dr kp nu sl fu fsr fw) (q : RfR rb sta frf frm) : r1 = r2 ∧ RfR rb' sta' frf' frm' ∧ TW n lt nf fi' f1' f2' fl G fw' ∧ HR n dr' kp' nu' sl fu fsr fw' := by
  have hr0 := hr
  obtain ⟨d, u, ⟨d1, d2⟩, rfl, rfl, rfl, e4⟩ := hr
  rw [E_w_undo.eq_def] at k1
  rw [E_v_undo.eq_def] at k2
  by_cases c : u = 0
  · subst c
    rw [E_w_takeBack.eq_def, if_pos (show nI 0 = 0 from rfl)] at k1
    rw [if_pos (show nI 0 = 0 from rfl)] at k2
    simp only [Lt2] at k1 k2
    rw [if_pos (by trivial)] at k1
    simp only [Prod.mk.injEq] at k1 k2
    obtain ⟨rfl, rfl, rfl, rfl, rfl, rfl, rfl, rfl⟩ := k1
    obtain ⟨rfl, rfl, rfl, rfl, rfl⟩ := k2
    have g := q.no (x := -3) (by decide)
    exact ⟨g.1.trans g.2.1.symm, g.2.2, h, hr0⟩
  · obtain ⟨v, rfl⟩ : ∃ v, u = v + 1 := ⟨u - 1, by omega⟩
    obtain ⟨g1, t1, t2, t3⟩ := takeBack_at (d := d) (u := v) d1 (by omega) (f := sl) (f1 := f1) (f2 := f2) (fi := fi)
    have he := e4 v (by omega)
    rw [show (d + 17 - (v + 1) + v) % 17 = (d + 16) % 17 by omega] at he
    obtain ⟨s, s4, s5⟩ := he.2.2.1
    have s6 : sl (28 * ((d + 16) % 17)) = nI s := he.1.1.trans s5
    rw [t1] at k1
    simp only [Lt2] at k1
    rw [s6, if_neg (fun q => by have := congrArg Int32.toInt q; rw [nI_toInt (by omega)] at this; have z : (-1 : Int32).toInt = -1 := rfl; omega), Lt_b, E_w_accept.eq_def] at k1
    rw [if_neg (kn_nz (j := 0) rfl (by omega) (by omega)), Lt_b, Lt_b, Lt_b, kn_m1 (by omega) (by omega), show v + 1 - 1 = v by omega, kn_cl (by omega), s5, tell_p (by rw [nI_toInt (by omega)]; omega)] at k2
    simp only [Lt2, Prod.mk.injEq] at k1 k2
    obtain ⟨rfl, rfl, rfl, rfl, rfl, rfl, rfl, rfl⟩ := k1
    obtain ⟨rfl, rfl, rfl, rfl, rfl⟩ := k2
    have c3 := fun j => putBack_at (k := v) (by omega) (fw := fw) (fu := fu) j
    refine ⟨rfl, q.ok, undo_tw h he rfl rfl rfl t2 (fun j hj => t3 j (by omega)) c3, (d + 16) % 17, v, ⟨by omega, by omega⟩, rfl, rfl, rfl, fun i hi => ?_⟩
    rw [show ((d + 16) % 17 + 17 - v + i) % 17 = (d + 17 - (v + 1) + i) % 17 by omega]
    refine (e4 i (by omega)).ext (fun _ _ _ => rfl) (fun _ _ => rfl) rfl (fun j h1 h2 => ?_)
    rw [c3, if_pos (by omega)]
    have b := he.2.1 (j - 4) (by omega) (by omega)
    rw [b]
    exact congrArg fw (by omega)
/-! terms -/
theorem canBe_at {j : Nat} (hj : j < 6) (y : Int32) : E_v_canBe (nI j) y = E_w_within y (aF 0 j) (aF 1 j) := by
  have go : ∀ {lo hi : Int64} {lo' hi' : Int32}, lo.toInt = lo'.toInt → hi.toInt = hi'.toInt → (Lt ((y : Int32).toInt64 : Int64) (fun x => Lt (E_v_in x lo hi) (fun r => if r = 1 then (1 : Int32) else 0))) = E_w_within y lo' hi' := by
    intro lo hi lo' hi' h1 h2
    rw [Lt_b, Lt_b]
    by_cases c : lo'.toInt ≤ y.toInt ∧ y.toInt ≤ hi'.toInt
    · rw [within_p c, ifi_p (by rw [h1, h2]; exact c)]
    · rw [within_n c, ifi_n (by rw [h1, h2]; exact c)]
  have nz : ∀ {a b : Nat}, a < 10 → b < 10 → a ≠ b → ¬ (nI a).toInt = (b : Int) := fun h1 h2 h3 => by rw [nI_toInt (by omega)]; omega
  have ez : ∀ {a : Nat}, a < 10 → (nI a).toInt = (a : Int) := fun h1 => nI_toInt (by omega)
  rw [E_v_canBe.eq_def]
  rcases (show j = 0 ∨ j = 1 ∨ j = 2 ∨ j = 3 ∨ j = 4 ∨ j = 5 by omega) with rfl | rfl | rfl | rfl | rfl | rfl
  · rw [if_pos (by decide)]; exact go (by decide) (by decide)
  · rw [if_neg (by decide), if_pos (by decide)]; exact go (by decide) (by decide)
  · rw [if_neg (by decide), if_neg (by decide), if_pos (by decide)]; exact go (by decide) (by decide)
  · rw [if_neg (by decide), if_neg (by decide), if_neg (by decide), if_pos (by decide)]; exact go (by decide) (by decide)
  · rw [if_neg (by decide), if_neg (by decide), if_neg (by decide), if_neg (by decide), if_pos (by decide)]; exact go (by decide) (by decide)
  · rw [if_neg (by decide), if_neg (by decide), if_neg (by decide), if_neg (by decide), if_neg (by decide), if_pos (by decide)]; exact go (by decide) (by decide)
theorem canBe_n {x y : Int32} (hx : ¬ (0 ≤ x.toInt ∧ x.toInt ≤ 5)) : E_v_canBe x y = 0 := by
  rw [E_v_canBe.eq_def, if_neg (by omega), if_neg (by omega), if_neg (by omega), if_neg (by omega), if_neg (by omega), if_neg (fun q => by have := congrArg Int32.toInt q; have z : (5 : Int32).toInt = 5 := rfl; omega)]
theorem tm_rng : ∀ j, j < 6 → -1000 ≤ (aF 0 j).toInt ∧ (aF 1 j).toInt ≤ 1000 := by decide
theorem TW.term {n lt nf fi y : Int32} {f1 f2 fw : Nat → Int32} {fl : Nat → Option Nat} {G : Nat → LC} (h : TW n lt nf fi f1 f2 fl G fw) {j : Nat} (hj : j < 6) (hy : (aF 0 j).toInt ≤ y.toInt ∧ y.toInt ≤ (aF 1 j).toInt) : TW n lt nf fi f1 (upd f2 j y) fl G (upd fw (4 + j) y) := by
  have hs := h
  obtain ⟨⟨t1, t2, t3, t4, g1, g2, g3, g4, g5, g6, g7, g8⟩, _⟩ := h
  have sel : ∀ {i : Nat} {a b : Int}, i < 6 → (a ≤ (fw (4 + i)).toInt ∧ (fw (4 + i)).toInt ≤ b) → (aF 0 i).toInt = a → (aF 1 i).toInt = b → a ≤ (upd fw (4 + j) y (4 + i)).toInt ∧ (upd fw (4 + j) y (4 + i)).toInt ≤ b := by
    intro i a b hi q1 q2 q3
    by_cases c : i = j
    · subst c
      rw [upd_s, ← q2, ← q3]; exact hy
    · rw [upd_n (by omega)]; exact q1
  refine hs.step ⟨fun i hi => ?_, ?_, fun i hi => ?_, fun k hk h8 => ?_, sel (i := 0) (by omega) g1 (by decide) (by decide), sel (i := 1) (by omega) g2 (by decide) (by decide), sel (i := 2) (by omega) g3 (by decide) (by decide), sel (i := 3) (by omega) g4 (by decide) (by decide), sel (i := 4) (by omega) g5 (by decide) (by decide), sel (i := 5) (by omega) g6 (by decide) (by decide), ?_, fun i hi => ?_⟩ (fun i hi => upd_n (by omega)) (fun _ _ => rfl)
  · by_cases c : i = j
    · rw [c, upd_s, upd_s]
    · rw [upd_n c, upd_n (by omega)]; exact t1 i hi
  · rw [upd_n (by omega)]; exact t2
  · rw [upd_n (by omega), upd_n (by omega), upd_n (by omega)]; exact t3 i hi
  · rw [upd_n (by omega), upd_n (by omega)]; exact t4 k hk h8
  · rw [upd_n (by omega)]; exact g7
  · rw [upd_n (by omega), upd_n (by omega), upd_n (by omega)]; exact g8 i hi
theorem rel_terms {x y n lt nf fi nu dr kp rb sta thr : Int32} {f1 f2 fw fu fsr sl frf frm : Nat → Int32} {fl : Nat → Option Nat} {G : Nat → LC} {r1 rb' kp' r2 sta' nu' : Int32} {frf' f2' fw' frm' : Nat → Int32} (k1 : (r1, rb', frf', kp', f2') = E_w_terms x y rb frf dr kp f2) (k2 : (r2, sta', nu', fw', frm') = E_v_terms x y thr sta nu fw frm) (h : TW n lt nf fi f1 f2 fl G fw) (hr : HR n dr kp nu sl fu fsr fw) (q : RfR rb sta frf frm) : r1 = r2 ∧ RfR rb' sta' frf' frm' ∧ TW n lt nf fi f1 f2' fl G fw' ∧ HR n dr kp' nu' sl fu fsr fw' := by
  have z0 : (0 : Int32).toInt = 0 := rfl
  have z5 : (5 : Int32).toInt = 5 := rfl
  have no : (r1, rb', frf', kp', f2') = E_w_terms_j26 rb frf kp f2 → (r2, sta', nu', fw', frm') = Lt2 (E_v_tell (-1) sta frm) (fun r_104 q0_r_104 => Lt2 q0_r_104 (fun u_105_2_2_2_1_0 u_105_2_1_0 => ((r_104, u_105_2_2_2_1_0, nu, fw, u_105_2_1_0) : Int32 × Int32 × Int32 × (Nat → Int32) × (Nat → Int32)))) → r1 = r2 ∧ RfR rb' sta' frf' frm' ∧ TW n lt nf fi f1 f2' fl G fw' ∧ HR n dr kp' nu' sl fu fsr fw' := by
    intro k1 k2
    rw [E_w_terms_j26.eq_def] at k1
    simp only [Lt2, Prod.mk.injEq] at k1 k2
    obtain ⟨rfl, rfl, rfl, rfl, rfl⟩ := k1
    obtain ⟨rfl, rfl, rfl, rfl, rfl⟩ := k2
    have g := q.no (x := -1) (by decide)
    exact ⟨g.1.trans g.2.1.symm, g.2.2, h, hr⟩
  rw [E_w_terms.eq_def, Lt_b] at k1
  rw [E_v_terms.eq_def, Lt_b] at k2
  by_cases c : 0 ≤ x.toInt ∧ x.toInt ≤ 5
  · obtain ⟨j, hj, hz⟩ : ∃ j : Nat, x = nI j ∧ (j : Int) = x.toInt := ⟨x.toInt.toNat, i_ofN rfl c.1, by omega⟩
    subst hj
    have j6 : j < 6 := by omega
    rw [ifw_p (by omega), Lt_b, Lt_b, Lt_b, kn_cl (by omega)] at k1
    rw [canBe_at j6] at k2
    by_cases d : (aF 0 j).toInt ≤ y.toInt ∧ y.toInt ≤ (aF 1 j).toInt
    · rw [ifw_p d, Lt_b, Lt_b, Lt_b, E_w_accept.eq_def] at k1
      rw [ifw_p d, n_ladd (m := 4) rfl (by omega), Lt_b, E_v_changeF.eq_def, Lt_b, Lt_b, kn_cl (by omega)] at k2
      simp only [Lt2, Prod.mk.injEq] at k1 k2
      obtain ⟨rfl, rfl, rfl, rfl, rfl⟩ := k1
      obtain ⟨rfl, rfl, rfl, rfl, rfl⟩ := k2
      exact ⟨h.1.1 j j6, q.ok, h.term j6 d, hr.clear⟩
    · rw [ifw_n d] at k1 k2
      exact no k1 k2
  · rw [ifw_n (by omega)] at k1
    rw [canBe_n c, if_neg (by decide)] at k2
    exact no k1 k2
/-! force -/
theorem isLaw_at {x lt : Int32} {fw : Nat → Int32} (hl : lt = fw 2) (h6 : 0 ≤ lt.toInt ∧ lt.toInt ≤ 6) : E_v_isLaw x fw = if -1 ≤ x.toInt ∧ x.toInt < lt.toInt then 1 else 0 := by
  have z0 : (0 : Int64).toInt = 0 := rfl
  have zm : (-1 : Int32).toInt = -1 := rfl
  have z1 : ((fw 2).toInt64 - 1).toInt = lt.toInt - 1 := by
    rw [← hl, l_sub (show lt.toInt64.toInt = lt.toInt from wide_at) (show (1 : Int64).toInt = 1 from rfl) (by omega)]
  rw [E_v_isLaw.eq_def]
  by_cases c : x = -1
  · rw [if_pos c, c, if_pos (by omega)]
  · have c1 : x.toInt ≠ -1 := fun q => c (i_lit q zm)
    rw [if_neg c, Lt_b, Lt_b, Lt_b, Lt_b, Lt_b, show fw (2 : Int32).toNatClampNeg = fw 2 from rfl]
    by_cases d : 0 ≤ x.toInt ∧ x.toInt < lt.toInt
    · rw [ifi_p (by rw [z1]; omega), if_pos (by omega)]
    · rw [ifi_n (by rw [z1]; omega), if_neg (by omega)]
theorem TW.forced {n lt nf fi x : Int32} {f1 f2 fw : Nat → Int32} {fl : Nat → Option Nat} {G : Nat → LC} (h : TW n lt nf fi f1 f2 fl G fw) (hx : -1 ≤ x.toInt ∧ x.toInt < lt.toInt) : TW n lt x fi f1 f2 fl G (upd fw 3 x) := by
  obtain ⟨a, b1, b2, b3, b4, b5, b6, b7⟩ := h
  exact ⟨a.ext (fun _ _ => rfl) (fun _ _ => rfl) (fun j _ _ => upd_n (by omega)), by rw [upd_n (by omega)]; exact b1, upd_s.symm, hx, fun j hj => by rw [upd_n (by omega), upd_n (by omega)]; exact b4 j hj, b5.ext (fun j _ _ => upd_n (by omega)), ⟨by rw [upd_n (by omega)]; exact b6.1, b6.2⟩, fun j hj => by rw [upd_n (by omega)]; exact b7 j hj⟩
theorem rel_force {x n lt nf fi nu dr kp rb sta thr : Int32} {f1 f2 fw fu fsr sl frf frm : Nat → Int32} {fl : Nat → Option Nat} {G : Nat → LC} {r1 rb' nf' r2 sta' : Int32} {frf' fw' frm' : Nat → Int32} (k1 : (r1, rb', frf', nf') = E_w_force x rb frf lt nf) (k2 : (r2, sta', fw', frm') = E_v_force x thr sta fw frm) (h : TW n lt nf fi f1 f2 fl G fw) (hr : HR n dr kp nu sl fu fsr fw) (q : RfR rb sta frf frm) : r1 = r2 ∧ RfR rb' sta' frf' frm' ∧ TW n lt nf' fi f1 f2 fl G fw' ∧ HR n dr kp nu sl fu fsr fw' := by
  have h6 := h.2.2.2.2.2.1.1
  have z0 : (0 : Int32).toInt = 0 := rfl
  have zm : (-1 : Int32).toInt = -1 := rfl
  have zl : (lt - 1).toInt = lt.toInt - 1 := i_sub rfl (show (1 : Int32).toInt = 1 from rfl) (by omega)
  rw [E_w_force.eq_def] at k1
  rw [E_v_force.eq_def, Lt_b, isLaw_at h.2.1 h6] at k2
  by_cases c : -1 ≤ x.toInt ∧ x.toInt < lt.toInt
  · have k3 : (r1, rb', frf', nf') = E_w_force_j29 x rb frf nf := by
      by_cases d : x = -1
      · rw [if_pos d] at k1; exact k1
      · have d1 : x.toInt ≠ -1 := fun q => d (i_lit q zm)
        rw [if_neg d, Lt_b, Lt_b, ifw_p (by omega)] at k1; exact k1
    rw [E_w_force_j29.eq_def, Lt_b, E_w_accept.eq_def] at k3
    rw [if_pos c, if_pos rfl, E_v_changeF.eq_def, Lt_b, Lt_b, Lt2_b] at k2
    simp only [Prod.mk.injEq] at k2 k3
    obtain ⟨rfl, rfl, rfl, rfl⟩ := k3
    obtain ⟨rfl, rfl, rfl, rfl⟩ := k2
    exact ⟨h.2.2.1, q.ok, h.forced c, hr.keep (fun _ _ => rfl) (fun _ _ => rfl) (fun j h1 _ => upd_n (show ¬ j = 3 by omega))⟩
  · have d : ¬ x = -1 := fun e => by rw [e] at c; omega
    rw [if_neg d, Lt_b, Lt_b, ifw_n (by omega)] at k1
    rw [if_neg c, if_neg (by decide)] at k2
    simp only [Lt2, Prod.mk.injEq] at k1 k2
    obtain ⟨rfl, rfl, rfl, rfl⟩ := k1
    obtain ⟨rfl, rfl, rfl, rfl⟩ := k2
    have g := q.no (x := -2) (by decide)
    exact ⟨g.1.trans g.2.1.symm, g.2.2, h, hr⟩
end
