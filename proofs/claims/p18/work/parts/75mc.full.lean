theorem TW.fined {n lt nf fi V : Int32} {f1 f2 fw : Nat → Int32} {fl : Nat → Option Nat} {G : Nat → LC} (h : TW n lt nf fi f1 f2 fl G fw) (v : 0 ≤ V.toInt ∧ V.toInt ≤ 99999) : TW n lt nf V f1 f2 fl G (upd fw 10 V) := by
  have hs := h
  obtain ⟨⟨t1, t2, t3, t4, g1, g2, g3, g4, g5, g6, g7, g8⟩, _⟩ := h
  refine hs.step ⟨fun j hj => ?_, upd_s.symm, fun j hj => ?_, fun k hk h8 => ?_, ?_, ?_, ?_, ?_, ?_, ?_, ?_, fun j hj => ?_⟩ (fun j hj => upd_n (by omega)) (fun _ _ => rfl)
  · rw [upd_n (by omega)]; exact t1 j hj
  · rw [upd_n (by omega), upd_n (by omega), upd_n (by omega)]; exact t3 j hj
  · rw [upd_n (by omega), upd_n (by omega)]; exact t4 k hk h8
  · exact g1
  · exact g2
  · exact g3
  · exact g4
  · exact g5
  · exact g6
  · exact v
  · rw [upd_n (by omega), upd_n (by omega), upd_n (by omega)]; exact g8 j hj
/-- all houses have changed, and the hour -/
theorem TW.burned {n lt nf fi : Int32} {f1 f2 fw f1' f2' fw' : Nat → Int32} {fl : Nat → Option Nat} {G : Nat → LC} (h : TW n lt nf fi f1 f2 fl G fw) {N hr : Nat} (hN : N ≤ 8) (eN : (N : Int) = n.toInt) (hr2 : hr ≤ 23) (e0 : fw 4 = nI hr) (can : hr = 23 → (fw 5).toInt < 999) {B : Nat → Int32}
    (c1 : ∀ j, j < N → f1' (40 + j) = E_v_within_20 (fw (11 + j) - B j).toInt64 ∧ f1' (48 + j) = E_v_within_9999 (fw (27 + j) + fw (11 + j)).toInt64) (c2 : ∀ j, ¬ (40 ≤ j ∧ j < 40 + N) → ¬ (48 ≤ j ∧ j < 48 + N) → f1' j = f1 j)
    (c3 : ∀ j, j < N → fw' (11 + j) = E_v_within_20 (fw (11 + j) - B j).toInt64 ∧ fw' (27 + j) = E_v_within_9999 (fw (27 + j) + fw (11 + j)).toInt64) (c4 : ∀ j, j ≠ 4 → j ≠ 5 → ¬ (11 ≤ j ∧ j < 11 + N) → ¬ (27 ≤ j ∧ j < 27 + N) → fw' j = fw j)
    (d1 : fw' 4 = (if hr = 23 then 0 else nI (hr + 1)) ∧ fw' 5 = (if hr = 23 then fw 5 + 1 else fw 5)) (d2 : f2' 0 = fw' 4 ∧ f2' 1 = fw' 5 ∧ ∀ j, 2 ≤ j → f2' j = f2 j) : TW n lt nf fi f1' f2' fl G fw' := by
  have hs := h
  obtain ⟨⟨t1, t2, t3, t4, g1, g2, g3, g4, g5, g6, g7, g8⟩, _⟩ := h
  have z0 : (0 : Int32).toInt = 0 := rfl
  have k : ∀ {j : Nat}, j ≠ 4 → j ≠ 5 → ¬ (11 ≤ j ∧ j < 11 + N) → ¬ (27 ≤ j ∧ j < 27 + N) → fw' j = fw j := fun h1 h2 h3 h4 => c4 _ h1 h2 h3 h4
  refine hs.step ⟨fun j hj => ?_, ?_, fun j hj => ⟨?_, ?_, ?_⟩, fun i hi h8 => ⟨?_, ?_⟩, ?_, ?_, ?_, ?_, ?_, ?_, ?_, fun j hj => ⟨?_, ?_, ?_⟩⟩ (fun j hj => k (by omega) (by omega) (by omega) (by omega)) (fun j hj => c2 j (by omega) (by omega))
  · rcases (show j = 0 ∨ j = 1 ∨ 2 ≤ j by omega) with rfl | rfl | q
    · exact d2.1
    · exact d2.2.1
    · rw [d2.2.2 j q, k (by omega) (by omega) (by omega) (by omega)]; exact t1 j hj
  · rw [k (by omega) (by omega) (by omega) (by omega)]; exact t2
  · by_cases q : j < N
    · rw [(c1 j q).1, (c3 j q).1]
    · rw [c2 _ (by omega) (by omega), k (by omega) (by omega) (by omega) (by omega)]; exact (t3 j hj).1
  · rw [c2 _ (by omega) (by omega), k (by omega) (by omega) (by omega) (by omega)]; exact (t3 j hj).2.1
  · by_cases q : j < N
    · rw [(c1 j q).2, (c3 j q).2]
    · rw [c2 _ (by omega) (by omega), k (by omega) (by omega) (by omega) (by omega)]; exact (t3 j hj).2.2
  · rw [k (by omega) (by omega) (by omega) (by omega)]; exact (t4 i hi h8).1
  · rw [k (by omega) (by omega) (by omega) (by omega)]; exact (t4 i hi h8).2
  · rw [d1.1]
    by_cases q : hr = 23
    · rw [if_pos q]; decide
    · rw [if_neg q, nI_toInt (by omega)]; omega
  · rw [d1.2]
    by_cases q : hr = 23
    · have := can q
      rw [if_pos q, i_add (Eq.refl (fw 5).toInt) (show (1 : Int32).toInt = 1 from rfl) (by omega)]; omega
    · rw [if_neg q]; exact g2
  · rw [k (by omega) (by omega) (by omega) (by omega)]; exact g3
  · rw [k (by omega) (by omega) (by omega) (by omega)]; exact g4
  · rw [k (by omega) (by omega) (by omega) (by omega)]; exact g5
  · rw [k (by omega) (by omega) (by omega) (by omega)]; exact g6
  · rw [k (by omega) (by omega) (by omega) (by omega)]; exact g7
  · by_cases q : j < N
    · rw [(c3 j q).1, wi20]; exact kz_rng (by decide)
    · rw [k (by omega) (by omega) (by omega) (by omega)]; exact (g8 j hj).1
  · rw [k (by omega) (by omega) (by omega) (by omega)]; exact (g8 j hj).2.1
  · by_cases q : j < N
    · rw [(c3 j q).2, wi9999]; exact kz_rng (by decide)
    · rw [k (by omega) (by omega) (by omega) (by omega)]; exact (g8 j hj).2.2
theorem j36_at {G : Nat → LC} {br n lt nf fi b2 V b3 : Int32} {fs cw f1 f2 f3 fs2 cw2 fs3 cw3 f1' : Nat → Int32} {fl : Nat → Option Nat} {d : Int32} {x : Int32} (hx : x = 0 ∨ x = 1) (hm : E_w_meetsChord n f1 f2 f3 = 0 ∨ E_w_meetsChord n f1 f2 f3 = 1) (h1 : E_w_discords G br fs cw n lt nf fi f1 f2 f3 fl = (d, b2, fs2, cw2)) (h2 : (if fi + d < 99999 then fi + d else 99999) = V) (h3 : E_w_burnDown G b2 fs2 cw2 n lt nf V f1 f2 f3 fl = (b3, fs3, cw3, f1')) : E_w_nextHour_j36 G br fs cw n lt nf fi f1 f2 f3 fl x = (E_w_meetsChord n f1 f2 f3, b3, fs3, cw3, V, f1', if x = 0 then upd (upd f2 0 (f2 0 + 1)) 1 (f2 1 + 0) else upd (upd f2 0 0) 1 (f2 1 + 1)) := by
  rw [E_w_nextHour_j36.eq_def, Lt_b]
  rcases hm with m | m
  · rw [if_pos m, m, h1, Lt2_b, Lt2_b, Lt2_b, Lt_b, Lt_b]
    dsimp only
    rw [h2, h3, Lt2_b, Lt2_b, Lt2_b]
    rcases hx with rfl | rfl
    · rw [if_pos rfl, if_pos rfl, Lt_b, Lt_b, Lt_b, Lt_b, if_pos rfl, Lt_b, Lt_b]; rfl
    · rw [if_neg (show ¬ (1 : Int32) = 0 by decide), if_neg (show ¬ (1 : Int32) = 0 by decide), Lt_b, Lt_b, if_neg (show ¬ (1 : Int32) = 0 by decide), Lt_b, Lt_b]; rfl
  · rw [if_neg (by rw [m]; decide), m, h1, Lt2_b, Lt2_b, Lt2_b, Lt_b, Lt_b]
    dsimp only
    rw [h2, h3, Lt2_b, Lt2_b, Lt2_b]
    rcases hx with rfl | rfl
    · rw [if_pos rfl, if_pos rfl, Lt_b, Lt_b, Lt_b, Lt_b, if_pos rfl, Lt_b, Lt_b]; rfl
    · rw [if_neg (show ¬ (1 : Int32) = 0 by decide), if_neg (show ¬ (1 : Int32) = 0 by decide), Lt_b, Lt_b, if_neg (show ¬ (1 : Int32) = 0 by decide), Lt_b, Lt_b]; rfl
theorem met_01 {fw : Nat → Int32} : E_v_isMet fw = 0 ∨ E_v_isMet fw = 1 := by
  rw [E_v_isMet.eq_def, Lt_b, Lt_b, Lt_b, Lt_b, Lt_b, Lt_b]
  split
  · exact Or.inr rfl
  · exact Or.inl rfl
/-- AN HOUR THAT CAN PASS, both sides -/
theorem pass_at {n lt nf fi : Int32} {f1 f2 f3 fw : Nat → Int32} {fl : Nat → Option Nat} {G : Nat → LC} (h : TW n lt nf fi f1 f2 fl G fw) (h3 : ∀ j, j < 24 → f3 j = fw (67 + j)) (can : (fw 4).toInt < 23 ∨ (fw 5).toInt < 999) (br : Int32) (fs cw : Nat → Int32) (lw bro : Int32) (val sm : Int64) (fe frs : Nat → Int64) (fb : Nat → Int32) :
    ∃ (br' : Int32) (fs' cw' : Nat → Int32) (fi' : Int32) (f1' f2' : Nat → Int32) (lw' bro' : Int32) (val' sm' : Int64) (fw' : Nat → Int32) (fe' frs' : Nat → Int64) (fb' : Nat → Int32), E_w_nextHour G br fs cw n lt nf fi f1 f2 f3 fl = (E_v_isMet fw, br', fs', cw', fi', f1', f2') ∧ E_v_passIt lw bro val sm fw fe frs fb = (E_v_isMet fw, lw', bro', val', sm', fw', fe', frs', fb') ∧ TW n lt nf fi' f1' f2' fl G fw' ∧ (∀ j, j < 4 ∨ (6 ≤ j ∧ j < 10) ∨ 35 ≤ j → fw' j = fw j) ∧ ∀ j, j < 40 → f1' j = f1 j := by
  obtain ⟨N, n8, e1, e2, eN⟩ := h.nN
  obtain ⟨hr, r1, r2, r3⟩ := h.hour
  obtain ⟨v, b2, fs2, cw2, lw2, bro2, val2, sm2, fe2, frs2, v1, v2, v3⟩ := disc_at (f3 := f3) h br fi fs cw lw bro val sm fe frs
  have g7 := h.1.2.2.2.2.2.2.2.2.2.2.1
  have t2 := h.1.2.1
  have vV := kz_rng (g := ((fw 10 + v).toInt64).toInt) (M := 99999) (by decide)
  rw [← wi99999] at vV
  have cp := cap99999 (a := fw 10) (b := v) (by omega) (by omega)
  have hV := h.fined vV
  have md := h.met h3
  generalize hVV : E_v_within_99999 (fw 10 + v).toInt64 = V at vV cp hV
  have hB : ∃ B : Nat → Int32, ∀ a, (B a).toInt = RV nf 0 a (-1) 1 (upd fw 10 V) ∧ 0 ≤ (B a).toInt ∧ (B a).toInt ≤ (aF 3 0).toInt := ⟨fun a => (RV_ex (w := 0) (by omega) nf a (-1) 1 (upd fw 10 V)).choose, fun a => (RV_ex (w := 0) (by omega) nf a (-1) 1 (upd fw 10 V)).choose_spec⟩
  obtain ⟨B, hB⟩ := hB
  have m20 : (aF 3 0).toInt = 20 := by decide
  obtain ⟨b3, fs3, cw3, f1', u1, u2, u3⟩ := burn_in hV n8 e1 (fun a _ => (hB a).1) (fun a _ => by have := (hB a).2; omega) (fun _ _ _ _ _ => ((0, fun _ => 0, fun _ => 0, fun _ => 0) : Int32 × (Nat → Int32) × (Nat → Int32) × (Nat → Int32))) N 0 (9 - N) (by omega) b2 fs2 cw2 f1 (fun _ _ => rfl) (fun _ _ _ => ⟨rfl, rfl⟩)
  have fu : ((9 - (0 : Int32).toInt : Int).toNat + 1) = 9 - N + N + 1 := by rw [show (0 : Int32).toInt = 0 from rfl]; omega
  have e2V : upd fw 10 V 0 = nI N := by rw [upd_n (by omega)]; exact e2
  obtain ⟨lw4, bro4, val4, sm4, fb4, fe4, frs4, w1, w2⟩ := pas_in1 hV n8 e2V (fun a _ => (hB a).1) (E_v_isMet fw) (fun _ _ _ _ _ _ _ _ => ((0, 0, 0, 0, 0, fun _ => 0, fun _ => 0, fun _ => 0, fun _ => 0) : Int32 × Int32 × Int32 × Int64 × Int64 × (Nat → Int32) × (Nat → Int64) × (Nat → Int64) × (Nat → Int32))) N 0 (9 - N) (by omega) lw2 bro2 val2 sm2 fb fe2 frs2 (fun j hj => by omega)
  obtain ⟨f5, x1, x2, x3⟩ := pas_in2 (fw := upd fw 10 V) (fb := fb4) n8 e2V (r := E_v_isMet fw) (lw := lw4) (bro := bro4) (val := val4) (sm := sm4) (fe := fe4) (frs := frs4) P6z N 0 (9 - N) (by omega) (upd fw 10 V) (fun _ _ => rfl) (fun _ _ _ => ⟨rfl, rfl⟩)
  have f54 : f5 4 = nI hr := by rw [x3 _ (by omega) (by omega), upd_n (by omega)]; exact r2
  have f55 : f5 5 = fw 5 := by rw [x3 _ (by omega) (by omega), upd_n (by omega)]
  obtain ⟨y1, y2, y3⟩ := goOn_at r1 f54
  have hb : E_w_burnDown G b2 fs2 cw2 n lt nf V f1 f2 f3 fl = (b3, fs3, cw3, f1') := by rw [E_w_burnDown.eq_def, fu]; exact u1
  have m01 : E_w_meetsChord n f1 f2 f3 = 0 ∨ E_w_meetsChord n f1 f2 f3 = 1 := by rw [md]; exact met_01
  have j36 : ∀ x : Int32, (x = 0 ∨ x = 1) → E_w_nextHour_j36 G br fs cw n lt nf fi f1 f2 f3 fl x = (E_v_isMet fw, b3, fs3, cw3, V, f1', if x = 0 then upd (upd f2 0 (f2 0 + 1)) 1 (f2 1 + 0) else upd (upd f2 0 0) 1 (f2 1 + 1)) := fun x hx => by
    rw [← md]; exact j36_at hx m01 v2 (by rw [t2]; exact cp) hb
  have t10 := h.1.1 1 (by omega)
  have hvs : E_v_passIt lw bro val sm fw fe frs fb = (E_v_isMet fw, lw4, bro4, val4, sm4, E_v_goOn f5, fe4, frs4, fb4) := by
    rw [E_v_passIt.eq_def, Lt_b, Lt_b, v3, Lt2_b, Lt2_b, Lt2_b, Lt2_b, Lt2_b, Lt2_b, Lt_b, Lt_b, Lt_b, Lt_b, fu, show (10 : Int32).toNatClampNeg = 10 from rfl]
    dsimp only
    rw [hVV]
    exact w1.trans x1
  have keep : ∀ j, j < 4 ∨ (6 ≤ j ∧ j < 10) ∨ 35 ≤ j → E_v_goOn f5 j = fw j := fun j hj => by
    rw [y3 j (by omega) (by omega), x3 _ (by omega) (by omega), upd_n (by omega)]
  have cls : ∃ f2', E_w_nextHour G br fs cw n lt nf fi f1 f2 f3 fl = (E_v_isMet fw, b3, fs3, cw3, V, f1', f2') ∧ f2' 0 = E_v_goOn f5 4 ∧ f2' 1 = E_v_goOn f5 5 ∧ ∀ j, 2 ≤ j → f2' j = f2 j := by
    rw [E_w_nextHour.eq_def, Lt_b, show f2 (0 : Int32).toNatClampNeg = nI hr from r3, show f2 (1 : Int32).toNatClampNeg = fw 5 from t10]
    by_cases c : hr = 23
    · subst c
      have z9 : (999 : Int32).toInt = 999 := rfl
      have z4 : (fw 4).toInt = 23 := by rw [r2]; rfl
      rw [if_pos (show nI 23 = 23 from rfl), Lt_b, if_pos (il_iff.mpr (by omega)), j36 1 (Or.inr rfl), if_neg (show ¬ (1 : Int32) = 0 by decide), y1, y2, if_pos rfl, if_pos rfl, f55]
      refine ⟨_, rfl, by rw [upd_n (by omega), upd_s], by rw [upd_s, t10], fun j hj => by rw [upd_n (by omega), upd_n (by omega)]⟩
    · rw [if_neg (kn_nz (j := 23) rfl (by omega) c), j36 0 (Or.inl rfl), if_pos rfl, y1, y2, if_neg c, if_neg c, f55]
      refine ⟨_, rfl, by rw [upd_n (by omega), upd_s, r3, kn_p1 (by omega)], ?_, fun j hj => by rw [upd_n (by omega), upd_n (by omega)]⟩
      rw [upd_s, t10]
      exact Int32.toInt_inj.mp (by rw [i_add rfl (show (0 : Int32).toInt = 0 from rfl) (by have := i_rng (Eq.refl (fw (4 + 1)).toInt); omega), Int.add_zero])
  obtain ⟨f2', p1, p2, p3, p4⟩ := cls
  refine ⟨b3, fs3, cw3, V, f1', f2', lw4, bro4, val4, sm4, E_v_goOn f5, fe4, frs4, fb4, p1, hvs, ?_, keep, fun j hj => u3 j (by omega) (by omega)⟩
  refine hV.burned (hr := hr) (B := B) n8 eN r1 (by rw [upd_n (by omega)]; exact r2) (fun q => ?_) (fun j hj => u2 j (Nat.zero_le _) hj) (fun j q1 q2 => u3 j (by omega) (by omega)) (fun j hj => ?_) (fun j q1 q2 q3 q4 => ?_) ⟨y1, ?_⟩ ⟨p2, p3, p4⟩
  · rw [upd_n (by omega)]
    subst q
    have z4 : (fw 4).toInt = 23 := by rw [r2]; rfl
    omega
  · rw [y3 _ (by omega) (by omega), y3 _ (by omega) (by omega)]
    have q := x2 j (Nat.zero_le _) hj
    rw [w2 j hj] at q
    exact q
  · rw [y3 _ q1 q2]
    exact x3 j (by omega) (by omega)
  · rw [y2, f55, upd_n (by omega)]
theorem canPass_at {fw : Nat → Int32} (h4 : 0 ≤ (fw 4).toInt ∧ (fw 4).toInt ≤ 23) : E_v_canPass fw = if (fw 4).toInt < 23 ∨ (fw 5).toInt < 999 then 1 else 0 := by
  have z9 : (999 : Int32).toInt = 999 := rfl
  have z23 : (23 : Int32).toInt = 23 := rfl
  rw [E_v_canPass.eq_def, show E_v_term 1 fw = fw 5 from rfl, show E_v_term_0 fw = fw 4 from rfl, Lt_b]
  by_cases c : fw 5 < 999
  · have c1 := il_iff.mp c
    rw [if_pos c, if_pos (Or.inr (by omega)), E_v_canPass_j21.eq_def]
  · have c1 : ¬ (fw 5).toInt < (999 : Int32).toInt := fun q => c (il_iff.mpr q)
    rw [if_neg c, Lt_b]
    by_cases d : 23 ≤ fw 4
    · have d1 := ie_iff.mp d
      rw [if_pos d, if_neg (by omega)]
    · have d1 : ¬ (23 : Int32).toInt ≤ (fw 4).toInt := fun q => d (ie_iff.mpr q)
      rw [if_neg d, if_pos (by omega), E_v_canPass_j21.eq_def]
theorem noPass_at {n lt nf fi : Int32} {f1 f2 f3 fw : Nat → Int32} {fl : Nat → Option Nat} {G : Nat → LC} (h : TW n lt nf fi f1 f2 fl G fw) (can : ¬ ((fw 4).toInt < 23 ∨ (fw 5).toInt < 999)) (br : Int32) (fs cw : Nat → Int32) : E_w_nextHour G br fs cw n lt nf fi f1 f2 f3 fl = (-3, br, fs, cw, fi, f1, f2) := by
  obtain ⟨hr, r1, r2, r3⟩ := h.hour
  have t10 := h.1.1 1 (by omega)
  have z9 : (999 : Int32).toInt = 999 := rfl
  have z4 : (fw 4).toInt = (hr : Int) := by rw [r2, nI_toInt (by omega)]
  have c : hr = 23 := by omega
  subst c
  rw [E_w_nextHour.eq_def, Lt_b, show f2 (0 : Int32).toNatClampNeg = nI 23 from r3, show f2 (1 : Int32).toNatClampNeg = fw 5 from t10, if_pos (show nI 23 = 23 from rfl), Lt_b, if_neg (fun q => by have := il_iff.mp q; omega)]
theorem act_pass {n lt nf fi nu br lw bro : Int32} {val sm : Int64} {f1 f2 f3 fw fs cw fu fsr fb : Nat → Int32} {fe frs : Nat → Int64} {fl : Nat → Option Nat} {G : Nat → LC} (h : TW n lt nf fi f1 f2 fl G fw) (h3 : ∀ j, j < 24 → f3 j = fw (67 + j)) {r br' r2 nu' lw' bro' fi' : Int32} {val' sm' : Int64} {fs' cw' f1' f2' fw' fu' fsr' fb' : Nat → Int32} {fe' frs' : Nat → Int64} (k1 : (r, br', fs', cw', fi', f1', f2') = E_w_nextHour G br fs cw n lt nf fi f1 f2 f3 fl) (k2 : (r2, nu', lw', bro', val', sm', fw', fe', frs', fu', fsr', fb') = E_v_passNow nu lw bro val sm fw fe frs fu fsr fb) : ActR r r2 3 n lt nf fi fi' f1 f2 f1' f2' fl G fw fw' nu nu' fu fsr fu' fsr' := by
  have g1 := h.1.2.2.2.2.1
  rw [E_v_passNow.eq_def, Lt_b, canPass_at g1] at k2
  by_cases c : (fw 4).toInt < 23 ∨ (fw 5).toInt < 999
  · obtain ⟨b1, b2, b3, b4, b5, b6, b7, b8, b9, b10, b11, b12, b13, b14, p1, p2, p3, p4, p5⟩ := pass_at h h3 c br fs cw lw bro val sm fe frs fb
    rw [p1] at k1
    rw [if_pos c, if_neg (show ¬ (1 : Int32) = 0 by decide), Lt2_b, Lt2_b, p2, Lt2_b, Lt2_b, Lt2_b, Lt2_b, Lt2_b, Lt2_b, Lt2_b, Lt2_b] at k2
    dsimp only at k2
    have m := met_01 (fw := fw)
    have k3 : (r2, nu', lw', bro', val', sm', fw', fe', frs', fu', fsr', fb') = (E_v_isMet fw, (E_v_remember 3 nu fw fu fsr).1, b7, b8, b9, b10, b11, b12, b13, (E_v_remember 3 nu fw fu fsr).2.1, (E_v_remember 3 nu fw fu fsr).2.2, b14) := by
      rcases m with m | m
      · rw [if_pos m] at k2; rw [k2, m]
      · rw [if_neg (by rw [m]; decide)] at k2; rw [k2, m]
    have m0 : 0 ≤ (E_v_isMet fw).toInt := by
      rcases m with m | m <;> rw [m] <;> decide
    simp only [Prod.mk.injEq] at k1 k3
    obtain ⟨rfl, rfl, rfl, rfl, rfl, rfl, rfl⟩ := k1
    obtain ⟨rfl, rfl, rfl, rfl, rfl, rfl, rfl, rfl, rfl, rfl, rfl, rfl⟩ := k3
    exact ⟨rfl, Or.inr ⟨m0, p3, rfl, fun j hj => p4 j (by omega)⟩⟩
  · rw [noPass_at h c] at k1
    rw [if_neg c, if_pos rfl] at k2
    simp only [Prod.mk.injEq] at k1 k2
    obtain ⟨rfl, rfl, rfl, rfl, rfl, rfl, rfl⟩ := k1
    obtain ⟨rfl, rfl, rfl, rfl, rfl, rfl, rfl, rfl, rfl, rfl, rfl, rfl⟩ := k2
    exact ⟨rfl, Or.inl ⟨by decide, rfl, rfl, rfl, rfl, rfl, rfl, rfl⟩⟩
theorem rel_pass {n lt nf fi nu br lw bro dr kp rb sta thr : Int32} {val sm : Int64} {f1 f2 f3 fw fs cw fu fsr sl frf frm fb : Nat → Int32} {fe frs : Nat → Int64} {fl : Nat → Option Nat} {G : Nat → LC} {r1 rb' dr' kp' br' fi' r2 sta' nu' lw' bro' : Int32} {val' sm' : Int64} {frf' sl' fs' cw' f1' f2' fw' fu' fsr' frm' fb' : Nat → Int32} {fe' frs' : Nat → Int64} (k1 : (r1, rb', frf', dr', kp', sl', br', fs', cw', fi', f1', f2') = E_w_pass G rb frf dr kp sl br fs cw n lt nf fi f1 f2 f3 fl) (k2 : (r2, sta', nu', lw', bro', val', sm', fw', fe', frs', fu', fsr', fb', frm') = E_v_pass thr sta nu lw bro val sm fw fe frs fu fsr fb frm) (h : TW n lt nf fi f1 f2 fl G fw) (h3 : ∀ j, j < 24 → f3 j = fw (67 + j)) (hr : HR n dr kp nu sl fu fsr fw) (q : RfR rb sta frf frm) : r1 = r2 ∧ RfR rb' sta' frf' frm' ∧ TW n lt nf fi' f1' f2' fl G fw' ∧ HR n dr' kp' nu' sl' fu' fsr' fw' := by
  rw [E_w_pass.eq_def, Lt_b] at k1
  rw [E_v_pass.eq_def] at k2
  generalize hA : E_w_nextHour G br fs cw n lt nf fi f1 f2 f3 fl = A at k1
  generalize hB : E_v_passNow nu lw bro val sm fw fe frs fu fsr fb = B at k2
  obtain ⟨A1, A2, A3, A4, A5, A6, A7⟩ := A
  obtain ⟨B1, B2, B3, B4, B5, B6, B7, B8, B9, B10, B11, B12⟩ := B
  have a := act_pass h h3 hA.symm hB.symm
  simp only [Lt2, Prod.mk.injEq] at k1 k2
  obtain ⟨a1, a2, a3, a4, a5, a6, a7, a8, a9, a10, a11, a12⟩ := k1
  obtain ⟨b1, b2, b3, b4, b5, b6, b7, b8, b9, b10, b11, b12, b13, b14⟩ := k2
  have s := a.settle (by omega) hr h q (r1 := r1) (rb' := rb') (dr' := dr') (kp' := kp') (frf' := frf') (sl' := sl') (r3 := r2) (sta' := sta') (frm' := frm') (by rw [a1, a2, a3, a4, a5, a6]; rfl) (by rw [b1, b2, b14])
  rw [a10, a11, a12, b3, b8, b11, b12]
  exact s
