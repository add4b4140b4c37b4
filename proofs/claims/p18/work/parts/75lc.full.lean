/-! to damp, to buy -/
theorem cap0 {a b : Int32} (ha : 0 ≤ a.toInt ∧ a.toInt ≤ 20) (hb : -1000000 ≤ b.toInt ∧ b.toInt ≤ 1000000) (hb0 : 0 ≤ b.toInt) : (if 0 < a - b then a - b else 0) = E_v_within_20 (a - b).toInt64 := by
  have z : (0 : Int32).toInt = 0 := rfl
  have s := i_sub (Eq.refl a.toInt) (Eq.refl b.toInt) (by omega)
  refine Int32.toInt_inj.mp ?_
  rw [wi20, wide_at, s]
  unfold kz_cl
  by_cases c : 0 < a - b
  · have c1 := il_iff.mp c
    rw [if_pos c, if_neg (show ¬ a.toInt - b.toInt < 0 by omega), if_neg (show ¬ 20 < a.toInt - b.toInt by omega)]; exact s
  · have c1 : ¬ (0 : Int32).toInt < (a - b).toInt := fun q => c (il_iff.mpr q)
    rw [if_neg c]
    by_cases d : a.toInt - b.toInt < 0
    · rw [if_pos d]; rfl
    · rw [if_neg d, if_neg (show ¬ 20 < a.toInt - b.toInt by omega), z]; omega
theorem cap999 {a b : Int32} (ha : 0 ≤ a.toInt ∧ a.toInt ≤ 100000) (hb : 0 ≤ b.toInt ∧ b.toInt ≤ 100000) : (if a + b < 999 then a + b else 999) = E_v_within_999 (a + b).toInt64 := by
  have z : (999 : Int32).toInt = 999 := rfl
  have s := i_add (Eq.refl a.toInt) (Eq.refl b.toInt) (by omega)
  refine Int32.toInt_inj.mp ?_
  rw [wi999, wide_at, s]
  unfold kz_cl
  by_cases c : a + b < 999
  · have c1 := il_iff.mp c
    rw [if_pos c, if_neg (show ¬ a.toInt + b.toInt < 0 by omega), if_neg (show ¬ 999 < a.toInt + b.toInt by omega)]; exact s
  · have c1 : ¬ (a + b).toInt < (999 : Int32).toInt := fun q => c (il_iff.mpr q)
    rw [if_neg c, if_neg (show ¬ a.toInt + b.toInt < 0 by omega)]
    by_cases d : 999 < a.toInt + b.toInt
    · rw [if_pos d]; rfl
    · rw [if_neg d, z]; omega
theorem cap9999 {a b : Int32} (ha : 0 ≤ a.toInt ∧ a.toInt ≤ 100000) (hb : 0 ≤ b.toInt ∧ b.toInt ≤ 100000) : (if a + b < 9999 then a + b else 9999) = E_v_within_9999 (a + b).toInt64 := by
  have z : (9999 : Int32).toInt = 9999 := rfl
  have s := i_add (Eq.refl a.toInt) (Eq.refl b.toInt) (by omega)
  refine Int32.toInt_inj.mp ?_
  rw [wi9999, wide_at, s]
  unfold kz_cl
  by_cases c : a + b < 9999
  · have c1 := il_iff.mp c
    rw [if_pos c, if_neg (show ¬ a.toInt + b.toInt < 0 by omega), if_neg (show ¬ 9999 < a.toInt + b.toInt by omega)]; exact s
  · have c1 : ¬ (a + b).toInt < (9999 : Int32).toInt := fun q => c (il_iff.mpr q)
    rw [if_neg c, if_neg (show ¬ a.toInt + b.toInt < 0 by omega)]
    by_cases d : 9999 < a.toInt + b.toInt
    · rw [if_pos d]; rfl
    · rw [if_neg d, z]; omega
theorem cap99999 {a b : Int32} (ha : 0 ≤ a.toInt ∧ a.toInt ≤ 100000) (hb : 0 ≤ b.toInt ∧ b.toInt ≤ 1000000) : (if a + b < 99999 then a + b else 99999) = E_v_within_99999 (a + b).toInt64 := by
  have z : (99999 : Int32).toInt = 99999 := rfl
  have s := i_add (Eq.refl a.toInt) (Eq.refl b.toInt) (by omega)
  refine Int32.toInt_inj.mp ?_
  rw [wi99999, wide_at, s]
  unfold kz_cl
  by_cases c : a + b < 99999
  · have c1 := il_iff.mp c
    rw [if_pos c, if_neg (show ¬ a.toInt + b.toInt < 0 by omega), if_neg (show ¬ 99999 < a.toInt + b.toInt by omega)]; exact s
  · have c1 : ¬ (a + b).toInt < (99999 : Int32).toInt := fun q => c (il_iff.mpr q)
    rw [if_neg c, if_neg (show ¬ a.toInt + b.toInt < 0 by omega)]
    by_cases d : 99999 < a.toInt + b.toInt
    · rw [if_pos d]; rfl
    · rw [if_neg d, z]; omega
theorem TW.fire1 {n lt nf fi : Int32} {f1 f2 fw : Nat → Int32} {fl : Nat → Option Nat} {G : Nat → LC} (h : TW n lt nf fi f1 f2 fl G fw) {k : Nat} (hk : (k : Int) < n.toInt) {V : Int32} (v : 0 ≤ V.toInt ∧ V.toInt ≤ 20) : TW n lt nf fi (upd f1 (40 + k) V) f2 fl G (upd fw (11 + k) V) := by
  obtain ⟨k8, hh⟩ := h.has hk
  have r := h.1.2.2.2.2.2.2.2.2.2.2.2 k k8
  refine h.step (h.1.one k8 hk (fun j h1 h2 h3 => upd_n h2) (fun j h1 h2 h3 => upd_n h1) ⟨?_, ?_, ?_⟩ ⟨?_, ?_, ?_⟩) (fun j hj => upd_n (by omega)) (fun j hj => upd_n (by omega))
  · rw [upd_n (by omega), upd_n (by omega)]; exact (h.1.2.2.1 k k8).2.1
  · rw [upd_s, upd_s]
  · rw [upd_n (by omega), upd_n (by omega)]; exact (h.1.2.2.1 k k8).2.2
  · rw [upd_s]; exact v
  · rw [upd_n (by omega)]; exact r.2.1
  · rw [upd_n (by omega)]; exact r.2.2
theorem TW.coal1 {n lt nf fi : Int32} {f1 f2 fw : Nat → Int32} {fl : Nat → Option Nat} {G : Nat → LC} (h : TW n lt nf fi f1 f2 fl G fw) {k : Nat} (hk : (k : Int) < n.toInt) {V : Int32} (v : 0 ≤ V.toInt ∧ V.toInt ≤ 999) : TW n lt nf fi (upd f1 (16 + k) V) f2 fl G (upd fw (19 + k) V) := by
  obtain ⟨k8, hh⟩ := h.has hk
  have r := h.1.2.2.2.2.2.2.2.2.2.2.2 k k8
  refine h.step (h.1.one k8 hk (fun j h1 h2 h3 => upd_n h1) (fun j h1 h2 h3 => upd_n h2) ⟨?_, ?_, ?_⟩ ⟨?_, ?_, ?_⟩) (fun j hj => upd_n (by omega)) (fun j hj => upd_n (by omega))
  · rw [upd_s, upd_s]
  · rw [upd_n (by omega), upd_n (by omega)]; exact (h.1.2.2.1 k k8).1
  · rw [upd_n (by omega), upd_n (by omega)]; exact (h.1.2.2.1 k k8).2.2
  · rw [upd_n (by omega)]; exact r.1
  · rw [upd_s]; exact v
  · rw [upd_n (by omega)]; exact r.2.2
theorem act_damp {x y n lt nf fi nu : Int32} {f1 f2 fw fu fsr : Nat → Int32} {fl : Nat → Option Nat} {G : Nat → LC} (h : TW n lt nf fi f1 f2 fl G fw) {r r2 nu' : Int32} {f1' fw' fu' fsr' : Nat → Int32} (k1 : (r, f1') = E_w_quench x y n f1) (k2 : (r2, nu', fw', fu', fsr') = E_v_dampNow x y nu fw fu fsr) : ActR r r2 1 n lt nf fi fi f1 f2 f1' f2 fl G fw fw' nu nu' fu fsr fu' fsr' := by
  have hn := h.2.2.2.2.2.2.1
  rw [E_v_dampNow.eq_def, Lt_b, Lt_b] at k2
  rw [E_w_quench.eq_def, Lt_b] at k1
  by_cases d : (1 : Int32).toInt ≤ y.toInt ∧ y.toInt ≤ (20 : Int32).toInt
  case neg =>
    rw [ifw_n d] at k1
    rw [ifi_n (by exact d)] at k2
    simp only [Prod.mk.injEq] at k1 k2
    obtain ⟨rfl, rfl⟩ := k1
    obtain ⟨rfl, rfl, rfl, rfl, rfl⟩ := k2
    exact ⟨rfl, Or.inl ⟨by decide, rfl, rfl, rfl, rfl, rfl, rfl, rfl⟩⟩
  rw [ifw_p d, Lt_b] at k1
  rw [ifi_p (by exact d), Lt_b, isHouse_at hn] at k2
  by_cases c : 0 ≤ x.toInt ∧ x.toInt < n.toInt
  case neg =>
    rw [has_n c, if_neg (by decide)] at k1 k2
    simp only [Prod.mk.injEq] at k1 k2
    obtain ⟨rfl, rfl⟩ := k1
    obtain ⟨rfl, rfl, rfl, rfl, rfl⟩ := k2
    exact ⟨rfl, Or.inl ⟨by decide, rfl, rfl, rfl, rfl, rfl, rfl, rfl⟩⟩
  obtain ⟨k, hk, hz⟩ : ∃ k : Nat, x = nI k ∧ (k : Int) = x.toInt := ⟨x.toInt.toNat, i_ofN rfl c.1, by omega⟩
  subst hk
  have hkn : (k : Int) < n.toInt := by omega
  obtain ⟨k8, hh⟩ := h.has hkn
  have z1 : (1 : Int32).toInt = 1 := rfl
  have z20 : (20 : Int32).toInt = 20 := rfl
  have v := kz_rng (g := ((fw (11 + k) - y).toInt64).toInt) (M := 20) (by decide)
  rw [← wi20] at v
  have r0 := (h.1.2.2.2.2.2.2.2.2.2.2.2 k k8).1
  rw [hh, if_pos rfl] at k1 k2
  rw [Lt_b, h.fire k8, Lt_b, Lt_b, cap0 r0 (by omega) (by omega), Lt_b, put5_at (nIb k8), nIt (by omega)] at k1
  rw [n_ladd (m := 11) rfl (by omega), Lt2_b, Lt2_b, Lt_b, Lt_b, Lt_b, Lt_b, Lt_b, Lt_b, Lt_b, Lt_b, Lt_b, kn_cl (by omega)] at k2
  have ts := h.fire1 hkn v
  generalize E_v_within_20 (fw (11 + k) - y).toInt64 = V at k1 k2 v ts
  rw [upd_s] at k2
  simp only [Prod.mk.injEq] at k1 k2
  obtain ⟨rfl, rfl⟩ := k1
  obtain ⟨rfl, rfl, rfl, rfl, rfl⟩ := k2
  exact ⟨rfl, Or.inr ⟨v.1, ts, rfl, fun j hj => upd_n (by omega)⟩⟩
theorem act_buy {x y n lt nf fi nu : Int32} {f1 f2 fw fu fsr : Nat → Int32} {fl : Nat → Option Nat} {G : Nat → LC} (h : TW n lt nf fi f1 f2 fl G fw) {r r2 nu' : Int32} {f1' fw' fu' fsr' : Nat → Int32} (k1 : (r, f1') = E_w_supply x y n f1) (k2 : (r2, nu', fw', fu', fsr') = E_v_buyNow x y nu fw fu fsr) : ActR r r2 2 n lt nf fi fi f1 f2 f1' f2 fl G fw fw' nu nu' fu fsr fu' fsr' := by
  have hn := h.2.2.2.2.2.2.1
  rw [E_v_buyNow.eq_def, Lt_b, Lt_b] at k2
  rw [E_w_supply.eq_def, Lt_b] at k1
  by_cases d : (1 : Int32).toInt ≤ y.toInt ∧ y.toInt ≤ (999 : Int32).toInt
  case neg =>
    rw [ifw_n d] at k1
    rw [ifi_n (by exact d)] at k2
    simp only [Prod.mk.injEq] at k1 k2
    obtain ⟨rfl, rfl⟩ := k1
    obtain ⟨rfl, rfl, rfl, rfl, rfl⟩ := k2
    exact ⟨rfl, Or.inl ⟨by decide, rfl, rfl, rfl, rfl, rfl, rfl, rfl⟩⟩
  rw [ifw_p d, Lt_b] at k1
  rw [ifi_p (by exact d), Lt_b, isHouse_at hn] at k2
  by_cases c : 0 ≤ x.toInt ∧ x.toInt < n.toInt
  case neg =>
    rw [has_n c, if_neg (by decide)] at k1 k2
    simp only [Prod.mk.injEq] at k1 k2
    obtain ⟨rfl, rfl⟩ := k1
    obtain ⟨rfl, rfl, rfl, rfl, rfl⟩ := k2
    exact ⟨rfl, Or.inl ⟨by decide, rfl, rfl, rfl, rfl, rfl, rfl, rfl⟩⟩
  obtain ⟨k, hk, hz⟩ : ∃ k : Nat, x = nI k ∧ (k : Int) = x.toInt := ⟨x.toInt.toNat, i_ofN rfl c.1, by omega⟩
  subst hk
  have hkn : (k : Int) < n.toInt := by omega
  obtain ⟨k8, hh⟩ := h.has hkn
  have z1 : (1 : Int32).toInt = 1 := rfl
  have z20 : (999 : Int32).toInt = 999 := rfl
  have v := kz_rng (g := ((fw (19 + k) + y).toInt64).toInt) (M := 999) (by decide)
  rw [← wi999] at v
  have r0 := (h.1.2.2.2.2.2.2.2.2.2.2.2 k k8).2.1
  rw [hh, if_pos rfl] at k1 k2
  rw [Lt_b, h.coal k8, Lt_b, Lt_b, cap999 (by omega) (by omega), Lt_b, put2_at (nIb k8), nIt (by omega)] at k1
  rw [n_ladd (m := 19) rfl (by omega), Lt2_b, Lt2_b, Lt_b, Lt_b, Lt_b, Lt_b, Lt_b, Lt_b, Lt_b, Lt_b, Lt_b, kn_cl (by omega)] at k2
  have ts := h.coal1 hkn v
  generalize E_v_within_999 (fw (19 + k) + y).toInt64 = V at k1 k2 v ts
  rw [upd_s] at k2
  simp only [Prod.mk.injEq] at k1 k2
  obtain ⟨rfl, rfl⟩ := k1
  obtain ⟨rfl, rfl, rfl, rfl, rfl⟩ := k2
  exact ⟨rfl, Or.inr ⟨v.1, ts, rfl, fun j hj => upd_n (by omega)⟩⟩
/-! the calls -/
theorem rel_stoke {x n lt nf fi nu br lw bro dr kp rb sta thr : Int32} {val sm : Int64} {f1 f2 f3 fw fs cw fu fsr sl frf frm : Nat → Int32} {fe frs : Nat → Int64} {fl : Nat → Option Nat} {G : Nat → LC} {r1 rb' dr' kp' br' r2 sta' nu' lw' bro' : Int32} {val' sm' : Int64} {frf' sl' fs' cw' f1' fw' fu' fsr' frm' : Nat → Int32} {fe' frs' : Nat → Int64} (k1 : (r1, rb', frf', dr', kp', sl', br', fs', cw', f1') = E_w_stoke G x rb frf dr kp sl br fs cw n lt nf fi f1 f2 f3 fl) (k2 : (r2, sta', nu', lw', bro', val', sm', fw', fe', frs', fu', fsr', frm') = E_v_stoke x thr sta nu lw bro val sm fw fe frs fu fsr frm) (h : TW n lt nf fi f1 f2 fl G fw) (hr : HR n dr kp nu sl fu fsr fw) (q : RfR rb sta frf frm) : r1 = r2 ∧ RfR rb' sta' frf' frm' ∧ TW n lt nf fi f1' f2 fl G fw' ∧ HR n dr' kp' nu' sl' fu' fsr' fw' := by
  rw [E_w_stoke.eq_def, Lt_b] at k1
  rw [E_v_stoke.eq_def] at k2
  generalize hA : E_w_kindle G x br fs cw n lt nf fi f1 f2 f3 fl = A at k1
  generalize hB : E_v_stokeNow x nu lw bro val sm fw fe frs fu fsr = B at k2
  obtain ⟨A1, A2, A3, A4, A5⟩ := A
  obtain ⟨B1, B2, B3, B4, B5, B6, B7, B8, B9, B10, B11⟩ := B
  have a := act_stoke h hA.symm hB.symm
  simp only [Lt2, Prod.mk.injEq] at k1 k2
  obtain ⟨a1, a2, a3, a4, a5, a6, a7, a8, a9, a10⟩ := k1
  obtain ⟨b1, b2, b3, b4, b5, b6, b7, b8, b9, b10, b11, b12, b13⟩ := k2
  have s := a.settle (by omega) hr h q (r1 := r1) (rb' := rb') (dr' := dr') (kp' := kp') (frf' := frf') (sl' := sl') (r3 := r2) (sta' := sta') (frm' := frm') (by rw [a1, a2, a3, a4, a5, a6]; rfl) (by rw [b1, b2, b13])
  rw [a10, b3, b8, b11, b12]
  exact s
theorem rel_damp {x y n lt nf fi nu br lw bro dr kp rb sta thr : Int32} {val sm : Int64} {f1 f2 f3 fw fs cw fu fsr sl frf frm : Nat → Int32} {fe frs : Nat → Int64} {fl : Nat → Option Nat} {G : Nat → LC} {r1 rb' dr' kp' r2 sta' nu' : Int32} {frf' sl' f1' fw' fu' fsr' frm' : Nat → Int32} (k1 : (r1, rb', frf', dr', kp', sl', f1') = E_w_damp x y rb frf dr kp sl br fs cw n lt nf fi f1 f2 f3 fl) (k2 : (r2, sta', nu', fw', fu', fsr', frm') = E_v_damp x y thr sta nu lw bro val sm fw fe frs fu fsr frm) (h : TW n lt nf fi f1 f2 fl G fw) (hr : HR n dr kp nu sl fu fsr fw) (q : RfR rb sta frf frm) : r1 = r2 ∧ RfR rb' sta' frf' frm' ∧ TW n lt nf fi f1' f2 fl G fw' ∧ HR n dr' kp' nu' sl' fu' fsr' fw' := by
  rw [E_w_damp.eq_def, Lt_b] at k1
  rw [E_v_damp.eq_def] at k2
  generalize hA : E_w_quench x y n f1 = A at k1
  generalize hB : E_v_dampNow x y nu fw fu fsr = B at k2
  obtain ⟨A1, A2⟩ := A
  obtain ⟨B1, B2, B3, B4, B5⟩ := B
  have a := act_damp h hA.symm hB.symm
  simp only [Lt2, Prod.mk.injEq] at k1 k2
  obtain ⟨a1, a2, a3, a4, a5, a6, a7⟩ := k1
  obtain ⟨b1, b2, b3, b4, b5, b6, b7⟩ := k2
  have s := a.settle (by omega) hr h q (r1 := r1) (rb' := rb') (dr' := dr') (kp' := kp') (frf' := frf') (sl' := sl') (r3 := r2) (sta' := sta') (frm' := frm') (by rw [a1, a2, a3, a4, a5, a6]; rfl) (by rw [b1, b2, b7])
  rw [a7, b3, b4, b5, b6]
  exact s
theorem rel_buy {x y n lt nf fi nu br lw bro dr kp rb sta thr : Int32} {val sm : Int64} {f1 f2 f3 fw fs cw fu fsr sl frf frm : Nat → Int32} {fe frs : Nat → Int64} {fl : Nat → Option Nat} {G : Nat → LC} {r1 rb' dr' kp' r2 sta' nu' : Int32} {frf' sl' f1' fw' fu' fsr' frm' : Nat → Int32} (k1 : (r1, rb', frf', dr', kp', sl', f1') = E_w_buy x y rb frf dr kp sl br fs cw n lt nf fi f1 f2 f3 fl) (k2 : (r2, sta', nu', fw', fu', fsr', frm') = E_v_buy x y thr sta nu lw bro val sm fw fe frs fu fsr frm) (h : TW n lt nf fi f1 f2 fl G fw) (hr : HR n dr kp nu sl fu fsr fw) (q : RfR rb sta frf frm) : r1 = r2 ∧ RfR rb' sta' frf' frm' ∧ TW n lt nf fi f1' f2 fl G fw' ∧ HR n dr' kp' nu' sl' fu' fsr' fw' := by
  rw [E_w_buy.eq_def, Lt_b] at k1
  rw [E_v_buy.eq_def] at k2
  generalize hA : E_w_supply x y n f1 = A at k1
  generalize hB : E_v_buyNow x y nu fw fu fsr = B at k2
  obtain ⟨A1, A2⟩ := A
  obtain ⟨B1, B2, B3, B4, B5⟩ := B
  have a := act_buy h hA.symm hB.symm
  simp only [Lt2, Prod.mk.injEq] at k1 k2
  obtain ⟨a1, a2, a3, a4, a5, a6, a7⟩ := k1
  obtain ⟨b1, b2, b3, b4, b5, b6, b7⟩ := k2
  have s := a.settle (by omega) hr h q (r1 := r1) (rb' := rb') (dr' := dr') (kp' := kp') (frf' := frf') (sl' := sl') (r3 := r2) (sta' := sta') (frm' := frm') (by rw [a1, a2, a3, a4, a5, a6]; rfl) (by rw [b1, b2, b7])
  rw [a7, b3, b4, b5, b6]
  exact s
