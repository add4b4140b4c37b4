/-! days: the answers -/
theorem day_146r {sta x0 r a b n : Int32} {c d e : Int64} {fe frs : Nat → Int64} {fb g u frf : Nat → Int32} (hn : 0 ≤ n.toInt ∧ n.toInt ≤ 8) (z : Int32 → (Nat → Int32) → DY16) : ∀ (k : Nat) (v : Int32) (fd : Nat → Int32), 0 ≤ v.toInt ∧ v.toInt ≤ 8 → (9 - v.toInt).toNat < k → (Lp (E_v_days_l146 sta frf u x0 r a b c d e fe frs fb g n) z k v fd).1 = r := by
  intro k
  induction k with
  | zero => intro v fd hv hk; exact absurd hk (Nat.not_lt_zero _)
  | succ k ih =>
    intro v fd hv hk
    rw [Lp_s, E_v_days_l146.eq_def]
    by_cases q : n ≤ v
    · rw [if_pos q, Lt_b, Lt_b, Lt_b, Lt2_b, Lt2_b]
      exact tell_1
    · have e2 := n_le q
      have hi := inc_o (a := v) (by omega)
      rw [if_neg q]
      dsimp only [Lt]
      exact ih _ _ (by omega) (by omega)
theorem day_133r {sta x0 r a b : Int32} {c d e : Int64} {fe frs : Nat → Int64} {fb fd g u frf : Nat → Int32} (hn : 0 ≤ (g 0).toInt ∧ (g 0).toInt ≤ 8) : (E_v_days_j133 sta fd frf u x0 r a b c d e fe frs fb g).1 = r := by
  rw [E_v_days_j133.eq_def, Lt_b]
  exact day_146r hn _ _ _ _ (by decide) (by decide)
noncomputable abbrev BD7 : Type := Int32 × Int32 × (Nat → Int32) × (Nat → Int32) × Int32 × (Nat → Int32) × (Nat → Int32)
noncomputable abbrev BDr : Type := Int32 → Int32 → Int32 → Int32 → Int32 → (Nat → Int32) → (Nat → Int32) → (Nat → Int32) → (Nat → Int32) → BD7
/-- the hour of a day, on both sides -/
theorem day_pass {n lt nf fi : Int32} {f1 f2 f3 g : Nat → Int32} {fl : Nat → Option Nat} {G : Nat → LC} (h : TW n lt nf fi f1 f2 fl G g) (h3 : ∀ j, j < 24 → f3 j = g (67 + j)) (can : (g 4).toInt < 23 ∨ (g 5).toInt < 999) {i : Nat} (hi : i < 100) {r : Int32} (hr : 0 ≤ r.toInt ∧ r.toInt ≤ (i : Int)) (rc1 : BDr) (rc2 : DYr) (v br : Int32) (fs cw : Nat → Int32) (lw bro : Int32) (val sm e : Int64) (fe frs : Nat → Int64) (fb : Nat → Int32) (hrec : ∀ (r2 br fi : Int32) (fs cw f1 f2 : Nat → Int32) (lw bro : Int32) (val sm : Int64) (fe frs : Nat → Int64) (fb g : Nat → Int32), TW n lt nf fi f1 f2 fl G g → (∀ j, j < 24 → f3 j = g (67 + j)) → (0 ≤ r2.toInt ∧ r2.toInt ≤ (i + 1 : Nat)) → (rc1 (nI (i + 1)) r2 v br fi fs cw f1 f2).1 = (rc2 (nI (i + 1)) r2 lw bro val sm e fe frs fb g).1) : (E_w_byDraws_j53 G n lt nf f3 fl (nI i) r fi f2 rc1 v br fs cw f1).1 = (E_v_days_j110 (nI i) r fb rc2 lw bro val sm e fe frs g).1 := by
  obtain ⟨br', fs', cw', fi', f1', f2', lw', bro', val', sm', fw', fe', frs', fb', q1, q2, q3, q4, q5⟩ := pass_at h h3 can br fs cw lw bro val sm fe frs fb
  have h3' : ∀ j, j < 24 → f3 j = fw' (67 + j) := fun j hj => (h3 j hj).trans (q4 _ (by omega)).symm
  rw [E_w_byDraws_j53.eq_def, q1, Lt2_b, Lt2_b, Lt2_b, Lt2_b, Lt2_b, Lt2_b, E_v_days_j110.eq_def, q2, Lt2_b, Lt2_b, Lt2_b, Lt2_b, Lt2_b, Lt2_b, Lt2_b, Lt2_b]
  dsimp only
  rcases met_01 (fw := g) with m | m
  · rw [m, if_pos (show (0 : Int32) ≤ 0 by decide), if_pos rfl, Lt_b, Lt_b, Lt_b, Lt_b, kn_po (by omega)]
    exact hrec _ _ _ _ _ _ _ _ _ _ _ _ _ _ _ q3 h3' (by rw [i_add (Eq.refl r.toInt) (show (0 : Int32).toInt = 0 from rfl) (by omega)]; omega)
  · rw [m, if_pos (show (0 : Int32) ≤ 1 by decide), if_neg (show ¬ (1 : Int32) = 0 by decide), Lt_b, Lt_b, Lt_b, Lt_b, kn_po (by omega)]
    exact hrec _ _ _ _ _ _ _ _ _ _ _ _ _ _ _ q3 h3' (by rw [i_add (Eq.refl r.toInt) (show (1 : Int32).toInt = 1 from rfl) (by omega)]; omega)
theorem day_no {n lt nf fi : Int32} {f1 f2 f3 g : Nat → Int32} {fl : Nat → Option Nat} {G : Nat → LC} (h : TW n lt nf fi f1 f2 fl G g) (can : ¬ ((g 4).toInt < 23 ∨ (g 5).toInt < 999)) (i r : Int32) (rc1 : BDr) (v br : Int32) (fs cw : Nat → Int32) : (E_w_byDraws_j53 G n lt nf f3 fl i r fi f2 rc1 v br fs cw f1).1 = r := by
  rw [E_w_byDraws_j53.eq_def, noPass_at h can br fs cw, Lt2_b, Lt2_b, Lt2_b, Lt2_b, Lt2_b, Lt2_b]
  dsimp only
  rw [if_neg (show ¬ (0 : Int32) ≤ -3 by decide)]
theorem day_seed {v n : Int32} {e : Int64} (hn : 0 < n.toInt ∧ n.toInt ≤ 8) (he : e.toInt = v.toInt ∧ 0 ≤ e.toInt ∧ e.toInt ≤ 1000003) {v1 k : Int32} (a : v1 = (v.toInt64 * 1103 + 12345 - (v.toInt64 * 1103 + 12345) / 1000003 * 1000003).toInt32) (b : k = v1 - v1 / n * n) : (E_v_draw n e).1 = k ∧ ((E_v_draw n e).2.toInt = v1.toInt ∧ 0 ≤ (E_v_draw n e).2.toInt ∧ (E_v_draw n e).2.toInt ≤ 1000003) ∧ 0 ≤ k.toInt ∧ k.toInt < n.toInt := by
  have ev : v.toInt64 = e := Int64.toInt_inj.mp (by rw [wide_at]; exact he.1.symm)
  rw [ev] at a
  obtain ⟨⟨d1, d2⟩, d3, d4⟩ := draw_at (x := n) (s := e) hn.1 he.2
  have hA : (E_v_draw n e).2 = e * 1103 + 12345 - (e * 1103 + 12345) / 1000003 * 1000003 := rfl
  have hB : (E_v_draw n e).1 = ((E_v_draw n e).2 - (E_v_draw n e).2 / n.toInt64 * n.toInt64).toInt32 := rfl
  rw [← hA] at a
  generalize (E_v_draw n e).2 = A at a hB d3 d4 ⊢
  generalize (E_v_draw n e).1 = K at hB d1 d2 ⊢
  have w := wide_at (x := n)
  have a1 : v1.toInt = A.toInt := by rw [a]; exact l_nar (Eq.refl A.toInt) (by omega)
  have b1 := i_rem a1 (Eq.refl n.toInt) (by omega) hn.1
  have c1 := l_rem (Eq.refl A.toInt) w (by omega) hn.1
  have c2 := l_remb (Eq.refl A.toInt) w (by omega) hn.1
  have c3 := l_nar c1 (by rw [c1] at c2; omega)
  rw [← hB] at c3
  rw [← b] at b1
  have kk : K = k := Int32.toInt_inj.mp (c3.trans b1.symm)
  rw [← kk]
  exact ⟨rfl, ⟨a1.symm, d3, by omega⟩, d1, d2⟩
theorem day_go {n lt nf : Int32} {f3 : Nat → Int32} {fl : Nat → Option Nat} {G : Nat → LC} {Y : Nat} (hY : Y ≤ 100) {sta x0 : Int32} {fd frf u : Nat → Int32} (z1 : BDr) (z2 : DYr) : ∀ (d i F : Nat), i + d = Y → ∀ (r v br fi : Int32) (fs cw f1 f2 : Nat → Int32) (lw bro : Int32) (val sm e : Int64) (fe frs : Nat → Int64) (fb g : Nat → Int32), TW n lt nf fi f1 f2 fl G g → (∀ j, j < 24 → f3 j = g (67 + j)) → (0 ≤ r.toInt ∧ r.toInt ≤ (i : Int)) → (e.toInt = v.toInt ∧ 0 ≤ e.toInt ∧ e.toInt ≤ 1000003) → (Lp (E_w_byDraws_l9 G (nI Y) n lt nf f3 fl) z1 (F + d + 1) (nI i) r v br fi fs cw f1 f2).1 = (Lp (E_v_days_l61 (nI Y) sta fd frf u x0) z2 (F + d + 1) (nI i) r lw bro val sm e fe frs fb g).1 := by
  intro d
  induction d with
  | zero =>
    intro i F hi r v br fi fs cw f1 f2 lw bro val sm e fe frs fb g h h3 hr he
    have : i = Y := by omega
    subst this
    have c1 : nI i ≤ nI i := (kn_le (by omega) (by omega)).mpr (Nat.le_refl _)
    have hn := h.2.2.2.2.2.2.1
    rw [Nat.add_zero, Lp_s, Lp_s, E_w_byDraws_l9.eq_def, if_pos c1, E_v_days_l61.eq_def, if_pos c1, day_133r (by rw [← hn.1]; exact hn.2)]
  | succ d ih =>
    intro i F hi r v br fi fs cw f1 f2 lw bro val sm e fe frs fb g h h3 hr he
    have c1 : ¬ nI Y ≤ nI i := fun q => by have := (kn_le (by omega) (by omega)).mp q; omega
    have hn := h.2.2.2.2.2.2.1
    have g0 : g (0 : Int32).toNatClampNeg = n := hn.1.symm
    have hn0 : 0 ≤ (g 0).toInt ∧ (g 0).toInt ≤ 8 := by rw [← hn.1]; exact hn.2
    have h4 := h.1.2.2.2.2.1
    have z0 : (0 : Int32).toInt = 0 := rfl
    have e3 : nf = g 3 := h.2.2.1
    rw [show F + (d + 1) + 1 = F + d + 1 + 1 by omega]
    show (E_w_byDraws_l9 G (nI Y) n lt nf f3 fl (Lp (E_w_byDraws_l9 G (nI Y) n lt nf f3 fl) z1 (F + d + 1)) (nI i) r v br fi fs cw f1 f2).1 = (E_v_days_l61 (nI Y) sta fd frf u x0 (Lp (E_v_days_l61 (nI Y) sta fd frf u x0) z2 (F + d + 1)) (nI i) r lw bro val sm e fe frs fb g).1
    rw [E_w_byDraws_l9.eq_def, if_neg c1]
    by_cases cn : n ≤ 0
    · rw [if_pos cn, E_v_days_l61.eq_def, if_neg c1, Lt_b, canPass_at h4]
      by_cases can : (g 4).toInt < 23 ∨ (g 5).toInt < 999
      · rw [if_pos can, if_neg (show ¬ (1 : Int32) = 0 by decide), Lt_b, g0, if_pos cn]
        exact day_pass h h3 can (by omega) hr _ _ _ _ _ _ _ _ _ _ _ _ _ _ (fun r2 br fi fs cw f1 f2 lw bro val sm fe frs fb g t1 t2 t3 => ih (i + 1) F (by omega) _ _ _ _ _ _ _ _ _ _ _ _ _ _ _ _ _ t1 t2 t3 he)
      · rw [if_neg can, if_pos rfl, day_133r hn0]
        exact day_no h can _ _ _ _ _ _ _
    · have np := n_le cn
      rw [if_neg cn, Lt_b, Lt_b, Lt_b, Lt_b, Lt_b]
      generalize ha : (v.toInt64 * 1103 + 12345 - (v.toInt64 * 1103 + 12345) / 1000003 * 1000003).toInt32 = v1
      rw [Lt_b]
      generalize hb : v1 - v1 / n * n = kk
      obtain ⟨s1, s2, s3, s4⟩ := day_seed (e := e) (n := n) ⟨by omega, hn.2.2⟩ he ha.symm hb.symm
      obtain ⟨k, hk, hz⟩ : ∃ k : Nat, kk = nI k ∧ (k : Int) = kk.toInt := ⟨kk.toInt.toNat, i_ofN rfl s3, by omega⟩
      have hkn : (k : Int) < n.toInt := by omega
      obtain ⟨k8, _⟩ := h.has hkn
      obtain ⟨X, hX, _⟩ := RV_ex (w := 3) (by omega) nf k (-1) 0 g
      obtain ⟨Q, hQ, _⟩ := RV_ex (w := 1) (by omega) nf k (-1) 4 g
      obtain ⟨q1, q2⟩ := kindle_at h hkn hX hQ br fs cw f3
      rw [e3] at hX hQ
      rw [hk]
      by_cases dd : g (19 + k) < 1 ∨ X = 1
      · obtain ⟨b1, b2, b3, q⟩ := q1 dd
        rw [q, Lt2_b, Lt2_b, Lt2_b, Lt2_b]
        dsimp only
        rw [E_v_days_l61.eq_def, if_neg c1, Lt_b, canPass_at h4]
        by_cases can : (g 4).toInt < 23 ∨ (g 5).toInt < 999
        · obtain ⟨a1, a2, a3, a4, a5, a6, p⟩ := canStoke_n (h.ask k8 m1_rng) hX lw bro val sm fe frs dd
          rw [if_pos can, if_neg (show ¬ (1 : Int32) = 0 by decide), Lt_b, g0, if_neg cn, Lt_b, Lt2_b, s1, hk, p, Lt2_b, Lt2_b, Lt2_b, Lt2_b, Lt2_b, Lt2_b, if_pos rfl]
          dsimp only
          exact day_pass h h3 can (by omega) hr _ _ _ _ _ _ _ _ _ _ _ _ _ _ (fun r2 br fi fs cw f1 f2 lw bro val sm fe frs fb g t1 t2 t3 => ih (i + 1) F (by omega) _ _ _ _ _ _ _ _ _ _ _ _ _ _ _ _ _ t1 t2 t3 s2)
        · rw [if_neg can, if_pos rfl, day_133r hn0]
          exact day_no h can _ _ _ _ _ _ _
      · obtain ⟨b1, b2, b3, q⟩ := q2 (fun w => dd (Or.inl w)) (fun w => dd (Or.inr w))
        have hs := h.stoked (F := Q) hkn (fun w => dd (Or.inl w))
        rw [q, Lt2_b, Lt2_b, Lt2_b, Lt2_b]
        dsimp only
        rw [E_v_days_l61.eq_def, if_neg c1, Lt_b, canPass_at h4]
        by_cases can : (g 4).toInt < 23 ∨ (g 5).toInt < 999
        · obtain ⟨a1, a2, a3, a4, a5, a6, p⟩ := canStoke_p (h.ask k8 m1_rng) hX lw bro val sm fe frs (fun w => dd (Or.inl w)) (fun w => dd (Or.inr w))
          obtain ⟨o1, o2, o3, o4, o5, o6, o⟩ := stokeIt_at (h.ask k8 m1_rng) hQ a1 a2 a3 a4 a5 a6
          rw [if_pos can, if_neg (show ¬ (1 : Int32) = 0 by decide), Lt_b, g0, if_neg cn, Lt_b, Lt2_b, s1, hk, p, Lt2_b, Lt2_b, Lt2_b, Lt2_b, Lt2_b, Lt2_b, if_neg (show ¬ (1 : Int32) = 0 by decide)]
          dsimp only
          rw [o, Lt2_b, Lt2_b, Lt2_b, Lt2_b, Lt2_b, Lt2_b]
          dsimp only
          exact day_pass hs (fun j hj => by rw [upd_n (by omega), upd_n (by omega)]; exact h3 j hj) (by rw [upd_n (by omega), upd_n (by omega), upd_n (by omega), upd_n (by omega)]; exact can) (by omega) hr _ _ _ _ _ _ _ _ _ _ _ _ _ _ (fun r2 br fi fs cw f1 f2 lw bro val sm fe frs fb g t1 t2 t3 => ih (i + 1) F (by omega) _ _ _ _ _ _ _ _ _ _ _ _ _ _ _ _ _ t1 t2 t3 s2)
        · rw [if_neg can, if_pos rfl, day_133r hn0]
          exact day_no hs (by rw [upd_n (by omega), upd_n (by omega), upd_n (by omega), upd_n (by omega)]; exact can) _ _ _ _ _ _ _
theorem rel_days {G : Nat → LC} {x y rb dk df br thr sta lw bro dfi ndr : Int32} {val sm st : Int64} {frf fs fwc fw fu fb fd frm : Nat → Int32} {fe frs : Nat → Int64} {An Al Af Ai Ah Ao Bn Bl Bf Bi Bh Bo : Int32} {Aa Ab Ac Ba Bb Bc : Nat → Int32} {Ad Bd : Nat → Option Nat} {r1 r2 : Int32} (k1 : r1 = (E_w_days G x y rb dk df frf br fs fwc An Al Af Ai Ah Ao Aa Ab Ac Ad Bn Bl Bf Bi Bh Bo Ba Bb Bc Bd).1) (k2 : r2 = (E_v_days x y thr sta lw bro val sm st dfi ndr fw fe frs fu fb fd frm).1) (h : TW Bn Bl Bf Bi Ba Bb Bd G fw) (h3 : ∀ j, j < 24 → Bc j = fw (67 + j)) : r1 = r2 := by
  rw [E_w_days.eq_def, Lt_b] at k1
  rw [E_v_days.eq_def, Lt_b, Lt_b] at k2
  have hno : (E_w_days_j21 rb dk df frf br fs fwc An Al Af Ai Ah Ao Aa Ab Ac Ad).1 = (E_v_days_j29 sta lw bro val sm st dfi ndr fw fe frs fu fb fd frm).1 := by
    rw [E_w_days_j21.eq_def, E_v_days_j29.eq_def, Lt2_b, Lt2_b, Lt2_b]
    exact (refuse_1 (x := -1) (rb := rb) (f := frf)).trans (tell_1 (x := -1) (sta := sta) (f := frm)).symm
  by_cases c1 : (0 : Int32).toInt ≤ x.toInt ∧ x.toInt ≤ (1000000 : Int32).toInt
  · rw [ifw_p c1, Lt_b] at k1
    rw [ifi_p (by exact c1), Lt_b, Lt_b] at k2
    by_cases c2 : (1 : Int32).toInt ≤ y.toInt ∧ y.toInt ≤ (100 : Int32).toInt
    · rw [ifw_p c2] at k1
      rw [ifi_p (by exact c2), Lt_b, Lt_b, Lt_b] at k2
      have c3 : 1 ≤ y.toInt ∧ y.toInt ≤ 100 := c2
      have c4 : 0 ≤ x.toInt ∧ x.toInt ≤ 1000000 := c1
      obtain ⟨Y, eY, yY⟩ : ∃ Y : Nat, y = nI Y ∧ Y ≤ 100 := ⟨y.toInt.toNat, i_ofN rfl (by omega), by omega⟩
      have eM : ((101 - (0 : Int32).toInt : Int).toNat + 1) = 101 - Y + Y + 1 := by rw [show (0 : Int32).toInt = 0 from rfl]; omega
      obtain ⟨m1, m0, m2⟩ := become_at (An := An) (Al := Al) (Af := Af) (Ai := Ai) (Ah := Ah) (Ao := Ao) (Aa := Aa) (Ab := Ab) (Ac := Ac) (Ad := Ad) (Bn := Bn) (Bl := Bl) (Bf := Bf) (Bi := Bi) (Bh := Bh) (Bo := Bo) (Ba := Ba) (Bb := Bb) (Bc := Bc) (Bd := Bd)
      have m3 := become_laws (An := An) (Al := Al) (Af := Af) (Ai := Ai) (Ah := Ah) (Ao := Ao) (Aa := Aa) (Ab := Ab) (Ac := Ac) (Ad := Ad) (Bn := Bn) (Bl := Bl) (Bf := Bf) (Bi := Bi) (Bh := Bh) (Bo := Bo) (Ba := Ba) (Bb := Bb) (Bc := Bc) (Bd := Bd)
      generalize E_w_become An Al Af Ai Ah Ao Aa Ab Ac Ad Bn Bl Bf Bi Bh Bo Ba Bb Bc Bd = T at k1 m1 m0 m2 m3
      obtain ⟨t1, t2, t3, t4⟩ := T
      dsimp only at m1 m0 m2 m3
      have q := day_go (n := Bn) (lt := Bl) (nf := Bf) (f3 := t3) (fl := t4) (G := G) yY (sta := sta) (x0 := fw (10 : Int32).toNatClampNeg) (fd := fd) (frf := frm) (u := E_v_keepAll 16 fw fu) (fun _ _ _ _ _ _ _ _ _ => ((0, 0, fun _ => 0, fun _ => 0, 0, fun _ => 0, fun _ => 0) : BD7)) (fun _ _ _ _ _ _ _ _ _ _ _ => ((0, 0, 0, 0, 0, 0, 0, 0, 0, fun _ => 0, fun _ => 0, fun _ => 0, fun _ => 0, fun _ => 0, fun _ => 0, fun _ => 0) : DY16)) Y 0 (101 - Y) (by omega) 0 x br Bi fs fwc t1 t2 lw bro val sm x.toInt64 fe frs fb fw (h.ext m1 m2 m3 (fun _ _ => rfl)) (fun j hj => (m0 j hj).trans (h3 j hj)) (by decide) ⟨wide_at, by rw [wide_at]; omega, by rw [wide_at]; omega⟩
      rw [Lt2_b, Lt2_b, Lt2_b, Lt2_b, Lt2_b, Lt2_b, Lt2_b, Lt2_b, Lt2_b, Lt_b, Lt_b, E_w_accept.eq_def, E_w_byDraws.eq_def, eM, eY] at k1
      rw [eM, eY] at k2
      rw [k1, k2]
      exact q
    · rw [ifw_n c2] at k1
      rw [ifi_n (by exact c2)] at k2
      rw [k1, k2]; exact hno
  · rw [ifw_n c1] at k1
    rw [ifi_n (by exact c1)] at k2
    rw [k1, k2]; exact hno
