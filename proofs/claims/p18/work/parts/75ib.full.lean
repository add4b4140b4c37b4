/-! law(), class and reference -/
theorem rel_law {L : Nat} {fb ft fw frm frf fh fc fo fa fp fq fcl : Nat → Int32} {wd we fhd : Nat → Int64} {fd : Nat → Option Nat} {rb lw pa fl tf tt ti tu scl us lt thr sta fr to so fau bd ncl nc nl pi opn : Int32} {wo : Int64} {r1 b1 lw' pa' fl' tf' tt' ti' tu' scl' us' lt' r2 s2 fr' to' so' fau' bd' ncl' nc' nl' pi' op' : Int32} {wo' : Int64} {g1 fh' fc' fo' fa' fp' fq' fcl' fw' g2 : Nat → Int32} (k1 : (r1, b1, g1, lw', pa', fl', tf', tt', ti', tu', scl', us', fh', fc', lt') = E_w_law rb frf lw pa fl (nI L) tf tt ti tu fb scl us fh fc lt fd) (k2 : (r2, s2, fr', to', so', wo', fau', bd', ncl', nc', nl', pi', op', fo', fa', fp', fq', fcl', fw', g2) = E_v_law thr sta (nI L) fr to so wo fau bd ncl nc nl pi opn ft fo fa fp fq wd we fcl fhd fw frm) (hR : KRy L fb ft wd we) (h0 : ∀ j, j < L → 0 ≤ (fb j).toInt) (hh : ∀ j, j < 4 → (fhd j).toInt = kwh 0 j) (hl : fw 2 = lt) (h6 : 0 ≤ lt.toInt ∧ lt.toInt ≤ 6) (hf : fl = fau) :
    r1 = r2 ∧ fw' 2 = lt' ∧ fl' = fau' ∧ (∀ j, j ≠ 2 → j < 100 → fw' j = fw j) ∧ ((lt' = lt ∧ fw' = fw) ∨ ∃ t : Nat, t < 6 ∧ lt = nI t ∧ lt' = nI (t + 1) ∧ r1 = nI t ∧ (∀ j, j ≠ 2 → j < 100 + 900 * t ∨ 100 + 900 * t + 900 ≤ j → fw' j = fw j) ∧ ∀ x : LC, TrX scl' us' fh' fc' x → KLaw x (ktx fw' (100 + 900 * t))) := by
  have z6 : (6 : Int32).toInt = 6 := rfl
  obtain ⟨t, ht, hz⟩ : ∃ t : Nat, lt = nI t ∧ (t : Int) = lt.toInt := ⟨lt.toInt.toNat, i_ofN rfl h6.1, by omega⟩
  by_cases c : lt < 6
  · have ct := il_iff.mp c
    have n6 : fw 2 ≠ 6 := fun q => by rw [hl] at q; rw [q] at ct; omega
    have kr := reads_law (lw := lw) (pa := pa) (fl := fl) (tf := tf) (tt := tt) (ti := ti) (tu := tu) (scl := scl) (us := us) (fh := fh) (fc := fc) (thr := thr) (sta := sta) (fr := fr) (to := to) (so := so) (wo := wo) (fau := fau) (bd := bd) (ncl := ncl) (nc := nc) (nl := nl) (pi := pi) (opn := opn) (fo := fo) (fa := fa) (fp := fp) (fq := fq) (fcl := fcl) (frf := frm) hR h0 hh n6
    rw [← k2] at kr
    rw [E_w_law.eq_def, if_pos c] at k1
    generalize E_w_reads 1 lw pa fl (nI L) tf tt ti tu fb scl us fh fc = r at k1 kr
    rcases kr with ⟨n1, q, a, b, c', e, m1, m2, m3, m4, m5, x1, x2, x3, x4, x5, n2, eqx⟩ | ⟨n, us1, nc1, nl1, t1, t2, t3, t4, a, b, e, pi1, op1, fh1, fc1, fo1, fa1, fp1, fq1, fcl1, e1, e2, e3, e4⟩
    · simp only [Lt2] at k1
      rw [if_pos n1] at k1
      simp only [Prod.mk.injEq] at k1 eqx
      obtain ⟨a1, _, _, _, _, a6, _, _, _, _, _, _, _, _, a15⟩ := k1
      obtain ⟨b1', _, _, _, _, _, b7, _, _, _, _, _, _, _, _, _, _, _, b19, _⟩ := eqx
      refine ⟨?_, ?_, ?_, fun j _ _ => by rw [b19], Or.inl ⟨a15, b19⟩⟩
      · rw [a1, refuse_1, b1', tell_1]
      · rw [b19, a15]; exact hl
      · rw [a6, b7]; exact n2
    · subst e1
      obtain ⟨fw1, d1, d2, d3, d4, d5, d6⟩ := racc_at (sta := sta) (a := a) (b := b) (fau := -1) (pi := pi1) (op := op1) (e := e) (nl := nI nl1) (frf := frm) (fo := fo1) (fa := fa1) (fp := fp1) (fq := fq1) (fcl := fcl1) (hl.trans ht) (show t < 6 by omega) e3.2.1 e3.2.2.2.1
      rw [d1] at e2
      rw [E_w_enact.eq_def, if_pos c] at k1
      simp only [Lt2, Lt] at k1
      rw [if_neg (show ¬ (1 : Int32) = 0 by decide), E_w_accept.eq_def, ht, kn_p1 (by omega), kn_m1 (by omega) (by omega), show t + 1 - 1 = t by omega] at k1
      simp only [Prod.mk.injEq] at k1 e2
      obtain ⟨a1, _, _, _, _, a6, _, _, _, _, a11, a12, a13, a14, a15⟩ := k1
      obtain ⟨b1', _, _, _, _, _, b7, _, _, _, _, _, _, _, _, _, _, _, b19, _⟩ := e2
      refine ⟨?_, ?_, ?_, fun j h1 h2 => ?_, Or.inr ⟨t, by omega, ht, a15, a1, fun j h1 h2 => ?_, fun x hx => ?_⟩⟩
      · rw [a1, b1', tell_1]
      · rw [b19, d2, a15]
      · rw [a6, b7]
      · rw [b19]; exact d3 j h1 (by omega)
      · rw [b19]; exact d3 j h1 h2
      · rw [a11, a12, a13, a14] at hx
        rw [b19]
        refine law_text e4 e3.2.1 e3.2.2.1 e3.2.2.2.1 hx d4 (fun j hj => ?_) (fun j hj => ?_)
        · unfold ktx
          rw [show 100 + 900 * t + (2 + j) = 100 + 900 * t + 2 + j by omega]; exact d5 j hj
        · unfold ktx
          rw [show 100 + 900 * t + (98 + 2 * j) = 100 + 900 * t + 98 + 2 * j by omega, show 100 + 900 * t + (98 + 2 * j + 1) = 100 + 900 * t + 98 + 2 * j + 1 by omega]; exact d6 j hj
  · have ct : ¬ lt.toInt < (6 : Int32).toInt := fun q => c (il_iff.mpr q)
    have e6 : fw (2 : Int32).toNatClampNeg = 6 := by
      show fw 2 = 6
      rw [hl]; exact Int32.toInt_inj.mp (by omega)
    rw [E_w_law.eq_def, if_neg c] at k1
    rw [E_v_law.eq_def, Lt_b, if_pos e6] at k2
    simp only [Lt2] at k1 k2
    simp only [Prod.mk.injEq] at k1 k2
    obtain ⟨a1, _, _, _, _, a6, _, _, _, _, _, _, _, _, a15⟩ := k1
    obtain ⟨b1', _, _, _, _, _, b7, _, _, _, _, _, _, _, _, _, _, _, b19, _⟩ := k2
    refine ⟨?_, ?_, ?_, fun j _ _ => by rw [b19], Or.inl ⟨a15, b19⟩⟩
    · rw [a1, refuse_1, b1', tell_1]
    · rw [b19, a15]; exact hl
    · rw [a6, b7]; exact hf
