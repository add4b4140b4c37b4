/-! law(): what it leaves of the towns -/
theorem TQ.pool {b : Nat} {n lt nf fi : Int32} {f1 f2 fw : Nat → Int32} {fl : Nat → Option Nat} {G G2 : Nat → LC} {L : Nat → Prop} (h : TQ b n lt nf fi f1 f2 fl G fw) (hL : InL L fl) (hG : ∀ q, L q → G2 q = G q) : TQ b n lt nf fi f1 f2 fl G2 fw := by
  obtain ⟨a, b1, b2, b3, b4, b5⟩ := h
  refine ⟨a, b1, b2, b3, b4, fun i hi => ?_⟩
  obtain ⟨q, q1, q2⟩ := b5 i hi
  have hq : L q := by
    have hz := hL i
    rw [q1] at hz
    exact hz
  exact ⟨q, q1, by rw [hG q hq]; exact q2⟩
theorem TQ.enact {n lt nf fi : Int32} {f1 f2 fw fw' : Nat → Int32} {fl : Nat → Option Nat} {G : Nat → LC} {t q : Nat} (h : TQ 0 n lt nf fi f1 f2 fl G fw) (hl : lt = nI t) (h6 : t < 6) (e2 : fw' 2 = nI (t + 1)) (e : ∀ j, j ≠ 2 → j < 100 + 900 * t ∨ 100 + 900 * t + 900 ≤ j → fw' j = fw j) (hk : KLaw (G q) (ktx fw' (100 + 900 * t))) : TQ 0 n (nI (t + 1)) nf fi f1 f2 (va_up fl lt.toNatClampNeg (some q)) G fw' := by
  subst hl
  obtain ⟨a, b1, b2, b3, b4, b5⟩ := h
  have z : ∀ j, j ≠ 2 → j < 100 + 900 * t → fw' (0 + j) = fw (0 + j) := fun j h1 h2 => by rw [Nat.zero_add]; exact e j h1 (Or.inl h2)
  have t1 : (nI t).toInt = (t : Int) := nI_toInt (by omega)
  have t2 : (nI (t + 1)).toInt = ((t + 1 : Nat) : Int) := nI_toInt (by omega)
  have tc : (nI t).toNatClampNeg = t := kn_cl (by omega)
  refine ⟨a.ext (fun _ _ => rfl) (fun _ _ => rfl) (fun j h1 h2 => z j (by omega) (by omega)), by rw [Nat.zero_add]; exact e2.symm, b2.trans (z 3 (by omega) (by omega)).symm, ⟨b3.1, by omega⟩, fun j hj => by rw [z _ (by omega) (by omega), z _ (by omega) (by omega)]; exact b4 j hj, fun i hi => ?_⟩
  by_cases c : i = t
  · subst c
    refine ⟨q, ?_, ?_⟩
    · rw [tc]; exact if_pos rfl
    · rw [Nat.zero_add]; exact hk
  · obtain ⟨y, y1, y2⟩ := b5 i (by omega)
    refine ⟨y, ?_, y2.ext (fun j hj => ?_)⟩
    · rw [tc]; exact (if_neg c).trans y1
    · unfold ktx
      rw [Nat.add_assoc, z _ (by omega) (by omega)]
theorem TQ.over {b : Nat} {n lt nf fi : Int32} {f1 f2 fw : Nat → Int32} {fl fl' : Nat → Option Nat} {G : Nat → LC} (h : TQ b n lt nf fi f1 f2 fl G fw) (e : ∀ i : Nat, (i : Int) < lt.toInt → fl' i = fl i) : TQ b n lt nf fi f1 f2 fl' G fw := by
  obtain ⟨a, b1, b2, b3, b4, b5⟩ := h
  refine ⟨a, b1, b2, b3, b4, fun i hi => ?_⟩
  obtain ⟨q, q1, q2⟩ := b5 i hi
  exact ⟨q, (e i hi).trans q1, q2⟩
theorem rq_law0 {L : Nat} {fb ft fw frm frf fh fc fo fa fp fq fcl : Nat → Int32} {wd we fhd : Nat → Int64} {fd : Nat → Option Nat} {rb lw pa fl tf tt ti tu scl us lt thr sta fr to so fau bd ncl nc nl pi opn : Int32} {wo : Int64} {r1 b1 lw' pa' fl' tf' tt' ti' tu' scl' us' lt' r2 s2 fr' to' so' fau' bd' ncl' nc' nl' pi' op' : Int32} {wo' : Int64} {g1 fh' fc' fo' fa' fp' fq' fcl' fw' g2 : Nat → Int32} (k1 : (r1, b1, g1, lw', pa', fl', tf', tt', ti', tu', scl', us', fh', fc', lt') = E_w_law rb frf lw pa fl (nI L) tf tt ti tu fb scl us fh fc lt fd) (k2 : (r2, s2, fr', to', so', wo', fau', bd', ncl', nc', nl', pi', op', fo', fa', fp', fq', fcl', fw', g2) = E_v_law thr sta (nI L) fr to so wo fau bd ncl nc nl pi opn ft fo fa fp fq wd we fcl fhd fw frm) (hR : KRy L fb ft wd we) (h0 : ∀ j, j < L → 0 ≤ (fb j).toInt) (hh : ∀ j, j < 4 → (fhd j).toInt = kwh 0 j) (hl : fw 2 = lt) (h6 : 0 ≤ lt.toInt ∧ lt.toInt ≤ 6) (q : RfR rb sta frf frm) : RfR b1 s2 g1 g2 ∧ (b1.toInt < 0 → lt' = lt ∧ fw' = fw) := by
  have z6 : (6 : Int32).toInt = 6 := rfl
  obtain ⟨t, ht, hz⟩ : ∃ t : Nat, lt = nI t ∧ (t : Int) = lt.toInt := ⟨lt.toInt.toNat, i_ofN rfl h6.1, by omega⟩
  by_cases c : lt < 6
  · have ct := il_iff.mp c
    have n6 : fw 2 ≠ 6 := fun q => by rw [hl] at q; rw [q] at ct; omega
    have kr := reads_law (lw := lw) (pa := pa) (fl := fl) (tf := tf) (tt := tt) (ti := ti) (tu := tu) (scl := scl) (us := us) (fh := fh) (fc := fc) (thr := thr) (sta := sta) (fr := fr) (to := to) (so := so) (wo := wo) (fau := fau) (bd := bd) (ncl := ncl) (nc := nc) (nl := nl) (pi := pi) (opn := opn) (fo := fo) (fa := fa) (fp := fp) (fq := fq) (fcl := fcl) (frf := frm) hR h0 hh n6
    rw [← k2] at kr
    rw [E_w_law.eq_def, if_pos c] at k1
    generalize E_w_reads 1 lw pa fl (nI L) tf tt ti tu fb scl us fh fc = r at k1 kr
    rcases kr with ⟨n1, y, a, b, c', e, m1, m2, m3, m4, m5, x1, x2, x3, x4, x5, n2, eqx⟩ | ⟨n, us1, nc1, nl1, t1, t2, t3, t4, a, b, e, pi1, op1, fh1, fc1, fo1, fa1, fp1, fq1, fcl1, e1, e2, e3, e4⟩
    · simp only [Lt2] at k1
      rw [if_pos n1] at k1
      simp only [Prod.mk.injEq] at k1 eqx
      obtain ⟨a1, a2, a3, _, _, a6, _, _, _, _, _, _, _, _, a15⟩ := k1
      obtain ⟨b1', b2', _, _, _, _, b7, _, _, _, _, _, _, _, _, _, _, _, b19, b20⟩ := eqx
      rw [a2, a3, b2', b20]
      exact ⟨(q.no (by decide)).2.2, fun _ => ⟨a15, b19⟩⟩
    · subst e1
      obtain ⟨fw1, d1, d2, d3, d4, d5, d6⟩ := racc_at (sta := sta) (a := a) (b := b) (fau := -1) (pi := pi1) (op := op1) (e := e) (nl := nI nl1) (frf := frm) (fo := fo1) (fa := fa1) (fp := fp1) (fq := fq1) (fcl := fcl1) (hl.trans ht) (show t < 6 by omega) e3.2.1 e3.2.2.2.1
      rw [d1, tell_p (by rw [nI_toInt (by omega)]; omega)] at e2
      rw [E_w_enact.eq_def, if_pos c] at k1
      simp only [Lt2, Lt] at k1
      rw [if_neg (show ¬ (1 : Int32) = 0 by decide), E_w_accept.eq_def, ht, kn_p1 (by omega), kn_m1 (by omega) (by omega), show t + 1 - 1 = t by omega] at k1
      simp only [Prod.mk.injEq] at k1 e2
      obtain ⟨a1, a2, a3, _, _, a6, _, _, _, _, a11, a12, a13, a14, a15⟩ := k1
      obtain ⟨b1', b2', _, _, _, _, b7, _, _, _, _, _, _, _, _, _, _, _, b19, b20⟩ := e2
      rw [a2, a3, b2', b20]
      exact ⟨q.ok, fun g => absurd g (by decide)⟩
  · have ct : ¬ lt.toInt < (6 : Int32).toInt := fun q => c (il_iff.mpr q)
    have e6 : fw (2 : Int32).toNatClampNeg = 6 := by
      show fw 2 = 6
      rw [hl]; exact Int32.toInt_inj.mp (by omega)
    rw [E_w_law.eq_def, if_neg c] at k1
    rw [E_v_law.eq_def, Lt_b, if_pos e6] at k2
    simp only [Lt2] at k1 k2
    simp only [Prod.mk.injEq] at k1 k2
    obtain ⟨a1, a2, a3, _, _, a6, _, _, _, _, _, _, _, _, a15⟩ := k1
    obtain ⟨b1', b2', _, _, _, _, b7, _, _, _, _, _, _, _, _, _, _, _, b19, b20⟩ := k2
    rw [a2, a3, b2', b20]
    exact ⟨(q.no (by decide)).2.2, fun _ => ⟨a15, b19⟩⟩
theorem rq_law {M : Nat → Prop} {n nf fi : Int32} {f1 f2 : Nat → Int32} {fd' : Nat → Option Nat} {P : Nat → Prop} {G G2 : Nat → LC} {L : Nat} {fb ft fw frm frf fh fc fo fa fp fq fcl : Nat → Int32} {wd we fhd : Nat → Int64} {fd : Nat → Option Nat} {rb lw pa fl tf tt ti tu scl us lt thr sta fr to so fau bd ncl nc nl pi opn : Int32} {wo : Int64} {r1 b1 lw' pa' fl' tf' tt' ti' tu' scl' us' lt' r2 s2 fr' to' so' fau' bd' ncl' nc' nl' pi' op' : Int32} {wo' : Int64} {g1 fh' fc' fo' fa' fp' fq' fcl' fw' g2 : Nat → Int32} (k1 : (r1, b1, g1, lw', pa', fl', tf', tt', ti', tu', scl', us', fh', fc', lt') = E_w_law rb frf lw pa fl (nI L) tf tt ti tu fb scl us fh fc lt fd) (k2 : (r2, s2, fr', to', so', wo', fau', bd', ncl', nc', nl', pi', op', fo', fa', fp', fq', fcl', fw', g2) = E_v_law thr sta (nI L) fr to so wo fau bd ncl nc nl pi opn ft fo fa fp fq wd we fcl fhd fw frm) (hR : KRy L fb ft wd we) (h0 : ∀ j, j < L → 0 ≤ (fb j).toInt) (hh : ∀ j, j < 4 → (fhd j).toInt = kwh 0 j) (h6 : 0 ≤ lt.toInt ∧ lt.toInt ≤ 6) (hf : fl = fau) (q : RfR rb sta frf frm) (hT : TQ 0 n lt nf fi f1 f2 fd G fw) (hL : InL P fd) (hMd : (∀ q, P q → M q ∧ G2 q = G q) ∧ ((M = P ∧ G2 = G ∧ fd' = fd ∧ b1.toInt < 0) ∨ ∃ q, M = (fun z => P z ∨ z = q) ∧ fd' = va_up fd lt.toNatClampNeg (some q) ∧ TrX scl' us' fh' fc' (G2 q))) : r1 = r2 ∧ fl' = fau' ∧ RfR b1 s2 g1 g2 ∧ TQ 0 n lt' nf fi f1 f2 fd' G2 fw' ∧ ∀ j, j ≠ 2 → j < 100 → fw' j = fw j := by
  have hl : fw 2 = lt := by
    have hz := hT.2.1
    rw [Nat.zero_add] at hz
    exact hz.symm
  obtain ⟨w1, w2, w3, w4, w5⟩ := rel_law k1 k2 hR h0 hh hl h6 hf
  obtain ⟨y1, y2⟩ := rq_law0 k1 k2 hR h0 hh hl h6 q
  refine ⟨w1, w3, y1, ?_, w4⟩
  have hT2 := hT.pool (G2 := G2) hL (fun x hx => (hMd.1 x hx).2)
  rcases hMd.2 with ⟨-, -, d1, d2⟩ | ⟨x, -, d1, d2⟩
  · obtain ⟨v1, v2⟩ := y2 d2
    rw [v1, v2, d1]; exact hT2
  · rcases w5 with ⟨v1, v2⟩ | ⟨t, v1, v2, v3, v4, v5, v6⟩
    · rw [v1, v2, d1]
      exact hT2.over (fun i hi => if_neg (by rw [toInt_n h6.1]; omega))
    · rw [v3, d1]
      exact hT2.enact v2 v1 (by rw [← v3]; exact w2) v5 (v6 _ d2)
