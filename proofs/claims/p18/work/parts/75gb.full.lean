/-! a whole law is read alike -/
noncomputable abbrev KW11 : Type := Int32 × Int32 × Int32 × Int32 × Int32 × Int32 × Int32 × Int32 × Int32 × (Nat → Int32) × (Nat → Int32)
noncomputable abbrev KR20 : Type := Int32 × Int32 × Int32 × Int32 × Int32 × Int64 × Int32 × Int32 × Int32 × Int32 × Int32 × Int32 × Int32 × (Nat → Int32) × (Nat → Int32) × (Nat → Int32) × (Nat → Int32) × (Nat → Int32) × (Nat → Int32) × (Nat → Int32)
noncomputable abbrev KL45 : Type := Int32 → Int32 → Int32 → Int32 → Int32 → Int32 → Int32 → Int32 → Int32 → (Nat → Int32) → (Nat → Int32) → KW11
noncomputable abbrev KL37 : Type := Int32 → Int32 → Int32 → Int64 → Int32 → Int32 → Int32 → Int32 → Int32 → Int32 → Int32 → (Nat → Int32) → (Nat → Int32) → (Nat → Int32) → (Nat → Int32) → (Nat → Int32) → KR20
theorem tk_start {f g : Nat → Int32} {L : Nat} (hL : L ≤ 400) (h0 : ∀ j, j < L → 0 ≤ (f j).toInt) (hg : ∀ j, j < L → f j = g j) {fr2 fi2 nu2 fr3 so3 : Int32} {wo3 : Int64} : ∃ q, TkP f L q (E_w_step (nI L) fr2 0 fi2 nu2 f) (E_v_next (nI L) fr3 0 so3 wo3 g) := by
  have s1 := step_at (ln := nI L) (fr := fr2) (to := 0) (fi := fi2) (nu := nu2) (f := f) (p := 0) rfl hL rfl (Nat.zero_le _)
  have s2 := next_at (ta := nI L) (fr := fr3) (to := 0) (so := so3) (wo := wo3) (f := g) (p := 0) rfl hL rfl (Nat.zero_le _)
  rw [← skp_ext hg (L - 0) 0 (by omega)] at s2
  have le := skp_le (f := f) (L - 0) 0
  exact ⟨_, by omega, hL, h0, s1, s2.same (fun j hj => (hg j hj).symm)⟩
/-- the class behind a clause -/
noncomputable def cAft (x : Int32) (L n : Nat) (fb : Nat → Int32) (z : KL45) (pa tf tt ti tu us : Int32) (fh fc : Nat → Int32) : KW11 :=
  if ti = -1 then E_w_reads_j112 (nI L) fb (nI (n - 1)) (Lp (α := KL45) (E_w_reads_l45 x (nI L) fb) z (14 - n)) pa tf tt ti tu us fh fc (nI n) 1 else if ti = 59 then E_w_reads_j112 (nI L) fb (nI (n - 1)) (Lp (α := KL45) (E_w_reads_l45 x (nI L) fb) z (14 - n)) pa tf tt ti tu us fh fc (nI n) 0 else E_w_reads_j125 0 pa (nI n) us tf tt ti tu fh fc
theorem rd_1 {x : Int32} {L i : Nat} {fb fh fc : Nat → Int32} {pa scl us tf tt ti tu : Int32} (z : KL45) (hi : i < 12) : Lp (α := KL45) (E_w_reads_l45 x (nI L) fb) z (14 - i) (nI i) 0 pa scl us tf tt ti tu fh fc = (fun r : KW9 => if r.1 = 0 then E_w_reads_j125 0 r.2.1 scl r.2.2.2.2.2.2.1 r.2.2.1 r.2.2.2.1 r.2.2.2.2.1 r.2.2.2.2.2.1 r.2.2.2.2.2.2.2.1 r.2.2.2.2.2.2.2.2 else cAft x L (i + 1) fb z r.2.1 r.2.2.1 r.2.2.2.1 r.2.2.2.2.1 r.2.2.2.2.2.1 r.2.2.2.2.2.2.1 r.2.2.2.2.2.2.2.1 r.2.2.2.2.2.2.2.2) (E_w_clause (nI i) x pa (nI L) tf tt ti tu fb scl us fh fc) := by
  rw [show 14 - i = (14 - (i + 1)) + 1 by omega, Lp_s, E_w_reads_l45.eq_def, if_neg (kn_nlel (j := 12) rfl (by omega) hi), if_pos rfl]
  generalize E_w_clause (nI i) x pa (nI L) tf tt ti tu fb scl us fh fc = r
  unfold cAft
  simp only [Lt2, Lt]
  rw [kn_p1 (by omega), show i + 1 - 1 = i by omega]
/-- the last look: twelve clauses, or the end -/
theorem rd_2 {x ok : Int32} {L i : Nat} {fb fh fc : Nat → Int32} {pa scl us tf tt ti tu : Int32} (z : KL45) (hi : i ≤ 12) (h : i = 12 ∨ ok = 1) : Lp (α := KL45) (E_w_reads_l45 x (nI L) fb) z (14 - i) (nI i) ok pa scl us tf tt ti tu fh fc = E_w_reads_j125 ok pa scl us tf tt ti tu fh fc := by
  rw [show 14 - i = (14 - (i + 1)) + 1 by omega, Lp_s, E_w_reads_l45.eq_def]
  by_cases c : i = 12
  · rw [if_pos (kn_lel (j := 12) rfl (by omega) (by omega))]
  · rw [if_neg (kn_nlel (j := 12) rfl (by omega) (by omega)), if_neg (by rw [h.resolve_left c]; decide)]
theorem j112_at {L n : Nat} {fb fh fc : Nat → Int32} {pa tf tt ti tu us x ok : Int32} (hn : 1 ≤ n) (hn2 : n ≤ 12) (rc : KL45) : E_w_reads_j112 (nI L) fb (nI (n - 1)) rc pa tf tt ti tu us fh fc x ok = rc (nI n) ok pa x us (E_w_step (nI L) tf tt ti tu fb).1 (E_w_step (nI L) tf tt ti tu fb).2.1 (E_w_step (nI L) tf tt ti tu fb).2.2.1 (E_w_step (nI L) tf tt ti tu fb).2.2.2 fh fc := by
  rw [E_w_reads_j112.eq_def]
  simp only [Lt2, Lt]
  rw [kn_po (by omega), show n - 1 + 1 = n by omega]
theorem j125_0 {pa scl us tf tt ti tu : Int32} {fh fc : Nat → Int32} : E_w_reads_j125 0 pa scl us tf tt ti tu fh fc = (0, pa, tf, tf, tt, ti, tu, scl, us, fh, fc) := by
  rw [E_w_reads_j125.eq_def, if_pos rfl]
theorem j125_1 {pa scl us tf tt ti tu : Int32} {fh fc : Nat → Int32} : E_w_reads_j125 1 pa scl us tf tt ti tu fh fc = (1, pa, -1, tf, tt, ti, tu, scl, us, fh, fc) := by
  rw [E_w_reads_j125.eq_def, if_neg (by decide)]
/-! the reference: behind a clause -/
theorem et_bad {ta fr to so fau ord : Int32} {wo : Int64} {ft : Nat → Int32} : E_v_endText ta fr to so wo fau 1 ord ft = (fr, to, so, wo, fau, 1) := by
  rw [E_v_endText.eq_def, if_neg (by decide)]
theorem et_end {ta fr to fau ord : Int32} {wo : Int64} {ft : Nat → Int32} : E_v_endText ta fr to 0 wo fau 0 ord ft = (fr, to, 0, wo, fau, 0) := by
  rw [E_v_endText.eq_def, if_pos rfl, if_pos rfl]
theorem et_more {ta fr to so fau ord : Int32} {wo : Int64} {ft : Nat → Int32} (h : so ≠ 0) : E_v_endText ta fr to so wo fau 0 ord ft = (fr, to, so, wo, fr, 1) := by
  rw [E_v_endText.eq_def, if_pos rfl, if_neg h, must_0]
  rfl
/-- the law is written into its row -/
noncomputable def rAcc (sta : Int32) (frf fw : Nat → Int32) (fr to so : Int32) (wo : Int64) (fau bd ncl nc nl pi opn : Int32) (fo fa fp fq fcl : Nat → Int32) : KR20 :=
  Lp (α := Int32 → (Nat → Int32) → KR20) (E_v_law_l110 sta frf ncl nc nl pi opn fo fa fp fq fcl fr to so wo fau bd (100 + 900 * fw 2)) (fun _ _ => ((0, 0, 0, 0, 0, 0, 0, 0, 0, 0, 0, 0, 0, fun _ => 0, fun _ => 0, fun _ => 0, fun _ => 0, fun _ => 0, fun _ => 0, fun _ => 0) : KR20)) ((97 - (0 : Int32).toInt : Int).toNat + 1) 0 (upd fw (100 + 900 * fw 2 + 1).toNatClampNeg ncl)
theorem l37_bad {sta ta fr to so fau ncl nc nl pi opn : Int32} {wo : Int64} {ft fw frf fo fa fp fq fcl : Nat → Int32} {fwd fwe fhd : Nat → Int64} (z : KL37) (F : Nat) : Lp (α := KL37) (E_v_law_l37 sta ta ft fwd fwe fhd fw frf) z (F + 1) fr to so wo fau 1 ncl nc nl pi opn fo fa fp fq fcl = ((E_v_tell (-6) sta frf).1, (E_v_tell (-6) sta frf).2.1, fr, to, so, wo, fau, 1, ncl, nc, nl, pi, opn, fo, fa, fp, fq, fcl, fw, (E_v_tell (-6) sta frf).2.2) := by
  rw [Lp_s, E_v_law_l37.eq_def, if_neg (by decide), et_bad]
  simp only [Lt2]
  rw [if_neg (show ¬ (1 : Int32) = 0 by decide)]
theorem l37_end {sta ta fr to fau ncl nc nl pi opn : Int32} {wo : Int64} {ft fw frf fo fa fp fq fcl : Nat → Int32} {fwd fwe fhd : Nat → Int64} (z : KL37) (F : Nat) (h : E_v_isSign 59 0 wo = 0) : Lp (α := KL37) (E_v_law_l37 sta ta ft fwd fwe fhd fw frf) z (F + 1) fr to 0 wo fau 0 ncl nc nl pi opn fo fa fp fq fcl = rAcc sta frf fw fr to 0 wo fau 0 ncl nc nl pi opn fo fa fp fq fcl := by
  rw [Lp_s, E_v_law_l37.eq_def, if_pos rfl, Lt_b, if_neg (by rw [h]; decide), et_end, Lt2_b, Lt2_b, Lt2_b, Lt2_b, Lt2_b, if_pos (by rfl), Lt_b, Lt_b, Lt_b, Lt_b, Lt_b]
  rfl
theorem l37_stop {sta ta fr to so fau ncl nc nl pi opn : Int32} {wo : Int64} {ft fw frf fo fa fp fq fcl : Nat → Int32} {fwd fwe fhd : Nat → Int64} (z : KL37) (F : Nat) (h : E_v_isSign 59 so wo = 0) (h0 : so ≠ 0) : Lp (α := KL37) (E_v_law_l37 sta ta ft fwd fwe fhd fw frf) z (F + 1) fr to so wo fau 0 ncl nc nl pi opn fo fa fp fq fcl = ((E_v_tell (-6) sta frf).1, (E_v_tell (-6) sta frf).2.1, fr, to, so, wo, fr, 1, ncl, nc, nl, pi, opn, fo, fa, fp, fq, fcl, fw, (E_v_tell (-6) sta frf).2.2) := by
  rw [Lp_s, E_v_law_l37.eq_def, if_pos rfl, Lt_b, if_neg (by rw [h]; decide), et_more h0]
  simp only [Lt2]
  rw [if_neg (show ¬ (1 : Int32) = 0 by decide)]
theorem l37_sep {sta ta fr to so fau ncl nc nl pi opn : Int32} {wo : Int64} {ft fw frf fo fa fp fq fcl : Nat → Int32} {fwd fwe fhd : Nat → Int64} (z : KL37) (F : Nat) (h : E_v_isSign 59 so wo = 1) : Lp (α := KL37) (E_v_law_l37 sta ta ft fwd fwe fhd fw frf) z (F + 1) fr to so wo fau 0 ncl nc nl pi opn fo fa fp fq fcl = (fun R : KR16 => Lp (α := KL37) (E_v_law_l37 sta ta ft fwd fwe fhd fw frf) z F R.1 R.2.1 R.2.2.1 R.2.2.2.1 R.2.2.2.2.1 R.2.2.2.2.2.1 R.2.2.2.2.2.2.1 R.2.2.2.2.2.2.2.1 R.2.2.2.2.2.2.2.2.1 R.2.2.2.2.2.2.2.2.2.1 R.2.2.2.2.2.2.2.2.2.2.1 R.2.2.2.2.2.2.2.2.2.2.2.1 R.2.2.2.2.2.2.2.2.2.2.2.2.1 R.2.2.2.2.2.2.2.2.2.2.2.2.2.1 R.2.2.2.2.2.2.2.2.2.2.2.2.2.2.1 R.2.2.2.2.2.2.2.2.2.2.2.2.2.2.2) (E_v_readLaw ta (E_v_next ta fr to so wo ft).1 (E_v_next ta fr to so wo ft).2.1 (E_v_next ta fr to so wo ft).2.2.1 (E_v_next ta fr to so wo ft).2.2.2 fau 0 0 ncl nc nl pi opn ft fo fa fp fq fwd fwe fcl fhd) := by
  rw [Lp_s, E_v_law_l37.eq_def, if_pos rfl, Lt_b, if_pos h, Lt2_b, Lt2_b, Lt2_b]
  generalize E_v_readLaw ta (E_v_next ta fr to so wo ft).1 (E_v_next ta fr to so wo ft).2.1 (E_v_next ta fr to so wo ft).2.2.1 (E_v_next ta fr to so wo ft).2.2.2 fau 0 0 ncl nc nl pi opn ft fo fa fp fq fwd fwe fcl fhd = R
  generalize hz : Lp (α := KL37) (E_v_law_l37 sta ta ft fwd fwe fhd fw frf) z F = rcc
  rfl
/-- what comes of it: the same fault, or the same law -/
noncomputable def KRes (sta : Int32) (frf fw : Nat → Int32) (fau : Int32) (r : KW11) (R : KR20) : Prop :=
  (r.1 = 0 ∧ ∃ (q : Nat) (a b c : Int32) (e : Int64) (n1 n2 n3 n4 n5 : Int32) (h1 h2 h3 h4 h5 : Nat → Int32), r.2.2.1 = nI q ∧ R = ((E_v_tell (-6) sta frf).1, (E_v_tell (-6) sta frf).2.1, a, b, c, e, nI q, 1, n1, n2, n3, n4, n5, h1, h2, h3, h4, h5, fw, (E_v_tell (-6) sta frf).2.2)) ∨
  ∃ (n us nc nl : Nat) (t1 t2 t3 t4 a b : Int32) (e : Int64) (pi op : Int32) (fh fc fo fa fp fq fcl : Nat → Int32), r = (1, nI nl, -1, t1, t2, t3, t4, nI n, nI us, fh, fc) ∧ R = rAcc sta frf fw a b 0 e fau 0 (nI n) (nI nc) (nI nl) pi op fo fa fp fq fcl ∧ (1 ≤ n ∧ n ≤ 12 ∧ us ≤ 800 ∧ nc ≤ 400 ∧ nl ≤ 50) ∧ KCls n us nc fh fcl fc fo fa
theorem aft_law {L : Nat} {fb ft fw frf : Nat → Int32} {wd we fhd : Nat → Int64} {sta : Int32} (hR : KRy L fb ft wd we) (hh : ∀ j, j < 4 → (fhd j).toInt = kwh 0 j) (zc : KL45) (zr : KL37) : ∀ (d n p us nl nc : Nat) (c : KT4) (m : KM4) (fh fc fcl fo fa fp fq : Nat → Int32) (fau pi op : Int32) (F : Nat), n + d = 12 → 1 ≤ n → TkP fb L p c m → us ≤ 2 * p → nc ≤ p → nl ≤ 50 → KCls n us nc fh fcl fc fo fa → 2 * (401 - p) + 2 ≤ F →
    KRes sta frf fw fau (cAft 1 L n fb zc (nI nl) c.1 c.2.1 c.2.2.1 c.2.2.2 (nI us) fh fc) (Lp (α := KL37) (E_v_law_l37 sta (nI L) ft wd we fhd fw frf) zr F m.1 m.2.1 m.2.2.1 m.2.2.2 fau 0 (nI n) (nI nc) (nI nl) pi op fo fa fp fq fcl) := by
  intro d
  induction d with
  | zero =>
    intro n p us nl nc c m fh fc fcl fo fa fp fq fau pi op F hd hn hT hus hnc hnl hK hF
    have hn12 : n = 12 := by omega
    have hpL := hT.1
    have hL := hT.2.1
    have fr := TkP.froms (tf := c.1) (tt := c.2.1) (ti := c.2.2.1) (tu := c.2.2.2) (fr := m.1) (to := m.2.1) (so := m.2.2.1) (wo := m.2.2.2) hT
    unfold cAft
    rcases tk_sign (c := 59) (tf := c.1) (tt := c.2.1) (ti := c.2.2.1) (tu := c.2.2.2) (fr := m.1) (to := m.2.1) (so := m.2.2.1) (wo := m.2.2.2) (by decide) hT with ⟨s1, s2, s3⟩ | ⟨s1, s2⟩
    · obtain ⟨q, q1, q2, hQ⟩ := kx_next hR hT
      have frq := TkP.froms (tf := (E_w_step (nI L) c.1 c.2.1 c.2.2.1 c.2.2.2 fb).1) (tt := (E_w_step (nI L) c.1 c.2.1 c.2.2.1 c.2.2.2 fb).2.1) (ti := (E_w_step (nI L) c.1 c.2.1 c.2.2.1 c.2.2.2 fb).2.2.1) (tu := (E_w_step (nI L) c.1 c.2.1 c.2.2.1 c.2.2.2 fb).2.2.2) (fr := (E_v_next (nI L) m.1 m.2.1 m.2.2.1 m.2.2.2 ft).1) (to := (E_v_next (nI L) m.1 m.2.1 m.2.2.1 m.2.2.2 ft).2.1) (so := (E_v_next (nI L) m.1 m.2.1 m.2.2.1 m.2.2.2 ft).2.2.1) (wo := (E_v_next (nI L) m.1 m.2.1 m.2.2.1 m.2.2.2 ft).2.2.2) hQ
      rw [if_neg (by rw [s1]; decide), if_pos s1, j112_at hn (by omega), rd_2 zc (by omega) (Or.inl hn12), j125_0, show F = (F - 2 + 1) + 1 by omega, l37_sep zr _ s2]
      have w4 : (∃ i, i < 4 ∧ E_v_isWord (fhd i) (E_v_next (nI L) m.1 m.2.1 m.2.2.1 m.2.2.2 ft).2.2.1 (E_v_next (nI L) m.1 m.2.1 m.2.2.1 m.2.2.2 ft).2.2.2 = 1 ∧ ∀ j, j < 4 → j ≠ i → E_v_isWord (fhd j) (E_v_next (nI L) m.1 m.2.1 m.2.2.1 m.2.2.2 ft).2.2.1 (E_v_next (nI L) m.1 m.2.1 m.2.2.1 m.2.2.2 ft).2.2.2 = 0) ∨ ∀ j, j < 4 → E_v_isWord (fhd j) (E_v_next (nI L) m.1 m.2.1 m.2.2.1 m.2.2.2 ft).2.2.1 (E_v_next (nI L) m.1 m.2.1 m.2.2.1 m.2.2.2 ft).2.2.2 = 0 := by
        rcases tk_four (k := 0) (Or.inl rfl) hh hQ (nI L) with ⟨i, i1, _, _, i4, i5⟩ | ⟨_, i2⟩
        · exact Or.inl ⟨i, i1, i4, i5⟩
        · exact Or.inr i2
      rw [hn12, law_full w4]
      dsimp only
      rw [l37_bad]
      exact Or.inl ⟨rfl, q, _, _, _, _, _, _, _, _, _, _, _, _, _, _, frq.1, by rw [frq.2.1]⟩
    · rcases tk_end (tf := c.1) (tt := c.2.1) (ti := c.2.2.1) (tu := c.2.2.2) (fr := m.1) (to := m.2.1) (so := m.2.2.1) (wo := m.2.2.2) hT with ⟨t1, t2, t3⟩ | ⟨t1, t2, t3⟩
      · rw [if_pos t2, j112_at hn (by omega), rd_2 zc (by omega) (Or.inr rfl), j125_1, show F = F - 1 + 1 by omega, t3, l37_end zr _ (by have s3 := s2; rw [t3] at s3; exact s3)]
        exact Or.inr ⟨n, us, nc, nl, _, _, _, _, _, _, _, _, _, _, _, _, _, _, _, _, rfl, rfl, ⟨hn, by omega, by omega, by omega, hnl⟩, hK⟩
      · rw [if_neg t2, if_neg s1, j125_0, show F = F - 1 + 1 by omega, l37_stop zr _ s2 t3]
        exact Or.inl ⟨rfl, p, _, _, _, _, _, _, _, _, _, _, _, _, _, _, fr.1, by rw [fr.2.1]⟩
  | succ d ih =>
    intro n p us nl nc c m fh fc fcl fo fa fp fq fau pi op F hd hn hT hus hnc hnl hK hF
    have hpL := hT.1
    have hL := hT.2.1
    have fr := TkP.froms (tf := c.1) (tt := c.2.1) (ti := c.2.2.1) (tu := c.2.2.2) (fr := m.1) (to := m.2.1) (so := m.2.2.1) (wo := m.2.2.2) hT
    unfold cAft
    rcases tk_sign (c := 59) (tf := c.1) (tt := c.2.1) (ti := c.2.2.1) (tu := c.2.2.2) (fr := m.1) (to := m.2.1) (so := m.2.2.1) (wo := m.2.2.2) (by decide) hT with ⟨s1, s2, s3⟩ | ⟨s1, s2⟩
    · obtain ⟨q, q1, q2, hQ⟩ := kx_next hR hT
      have qp := q2 s3
      have hqL := hQ.1
      rw [if_neg (by rw [s1]; decide), if_pos s1, j112_at hn (by omega), rd_1 zc (by omega), show F = (F - 1) + 1 by omega, l37_sep zr _ s2]
      have lc := law_clause hR hh (fau := fau) (pi := pi) (op := op) (scl := nI n) (fh := fh) (fc := fc) (fcl := fcl) (fo := fo) (fa := fa) (fp := fp) (fq := fq) (us := us) (nl := nl) (nc := nc) (n := n) hQ (by omega) (by omega) hnl (by omega) hK
      generalize E_w_clause (nI n) 1 (nI nl) (nI L) (E_w_step (nI L) c.1 c.2.1 c.2.2.1 c.2.2.2 fb).1 (E_w_step (nI L) c.1 c.2.1 c.2.2.1 c.2.2.2 fb).2.1 (E_w_step (nI L) c.1 c.2.1 c.2.2.1 c.2.2.2 fb).2.2.1 (E_w_step (nI L) c.1 c.2.1 c.2.2.1 c.2.2.2 fb).2.2.2 fb (nI n) (nI us) fh fc = r at lc ⊢
      generalize E_v_readLaw (nI L) (E_v_next (nI L) m.1 m.2.1 m.2.2.1 m.2.2.2 ft).1 (E_v_next (nI L) m.1 m.2.1 m.2.2.1 m.2.2.2 ft).2.1 (E_v_next (nI L) m.1 m.2.1 m.2.2.1 m.2.2.2 ft).2.2.1 (E_v_next (nI L) m.1 m.2.1 m.2.2.1 m.2.2.2 ft).2.2.2 fau 0 0 (nI n) (nI nc) (nI nl) pi op ft fo fa fp fq wd we fcl fhd = X at lc ⊢
      dsimp only
      rcases lc with ⟨n1, q', n2, n3, n4⟩ | ⟨p', c', m', us', nl', n2, fh', fc', fo2, fa2, fp2, fq2, fcl', pi', op', e1, e2, e3, e4, e5, e6⟩
      · rw [if_pos n1, j125_0, n4, n3, show F - 1 = (F - 2) + 1 by omega, l37_bad]
        exact Or.inl ⟨rfl, q', _, _, _, _, _, _, _, _, _, _, _, _, _, _, n2, rfl⟩
      · subst e1
        subst e4
        dsimp only
        rw [if_neg (show ¬ (1 : Int32) = 0 by decide)]
        exact ih (n + 1) p' us' nl' n2 c' m' fh' fc' fcl' fo2 fa2 fp2 fq2 fau pi' op' (F - 1) (by omega) (by omega) e3 e5.1 e5.2.1 e5.2.2 e6 (by omega)
    · rcases tk_end (tf := c.1) (tt := c.2.1) (ti := c.2.2.1) (tu := c.2.2.2) (fr := m.1) (to := m.2.1) (so := m.2.2.1) (wo := m.2.2.2) hT with ⟨t1, t2, t3⟩ | ⟨t1, t2, t3⟩
      · rw [if_pos t2, j112_at hn (by omega), rd_2 zc (by omega) (Or.inr rfl), j125_1, show F = F - 1 + 1 by omega, t3, l37_end zr _ (by have s3 := s2; rw [t3] at s3; exact s3)]
        exact Or.inr ⟨n, us, nc, nl, _, _, _, _, _, _, _, _, _, _, _, _, _, _, _, _, rfl, rfl, ⟨hn, by omega, by omega, by omega, hnl⟩, hK⟩
      · rw [if_neg t2, if_neg s1, j125_0, show F = F - 1 + 1 by omega, l37_stop zr _ s2 t3]
        exact Or.inl ⟨rfl, p, _, _, _, _, _, _, _, _, _, _, _, _, _, _, fr.1, by rw [fr.2.1]⟩
