/-! the reference's reading, a step each -/
theorem must_1 {ta fr to so fau : Int32} {wo : Int64} {ft : Nat → Int32} : E_v_must 1 ta fr to so wo fau 0 ft = ((E_v_next ta fr to so wo ft).1, (E_v_next ta fr to so wo ft).2.1, (E_v_next ta fr to so wo ft).2.2.1, (E_v_next ta fr to so wo ft).2.2.2, fau, 0) := by
  rw [E_v_must.eq_def, if_pos rfl, if_neg (by decide), if_pos rfl]
  rfl
theorem must_0 {ta fr to so fau : Int32} {wo : Int64} {ft : Nat → Int32} : E_v_must 0 ta fr to so wo fau 0 ft = (fr, to, so, wo, fr, 1) := by
  rw [E_v_must.eq_def, if_pos rfl, if_pos rfl]
theorem open_p {go ga ft fo fa fp fq : Nat → Int32} {x ta fr to so fau nc nl opn : Int32} {wo : Int64} {pi : Nat} (hp : pi < 1000) (ho : opn.toInt < 8) (h0 : 0 ≤ opn.toInt) : E_v_openBracket go ga x ta fr to so wo fau 0 nc nl (nI pi) opn ft fo fa fp fq = ((E_v_next ta fr to so wo ft).1, (E_v_next ta fr to so wo ft).2.1, (E_v_next ta fr to so wo ft).2.2.1, (E_v_next ta fr to so wo ft).2.2.2, fau, 0, nI (pi + 1), opn + 1, upd fp pi x, upd fq pi 0) := by
  rw [E_v_openBracket.eq_def, if_neg (fun q => by have := ie_iff.mp q; have z : (8 : Int32).toInt = 8 := rfl; omega), must_1]
  simp only [Lt, Lt2, E_v_push]
  rw [if_pos (by trivial), kn_cl (by omega), kn_p1 (by omega)]
theorem open_n {go ga ft fo fa fp fq : Nat → Int32} {x ta fr to so fau nc nl pi opn : Int32} {wo : Int64} (ho : 8 ≤ opn.toInt) : E_v_openBracket go ga x ta fr to so wo fau 0 nc nl pi opn ft fo fa fp fq = (fr, to, so, wo, fr, 1, pi, opn, fp, fq) := by
  rw [E_v_openBracket.eq_def, if_pos (ie_iff.mpr (by have z : (8 : Int32).toInt = 8 := rfl; omega)), must_0]
  simp only [Lt, Lt2]
  rw [if_neg (by decide)]
theorem leaf_p {go ga ft fo fa fp fq : Nat → Int32} {y z ta fr to so fau pi opn : Int32} {wo : Int64} {nc nl : Nat} (hn : nc < 1000) (hl : nl < 50) : E_v_leaf go ga 1 y z ta fr to so wo fau 0 (nI nc) (nI nl) pi opn ft fo fa fp fq = ((E_v_next ta fr to so wo ft).1, (E_v_next ta fr to so wo ft).2.1, (E_v_next ta fr to so wo ft).2.2.1, (E_v_next ta fr to so wo ft).2.2.2, fau, 0, nI (nc + 1), nI (nl + 1), upd fo nc y, upd fa nc z) := by
  rw [E_v_leaf.eq_def, if_neg (by decide), if_neg (kn_nlel (j := 50) rfl (by omega) hl), must_1]
  simp only [Lt, Lt2, E_v_emit]
  rw [if_pos (by trivial), kn_cl (a := nc) (by omega), kn_p1 (a := nc) (by omega), kn_p1 (a := nl) (by omega)]
theorem leaf_n {go ga ft fo fa fp fq : Nat → Int32} {x y z ta fr to so fau nc nl pi opn : Int32} {wo : Int64} (h : x = 0 ∨ (x = 1 ∧ 50 ≤ nl.toInt)) : E_v_leaf go ga x y z ta fr to so wo fau 0 nc nl pi opn ft fo fa fp fq = (fr, to, so, wo, fr, 1, nc, nl, fo, fa) := by
  rw [E_v_leaf.eq_def]
  rcases h with h | ⟨h, h2⟩
  · rw [if_pos h, must_0]
    simp only [Lt, Lt2]
    rw [if_neg (by decide)]
  · rw [if_neg (by rw [h]; decide), if_pos (ie_iff.mpr (by have z : (50 : Int32).toInt = 50 := rfl; omega)), must_0]
    simp only [Lt, Lt2]
    rw [if_neg (by decide)]
/-! which word it is -/
theorem pa_in {so : Int32} {wo : Int64} {wd : Nat → Int64} {N : Nat} (hN : N ≤ 9) (z : Int32 → Int32 → Int32) (B : (Int32 → Int32 → Int32) → Int32 → Int32 → Int32) (hB : ∀ rc (v : Nat) r, v < 1000 → B rc (nI v) r = if N ≤ v then r else if E_v_isWord (wd v) so wo = 1 then rc (nI (v + 1)) (nI (v + 1)) else rc (nI (v + 1)) r) : ∀ (d v : Nat) (F : Nat) (r : Int32), v + d = N → ((∀ j, v ≤ j → j < N → E_v_isWord (wd j) so wo = 0) → Lp B z (F + d + 1) (nI v) r = r) ∧ (∀ i, v ≤ i → i < N → E_v_isWord (wd i) so wo = 1 → (∀ j, v ≤ j → j < N → j ≠ i → E_v_isWord (wd j) so wo = 0) → Lp B z (F + d + 1) (nI v) r = nI (i + 1)) := by
  intro d
  induction d with
  | zero =>
    intro v F r hv
    refine ⟨fun _ => ?_, fun i h1 h2 => by omega⟩
    rw [Lp_s, hB _ _ _ (by omega), if_pos (by omega)]
  | succ d ih =>
    intro v F r hv
    have e : Lp B z (F + (d + 1) + 1) (nI v) r = if E_v_isWord (wd v) so wo = 1 then Lp B z (F + d + 1) (nI (v + 1)) (nI (v + 1)) else Lp B z (F + d + 1) (nI (v + 1)) r := by
      rw [show F + (d + 1) + 1 = (F + d + 1) + 1 by omega, Lp_s, hB _ _ _ (by omega), if_neg (by omega)]
    rw [e]
    refine ⟨fun h => ?_, fun i h1 h2 h3 h4 => ?_⟩
    · rw [h v (Nat.le_refl _) (by omega), if_neg (by decide)]
      exact (ih (v + 1) F r (by omega)).1 (fun j h1 h2 => h j (by omega) h2)
    · by_cases c : i = v
      · rw [← c, h3, if_pos rfl]
        exact (ih (i + 1) F (nI (i + 1)) (by omega)).1 (fun j h5 h6 => h4 j (by omega) h6 (by omega))
      · rw [h4 v (Nat.le_refl _) (by omega) (fun q => c q.symm), if_neg (by decide)]
        exact (ih (v + 1) F r (by omega)).2 i (by omega) h2 h3 (fun j h5 h6 h7 => h4 j (by omega) h6 h7)
theorem partAt_b {so : Int32} {wo : Int64} {wd : Nat → Int64} (rc : Int32 → Int32 → Int32) (v : Nat) (r : Int32) (hv : v < 1000) : E_v_partAt_l4 so wo wd rc (nI v) r = if 9 ≤ v then r else if E_v_isWord (wd v) so wo = 1 then rc (nI (v + 1)) (nI (v + 1)) else rc (nI (v + 1)) r := by
  simp only [E_v_partAt_l4, Lt]
  rw [kn_cl (by omega), kn_p1 (by omega), kn_po (by omega)]
  by_cases c : 9 ≤ v
  · rw [if_pos c, if_pos (kn_lel (j := 9) rfl (by omega) c)]
  · rw [if_neg c, if_neg (kn_nlel (j := 9) rfl (by omega) (by omega))]
theorem orderAt_b {so : Int32} {wo : Int64} {wd : Nat → Int64} (rc : Int32 → Int32 → Int32) (v : Nat) (r : Int32) (hv : v < 1000) : E_v_orderPartAt_l4 so wo wd rc (nI v) r = if 8 ≤ v then r else if E_v_isWord (wd v) so wo = 1 then rc (nI (v + 1)) (nI (v + 1)) else rc (nI (v + 1)) r := by
  simp only [E_v_orderPartAt_l4, Lt]
  rw [kn_cl (by omega), kn_p1 (by omega), kn_po (by omega)]
  by_cases c : 8 ≤ v
  · rw [if_pos c, if_pos (kn_lel (j := 8) rfl (by omega) c)]
  · rw [if_neg c, if_neg (kn_nlel (j := 8) rfl (by omega) (by omega))]
/-- the tables of words -/
noncomputable def KWt (wd we : Nat → Int64) : Prop := (∀ j, j < 9 → (wd j).toInt = kwh 11 j) ∧ ∀ j, j < 8 → (we j).toInt = kwh 12 j
/-- the word of a law that a token is, on both sides -/
theorem tk_lawword {f : Nat → Int32} {L p : Nat} {tf tt ti tu fr to so : Int32} {wo : Int64} {wd : Nat → Int64} (hw : ∀ j, j < 9 → (wd j).toInt = kwh 11 j) (h : TkP f L p (tf, tt, ti, tu) (fr, to, so, wo)) (ln : Int32) : (∃ i, i < 9 ∧ p < L ∧ so = 1 ∧ E_w_find 11 ln tf tt ti tu f = nI i ∧ E_v_partAt so wo wd = nI (i + 1)) ∨ (E_w_find 11 ln tf tt ti tu f = -1 ∧ E_v_partAt so wo wd = -1) := by
  have pt := pa_in (so := so) (wo := wo) (wd := wd) (N := 9) (by omega) (fun _ _ => ((0) : Int32)) (E_v_partAt_l4 so wo wd) (fun rc v r hv => partAt_b rc v r hv) 9 0 1 (-1) (by omega)
  have e : E_v_partAt so wo wd = Lp (α := Int32 → Int32 → (Int32)) (E_v_partAt_l4 so wo wd) (fun _ _ => ((0) : Int32)) (1 + 9 + 1) (nI 0) (-1) := by
    rw [E_v_partAt.eq_def]; rfl
  rw [e]
  rcases tk_find (k := 11) (by omega) (by omega) h ln with ⟨i, i1, i2, i3, i4⟩ | ⟨i1, i2⟩
  · have i1 : i < 9 := i1
    have wi := (i4 i i1).mpr rfl
    refine Or.inl ⟨i, i1, i2, wi.1, i3, pt.2 i (by omega) i1 (isWord_at.mpr (by rw [hw i i1]; exact wi)) (fun j _ hj hn => ?_)⟩
    rcases isWord_01 (c := wd j) (so := so) (wo := wo) with q | q
    · exact q
    · have q2 := isWord_at.mp q
      rw [hw j hj] at q2
      exact absurd ((i4 j hj).mp q2) hn
  · refine Or.inr ⟨i1, pt.1 (fun j _ hj => ?_)⟩
    rcases isWord_01 (c := wd j) (so := so) (wo := wo) with q | q
    · exact q
    · have q2 := isWord_at.mp q
      rw [hw j hj] at q2
      exact absurd q2 (i2 j hj)
theorem tk_ordword {f : Nat → Int32} {L p : Nat} {tf tt ti tu fr to so : Int32} {wo : Int64} {wd : Nat → Int64} (hw : ∀ j, j < 8 → (wd j).toInt = kwh 12 j) (h : TkP f L p (tf, tt, ti, tu) (fr, to, so, wo)) (ln : Int32) : (∃ i, i < 8 ∧ p < L ∧ so = 1 ∧ E_w_find 12 ln tf tt ti tu f = nI i ∧ E_v_orderPartAt so wo wd = nI (i + 1)) ∨ (E_w_find 12 ln tf tt ti tu f = -1 ∧ E_v_orderPartAt so wo wd = -1) := by
  have pt := pa_in (so := so) (wo := wo) (wd := wd) (N := 8) (by omega) (fun _ _ => ((0) : Int32)) (E_v_orderPartAt_l4 so wo wd) (fun rc v r hv => orderAt_b rc v r hv) 8 0 1 (-1) (by omega)
  have e : E_v_orderPartAt so wo wd = Lp (α := Int32 → Int32 → (Int32)) (E_v_orderPartAt_l4 so wo wd) (fun _ _ => ((0) : Int32)) (1 + 8 + 1) (nI 0) (-1) := by
    rw [E_v_orderPartAt.eq_def]; rfl
  rw [e]
  rcases tk_find (k := 12) (by omega) (by omega) h ln with ⟨i, i1, i2, i3, i4⟩ | ⟨i1, i2⟩
  · have i1 : i < 8 := i1
    have wi := (i4 i i1).mpr rfl
    refine Or.inl ⟨i, i1, i2, wi.1, i3, pt.2 i (by omega) i1 (isWord_at.mpr (by rw [hw i i1]; exact wi)) (fun j _ hj hn => ?_)⟩
    rcases isWord_01 (c := wd j) (so := so) (wo := wo) with q | q
    · exact q
    · have q2 := isWord_at.mp q
      rw [hw j hj] at q2
      exact absurd ((i4 j hj).mp q2) hn
  · refine Or.inr ⟨i1, pt.1 (fun j _ hj => ?_)⟩
    rcases isWord_01 (c := wd j) (so := so) (wo := wo) with q | q
    · exact q
    · have q2 := isWord_at.mp q
      rw [hw j hj] at q2
      exact absurd q2 (i2 j hj)
