section
/-! an order, read on both sides -/
noncomputable abbrev KR15 : Type := Int32 × Int32 × Int32 × Int64 × Int32 × Int32 × Int32 × Int32 × Int32 × Int32 × (Nat → Int32) × (Nat → Int32) × (Nat → Int32) × (Nat → Int32) × (Nat → Int32)
theorem ro_b {ta fr to so fau bd ord ncl nc nl pi opn : Int32} {wo : Int64} {ft fo fa fp fq fod : Nat → Int32} {fwd fwe fac : Nat → Int64} (rc : Int32 → Int32 → KR16) (v : Nat) (r : Int32) (hv : v < 4) : E_v_readOrder_l4 ta fr to so wo fau bd ord ncl nc nl pi opn ft fo fa fp fq fwd fwe fod fac rc (nI v) r = if E_v_isWord (fac v) so wo = 1 then rc (nI (v + 1)) (nI v) else rc (nI (v + 1)) r := by
  rw [E_v_readOrder_l4.eq_def, if_neg (kn_nlel (j := 4) rfl (by omega) hv)]
  simp only [Lt]
  rw [kn_cl (by omega), kn_po (by omega)]
theorem ro_top {ta fr to so fau bd ord ncl nc nl pi opn : Int32} {wo : Int64} {ft fo fa fp fq fod : Nat → Int32} {fwd fwe fac : Nat → Int64} : E_v_readOrder ta fr to so wo fau bd ord ncl nc nl pi opn ft fo fa fp fq fwd fwe fod fac = Lp (α := Int32 → Int32 → KR16) (E_v_readOrder_l4 ta fr to so wo fau bd ord ncl nc nl pi opn ft fo fa fp fq fwd fwe fod fac) (fun _ _ => ((0, 0, 0, 0, 0, 0, 0, 0, 0, 0, 0, fun _ => 0, fun _ => 0, fun _ => 0, fun _ => 0, fun _ => 0) : KR16)) (1 + 4 + 1) (nI 0) (-1) := by
  rw [E_v_readOrder.eq_def]; rfl
theorem ord_no {ta fr to so fau ord ncl nc nl pi opn : Int32} {wo : Int64} {ft fo fa fp fq fod : Nat → Int32} {fwd fwe fac : Nat → Int64} (h : ∀ j, j < 4 → E_v_isWord (fac j) so wo = 0) : E_v_readOrder ta fr to so wo fau 0 ord ncl nc nl pi opn ft fo fa fp fq fwd fwe fod fac = (fr, to, so, wo, fr, 1, ncl, nc, nl, pi, opn, fo, fa, fp, fq, fod) := by
  have hd := hd_in (wd := fac) (so := so) (wo := wo) (fun _ _ => ((0, 0, 0, 0, 0, 0, 0, 0, 0, 0, 0, fun _ => 0, fun _ => 0, fun _ => 0, fun _ => 0, fun _ => 0) : KR16)) (E_v_readOrder_l4 ta fr to so wo fau 0 ord ncl nc nl pi opn ft fo fa fp fq fwd fwe fod fac) (fun rc v r hv => ro_b rc v r hv) 4 0 1 (-1) (by omega)
  rw [ro_top, hd.1 (fun j _ hj => h j hj), Lp_s, E_v_readOrder_l4.eq_def, if_pos (by decide), if_pos rfl, must_0]
  simp only [Lt2]
  rw [if_neg (by decide)]
theorem ord_full {ta fr to so fau ord nc nl pi opn : Int32} {wo : Int64} {ft fo fa fp fq fod : Nat → Int32} {fwd fwe fac : Nat → Int64} (h : (∃ i, i < 4 ∧ E_v_isWord (fac i) so wo = 1 ∧ ∀ j, j < 4 → j ≠ i → E_v_isWord (fac j) so wo = 0) ∨ ∀ j, j < 4 → E_v_isWord (fac j) so wo = 0) : E_v_readOrder ta fr to so wo fau 0 ord (nI 12) nc nl pi opn ft fo fa fp fq fwd fwe fod fac = (fr, to, so, wo, fr, 1, nI 12, nc, nl, pi, opn, fo, fa, fp, fq, fod) := by
  rcases h with ⟨i, i1, i2, i3⟩ | h
  · have hd := hd_in (wd := fac) (so := so) (wo := wo) (fun _ _ => ((0, 0, 0, 0, 0, 0, 0, 0, 0, 0, 0, fun _ => 0, fun _ => 0, fun _ => 0, fun _ => 0, fun _ => 0) : KR16)) (E_v_readOrder_l4 ta fr to so wo fau 0 ord (nI 12) nc nl pi opn ft fo fa fp fq fwd fwe fod fac) (fun rc v r hv => ro_b rc v r hv) 4 0 1 (-1) (by omega)
    rw [ro_top, hd.2 i (Nat.zero_le _) i1 i2 (fun j _ hj hn => i3 j hj hn), Lp_s, E_v_readOrder_l4.eq_def, if_pos (by decide), if_neg (fun q => by have := congrArg Int32.toInt q; rw [nI_toInt (by omega)] at this; have z1 : (-1 : Int32).toInt = -1 := rfl; omega), if_pos (by decide), must_0]
    simp only [Lt2]
    rw [if_neg (by decide)]
  · exact ord_no h
theorem ord_go {ta fr to so fau ord nc nl pi opn : Int32} {wo : Int64} {n i : Nat} {ft fo fa fp fq fod : Nat → Int32} {fwd fwe fac : Nat → Int64} (hn : n < 12) (i1 : i < 4) (i2 : E_v_isWord (fac i) so wo = 1) (i3 : ∀ j, j < 4 → j ≠ i → E_v_isWord (fac j) so wo = 0) : E_v_readOrder ta fr to so wo fau 0 ord (nI n) nc nl pi opn ft fo fa fp fq fwd fwe fod fac = Lp (α := Int32 → (Nat → Int32) → KR16) (E_v_readOrder_l85 ta ord nc nl pi opn ft fo fa fp fq fwd fwe (nI i) (E_v_next ta fr to so wo ft).1 (E_v_next ta fr to so wo ft).2.1 (E_v_next ta fr to so wo ft).2.2.1 (E_v_next ta fr to so wo ft).2.2.2 fau 0 (nI (8 * n)) (nI (n + 1))) (fun _ _ => ((0, 0, 0, 0, 0, 0, 0, 0, 0, 0, 0, fun _ => 0, fun _ => 0, fun _ => 0, fun _ => 0, fun _ => 0) : KR16)) (1 + 8 + 1) (nI 0) fod := by
  have hd := hd_in (wd := fac) (so := so) (wo := wo) (fun _ _ => ((0, 0, 0, 0, 0, 0, 0, 0, 0, 0, 0, fun _ => 0, fun _ => 0, fun _ => 0, fun _ => 0, fun _ => 0) : KR16)) (E_v_readOrder_l4 ta fr to so wo fau 0 ord (nI n) nc nl pi opn ft fo fa fp fq fwd fwe fod fac) (fun rc v r hv => ro_b rc v r hv) 4 0 1 (-1) (by omega)
  rw [ro_top, hd.2 i (Nat.zero_le _) i1 i2 (fun j _ hj hn => i3 j hj hn), Lp_s, E_v_readOrder_l4.eq_def, if_pos (by decide), if_neg (fun q => by have := congrArg Int32.toInt q; rw [nI_toInt (by omega)] at this; have z1 : (-1 : Int32).toInt = -1 := rfl; omega), if_neg (kn_nlel (j := 12) rfl (by omega) hn), must_1]
  rw [Lt2_b, Lt2_b, Lt2_b, Lt2_b, Lt2_b, if_pos (show (0 : Int32) = 0 from rfl), Lt_b, Lt_b, kn_m8 (by omega), kn_p1 (by omega), show ((9 - (0 : Int32).toInt : Int).toNat + 1) = 1 + 8 + 1 from rfl, show nI 0 = (0 : Int32) from rfl]
theorem oz_b {ta ord nc nl pi opn fr to so fau bd x1 : Int32} {wo : Int64} {n : Nat} {v0 : Int32} {ft fo fa fp fq : Nat → Int32} {fwd fwe : Nat → Int64} (hn : n < 1000) (rc : Int32 → (Nat → Int32) → KR16) (v : Nat) (f : Nat → Int32) (hv : v < 8) : E_v_readOrder_l85 ta ord nc nl pi opn ft fo fa fp fq fwd fwe v0 fr to so wo fau bd (nI (8 * n)) x1 rc (nI v) f = rc (nI (v + 1)) (upd f (8 * n + v) 0) := by
  rw [E_v_readOrder_l85.eq_def, if_neg (kn_nlel (j := 8) rfl (by omega) hv), Lt_b, Lt_b, Lt_b, kn_po (by omega), kn_ac (nI_toInt (by omega)) (by omega), kn_cl (by omega)]
theorem ord_rest3 {ta ord nc nl pi opn fr to so fau x1 : Int32} {wo : Int64} {n : Nat} {ft fo fa fp fq f8 : Nat → Int32} {fwd fwe : Nat → Int64} (hn : n < 1000) (z : Int32 → (Nat → Int32) → KR16) : Lp (α := Int32 → (Nat → Int32) → KR16) (E_v_readOrder_l85 ta ord nc nl pi opn ft fo fa fp fq fwd fwe (nI 3) fr to so wo fau 0 (nI (8 * n)) x1) z (1 + 1) (nI 8) f8 = E_v_readOrder_j160 ta ord ft fwd fwe (nI (8 * n)) x1 fr to so wo fau 0 nc nl pi opn fo fa fp fq (upd f8 (8 * n) (nI 3)) := by
  rw [Lp_s, E_v_readOrder_l85.eq_def, if_pos (by decide), Lt_b, if_pos (show nI 3 = (3 : Int32) from rfl), E_v_readOrder_j125.eq_def, if_neg (by decide), if_neg (by decide), kn_cl (by omega)]
theorem ord_rest {ta ord nc nl pi opn fr to so fau x1 : Int32} {wo : Int64} {n i : Nat} {ft fo fa fp fq f8 : Nat → Int32} {fwd fwe : Nat → Int64} (hn : n < 1000) (hi : i < 3) (z : Int32 → (Nat → Int32) → KR16) : Lp (α := Int32 → (Nat → Int32) → KR16) (E_v_readOrder_l85 ta ord nc nl pi opn ft fo fa fp fq fwd fwe (nI i) fr to so wo fau 0 (nI (8 * n)) x1) z (1 + 1) (nI 8) f8 = (fun R : KR15 => E_v_readOrder_j125 ta ord ft fwd fwe (nI i) (nI (8 * n)) x1 R.1 R.2.1 R.2.2.1 R.2.2.2.1 R.2.2.2.2.1 R.2.2.2.2.2.1 R.2.2.2.2.2.2.1 R.2.2.2.2.2.2.2.1 R.2.2.2.2.2.2.2.2.1 R.2.2.2.2.2.2.2.2.2.1 R.2.2.2.2.2.2.2.2.2.2.1 R.2.2.2.2.2.2.2.2.2.2.2.1 R.2.2.2.2.2.2.2.2.2.2.2.2.1 R.2.2.2.2.2.2.2.2.2.2.2.2.2.1 R.2.2.2.2.2.2.2.2.2.2.2.2.2.2) (E_v_readSum (nI (8 * n + 1)) ta fr to so wo fau 0 ord x1 nc nl pi opn ft fo fa fp fq fwd fwe (upd f8 (8 * n) (nI i))) := by
  rw [Lp_s, E_v_readOrder_l85.eq_def, if_pos (by decide), Lt_b, if_neg (kn_nz (j := 3) rfl (by omega) (by omega)), Lt_b, kn_cl (by omega), kn_ac (c := 1) (k := 1) rfl (by omega)]
  generalize E_v_readSum (nI (8 * n + 1)) ta fr to so wo fau 0 ord x1 nc nl pi opn ft fo fa fp fq fwd fwe (upd f8 (8 * n) (nI i)) = R
  rfl
theorem rsum_at {ta fr to so fau ord ncl nc nl pi opn : Int32} {wo : Int64} {k : Nat} {ft fo fa fp fq fod : Nat → Int32} {fwd fwe : Nat → Int64} (hk : k < 1000) : E_v_readSum (nI k) ta fr to so wo fau 0 ord ncl nc nl pi opn ft fo fa fp fq fwd fwe fod = (fun R : KR14 => ((R.1, R.2.1, R.2.2.1, R.2.2.2.1, R.2.2.2.2.1, R.2.2.2.2.2.1, R.2.2.2.2.2.2.1, R.2.2.2.2.2.2.2.1, R.2.2.2.2.2.2.2.2.1, R.2.2.2.2.2.2.2.2.2.1, R.2.2.2.2.2.2.2.2.2.2.1, R.2.2.2.2.2.2.2.2.2.2.2.1, R.2.2.2.2.2.2.2.2.2.2.2.2.1, R.2.2.2.2.2.2.2.2.2.2.2.2.2, upd (upd fod k nc) (k + 1) R.2.2.2.2.2.2.1) : KR15)) (E_v_readExpression 0 ta fr to so wo fau 0 ord nc nl pi opn ft fo fa fp fq fwd fwe) := by
  rw [E_v_readSum.eq_def, Lt_b, if_pos rfl, kn_cl (by omega)]
  generalize E_v_readExpression 0 ta fr to so wo fau 0 ord nc nl pi opn ft fo fa fp fq fwd fwe = R
  simp only [Lt, Lt2]
  rw [kn_p1 (by omega), kn_cl (by omega)]
theorem rsum_bad {x ta fr to so fau ord ncl nc nl pi opn : Int32} {wo : Int64} {ft fo fa fp fq fod : Nat → Int32} {fwd fwe : Nat → Int64} : (E_v_readSum x ta fr to so wo fau 1 ord ncl nc nl pi opn ft fo fa fp fq fwd fwe fod).2.2.2.2.1 = fau ∧ (E_v_readSum x ta fr to so wo fau 1 ord ncl nc nl pi opn ft fo fa fp fq fwd fwe fod).2.2.2.2.2.1 = 1 := by
  rw [E_v_readSum.eq_def, Lt_b, if_neg (by decide)]
  exact ⟨rfl, rfl⟩
theorem j208_at {ta ord n1 nc nl pi opn fr to so fau bd : Int32} {wo : Int64} {n : Nat} {ft fo fa fp fq fod : Nat → Int32} {fwd fwe : Nat → Int64} (hn : n < 1000) : E_v_readOrder_j208 ta ord ft fwd fwe (nI (8 * n)) n1 nc nl pi opn fo fa fp fq fr to so wo fau bd fod = rIf ta ord ft fwd fwe n1 (8 * n + 6) fr to so wo fau bd nc nl pi opn fo fa fp fq (upd fod (8 * n + 5) nc) := by
  have a0 : (nI (8 * n)).toNatClampNeg = 8 * n := kn_cl (by omega)
  have s1 : nI (8 * n) + 1 = nI (8 * n + 1) := kn_ac (c := 1) (k := 1) rfl (by omega)
  have s3 : nI (8 * n) + 3 = nI (8 * n + 3) := kn_ac (c := 3) (k := 3) rfl (by omega)
  have s5 : nI (8 * n) + 5 = nI (8 * n + 5) := kn_ac (c := 5) (k := 5) rfl (by omega)
  have s6 : nI (8 * n) + 6 = nI (8 * n + 6) := kn_ac (c := 6) (k := 6) rfl (by omega)
  have s7 : nI (8 * n) + 7 = nI (8 * n + 7) := kn_ac (c := 7) (k := 7) rfl (by omega)
  have c5 : (nI (8 * n + 5)).toNatClampNeg = 8 * n + 5 := kn_cl (by omega)
  have c6 : (nI (8 * n + 6)).toNatClampNeg = 8 * n + 6 := kn_cl (by omega)
  have c7 : (nI (8 * n + 7)).toNatClampNeg = 8 * n + 7 := kn_cl (by omega)
  rw [E_v_readOrder_j208.eq_def]
  unfold rIf
  simp only [Lt, Lt2, s5, s6, c5, c6]
theorem j208_bad {ta ord x x1 nc nl pi opn fr to so fau : Int32} {wo : Int64} {ft fo fa fp fq fod : Nat → Int32} {fwd fwe : Nat → Int64} : (E_v_readOrder_j208 ta ord ft fwd fwe x x1 nc nl pi opn fo fa fp fq fr to so wo fau 1 fod).2.2.2.2.1 = fau ∧ (E_v_readOrder_j208 ta ord ft fwd fwe x x1 nc nl pi opn fo fa fp fq fr to so wo fau 1 fod).2.2.2.2.2.1 = 1 := by
  rw [E_v_readOrder_j208.eq_def, Lt_b, Lt_b, if_neg (by decide)]
  exact ⟨rfl, rfl⟩
theorem j160_bad {ta ord x x1 nc nl pi opn fr to so fau : Int32} {wo : Int64} {ft fo fa fp fq fod : Nat → Int32} {fwd fwe : Nat → Int64} : (E_v_readOrder_j160 ta ord ft fwd fwe x x1 fr to so wo fau 1 nc nl pi opn fo fa fp fq fod).2.2.2.2.1 = fau ∧ (E_v_readOrder_j160 ta ord ft fwd fwe x x1 fr to so wo fau 1 nc nl pi opn fo fa fp fq fod).2.2.2.2.2.1 = 1 := by
  rw [E_v_readOrder_j160.eq_def, Lt_b, Lt_b, if_neg (by decide)]
  exact j208_bad
theorem j125_bad {ta ord v x x1 nc nl pi opn fr to so fau : Int32} {wo : Int64} {ft fo fa fp fq fod : Nat → Int32} {fwd fwe : Nat → Int64} : (E_v_readOrder_j125 ta ord ft fwd fwe v x x1 fr to so wo fau 1 nc nl pi opn fo fa fp fq fod).2.2.2.2.1 = fau ∧ (E_v_readOrder_j125 ta ord ft fwd fwe v x x1 fr to so wo fau 1 nc nl pi opn fo fa fp fq fod).2.2.2.2.2.1 = 1 := by
  have key : ∀ R : KR15, R.2.2.2.2.1 = fau → R.2.2.2.2.2.1 = 1 → (E_v_readOrder_j160 ta ord ft fwd fwe x x1 R.1 R.2.1 R.2.2.1 R.2.2.2.1 R.2.2.2.2.1 R.2.2.2.2.2.1 R.2.2.2.2.2.2.1 R.2.2.2.2.2.2.2.1 R.2.2.2.2.2.2.2.2.1 R.2.2.2.2.2.2.2.2.2.1 R.2.2.2.2.2.2.2.2.2.2.1 R.2.2.2.2.2.2.2.2.2.2.2.1 R.2.2.2.2.2.2.2.2.2.2.2.2.1 R.2.2.2.2.2.2.2.2.2.2.2.2.2.1 R.2.2.2.2.2.2.2.2.2.2.2.2.2.2).2.2.2.2.1 = fau ∧ (E_v_readOrder_j160 ta ord ft fwd fwe x x1 R.1 R.2.1 R.2.2.1 R.2.2.2.1 R.2.2.2.2.1 R.2.2.2.2.2.1 R.2.2.2.2.2.2.1 R.2.2.2.2.2.2.2.1 R.2.2.2.2.2.2.2.2.1 R.2.2.2.2.2.2.2.2.2.1 R.2.2.2.2.2.2.2.2.2.2.1 R.2.2.2.2.2.2.2.2.2.2.2.1 R.2.2.2.2.2.2.2.2.2.2.2.2.1 R.2.2.2.2.2.2.2.2.2.2.2.2.2.1 R.2.2.2.2.2.2.2.2.2.2.2.2.2.2).2.2.2.2.2.1 = 1 := fun R h1 h2 => by
    rw [h1, h2]; exact j160_bad
  rw [E_v_readOrder_j125.eq_def]
  by_cases c : v = 1
  · rw [if_pos c, if_neg (by decide), Lt_b]
    exact key _ rsum_bad.1 rsum_bad.2
  · rw [if_neg c]
    by_cases d : v = 2
    · rw [if_pos d, if_neg (by decide), Lt_b]
      exact key _ rsum_bad.1 rsum_bad.2
    · rw [if_neg d]
      exact j160_bad
theorem j125_o {ta ord x x1 nc nl pi opn fr to so fau bd : Int32} {wo : Int64} {ft fo fa fp fq fod : Nat → Int32} {fwd fwe : Nat → Int64} : E_v_readOrder_j125 ta ord ft fwd fwe (nI 0) x x1 fr to so wo fau bd nc nl pi opn fo fa fp fq fod = E_v_readOrder_j160 ta ord ft fwd fwe x x1 fr to so wo fau bd nc nl pi opn fo fa fp fq fod := by
  rw [E_v_readOrder_j125.eq_def, if_neg (by decide), if_neg (by decide)]
theorem j125_by {ta ord x1 nc nl pi opn fr to so fau : Int32} {wo : Int64} {n i : Nat} {ft fo fa fp fq fod : Nat → Int32} {fwd fwe : Nat → Int64} (hn : n < 1000) (hi : i = 1 ∨ i = 2) (h : E_v_isWord 89 so wo = 1) : E_v_readOrder_j125 ta ord ft fwd fwe (nI i) (nI (8 * n)) x1 fr to so wo fau 0 nc nl pi opn fo fa fp fq fod = (fun R : KR15 => E_v_readOrder_j160 ta ord ft fwd fwe (nI (8 * n)) x1 R.1 R.2.1 R.2.2.1 R.2.2.2.1 R.2.2.2.2.1 R.2.2.2.2.2.1 R.2.2.2.2.2.2.1 R.2.2.2.2.2.2.2.1 R.2.2.2.2.2.2.2.2.1 R.2.2.2.2.2.2.2.2.2.1 R.2.2.2.2.2.2.2.2.2.2.1 R.2.2.2.2.2.2.2.2.2.2.2.1 R.2.2.2.2.2.2.2.2.2.2.2.2.1 R.2.2.2.2.2.2.2.2.2.2.2.2.2.1 R.2.2.2.2.2.2.2.2.2.2.2.2.2.2) (E_v_readSum (nI (8 * n + 3)) ta (E_v_next ta fr to so wo ft).1 (E_v_next ta fr to so wo ft).2.1 (E_v_next ta fr to so wo ft).2.2.1 (E_v_next ta fr to so wo ft).2.2.2 fau 0 ord x1 nc nl pi opn ft fo fa fp fq fwd fwe fod) := by
  rw [E_v_readOrder_j125.eq_def]
  rcases hi with rfl | rfl
  · rw [if_pos (show nI 1 = (1 : Int32) from rfl), if_pos rfl, Lt_b, if_pos h, must_1]
    simp only [Lt2, Lt]
    rw [kn_ac (c := 3) (k := 3) rfl (by omega)]
  · rw [if_neg (by decide), if_pos (show nI 2 = (2 : Int32) from rfl), if_pos rfl, Lt_b, if_pos h, must_1]
    simp only [Lt2, Lt]
    rw [kn_ac (c := 3) (k := 3) rfl (by omega)]
theorem j125_no {ta ord x x1 nc nl pi opn fr to so fau : Int32} {wo : Int64} {i : Nat} {ft fo fa fp fq fod : Nat → Int32} {fwd fwe : Nat → Int64} (hi : i = 1 ∨ i = 2) (h : E_v_isWord 89 so wo = 0) : (E_v_readOrder_j125 ta ord ft fwd fwe (nI i) x x1 fr to so wo fau 0 nc nl pi opn fo fa fp fq fod).2.2.2.2.1 = fr ∧ (E_v_readOrder_j125 ta ord ft fwd fwe (nI i) x x1 fr to so wo fau 0 nc nl pi opn fo fa fp fq fod).2.2.2.2.2.1 = 1 := by
  have key : ∀ R : KR15, R.2.2.2.2.1 = fr → R.2.2.2.2.2.1 = 1 → (E_v_readOrder_j160 ta ord ft fwd fwe x x1 R.1 R.2.1 R.2.2.1 R.2.2.2.1 R.2.2.2.2.1 R.2.2.2.2.2.1 R.2.2.2.2.2.2.1 R.2.2.2.2.2.2.2.1 R.2.2.2.2.2.2.2.2.1 R.2.2.2.2.2.2.2.2.2.1 R.2.2.2.2.2.2.2.2.2.2.1 R.2.2.2.2.2.2.2.2.2.2.2.1 R.2.2.2.2.2.2.2.2.2.2.2.2.1 R.2.2.2.2.2.2.2.2.2.2.2.2.2.1 R.2.2.2.2.2.2.2.2.2.2.2.2.2.2).2.2.2.2.1 = fr ∧ (E_v_readOrder_j160 ta ord ft fwd fwe x x1 R.1 R.2.1 R.2.2.1 R.2.2.2.1 R.2.2.2.2.1 R.2.2.2.2.2.1 R.2.2.2.2.2.2.1 R.2.2.2.2.2.2.2.1 R.2.2.2.2.2.2.2.2.1 R.2.2.2.2.2.2.2.2.2.1 R.2.2.2.2.2.2.2.2.2.2.1 R.2.2.2.2.2.2.2.2.2.2.2.1 R.2.2.2.2.2.2.2.2.2.2.2.2.1 R.2.2.2.2.2.2.2.2.2.2.2.2.2.1 R.2.2.2.2.2.2.2.2.2.2.2.2.2.2).2.2.2.2.2.1 = 1 := fun R h1 h2 => by
    rw [h1, h2]; exact j160_bad
  rw [E_v_readOrder_j125.eq_def]
  rcases hi with rfl | rfl
  · rw [if_pos (show nI 1 = (1 : Int32) from rfl), if_pos rfl, Lt_b, if_neg (by rw [h]; decide), must_0]
    exact key _ rsum_bad.1 rsum_bad.2
  · rw [if_neg (by decide), if_pos (show nI 2 = (2 : Int32) from rfl), if_pos rfl, Lt_b, if_neg (by rw [h]; decide), must_0]
    exact key _ rsum_bad.1 rsum_bad.2
theorem j160_no {ta ord x1 nc nl pi opn fr to so fau : Int32} {wo : Int64} {n : Nat} {ft fo fa fp fq fod : Nat → Int32} {fwd fwe : Nat → Int64} (hn : n < 1000) (h : E_v_isWord 21279923 so wo = 0) : E_v_readOrder_j160 ta ord ft fwd fwe (nI (8 * n)) x1 fr to so wo fau 0 nc nl pi opn fo fa fp fq fod = rIf ta ord ft fwd fwe x1 (8 * n + 6) fr to so wo fau 0 nc nl pi opn fo fa fp fq (upd (upd fod (8 * n + 7) 1) (8 * n + 5) nc) := by
  have a0 : (nI (8 * n)).toNatClampNeg = 8 * n := kn_cl (by omega)
  have s1 : nI (8 * n) + 1 = nI (8 * n + 1) := kn_ac (c := 1) (k := 1) rfl (by omega)
  have s3 : nI (8 * n) + 3 = nI (8 * n + 3) := kn_ac (c := 3) (k := 3) rfl (by omega)
  have s5 : nI (8 * n) + 5 = nI (8 * n + 5) := kn_ac (c := 5) (k := 5) rfl (by omega)
  have s6 : nI (8 * n) + 6 = nI (8 * n + 6) := kn_ac (c := 6) (k := 6) rfl (by omega)
  have s7 : nI (8 * n) + 7 = nI (8 * n + 7) := kn_ac (c := 7) (k := 7) rfl (by omega)
  have c5 : (nI (8 * n + 5)).toNatClampNeg = 8 * n + 5 := kn_cl (by omega)
  have c6 : (nI (8 * n + 6)).toNatClampNeg = 8 * n + 6 := kn_cl (by omega)
  have c7 : (nI (8 * n + 7)).toNatClampNeg = 8 * n + 7 := kn_cl (by omega)
  rw [E_v_readOrder_j160.eq_def, Lt_b, Lt_b, if_pos rfl, Lt_b, if_neg (by rw [h]; decide), s7, c7, j208_at hn]
theorem j160_go {ta ord x1 nc nl pi opn fr to so fau : Int32} {wo : Int64} {n : Nat} {ft fo fa fp fq fod : Nat → Int32} {fwd fwe : Nat → Int64} (hn : n < 1000) (h : E_v_isWord 21279923 so wo = 1) : E_v_readOrder_j160 ta ord ft fwd fwe (nI (8 * n)) x1 fr to so wo fau 0 nc nl pi opn fo fa fp fq fod = (fun R : Int32 × Int32 × Int32 × Int32 × Int64 × Int32 × Int32 => E_v_readOrder_j208 ta ord ft fwd fwe (nI (8 * n)) x1 nc nl pi opn fo fa fp fq R.2.1 R.2.2.1 R.2.2.2.1 R.2.2.2.2.1 R.2.2.2.2.2.1 R.2.2.2.2.2.2 (upd (upd fod (8 * n + 7) 1) (8 * n + 7) R.1)) (E_v_number 1 20 ta (E_v_next ta fr to so wo ft).1 (E_v_next ta fr to so wo ft).2.1 (E_v_next ta fr to so wo ft).2.2.1 (E_v_next ta fr to so wo ft).2.2.2 fau 0 ft) := by
  have a0 : (nI (8 * n)).toNatClampNeg = 8 * n := kn_cl (by omega)
  have s1 : nI (8 * n) + 1 = nI (8 * n + 1) := kn_ac (c := 1) (k := 1) rfl (by omega)
  have s3 : nI (8 * n) + 3 = nI (8 * n + 3) := kn_ac (c := 3) (k := 3) rfl (by omega)
  have s5 : nI (8 * n) + 5 = nI (8 * n + 5) := kn_ac (c := 5) (k := 5) rfl (by omega)
  have s6 : nI (8 * n) + 6 = nI (8 * n + 6) := kn_ac (c := 6) (k := 6) rfl (by omega)
  have s7 : nI (8 * n) + 7 = nI (8 * n + 7) := kn_ac (c := 7) (k := 7) rfl (by omega)
  have c5 : (nI (8 * n + 5)).toNatClampNeg = 8 * n + 5 := kn_cl (by omega)
  have c6 : (nI (8 * n + 6)).toNatClampNeg = 8 * n + 6 := kn_cl (by omega)
  have c7 : (nI (8 * n + 7)).toNatClampNeg = 8 * n + 7 := kn_cl (by omega)
  rw [E_v_readOrder_j160.eq_def, Lt_b, Lt_b, if_pos rfl, Lt_b, if_pos h, s7, c7]
  simp only [Lt, Lt2, s7, c7]
/-! the class's side -/
theorem aF5 : ∀ i, i < 4 → aF 5 i = if i = 3 then 0 else if i = 0 then 1 else 2 := by decide
theorem co_top {n i : Nat} {pa ln tf tt ti tu scl us : Int32} {fb fh fc : Nat → Int32} (hn : n < 12) (hi : i < 4) (hf : E_w_find 1 ln tf tt ti tu fb = nI i) : E_w_clause (nI n) 0 pa ln tf tt ti tu fb scl us fh fc = Lp (α := Int32 → Int32 → Int32 → Int32 → Int32 → Int32 → Int32 → (Nat → Int32) → (Nat → Int32) → KW9) (E_w_clause_l76 (nI n) 0 ln fb (if i = 3 then 0 else if i = 0 then 1 else 2)) (fun _ _ _ _ _ _ _ _ _ => ((0, 0, 0, 0, 0, 0, 0, fun _ => 0, fun _ => 0) : KW9)) (1 + 1 + 1 + 1) 0 pa (E_w_step ln tf tt ti tu fb).1 (E_w_step ln tf tt ti tu fb).2.1 (E_w_step ln tf tt ti tu fb).2.2.1 (E_w_step ln tf tt ti tu fb).2.2.2 us fc (upd (upd (upd (upd (upd fh (5 * n + 0) (nI i)) (5 * n + 1) 1) (5 * n + 2) (-1)) (5 * n + 3) (-1)) (5 * n + 4) (-1)) := by
  rw [E_w_clause.eq_def, if_pos rfl, hf, Lt_b, if_neg (kn_nl (by omega)), if_pos (kn_ltl (j := 4) rfl (by omega) hi), Lt2_b, Lt2_b, Lt2_b, Lt_b, open_at hn, if_pos rfl, Lt_b, kn_cl (by omega), aF5 i hi]
  rfl
theorem co_nil {n : Nat} {pa ln tf tt ti tu scl us : Int32} {fb fh fc : Nat → Int32} (hf : E_w_find 1 ln tf tt ti tu fb = -1) : E_w_clause (nI n) 0 pa ln tf tt ti tu fb scl us fh fc = (0, pa, tf, tt, ti, tu, us, fh, fc) := by
  rw [E_w_clause.eq_def, if_pos rfl, hf, Lt_b, if_pos (by decide), E_w_clause_j34.eq_def]
noncomputable abbrev KCl9 : Type := Int32 → Int32 → Int32 → Int32 → Int32 → Int32 → Int32 → (Nat → Int32) → (Nat → Int32) → KW9
theorem j98_at {n v : Nat} {ln pa tf tt ti tu us : Int32} {fb fc fh : Nat → Int32} (hn : n < 12) (hv : v < 3) (rc : KCl9) : E_w_clause_j98 (nI n) 0 ln fb (nI v) pa us fc fh rc tf tt ti tu = (fun S : KW8 => if S.1 = 0 then ((0, S.2.1, S.2.2.1, S.2.2.2.1, S.2.2.2.2.1, S.2.2.2.2.2.1, S.2.2.2.2.2.2.1, upd fh (5 * n + (2 + v)) us, S.2.2.2.2.2.2.2) : KW9) else rc (nI (v + 1)) S.2.1 S.2.2.1 S.2.2.2.1 S.2.2.2.2.1 S.2.2.2.2.2.1 (E_w_emit 0 0 S.2.2.2.2.2.2.1 S.2.2.2.2.2.2.2).2.1 (E_w_emit 0 0 S.2.2.2.2.2.2.1 S.2.2.2.2.2.2.2).2.2 (upd fh (5 * n + (2 + v)) us)) (E_sum_0 0 0 pa ln tf tt ti tu fb us fc) := by
  rw [E_w_clause_j98.eq_def, Lt_b, kn_ca (c := 2) (k := 2) rfl (by omega), Lt_b, setHead_at (j := 2 + v) (nI_toInt (by omega)) hn (by omega)]
  generalize E_sum_0 0 0 pa ln tf tt ti tu fb us fc = S
  simp only [Lt2, Lt]
  rw [kn_po (by omega)]
/-! what has been read of orders -/
noncomputable def KSn (b : Prop) (od us nc : Nat) (fc op ar : Nat → Int32) (h x y : Int32) : Prop := (¬ b ∧ h = -1 ∧ x = y) ∨ (b ∧ KSs od us nc fc op ar h x y)
noncomputable def KOrs (n us nc : Nat) (fh fod fc op ar : Nat → Int32) : Prop := ∀ i, i < n → ∃ v t : Nat, (v < 4 ∧ 1 ≤ t ∧ t ≤ 20) ∧ fh (5 * i) = nI v ∧ fod (8 * i) = nI v ∧ fh (5 * i + 1) = nI t ∧ fod (8 * i + 7) = nI t ∧ KTs 1 us nc fc op ar (fh (5 * i + 4)) (fod (8 * i + 5)) (fod (8 * i + 6)) ∧ KSn (v < 3) 1 us nc fc op ar (fh (5 * i + 2)) (fod (8 * i + 1)) (fod (8 * i + 2)) ∧ KSn (v = 1 ∨ v = 2) 1 us nc fc op ar (fh (5 * i + 3)) (fod (8 * i + 3)) (fod (8 * i + 4))
theorem KSn.ext {b : Prop} {od us nc us' nc' : Nat} {fc op ar fc' op' ar' : Nat → Int32} {h x y : Int32} (k : KSn b od us nc fc op ar h x y) (h1 : us ≤ us') (h2 : nc ≤ nc') (h3 : ∀ j, j < us → fc' j = fc j) (h4 : ∀ j, j < nc → op' j = op j ∧ ar' j = ar j) : KSn b od us' nc' fc' op' ar' h x y := k.imp id (fun k => ⟨k.1, k.2.ext h1 h2 h3 h4⟩)
theorem KOrs.ext {n us nc us' nc' : Nat} {fh fod fc op ar fh' fod' fc' op' ar' : Nat → Int32} (h : KOrs n us nc fh fod fc op ar) (h1 : us ≤ us') (h2 : nc ≤ nc') (h3 : ∀ j, j < us → fc' j = fc j) (h4 : ∀ j, j < nc → op' j = op j ∧ ar' j = ar j) (h5 : ∀ j, j < 5 * n → fh' j = fh j) (h6 : ∀ j, j < 8 * n → fod' j = fod j) : KOrs n us' nc' fh' fod' fc' op' ar' := fun i hi => by
  obtain ⟨v, t, v0, v1, v2, v3, v4, v5, v6, v7⟩ := h i hi
  refine ⟨v, t, v0, (h5 _ (by omega)).trans v1, (h6 _ (by omega)).trans v2, (h5 _ (by omega)).trans v3, (h6 _ (by omega)).trans v4, ?_, ?_, ?_⟩
  · rw [h5 (5 * i + 4) (by omega), h6 (8 * i + 5) (by omega), h6 (8 * i + 6) (by omega)]; exact v5.ext h1 h2 h3 h4
  · rw [h5 (5 * i + 2) (by omega), h6 (8 * i + 1) (by omega), h6 (8 * i + 2) (by omega)]; exact v6.ext h1 h2 h3 h4
  · rw [h5 (5 * i + 3) (by omega), h6 (8 * i + 3) (by omega), h6 (8 * i + 4) (by omega)]; exact v7.ext h1 h2 h3 h4
/-- a sum of an order -/
theorem osum {L n v k p us nl nc : Nat} {fb ft fh fc fo fa fp fq fod : Nat → Int32} {wd we : Nat → Int64} {c : KT4} {m : KM4} {fau pi op ncl : Int32} (hR : KRy L fb ft wd we) (hn : n < 12) (hv : v < 3) (hk : k < 1000) (hT : TkP fb L p c m) (hus : us + 2 ≤ 2 * p) (hnc : nc + 1 ≤ p) (hnl : nl ≤ 50) (rc : KCl9) (P : KW9) (hP : P = E_w_clause_j98 (nI n) 0 (nI L) fb (nI v) (nI nl) (nI us) fc fh rc c.1 c.2.1 c.2.2.1 c.2.2.2) (R : KR15) (hRR : R = E_v_readSum (nI k) (nI L) m.1 m.2.1 m.2.2.1 m.2.2.2 fau 0 1 ncl (nI nc) (nI nl) pi op ft fo fa fp fq wd we fod) :
    (P.1 = 0 ∧ ∃ q : Nat, P.2.2.1 = nI q ∧ R.2.2.2.2.1 = nI q ∧ R.2.2.2.2.2.1 = 1) ∨
    ∃ (p1 : Nat) (c1 : KT4) (m1 : KM4) (us1 nl1 n1 : Nat) (fc1 fo1 fa1 fp1 fq1 : Nat → Int32), P = rc (nI (v + 1)) (nI nl1) c1.1 c1.2.1 c1.2.2.1 c1.2.2.2 (nI us1) fc1 (upd fh (5 * n + (2 + v)) (nI us)) ∧ p < p1 ∧ TkP fb L p1 c1 m1 ∧ R = (m1.1, m1.2.1, m1.2.2.1, m1.2.2.2, fau, 0, nI n1, nI nl1, nI 0, nI 0, fo1, fa1, fp1, fq1, upd (upd fod k (nI nc)) (k + 1) (nI n1)) ∧ (∀ j, j < us → fc1 j = fc j) ∧ (∀ j, j < nc → fo1 j = fo j ∧ fa1 j = fa j) ∧ (us + 2 ≤ us1 ∧ us1 ≤ 2 * p1 ∧ nc < n1 ∧ n1 ≤ p1 ∧ nl ≤ nl1 ∧ nl1 ≤ 50) ∧ KSs 1 us1 n1 fc1 fo1 fa1 (nI us) (nI nc) (nI n1) := by
  have hL := hR.1
  have xs := x_sum hR (show (1 : Nat) ≤ 1 by omega) (fau := fau) (pi0 := pi) (op0 := op) (us := us) (nl := nl) (nc := nc) (w := 1) (fc := fc) (fo := fo) (fa := fa) (fp := fp) (fq := fq) hT (by omega) hnc hnl
  change KX 1 fb L KA_ fau p us nl nc 1 fc fo fa (E_sum_0 0 0 (nI nl) (nI L) c.1 c.2.1 c.2.2.1 c.2.2.2 fb (nI us) fc) (E_v_readExpression 0 (nI L) m.1 m.2.1 m.2.2.1 m.2.2.2 fau 0 1 (nI nc) (nI nl) pi op ft fo fa fp fq wd we) at xs
  rw [j98_at hn hv] at hP
  rw [rsum_at hk] at hRR
  generalize E_sum_0 0 0 (nI nl) (nI L) c.1 c.2.1 c.2.2.1 c.2.2.2 fb (nI us) fc = S at xs hP
  generalize E_v_readExpression 0 (nI L) m.1 m.2.1 m.2.2.1 m.2.2.2 fau 0 1 (nI nc) (nI nl) pi op ft fo fa fp fq wd we = X at xs hRR
  dsimp only at hP hRR
  rcases xs with ⟨n1, q', n2, n3, n4⟩ | ⟨p1, c1, m1, us1, nl1, n1, fc1, fo1, fa1, fp1, fq1, e1, e2, e3, e4, e5, e6, e7, e8⟩
  · rw [if_pos n1] at hP
    subst hP
    subst hRR
    exact Or.inl ⟨rfl, q', n2, n3, n4⟩
  subst e1
  subst e4
  dsimp only at hP hRR
  have hp1 := e3.1
  rw [if_neg (show ¬ (1 : Int32) = 0 by decide), emit_at (us := us1) (by omega)] at hP
  have lt := e8.lt (Nat.le_refl 1) (by omega)
  refine Or.inr ⟨p1, c1, m1, us1 + 2, nl1, n1, upd (upd fc1 us1 0) (us1 + 1) 0, fo1, fa1, fp1, fq1, hP, e2, e3, hRR, fun j hj => by rw [upd_n (by omega), upd_n (by omega)]; exact e5 j hj, e6, ⟨by omega, by omega, lt, by omega, e7.2.2.1, e7.2.2.2.1⟩, us, us1, nc, n1, nl1 - nl, rfl, rfl, rfl, lt, Nat.le_refl _, by omega, ?_, ?_, Nat.le_refl _⟩
  · exact e8.ext (fun j _ hj => by rw [upd_n (by omega), upd_n (by omega)]) (fun _ _ _ => ⟨rfl, rfl⟩)
  · rw [upd_n (by omega), upd_s]
theorem in_20 {v : Int64} : E_v_in v 1 20 = 1 ↔ 1 ≤ v.toInt ∧ v.toInt ≤ 20 := by
  have zA : (20 : Int64).toInt = 20 := rfl
  have zB : (1 : Int64).toInt = 1 := rfl
  unfold E_v_in
  by_cases c0 : lg_cmp v 1 < 0
  · have c1 := jl_iff.mp ((lg_cmp_lt _ _).mp c0)
    rw [if_pos c0]; exact ⟨fun h => absurd h (by decide), fun h => by omega⟩
  · have c1 : ¬ v.toInt < (1 : Int64).toInt := fun h => c0 ((lg_cmp_lt _ _).mpr (jl_iff.mpr h))
    rw [if_neg c0]
    by_cases d0 : 0 < lg_cmp v 20
    · have d1 := jl_iff.mp ((lg_cmp_gt _ _).mp d0)
      rw [if_pos d0]; exact ⟨fun h => absurd h (by decide), fun h => by omega⟩
    · have d1 : ¬ (20 : Int64).toInt < v.toInt := fun h => d0 ((lg_cmp_gt _ _).mpr (jl_iff.mpr h))
      rw [if_neg d0]; exact ⟨fun _ => by omega, fun _ => rfl⟩
/-- "times", "if" -/
theorem times_both {L n p us nl nc : Nat} {fb ft fh fc fo fa fp fq fod : Nat → Int32} {wd we : Nat → Int64} {c : KT4} {m : KM4} {fau pi op x v : Int32} (hR : KRy L fb ft wd we) (hx : x ≤ v) (hT : TkP fb L p c m) (hus : us ≤ 2 * p) (hnc : nc ≤ p) (hnl : nl ≤ 50) (hn : n < 12) (h1 : fh (5 * n + 1) = 1) (rc : KCl9) (P : KW9) (hP : P = E_w_clause_l76 (nI n) 0 (nI L) fb x rc v (nI nl) c.1 c.2.1 c.2.2.1 c.2.2.2 (nI us) fc fh) (R : KR16) (hRR : R = E_v_readOrder_j160 (nI L) 1 ft wd we (nI (8 * n)) (nI (n + 1)) m.1 m.2.1 m.2.2.1 m.2.2.2 fau 0 (nI nc) (nI nl) pi op fo fa fp fq fod) :
    (P.1 = 0 ∧ ∃ q : Nat, P.2.2.1 = nI q ∧ R.2.2.2.2.1 = nI q ∧ R.2.2.2.2.2.1 = 1) ∨
    ∃ (t p1 : Nat) (fht fodt : Nat → Int32), (1 ≤ t ∧ t ≤ 20 ∧ p ≤ p1) ∧ fht (5 * n + 1) = nI t ∧ fodt (8 * n + 7) = nI t ∧ (∀ j, j ≠ 5 * n + 1 → fht j = fh j) ∧ (∀ j, j ≠ 8 * n + 7 → fodt j = fod j) ∧ KIf 1 L n p1 us nl nc fb fau (nI (n + 1)) (8 * n + 6) fht fc (upd fodt (8 * n + 5) (nI nc)) fo fa P R := by
  have hL := hR.1
  have hpL := hT.1
  obtain ⟨q, q1, q2, hQ⟩ := kx_next hR hT
  have hqL := hQ.1
  have frq := TkP.froms (tf := (E_w_step (nI L) c.1 c.2.1 c.2.2.1 c.2.2.2 fb).1) (tt := (E_w_step (nI L) c.1 c.2.1 c.2.2.1 c.2.2.2 fb).2.1) (ti := (E_w_step (nI L) c.1 c.2.1 c.2.2.1 c.2.2.2 fb).2.2.1) (tu := (E_w_step (nI L) c.1 c.2.1 c.2.2.1 c.2.2.2 fb).2.2.2) (fr := (E_v_next (nI L) m.1 m.2.1 m.2.2.1 m.2.2.2 ft).1) (to := (E_v_next (nI L) m.1 m.2.1 m.2.2.1 m.2.2.2 ft).2.1) (so := (E_v_next (nI L) m.1 m.2.1 m.2.2.1 m.2.2.2 ft).2.2.1) (wo := (E_v_next (nI L) m.1 m.2.1 m.2.2.1 m.2.2.2 ft).2.2.2) hQ
  rw [E_w_clause_l76.eq_def, if_pos hx, if_pos rfl] at hP
  rcases tk_one (k := 3) (c := 21279923) (tf := c.1) (tt := c.2.1) (ti := c.2.2.1) (tu := c.2.2.2) (fr := m.1) (to := m.2.1) (so := m.2.2.1) (wo := m.2.2.2) (by omega) (by omega) rfl (by decide +kernel) hT (nI L) with ⟨f0, w1, pl⟩ | ⟨f0, w0⟩
  · have qp := q2 pl
    rw [pas_p f0] at hP
    rw [j160_go (by omega) w1] at hRR
    generalize hs : E_w_step (nI L) c.1 c.2.1 c.2.2.1 c.2.2.2 fb = s at hQ hP frq
    generalize hm : E_v_next (nI L) m.1 m.2.1 m.2.2.1 m.2.2.2 ft = mn at hQ hRR frq
    rw [Lt2_b, Lt2_b, Lt2_b, Lt2_b] at hP
    dsimp only at hP
    rw [if_neg (show ¬ (1 : Int32) = 0 by decide)] at hP
    have bad0 : (mn.2.2.1 ≠ 2 ∨ E_v_in mn.2.2.2 1 20 ≠ 1) → P.1 = 0 → P.2.2.1 = s.1 → (P.1 = 0 ∧ ∃ q : Nat, P.2.2.1 = nI q ∧ R.2.2.2.2.1 = nI q ∧ R.2.2.2.2.2.1 = 1) := fun hb p1 p2 => by
      rw [number_n hb] at hRR
      dsimp only at hRR
      rw [hRR]
      exact ⟨p1, q, p2.trans frq.1, j208_bad.1.trans frq.2.1, j208_bad.2⟩
    rcases tk_num (tf := s.1) (tt := s.2.1) (ti := s.2.2.1) (tu := s.2.2.2) (fr := mn.1) (to := mn.2.1) (so := mn.2.2.1) (wo := mn.2.2.2) hQ with ⟨n0, n1, _, _, n4, n5⟩ | ⟨n1, n2⟩
    case inr =>
      rw [if_pos (show s.2.2.2 < 1 by rw [n2]; decide), E_w_clause_j182.eq_def] at hP
      exact Or.inl (bad0 (Or.inl n1) (by rw [hP]) (by rw [hP]))
    have z1 : (1 : Int32).toInt = 1 := rfl
    have z20 : (20 : Int32).toInt = 20 := rfl
    by_cases c1 : s.2.2.2 < 1
    · have c2 := il_iff.mp c1
      rw [if_pos c1, E_w_clause_j182.eq_def] at hP
      exact Or.inl (bad0 (Or.inr (fun h => by have := in_20.mp h; omega)) (by rw [hP]) (by rw [hP]))
    have c2 : ¬ s.2.2.2.toInt < (1 : Int32).toInt := fun h => c1 (il_iff.mpr h)
    rw [if_neg c1] at hP
    by_cases d1 : s.2.2.2 ≤ 20
    · have d2 := ie_iff.mp d1
      have wv : mn.2.2.2.toInt = s.2.2.2.toInt := by omega
      have wt : mn.2.2.2.toInt32 = s.2.2.2 := Int32.toInt_inj.mp (by rw [l_nar (Eq.refl mn.2.2.2.toInt) (by omega)]; exact wv)
      obtain ⟨t, ht, hz⟩ : ∃ t : Nat, s.2.2.2 = nI t ∧ (t : Int) = s.2.2.2.toInt := ⟨s.2.2.2.toInt.toNat, i_ofN rfl n4, by omega⟩
      rw [if_pos d1, Lt_b, Lt2_b, Lt2_b, Lt2_b, setHead_at (y := 1) (j := 1) rfl hn (by omega)] at hP
      rw [number_p n1 (in_20.mpr (by omega)), wt] at hRR
      dsimp only at hRR
      obtain ⟨s2, s21, s22, hS⟩ := kx_next hR hQ
      have hsL := hS.1
      rw [j208_at (by omega)] at hRR
      subst hP
      subst hRR
      refine Or.inr ⟨t, s2, upd fh (5 * n + 1) s.2.2.2, upd (upd fod (8 * n + 7) 1) (8 * n + 7) s.2.2.2, ⟨by omega, by omega, by omega⟩, by rw [upd_s, ht], by rw [upd_s, ht], fun j hj => upd_n hj, fun j hj => by rw [upd_n hj, upd_n hj], ?_⟩
      exact if_both hR (show (1 : Nat) ≤ 1 by omega) hS (by omega) (by omega) hnl hn
    · have d2 : ¬ s.2.2.2.toInt ≤ (20 : Int32).toInt := fun h => d1 (ie_iff.mpr h)
      rw [if_neg d1, E_w_clause_j182.eq_def] at hP
      exact Or.inl (bad0 (Or.inr (fun h => by have := in_20.mp h; omega)) (by rw [hP]) (by rw [hP]))
  · rw [pas_n f0] at hP
    rw [Lt2_b, Lt2_b, Lt2_b, Lt2_b, if_pos (show (0 : Int32) = 0 from rfl)] at hP
    dsimp only at hP
    rw [j160_no (by omega) w0] at hRR
    subst hP
    subst hRR
    exact Or.inr ⟨1, p, fh, upd fod (8 * n + 7) 1, ⟨by omega, by omega, Nat.le_refl _⟩, h1, upd_s, fun _ _ => rfl, fun j hj => upd_n hj, if_both hR (show (1 : Nat) ≤ 1 by omega) hT hus hnc hnl hn⟩
end
section
/-! orders: a clause is read alike -/
theorem j125_badR {ta ord v x x1 : Int32} {ft : Nat → Int32} {fwd fwe : Nat → Int64} {q : Int32} (R : KR15) (h1 : R.2.2.2.2.1 = q) (h2 : R.2.2.2.2.2.1 = 1) : (E_v_readOrder_j125 ta ord ft fwd fwe v x x1 R.1 R.2.1 R.2.2.1 R.2.2.2.1 R.2.2.2.2.1 R.2.2.2.2.2.1 R.2.2.2.2.2.2.1 R.2.2.2.2.2.2.2.1 R.2.2.2.2.2.2.2.2.1 R.2.2.2.2.2.2.2.2.2.1 R.2.2.2.2.2.2.2.2.2.2.1 R.2.2.2.2.2.2.2.2.2.2.2.1 R.2.2.2.2.2.2.2.2.2.2.2.2.1 R.2.2.2.2.2.2.2.2.2.2.2.2.2.1 R.2.2.2.2.2.2.2.2.2.2.2.2.2.2).2.2.2.2.1 = q ∧ (E_v_readOrder_j125 ta ord ft fwd fwe v x x1 R.1 R.2.1 R.2.2.1 R.2.2.2.1 R.2.2.2.2.1 R.2.2.2.2.2.1 R.2.2.2.2.2.2.1 R.2.2.2.2.2.2.2.1 R.2.2.2.2.2.2.2.2.1 R.2.2.2.2.2.2.2.2.2.1 R.2.2.2.2.2.2.2.2.2.2.1 R.2.2.2.2.2.2.2.2.2.2.2.1 R.2.2.2.2.2.2.2.2.2.2.2.2.1 R.2.2.2.2.2.2.2.2.2.2.2.2.2.1 R.2.2.2.2.2.2.2.2.2.2.2.2.2.2).2.2.2.2.2.1 = 1 := by
  rw [h1, h2]; exact j125_bad
theorem j160_badR {ta ord x x1 : Int32} {ft : Nat → Int32} {fwd fwe : Nat → Int64} {q : Int32} (R : KR15) (h1 : R.2.2.2.2.1 = q) (h2 : R.2.2.2.2.2.1 = 1) : (E_v_readOrder_j160 ta ord ft fwd fwe x x1 R.1 R.2.1 R.2.2.1 R.2.2.2.1 R.2.2.2.2.1 R.2.2.2.2.2.1 R.2.2.2.2.2.2.1 R.2.2.2.2.2.2.2.1 R.2.2.2.2.2.2.2.2.1 R.2.2.2.2.2.2.2.2.2.1 R.2.2.2.2.2.2.2.2.2.2.1 R.2.2.2.2.2.2.2.2.2.2.2.1 R.2.2.2.2.2.2.2.2.2.2.2.2.1 R.2.2.2.2.2.2.2.2.2.2.2.2.2.1 R.2.2.2.2.2.2.2.2.2.2.2.2.2.2).2.2.2.2.1 = q ∧ (E_v_readOrder_j160 ta ord ft fwd fwe x x1 R.1 R.2.1 R.2.2.1 R.2.2.2.1 R.2.2.2.2.1 R.2.2.2.2.2.1 R.2.2.2.2.2.2.1 R.2.2.2.2.2.2.2.1 R.2.2.2.2.2.2.2.2.1 R.2.2.2.2.2.2.2.2.2.1 R.2.2.2.2.2.2.2.2.2.2.1 R.2.2.2.2.2.2.2.2.2.2.2.1 R.2.2.2.2.2.2.2.2.2.2.2.2.1 R.2.2.2.2.2.2.2.2.2.2.2.2.2.1 R.2.2.2.2.2.2.2.2.2.2.2.2.2.2).2.2.2.2.2.1 = 1 := by
  rw [h1, h2]; exact j160_bad
theorem l76_sum0 {n : Nat} {ln pa tf tt ti tu us x : Int32} {fb fc fh : Nat → Int32} (hx : ¬ x ≤ 0) (rc : KCl9) : E_w_clause_l76 (nI n) 0 ln fb x rc 0 pa tf tt ti tu us fc fh = E_w_clause_j98 (nI n) 0 ln fb (nI 0) pa us fc fh rc tf tt ti tu := by
  rw [E_w_clause_l76.eq_def, if_neg hx, if_pos (by decide)]
  rfl
theorem l76_by_p {n : Nat} {ln pa tf tt ti tu us : Int32} {fb fc fh : Nat → Int32} (h : E_w_find 2 ln tf tt ti tu fb = 0) (rc : KCl9) : E_w_clause_l76 (nI n) 0 ln fb 2 rc (nI 1) pa tf tt ti tu us fc fh = E_w_clause_j98 (nI n) 0 ln fb (nI 1) pa us fc fh rc (E_w_step ln tf tt ti tu fb).1 (E_w_step ln tf tt ti tu fb).2.1 (E_w_step ln tf tt ti tu fb).2.2.1 (E_w_step ln tf tt ti tu fb).2.2.2 := by
  rw [E_w_clause_l76.eq_def, if_neg (by decide), if_neg (by decide), pas_p h]
  simp only [Lt2]
  rw [if_neg (by decide)]
theorem l76_by_n {n : Nat} {ln pa tf tt ti tu us : Int32} {fb fc fh : Nat → Int32} (h : E_w_find 2 ln tf tt ti tu fb ≠ 0) (rc : KCl9) : E_w_clause_l76 (nI n) 0 ln fb 2 rc (nI 1) pa tf tt ti tu us fc fh = (0, pa, tf, tt, ti, tu, us, fh, fc) := by
  rw [E_w_clause_l76.eq_def, if_neg (by decide), if_neg (by decide), pas_n h]
  simp only [Lt2]
  rw [if_pos (by trivial)]
noncomputable def KClo (L n : Nat) (fb : Nat → Int32) (p : Nat) (fau : Int32) (r : KW9) (R : KR16) : Prop :=
  (r.1 = 0 ∧ ∃ q : Nat, r.2.2.1 = nI q ∧ R.2.2.2.2.1 = nI q ∧ R.2.2.2.2.2.1 = 1) ∨
  ∃ (p' : Nat) (c' : KT4) (m' : KM4) (us' nl' n2 : Nat) (fh' fc' fo2 fa2 fp2 fq2 fod' : Nat → Int32) (pi' op' : Int32), r = (1, nI nl', c'.1, c'.2.1, c'.2.2.1, c'.2.2.2, nI us', fh', fc') ∧ p < p' ∧ TkP fb L p' c' m' ∧
    R = (m'.1, m'.2.1, m'.2.2.1, m'.2.2.2, fau, 0, nI (n + 1), nI n2, nI nl', pi', op', fo2, fa2, fp2, fq2, fod') ∧ (us' ≤ 2 * p' ∧ n2 ≤ p' ∧ nl' ≤ 50) ∧ KOrs (n + 1) us' n2 fh' fod' fc' fo2 fa2
theorem ord_fin {L n i p p0 us0 nc0 us nl nc : Nat} {fb fh0 fc0 fod0 fo0 fa0 fh fc fod fo fa : Nat → Int32} {fau : Int32} {P : KW9} {R : KR16} (hK : KOrs n us0 nc0 fh0 fod0 fc0 fo0 fa0) (hi : i < 4) (hp : p0 < p) (h1 : us0 ≤ us) (h2 : nc0 ≤ nc) (h3 : ∀ j, j < us0 → fc j = fc0 j) (h4 : ∀ j, j < nc0 → fo j = fo0 j ∧ fa j = fa0 j) (h5 : ∀ j, j < 5 * n → fh j = fh0 j) (h6 : ∀ j, j < 8 * n → fod j = fod0 j) (g1 : fh (5 * n) = nI i) (g2 : fod (8 * n) = nI i) (g3 : fh (5 * n + 4) = -1) (g4 : KSn (i < 3) 1 us nc fc fo fa (fh (5 * n + 2)) (fod (8 * n + 1)) (fod (8 * n + 2))) (g5 : KSn (i = 1 ∨ i = 2) 1 us nc fc fo fa (fh (5 * n + 3)) (fod (8 * n + 3)) (fod (8 * n + 4)))
    (hT : (P.1 = 0 ∧ ∃ q : Nat, P.2.2.1 = nI q ∧ R.2.2.2.2.1 = nI q ∧ R.2.2.2.2.2.1 = 1) ∨ ∃ (t p1 : Nat) (fht fodt : Nat → Int32), (1 ≤ t ∧ t ≤ 20 ∧ p ≤ p1) ∧ fht (5 * n + 1) = nI t ∧ fodt (8 * n + 7) = nI t ∧ (∀ j, j ≠ 5 * n + 1 → fht j = fh j) ∧ (∀ j, j ≠ 8 * n + 7 → fodt j = fod j) ∧ KIf 1 L n p1 us nl nc fb fau (nI (n + 1)) (8 * n + 6) fht fc (upd fodt (8 * n + 5) (nI nc)) fo fa P R) : KClo L n fb p0 fau P R := by
  rcases hT with hT | ⟨t, p1, fht, fodt, ⟨t1, t2, t3⟩, k1, k2, k3, k4, ib⟩
  · exact Or.inl hT
  rcases ib with ib | ⟨p', c', m', us', nl', n2, fh', fc', fo2, fa2, fp2, fq2, pi', op', e1, e2, e3, e4, e5, e6, e7, e8⟩
  · exact Or.inl ib
  have hf : ∀ j, j ≠ 5 * n + 4 → fh' j = fht j := fun j hj => by
    rcases e8 with ⟨e8, _⟩ | ⟨e8, _⟩
    · rw [e8]
    · rw [e8, upd_n hj]
  have fcs : ∀ j, j < us → fc' j = fc j := e5
  refine Or.inr ⟨p', c', m', us', nl', n2, fh', fc', fo2, fa2, fp2, fq2, _, pi', op', e1, by omega, e3, e4, ⟨e7.2.1, e7.2.2.2.1, e7.2.2.2.2.2⟩, fun j hj => ?_⟩
  by_cases jn : j < n
  · exact hK.ext (by omega) (by omega) (fun k hk => (e5 k (by omega)).trans (h3 k hk)) (fun k hk => ⟨(e6 k (by omega)).1.trans (h4 k hk).1, (e6 k (by omega)).2.trans (h4 k hk).2⟩) (fun k hk => by rw [hf k (by omega), k3 k (by omega)]; exact h5 k hk) (fun k hk => by rw [upd_n (by omega), upd_n (by omega), k4 k (by omega)]; exact h6 k hk) j jn
  · have jj : j = n := by omega
    subst jj
    refine ⟨i, t, ⟨hi, t1, t2⟩, ?_, ?_, ?_, ?_, ?_, ?_, ?_⟩
    · rw [hf _ (by omega), k3 _ (by omega)]; exact g1
    · rw [upd_n (by omega), upd_n (by omega), k4 _ (by omega)]; exact g2
    · rw [hf _ (by omega)]; exact k1
    · rw [upd_n (by omega), upd_n (by omega)]; exact k2
    · rw [upd_n (by omega), upd_s, upd_s]
      rcases e8 with ⟨e8, e9, e10⟩ | ⟨e8, e9, e10, e11, e12⟩
      · exact Or.inl ⟨by rw [e8, k3 _ (by omega)]; exact g3, by rw [e10], nc, rfl, by omega⟩
      · exact Or.inr ⟨us, us' - 2, nc, n2, nl' - nl, by rw [e8, upd_s], rfl, rfl, e9, Nat.le_refl _, by omega, e12, e11, by omega⟩
    · rw [hf _ (by omega), k3 _ (by omega), upd_n (by omega), upd_n (by omega), k4 _ (by omega), upd_n (by omega), upd_n (by omega), k4 _ (by omega)]
      exact g4.ext (by omega) (by omega) e5 e6
    · rw [hf _ (by omega), k3 _ (by omega), upd_n (by omega), upd_n (by omega), k4 _ (by omega), upd_n (by omega), upd_n (by omega), k4 _ (by omega)]
      exact g5.ext (by omega) (by omega) e5 e6
/-- A CLAUSE OF ORDERS IS READ ALIKE -/
theorem ord_clause {L n p us nl nc : Nat} {fb ft fh fc fod fo fa fp fq : Nat → Int32} {wd we fac : Nat → Int64} {c : KT4} {m : KM4} {fau pi op scl : Int32} (hR : KRy L fb ft wd we) (hh : ∀ j, j < 4 → (fac j).toInt = kwh 1 j) (hT : TkP fb L p c m) (hus : us ≤ 2 * p) (hnc : nc ≤ p) (hnl : nl ≤ 50) (hn : n < 12) (hK : KOrs n us nc fh fod fc fo fa) : KClo L n fb p fau (E_w_clause (nI n) 0 (nI nl) (nI L) c.1 c.2.1 c.2.2.1 c.2.2.2 fb scl (nI us) fh fc) (E_v_readOrder (nI L) m.1 m.2.1 m.2.2.1 m.2.2.2 fau 0 1 (nI n) (nI nc) (nI nl) pi op ft fo fa fp fq wd we fod fac) := by
  have hL := hR.1
  have hpL := hT.1
  have fr := TkP.froms (tf := c.1) (tt := c.2.1) (ti := c.2.2.1) (tu := c.2.2.2) (fr := m.1) (to := m.2.1) (so := m.2.2.1) (wo := m.2.2.2) hT
  rcases tk_four (k := 1) (Or.inr rfl) hh hT (nI L) with ⟨i, i1, pl, i3, i4, i5⟩ | ⟨i1, i2⟩
  case inr =>
    rw [co_nil i1, ord_no i2]
    exact Or.inl ⟨rfl, p, fr.1, fr.2.1, rfl⟩
  obtain ⟨q, q1, q2, hQ⟩ := kx_next hR hT
  have hqL := hQ.1
  have qp := q2 pl
  rw [co_top hn i1 i3, ord_go hn i1 i4 i5]
  generalize hs : (E_w_step (nI L) c.1 c.2.1 c.2.2.1 c.2.2.2 fb) = s at hQ ⊢
  generalize hm : E_v_next (nI L) m.1 m.2.1 m.2.2.1 m.2.2.2 ft = mn at hQ ⊢
  obtain ⟨f8, z1, z2, z3⟩ := zero_l (b := 8 * n) (fun _ _ => ((0, 0, 0, 0, 0, 0, 0, 0, 0, 0, 0, fun _ => 0, fun _ => 0, fun _ => 0, fun _ => 0, fun _ => 0) : KR16)) (E_v_readOrder_l85 (nI L) 1 (nI nc) (nI nl) pi op ft fo fa fp fq wd we (nI i) mn.1 mn.2.1 mn.2.2.1 mn.2.2.2 fau 0 (nI (8 * n)) (nI (n + 1))) (fun rc v f hv => oz_b (by omega) rc v f hv) 8 0 1 fod (by omega)
  rw [z1, Lp_s]
  by_cases i3' : i = 3
  · subst i3'
    rw [if_pos rfl, ord_rest3 (by omega)]
    have tb := times_both (n := n) (us := us) (nl := nl) (nc := nc) (fau := fau) (pi := pi) (op := op) (x := 0) (v := 0) (fh := (upd (upd (upd (upd (upd fh (5 * n + 0) (nI 3)) (5 * n + 1) 1) (5 * n + 2) (-1)) (5 * n + 3) (-1)) (5 * n + 4) (-1))) (fc := fc) (fo := fo) (fa := fa) (fp := fp) (fq := fq) (fod := upd f8 (8 * n) (nI 3)) hR (by decide) hQ (by omega) (by omega) hnl hn (by rw [upd_n (by omega), upd_n (by omega), upd_n (by omega), upd_s]) (Lp (α := KCl9) (E_w_clause_l76 (nI n) 0 (nI L) fb 0) (fun _ _ _ _ _ _ _ _ _ => ((0, 0, 0, 0, 0, 0, 0, fun _ => 0, fun _ => 0) : KW9)) (1 + 1 + 1)) _ rfl _ rfl
    exact ord_fin hK (by omega) qp (Nat.le_refl _) (Nat.le_refl _) (fun _ _ => rfl) (fun _ _ => ⟨rfl, rfl⟩) (fun j hj => by rw [upd_n (by omega), upd_n (by omega), upd_n (by omega), upd_n (by omega), upd_n (by omega)]) (fun j hj => by rw [upd_n (by omega)]; exact z2 j (by omega)) (by rw [upd_n (by omega), upd_n (by omega), upd_n (by omega), upd_n (by omega)]; exact upd_s) upd_s upd_s (Or.inl ⟨by omega, by rw [upd_n (by omega), upd_n (by omega), upd_s], by rw [upd_n (by omega), upd_n (by omega), z3 _ (by omega) (by omega), z3 _ (by omega) (by omega)]⟩) (Or.inl ⟨by omega, by rw [upd_n (by omega), upd_s], by rw [upd_n (by omega), upd_n (by omega), z3 _ (by omega) (by omega), z3 _ (by omega) (by omega)]⟩) tb
  rw [if_neg i3', ord_rest (by omega) (by omega)]
  have x0 : ¬ (if i = 0 then 1 else 2 : Int32) ≤ 0 := by split <;> decide
  rw [l76_sum0 x0]
  have o1 := osum (n := n) (v := 0) (k := 8 * n + 1) (us := us) (nl := nl) (nc := nc) (fau := fau) (pi := pi) (op := op) (ncl := nI (n + 1)) (fh := (upd (upd (upd (upd (upd fh (5 * n + 0) (nI i)) (5 * n + 1) 1) (5 * n + 2) (-1)) (5 * n + 3) (-1)) (5 * n + 4) (-1))) (fc := fc) (fo := fo) (fa := fa) (fp := fp) (fq := fq) (fod := upd f8 (8 * n) (nI i)) hR hn (by omega) (by omega) hQ (by omega) (by omega) hnl (Lp (α := KCl9) (E_w_clause_l76 (nI n) 0 (nI L) fb (if i = 0 then 1 else 2)) (fun _ _ _ _ _ _ _ _ _ => ((0, 0, 0, 0, 0, 0, 0, fun _ => 0, fun _ => 0) : KW9)) (1 + 1 + 1)) _ rfl _ rfl
  generalize E_v_readSum (nI (8 * n + 1)) (nI L) mn.1 mn.2.1 mn.2.2.1 mn.2.2.2 fau 0 1 (nI (n + 1)) (nI nc) (nI nl) pi op ft fo fa fp fq wd we (upd f8 (8 * n) (nI i)) = R1 at o1 ⊢
  dsimp only
  rcases o1 with ⟨n1, q', n2, n3, n4⟩ | ⟨p1, c1, m1, us1, nl1, nc1, fc1, fo1, fa1, fp1, fq1, e1, e2, e3, e4, e5, e6, e7, e8⟩
  · have bb := j125_badR (ta := nI L) (ord := 1) (v := nI i) (x := nI (8 * n)) (x1 := nI (n + 1)) (ft := ft) (fwd := wd) (fwe := we) R1 n3 n4
    exact Or.inl ⟨n1, q', n2, bb.1, bb.2⟩
  have hp1 := e3.1
  rw [e1]
  subst e4
  dsimp only
  by_cases i0 : i = 0
  · subst i0
    rw [if_pos rfl, j125_o, Lp_s]
    have tb := times_both (n := n) (us := us1) (nl := nl1) (nc := nc1) (fau := fau) (pi := nI 0) (op := nI 0) (x := 1) (v := nI (0 + 1)) (fh := upd (upd (upd (upd (upd (upd fh (5 * n + 0) (nI 0)) (5 * n + 1) 1) (5 * n + 2) (-1)) (5 * n + 3) (-1)) (5 * n + 4) (-1)) (5 * n + (2 + 0)) (nI us)) (fc := fc1) (fo := fo1) (fa := fa1) (fp := fp1) (fq := fq1) (fod := upd (upd (upd f8 (8 * n) (nI 0)) (8 * n + 1) (nI nc)) (8 * n + 1 + 1) (nI nc1)) hR (by decide) e3 e7.2.1 e7.2.2.2.1 e7.2.2.2.2.2 hn (by rw [upd_n (by omega), upd_n (by omega), upd_n (by omega), upd_n (by omega), upd_s]) (Lp (α := KCl9) (E_w_clause_l76 (nI n) 0 (nI L) fb 1) (fun _ _ _ _ _ _ _ _ _ => ((0, 0, 0, 0, 0, 0, 0, fun _ => 0, fun _ => 0) : KW9)) (1 + 1)) _ rfl _ rfl
    exact ord_fin hK (by omega) (by omega) (by omega) (by omega) e5 e6 (fun j hj => by rw [upd_n (by omega), upd_n (by omega), upd_n (by omega), upd_n (by omega), upd_n (by omega), upd_n (by omega)]) (fun j hj => by rw [upd_n (by omega), upd_n (by omega), upd_n (by omega)]; exact z2 j (by omega)) (by rw [upd_n (by omega), upd_n (by omega), upd_n (by omega), upd_n (by omega), upd_n (by omega)]; exact upd_s) (by rw [upd_n (by omega), upd_n (by omega), upd_s]) (by rw [upd_n (by omega), upd_s]) (Or.inr ⟨by omega, (by rw [show 5 * n + 2 = 5 * n + (2 + 0) by omega, upd_s, upd_n (by omega), upd_s, show 8 * n + 2 = 8 * n + 1 + 1 by omega, upd_s]; exact e8)⟩) (Or.inl ⟨by omega, by rw [upd_n (by omega), upd_n (by omega), upd_s], by rw [upd_n (by omega), upd_n (by omega), upd_n (by omega), z3 _ (by omega) (by omega), upd_n (by omega), upd_n (by omega), upd_n (by omega), z3 _ (by omega) (by omega)]⟩) tb
  have i12 : i = 1 ∨ i = 2 := by omega
  rw [if_neg i0, Lp_s, show nI (0 + 1) = nI 1 from rfl]
  have fr1 := TkP.froms (tf := c1.1) (tt := c1.2.1) (ti := c1.2.2.1) (tu := c1.2.2.2) (fr := m1.1) (to := m1.2.1) (so := m1.2.2.1) (wo := m1.2.2.2) e3
  rcases tk_one (k := 2) (c := 89) (tf := c1.1) (tt := c1.2.1) (ti := c1.2.2.1) (tu := c1.2.2.2) (fr := m1.1) (to := m1.2.1) (so := m1.2.2.1) (wo := m1.2.2.2) (by omega) (by omega) rfl (by decide +kernel) e3 (nI L) with ⟨f0, w1, pl1⟩ | ⟨f0, w0⟩
  case inr =>
    rw [l76_by_n f0]
    have bb := j125_no (ta := nI L) (ord := 1) (x := nI (8 * n)) (x1 := nI (n + 1)) (ft := ft) (fwd := wd) (fwe := we) (fr := m1.1) (to := m1.2.1) (so := m1.2.2.1) (wo := m1.2.2.2) (fau := fau) (nc := nI nc1) (nl := nI nl1) (pi := nI 0) (opn := nI 0) (fo := fo1) (fa := fa1) (fp := fp1) (fq := fq1) (fod := upd (upd (upd f8 (8 * n) (nI i)) (8 * n + 1) (nI nc)) (8 * n + 1 + 1) (nI nc1)) i12 w0
    exact Or.inl ⟨rfl, p1, fr1.1, bb.1.trans fr1.2.1, bb.2⟩
  obtain ⟨r, r1, r2, hR2⟩ := kx_next hR e3
  have hrL := hR2.1
  have rp := r2 pl1
  rw [l76_by_p f0, j125_by (by omega) i12 w1]
  have o2 := osum (n := n) (v := 1) (k := 8 * n + 3) (us := us1) (nl := nl1) (nc := nc1) (fau := fau) (pi := nI 0) (op := nI 0) (ncl := nI (n + 1)) (fh := upd (upd (upd (upd (upd (upd fh (5 * n + 0) (nI i)) (5 * n + 1) 1) (5 * n + 2) (-1)) (5 * n + 3) (-1)) (5 * n + 4) (-1)) (5 * n + (2 + 0)) (nI us)) (fc := fc1) (fo := fo1) (fa := fa1) (fp := fp1) (fq := fq1) (fod := upd (upd (upd f8 (8 * n) (nI i)) (8 * n + 1) (nI nc)) (8 * n + 1 + 1) (nI nc1)) hR hn (by omega) (by omega) hR2 (by omega) (by omega) e7.2.2.2.2.2 (Lp (α := KCl9) (E_w_clause_l76 (nI n) 0 (nI L) fb 2) (fun _ _ _ _ _ _ _ _ _ => ((0, 0, 0, 0, 0, 0, 0, fun _ => 0, fun _ => 0) : KW9)) (1 + 1)) _ rfl _ rfl
  generalize E_v_readSum (nI (8 * n + 3)) (nI L) (E_v_next (nI L) m1.1 m1.2.1 m1.2.2.1 m1.2.2.2 ft).1 (E_v_next (nI L) m1.1 m1.2.1 m1.2.2.1 m1.2.2.2 ft).2.1 (E_v_next (nI L) m1.1 m1.2.1 m1.2.2.1 m1.2.2.2 ft).2.2.1 (E_v_next (nI L) m1.1 m1.2.1 m1.2.2.1 m1.2.2.2 ft).2.2.2 fau 0 1 (nI (n + 1)) (nI nc1) (nI nl1) (nI 0) (nI 0) ft fo1 fa1 fp1 fq1 wd we (upd (upd (upd f8 (8 * n) (nI i)) (8 * n + 1) (nI nc)) (8 * n + 1 + 1) (nI nc1)) = R2 at o2 ⊢
  dsimp only
  rcases o2 with ⟨n1, q', n2, n3, n4⟩ | ⟨p2, c2, m2, us2, nl2, nc2, fc2, fo2, fa2, fp2, fq2, b1, b2, b3, b4, b5, b6, b7, b8⟩
  · have bb := j160_badR (ta := nI L) (ord := 1) (x := nI (8 * n)) (x1 := nI (n + 1)) (ft := ft) (fwd := wd) (fwe := we) R2 n3 n4
    exact Or.inl ⟨n1, q', n2, bb.1, bb.2⟩
  have hp2 := b3.1
  rw [b1]
  subst b4
  dsimp only
  rw [Lp_s]
  have tb := times_both (n := n) (us := us2) (nl := nl2) (nc := nc2) (fau := fau) (pi := nI 0) (op := nI 0) (x := 2) (v := nI (1 + 1)) (fh := upd (upd (upd (upd (upd (upd (upd fh (5 * n + 0) (nI i)) (5 * n + 1) 1) (5 * n + 2) (-1)) (5 * n + 3) (-1)) (5 * n + 4) (-1)) (5 * n + (2 + 0)) (nI us)) (5 * n + (2 + 1)) (nI us1)) (fc := fc2) (fo := fo2) (fa := fa2) (fp := fp2) (fq := fq2) (fod := upd (upd (upd (upd (upd f8 (8 * n) (nI i)) (8 * n + 1) (nI nc)) (8 * n + 1 + 1) (nI nc1)) (8 * n + 3) (nI nc1)) (8 * n + 3 + 1) (nI nc2)) hR (by decide) b3 b7.2.1 b7.2.2.2.1 b7.2.2.2.2.2 hn (by rw [upd_n (by omega), upd_n (by omega), upd_n (by omega), upd_n (by omega), upd_n (by omega), upd_s]) (Lp (α := KCl9) (E_w_clause_l76 (nI n) 0 (nI L) fb 2) (fun _ _ _ _ _ _ _ _ _ => ((0, 0, 0, 0, 0, 0, 0, fun _ => 0, fun _ => 0) : KW9)) (1)) _ rfl _ rfl
  have e8' : KSs 1 us2 nc2 fc2 fo2 fa2 (nI us) (nI nc) (nI nc1) := e8.ext (by omega) (by omega) b5 b6
  exact ord_fin hK (by omega) (by omega) (by omega) (by omega) (fun j hj => (b5 j (by omega)).trans (e5 j hj)) (fun j hj => ⟨(b6 j (by omega)).1.trans (e6 j hj).1, (b6 j (by omega)).2.trans (e6 j hj).2⟩) (fun j hj => by rw [upd_n (by omega), upd_n (by omega), upd_n (by omega), upd_n (by omega), upd_n (by omega), upd_n (by omega), upd_n (by omega)]) (fun j hj => by rw [upd_n (by omega), upd_n (by omega), upd_n (by omega), upd_n (by omega), upd_n (by omega)]; exact z2 j (by omega)) (by rw [upd_n (by omega), upd_n (by omega), upd_n (by omega), upd_n (by omega), upd_n (by omega), upd_n (by omega)]; exact upd_s) (by rw [upd_n (by omega), upd_n (by omega), upd_n (by omega), upd_n (by omega), upd_s]) (by rw [upd_n (by omega), upd_n (by omega), upd_s]) (Or.inr ⟨by omega, (by rw [upd_n (by omega), show 5 * n + 2 = 5 * n + (2 + 0) by omega, upd_s, upd_n (by omega), upd_n (by omega), upd_n (by omega), upd_s, upd_n (by omega), upd_n (by omega), show 8 * n + 2 = 8 * n + 1 + 1 by omega, upd_s]; exact e8')⟩) (Or.inr ⟨by omega, (by rw [show 5 * n + 3 = 5 * n + (2 + 1) by omega, upd_s, upd_n (by omega), upd_s, show 8 * n + 4 = 8 * n + 3 + 1 by omega, upd_s]; exact b8)⟩) tb
end
section
/-! all of the orders are read alike -/
noncomputable abbrev KO (α : Type) : Type := Int32 → Int32 → Int32 → Int64 → Int32 → Int32 → Int32 → Int32 → Int32 → Int32 → Int32 → (Nat → Int32) → (Nat → Int32) → (Nat → Int32) → (Nat → Int32) → (Nat → Int32) → α
/-- what comes of it: the same fault, or the same orders -/
noncomputable def KReo {α : Type} (B : KO α → KO α) (z0 : KO α) (fau : Int32) (r : KW11) (R : α) : Prop :=
  (r.1 = 0 ∧ ∃ (q : Nat) (a b c : Int32) (e : Int64) (n1 n2 n3 n4 n5 : Int32) (h1 h2 h3 h4 h5 : Nat → Int32), r.2.2.1 = nI q ∧ R = B z0 a b c e (nI q) 1 n1 n2 n3 n4 n5 h1 h2 h3 h4 h5) ∨
  ∃ (n us nc nl : Nat) (t1 t2 t3 t4 a b c : Int32) (e : Int64) (pi op : Int32) (fh fc fo fa fp fq fod : Nat → Int32), r = (1, nI nl, -1, t1, t2, t3, t4, nI n, nI us, fh, fc) ∧ R = B z0 a b c e fau 0 (nI n) (nI nc) (nI nl) pi op fo fa fp fq fod ∧ c = 0 ∧ (1 ≤ n ∧ n ≤ 12 ∧ us ≤ 800 ∧ nc ≤ 400 ∧ nl ≤ 50) ∧ KOrs n us nc fh fod fc fo fa
theorem aft_ord {α : Type} {L : Nat} {fb ft : Nat → Int32} {wd we fac : Nat → Int64} (hR : KRy L fb ft wd we) (hh : ∀ j, j < 4 → (fac j).toInt = kwh 1 j) (zc : KL45) (B : KO α → KO α) (z0 zr : KO α) (hbad : ∀ (rc : KO α) (a b c : Int32) (e : Int64) (fau n1 n2 n3 n4 n5 : Int32) (h1 h2 h3 h4 h5 : Nat → Int32), B rc a b c e fau 1 n1 n2 n3 n4 n5 h1 h2 h3 h4 h5 = B z0 a b c e fau 1 n1 n2 n3 n4 n5 h1 h2 h3 h4 h5) (hend : ∀ (rc : KO α) (a b c : Int32) (e : Int64) (fau n1 n2 n3 n4 n5 : Int32) (h1 h2 h3 h4 h5 : Nat → Int32), c = 0 → E_v_isSign 59 c e = 0 → B rc a b c e fau 0 n1 n2 n3 n4 n5 h1 h2 h3 h4 h5 = B z0 a b c e fau 0 n1 n2 n3 n4 n5 h1 h2 h3 h4 h5) (hstop : ∀ (rc : KO α) (a b c : Int32) (e : Int64) (fau n1 n2 n3 n4 n5 : Int32) (h1 h2 h3 h4 h5 : Nat → Int32), c ≠ 0 → E_v_isSign 59 c e = 0 → B rc a b c e fau 0 n1 n2 n3 n4 n5 h1 h2 h3 h4 h5 = B z0 a b c e a 1 n1 n2 n3 n4 n5 h1 h2 h3 h4 h5) (hsep : ∀ (rc : KO α) (a b c : Int32) (e : Int64) (fau n1 n2 n3 n4 n5 : Int32) (h1 h2 h3 h4 h5 : Nat → Int32), E_v_isSign 59 c e = 1 → B rc a b c e fau 0 n1 n2 n3 n4 n5 h1 h2 h3 h4 h5 = (fun R : KR16 => rc R.1 R.2.1 R.2.2.1 R.2.2.2.1 R.2.2.2.2.1 R.2.2.2.2.2.1 R.2.2.2.2.2.2.1 R.2.2.2.2.2.2.2.1 R.2.2.2.2.2.2.2.2.1 R.2.2.2.2.2.2.2.2.2.1 R.2.2.2.2.2.2.2.2.2.2.1 R.2.2.2.2.2.2.2.2.2.2.2.1 R.2.2.2.2.2.2.2.2.2.2.2.2.1 R.2.2.2.2.2.2.2.2.2.2.2.2.2.1 R.2.2.2.2.2.2.2.2.2.2.2.2.2.2.1 R.2.2.2.2.2.2.2.2.2.2.2.2.2.2.2) (E_v_readOrder (nI L) (E_v_next (nI L) a b c e ft).1 (E_v_next (nI L) a b c e ft).2.1 (E_v_next (nI L) a b c e ft).2.2.1 (E_v_next (nI L) a b c e ft).2.2.2 fau 0 1 n1 n2 n3 n4 n5 ft h1 h2 h3 h4 wd we h5 fac)) : ∀ (d n p us nl nc : Nat) (c : KT4) (m : KM4) (fh fc fod fo fa fp fq : Nat → Int32) (fau pi op : Int32) (F : Nat), n + d = 12 → 1 ≤ n → TkP fb L p c m → us ≤ 2 * p → nc ≤ p → nl ≤ 50 → KOrs n us nc fh fod fc fo fa → 2 * (401 - p) + 2 ≤ F →
    KReo B z0 fau (cAft 0 L n fb zc (nI nl) c.1 c.2.1 c.2.2.1 c.2.2.2 (nI us) fh fc) (Lp (α := KO α) B zr F m.1 m.2.1 m.2.2.1 m.2.2.2 fau 0 (nI n) (nI nc) (nI nl) pi op fo fa fp fq fod) := by
  intro d
  induction d with
  | zero =>
    intro n p us nl nc c m fh fc fod fo fa fp fq fau pi op F hd hn hT hus hnc hnl hK hF
    have hn12 : n = 12 := by omega
    have hpL := hT.1
    have hL := hT.2.1
    have fr := TkP.froms (tf := c.1) (tt := c.2.1) (ti := c.2.2.1) (tu := c.2.2.2) (fr := m.1) (to := m.2.1) (so := m.2.2.1) (wo := m.2.2.2) hT
    unfold cAft
    rcases tk_sign (c := 59) (tf := c.1) (tt := c.2.1) (ti := c.2.2.1) (tu := c.2.2.2) (fr := m.1) (to := m.2.1) (so := m.2.2.1) (wo := m.2.2.2) (by decide) hT with ⟨s1, s2, s3⟩ | ⟨s1, s2⟩
    · obtain ⟨q, q1, q2, hQ⟩ := kx_next hR hT
      have frq := TkP.froms (tf := (E_w_step (nI L) c.1 c.2.1 c.2.2.1 c.2.2.2 fb).1) (tt := (E_w_step (nI L) c.1 c.2.1 c.2.2.1 c.2.2.2 fb).2.1) (ti := (E_w_step (nI L) c.1 c.2.1 c.2.2.1 c.2.2.2 fb).2.2.1) (tu := (E_w_step (nI L) c.1 c.2.1 c.2.2.1 c.2.2.2 fb).2.2.2) (fr := (E_v_next (nI L) m.1 m.2.1 m.2.2.1 m.2.2.2 ft).1) (to := (E_v_next (nI L) m.1 m.2.1 m.2.2.1 m.2.2.2 ft).2.1) (so := (E_v_next (nI L) m.1 m.2.1 m.2.2.1 m.2.2.2 ft).2.2.1) (wo := (E_v_next (nI L) m.1 m.2.1 m.2.2.1 m.2.2.2 ft).2.2.2) hQ
      rw [if_neg (by rw [s1]; decide), if_pos s1, j112_at hn (by omega), rd_2 zc (by omega) (Or.inl hn12), j125_0, show F = (F - 2 + 1) + 1 by omega, Lp_s, hsep _ _ _ _ _ _ _ _ _ _ _ _ _ _ _ _ s2]
      have w4 : (∃ i, i < 4 ∧ E_v_isWord (fac i) (E_v_next (nI L) m.1 m.2.1 m.2.2.1 m.2.2.2 ft).2.2.1 (E_v_next (nI L) m.1 m.2.1 m.2.2.1 m.2.2.2 ft).2.2.2 = 1 ∧ ∀ j, j < 4 → j ≠ i → E_v_isWord (fac j) (E_v_next (nI L) m.1 m.2.1 m.2.2.1 m.2.2.2 ft).2.2.1 (E_v_next (nI L) m.1 m.2.1 m.2.2.1 m.2.2.2 ft).2.2.2 = 0) ∨ ∀ j, j < 4 → E_v_isWord (fac j) (E_v_next (nI L) m.1 m.2.1 m.2.2.1 m.2.2.2 ft).2.2.1 (E_v_next (nI L) m.1 m.2.1 m.2.2.1 m.2.2.2 ft).2.2.2 = 0 := by
        rcases tk_four (k := 1) (Or.inr rfl) hh hQ (nI L) with ⟨i, i1, _, _, i4, i5⟩ | ⟨_, i2⟩
        · exact Or.inl ⟨i, i1, i4, i5⟩
        · exact Or.inr i2
      rw [hn12, ord_full w4]
      dsimp only
      rw [Lp_s, hbad]
      exact Or.inl ⟨rfl, q, _, _, _, _, _, _, _, _, _, _, _, _, _, _, frq.1, by rw [frq.2.1]⟩
    · rcases tk_end (tf := c.1) (tt := c.2.1) (ti := c.2.2.1) (tu := c.2.2.2) (fr := m.1) (to := m.2.1) (so := m.2.2.1) (wo := m.2.2.2) hT with ⟨t1, t2, t3⟩ | ⟨t1, t2, t3⟩
      · rw [if_pos t2, j112_at hn (by omega), rd_2 zc (by omega) (Or.inr rfl), j125_1, show F = F - 1 + 1 by omega, Lp_s, hend _ _ _ _ _ _ _ _ _ _ _ _ _ _ _ _ t3 s2]
        exact Or.inr ⟨n, us, nc, nl, _, _, _, _, _, _, _, _, _, _, _, _, _, _, _, _, _, rfl, rfl, t3, ⟨hn, by omega, by omega, by omega, hnl⟩, hK⟩
      · rw [if_neg t2, if_neg s1, j125_0, show F = F - 1 + 1 by omega, Lp_s, hstop _ _ _ _ _ _ _ _ _ _ _ _ _ _ _ _ t3 s2]
        exact Or.inl ⟨rfl, p, _, _, _, _, _, _, _, _, _, _, _, _, _, _, fr.1, by rw [fr.2.1]⟩
  | succ d ih =>
    intro n p us nl nc c m fh fc fod fo fa fp fq fau pi op F hd hn hT hus hnc hnl hK hF
    have hpL := hT.1
    have hL := hT.2.1
    have fr := TkP.froms (tf := c.1) (tt := c.2.1) (ti := c.2.2.1) (tu := c.2.2.2) (fr := m.1) (to := m.2.1) (so := m.2.2.1) (wo := m.2.2.2) hT
    unfold cAft
    rcases tk_sign (c := 59) (tf := c.1) (tt := c.2.1) (ti := c.2.2.1) (tu := c.2.2.2) (fr := m.1) (to := m.2.1) (so := m.2.2.1) (wo := m.2.2.2) (by decide) hT with ⟨s1, s2, s3⟩ | ⟨s1, s2⟩
    · obtain ⟨q, q1, q2, hQ⟩ := kx_next hR hT
      have qp := q2 s3
      have hqL := hQ.1
      rw [if_neg (by rw [s1]; decide), if_pos s1, j112_at hn (by omega), rd_1 zc (by omega), show F = (F - 1) + 1 by omega, Lp_s, hsep _ _ _ _ _ _ _ _ _ _ _ _ _ _ _ _ s2]
      have lc := ord_clause hR hh (fau := fau) (pi := pi) (op := op) (scl := nI n) (fh := fh) (fc := fc) (fod := fod) (fo := fo) (fa := fa) (fp := fp) (fq := fq) (us := us) (nl := nl) (nc := nc) (n := n) hQ (by omega) (by omega) hnl (by omega) hK
      generalize E_w_clause (nI n) 0 (nI nl) (nI L) (E_w_step (nI L) c.1 c.2.1 c.2.2.1 c.2.2.2 fb).1 (E_w_step (nI L) c.1 c.2.1 c.2.2.1 c.2.2.2 fb).2.1 (E_w_step (nI L) c.1 c.2.1 c.2.2.1 c.2.2.2 fb).2.2.1 (E_w_step (nI L) c.1 c.2.1 c.2.2.1 c.2.2.2 fb).2.2.2 fb (nI n) (nI us) fh fc = r at lc ⊢
      generalize E_v_readOrder (nI L) (E_v_next (nI L) m.1 m.2.1 m.2.2.1 m.2.2.2 ft).1 (E_v_next (nI L) m.1 m.2.1 m.2.2.1 m.2.2.2 ft).2.1 (E_v_next (nI L) m.1 m.2.1 m.2.2.1 m.2.2.2 ft).2.2.1 (E_v_next (nI L) m.1 m.2.1 m.2.2.1 m.2.2.2 ft).2.2.2 fau 0 1 (nI n) (nI nc) (nI nl) pi op ft fo fa fp fq wd we fod fac = X at lc ⊢
      dsimp only
      rcases lc with ⟨n1, q', n2, n3, n4⟩ | ⟨p', c', m', us', nl', n2, fh', fc', fo2, fa2, fp2, fq2, fod', pi', op', e1, e2, e3, e4, e5, e6⟩
      · rw [if_pos n1, j125_0, n4, n3, show F - 1 = (F - 2) + 1 by omega, Lp_s, hbad]
        exact Or.inl ⟨rfl, q', _, _, _, _, _, _, _, _, _, _, _, _, _, _, n2, rfl⟩
      · subst e1
        subst e4
        dsimp only
        rw [if_neg (show ¬ (1 : Int32) = 0 by decide)]
        exact ih (n + 1) p' us' nl' n2 c' m' fh' fc' fod' fo2 fa2 fp2 fq2 fau pi' op' (F - 1) (by omega) (by omega) e3 e5.1 e5.2.1 e5.2.2 e6 (by omega)
    · rcases tk_end (tf := c.1) (tt := c.2.1) (ti := c.2.2.1) (tu := c.2.2.2) (fr := m.1) (to := m.2.1) (so := m.2.2.1) (wo := m.2.2.2) hT with ⟨t1, t2, t3⟩ | ⟨t1, t2, t3⟩
      · rw [if_pos t2, j112_at hn (by omega), rd_2 zc (by omega) (Or.inr rfl), j125_1, show F = F - 1 + 1 by omega, Lp_s, hend _ _ _ _ _ _ _ _ _ _ _ _ _ _ _ _ t3 s2]
        exact Or.inr ⟨n, us, nc, nl, _, _, _, _, _, _, _, _, _, _, _, _, _, _, _, _, _, rfl, rfl, t3, ⟨hn, by omega, by omega, by omega, hnl⟩, hK⟩
      · rw [if_neg t2, if_neg s1, j125_0, show F = F - 1 + 1 by omega, Lp_s, hstop _ _ _ _ _ _ _ _ _ _ _ _ _ _ _ _ t3 s2]
        exact Or.inl ⟨rfl, p, _, _, _, _, _, _, _, _, _, _, _, _, _, _, fr.1, by rw [fr.2.1]⟩
/-! the reference's loop over orders -/
theorem l19_bad {sta nu ta lw bro dn me ofm : Int32} {val sm : Int64} {ft fw fu fs fb2 fub fsb frf : Nat → Int32} {fwd fwe fac fe frs fnw : Nat → Int64} (rc z0 : KO _) (a b c : Int32) (e : Int64) (fau n1 n2 n3 n4 n5 : Int32) (h1 h2 h3 h4 h5 : Nat → Int32) : (E_v_orders_l19 sta nu ta lw bro val sm dn me ofm ft fwd fwe fac fw fe frs fu fs fb2 fnw fub fsb frf) rc a b c e fau 1 n1 n2 n3 n4 n5 h1 h2 h3 h4 h5 = (E_v_orders_l19 sta nu ta lw bro val sm dn me ofm ft fwd fwe fac fw fe frs fu fs fb2 fnw fub fsb frf) z0 a b c e fau 1 n1 n2 n3 n4 n5 h1 h2 h3 h4 h5 := by
  rw [E_v_orders_l19.eq_def, E_v_orders_l19.eq_def, if_neg (by decide), if_neg (by decide)]
theorem l19_end {sta nu ta lw bro dn me ofm : Int32} {val sm : Int64} {ft fw fu fs fb2 fub fsb frf : Nat → Int32} {fwd fwe fac fe frs fnw : Nat → Int64} (rc z0 : KO _) (a b c : Int32) (e : Int64) (fau n1 n2 n3 n4 n5 : Int32) (h1 h2 h3 h4 h5 : Nat → Int32) (h : E_v_isSign 59 c e = 0) : (E_v_orders_l19 sta nu ta lw bro val sm dn me ofm ft fwd fwe fac fw fe frs fu fs fb2 fnw fub fsb frf) rc a b c e fau 0 n1 n2 n3 n4 n5 h1 h2 h3 h4 h5 = (E_v_orders_l19 sta nu ta lw bro val sm dn me ofm ft fwd fwe fac fw fe frs fu fs fb2 fnw fub fsb frf) z0 a b c e fau 0 n1 n2 n3 n4 n5 h1 h2 h3 h4 h5 := by
  rw [E_v_orders_l19.eq_def, E_v_orders_l19.eq_def, if_pos rfl, if_pos rfl, Lt_b, Lt_b, if_neg (by rw [h]; decide), if_neg (by rw [h]; decide)]
theorem l19_stop {sta nu ta lw bro dn me ofm : Int32} {val sm : Int64} {ft fw fu fs fb2 fub fsb frf : Nat → Int32} {fwd fwe fac fe frs fnw : Nat → Int64} (rc z0 : KO _) (a b c : Int32) (e : Int64) (fau n1 n2 n3 n4 n5 : Int32) (h1 h2 h3 h4 h5 : Nat → Int32) (h0 : c ≠ 0) (h : E_v_isSign 59 c e = 0) : (E_v_orders_l19 sta nu ta lw bro val sm dn me ofm ft fwd fwe fac fw fe frs fu fs fb2 fnw fub fsb frf) rc a b c e fau 0 n1 n2 n3 n4 n5 h1 h2 h3 h4 h5 = (E_v_orders_l19 sta nu ta lw bro val sm dn me ofm ft fwd fwe fac fw fe frs fu fs fb2 fnw fub fsb frf) z0 a b c e a 1 n1 n2 n3 n4 n5 h1 h2 h3 h4 h5 := by
  rw [E_v_orders_l19.eq_def, E_v_orders_l19.eq_def, if_pos rfl, if_neg (show ¬ (1 : Int32) = 0 by decide), Lt_b, if_neg (by rw [h]; decide), et_more h0, et_bad]
  simp only [Lt2]
  rw [if_neg (show ¬ (1 : Int32) = 0 by decide), if_neg (show ¬ (1 : Int32) = 0 by decide)]
theorem l19_sep {sta nu ta lw bro dn me ofm : Int32} {val sm : Int64} {ft fw fu fs fb2 fub fsb frf : Nat → Int32} {fwd fwe fac fe frs fnw : Nat → Int64} (rc : KO _) (a b c : Int32) (e : Int64) (fau n1 n2 n3 n4 n5 : Int32) (h1 h2 h3 h4 h5 : Nat → Int32) (h : E_v_isSign 59 c e = 1) : (E_v_orders_l19 sta nu ta lw bro val sm dn me ofm ft fwd fwe fac fw fe frs fu fs fb2 fnw fub fsb frf) rc a b c e fau 0 n1 n2 n3 n4 n5 h1 h2 h3 h4 h5 = (fun R : KR16 => rc R.1 R.2.1 R.2.2.1 R.2.2.2.1 R.2.2.2.2.1 R.2.2.2.2.2.1 R.2.2.2.2.2.2.1 R.2.2.2.2.2.2.2.1 R.2.2.2.2.2.2.2.2.1 R.2.2.2.2.2.2.2.2.2.1 R.2.2.2.2.2.2.2.2.2.2.1 R.2.2.2.2.2.2.2.2.2.2.2.1 R.2.2.2.2.2.2.2.2.2.2.2.2.1 R.2.2.2.2.2.2.2.2.2.2.2.2.2.1 R.2.2.2.2.2.2.2.2.2.2.2.2.2.2.1 R.2.2.2.2.2.2.2.2.2.2.2.2.2.2.2) (E_v_readOrder ta (E_v_next ta a b c e ft).1 (E_v_next ta a b c e ft).2.1 (E_v_next ta a b c e ft).2.2.1 (E_v_next ta a b c e ft).2.2.2 fau 0 1 n1 n2 n3 n4 n5 ft h1 h2 h3 h4 fwd fwe h5 fac) := by
  rw [E_v_orders_l19.eq_def, if_pos rfl, Lt_b, if_pos h, Lt2_b, Lt2_b, Lt2_b]
  generalize E_v_readOrder ta (E_v_next ta a b c e ft).1 (E_v_next ta a b c e ft).2.1 (E_v_next ta a b c e ft).2.2.1 (E_v_next ta a b c e ft).2.2.2 fau 0 1 n1 n2 n3 n4 n5 ft h1 h2 h3 h4 fwd fwe h5 fac = R
  rfl
/-- ORDERS ARE READ ALIKE -/
theorem reads_ord {L : Nat} {fb ft fw fu fs fb2 fub fsb frf fh fc fo fa fp fq fod : Nat → Int32} {fwd fwe fac fe frs fnw : Nat → Int64} {lwc pa fl tf tt ti tu scl us thr sta nu fr to so fau bd ncl nc nl pi opn lw bro dn me sto ofm : Int32} {wo val sm : Int64} (hR : KRy L fb ft fwd fwe) (h0 : ∀ j, j < L → 0 ≤ (fb j).toInt) (hh : ∀ j, j < 4 → (fac j).toInt = kwh 1 j) (z0 : KO _) : KReo (E_v_orders_l19 sta nu (nI L) lw bro val sm dn me ofm ft fwd fwe fac fw fe frs fu fs fb2 fnw fub fsb frf) z0 (-1) (E_w_reads 0 lwc pa fl (nI L) tf tt ti tu fb scl us fh fc) (E_v_orders thr sta nu (nI L) fr to so wo fau bd ncl nc nl pi opn lw bro val sm dn me sto ofm ft fo fa fp fq fwd fwe fod fac fw fe frs fu fs fb2 fnw fub fsb frf) := by
  have hL := hR.1
  have zz : (0 : Int32).toInt = 0 := rfl
  obtain ⟨q, hQ⟩ := tk_start hL h0 hR.2.1 (fr2 := tf) (fi2 := ti) (nu2 := tu) (fr3 := fr) (so3 := so) (wo3 := wo)
  have e1 : E_w_reads 0 lwc pa fl (nI L) tf tt ti tu fb scl us fh fc = Lp (α := KL45) (E_w_reads_l45 0 (nI L) fb) (fun _ _ _ _ _ _ _ _ _ _ _ => ((0, 0, 0, 0, 0, 0, 0, 0, 0, fun _ => 0, fun _ => 0) : KW11)) (14 - 0) (nI 0) 0 (nI 0) 0 (nI 0) (E_w_step (nI L) tf 0 ti tu fb).1 (E_w_step (nI L) tf 0 ti tu fb).2.1 (E_w_step (nI L) tf 0 ti tu fb).2.2.1 (E_w_step (nI L) tf 0 ti tu fb).2.2.2 fh fc := by
    rw [E_w_reads.eq_def, Lt2_b, Lt2_b, Lt2_b]; rfl
  have eb : E_v_beginText 1 (nI L) fr to so wo fau bd 0 ncl nc nl ft = E_v_next (nI L) fr 0 so wo ft := by
    rw [E_v_beginText.eq_def, E_v_begin.eq_def]; rfl
  rw [e1, rd_1 _ (by omega), E_v_orders.eq_def, eb, Lt2_b, Lt2_b, Lt2_b]
  have lc := ord_clause hR hh (n := 0) (us := 0) (nl := 0) (nc := 0) (fau := -1) (pi := pi) (op := opn) (scl := 0) (fh := fh) (fc := fc) (fod := fod) (fo := fo) (fa := fa) (fp := fp) (fq := fq) hQ (Nat.zero_le _) (Nat.zero_le _) (by omega) (by omega) (fun i hi => absurd hi (Nat.not_lt_zero _))
  change KClo L 0 fb q (-1) _ (E_v_readOrder (nI L) (E_v_next (nI L) fr 0 so wo ft).1 (E_v_next (nI L) fr 0 so wo ft).2.1 (E_v_next (nI L) fr 0 so wo ft).2.2.1 (E_v_next (nI L) fr 0 so wo ft).2.2.2 (-1) 0 1 0 0 0 pi opn ft fo fa fp fq fwd fwe fod fac) at lc
  generalize E_w_clause (nI 0) 0 (nI 0) (nI L) (E_w_step (nI L) tf 0 ti tu fb).1 (E_w_step (nI L) tf 0 ti tu fb).2.1 (E_w_step (nI L) tf 0 ti tu fb).2.2.1 (E_w_step (nI L) tf 0 ti tu fb).2.2.2 fb 0 (nI 0) fh fc = r at lc ⊢
  generalize E_v_readOrder (nI L) (E_v_next (nI L) fr 0 so wo ft).1 (E_v_next (nI L) fr 0 so wo ft).2.1 (E_v_next (nI L) fr 0 so wo ft).2.2.1 (E_v_next (nI L) fr 0 so wo ft).2.2.2 (-1) 0 1 0 0 0 pi opn ft fo fa fp fq fwd fwe fod fac = X at lc ⊢
  generalize hB : E_v_orders_l19 sta nu (nI L) lw bro val sm dn me ofm ft fwd fwe fac fw fe frs fu fs fb2 fnw fub fsb frf = B
  have b1 := fun rc => @l19_bad sta nu (nI L) lw bro dn me ofm val sm ft fw fu fs fb2 fub fsb frf fwd fwe fac fe frs fnw rc z0
  have b2 := fun rc a b c e fau n1 n2 n3 n4 n5 h1 h2 h3 h4 h5 (_ : c = 0) => @l19_end sta nu (nI L) lw bro dn me ofm val sm ft fw fu fs fb2 fub fsb frf fwd fwe fac fe frs fnw rc z0 a b c e fau n1 n2 n3 n4 n5 h1 h2 h3 h4 h5
  have b3 := fun rc => @l19_stop sta nu (nI L) lw bro dn me ofm val sm ft fw fu fs fb2 fub fsb frf fwd fwe fac fe frs fnw rc z0
  have b4 := @l19_sep sta nu (nI L) lw bro dn me ofm val sm ft fw fu fs fb2 fub fsb frf fwd fwe fac fe frs fnw
  rw [hB] at b1 b2 b3 b4
  simp only [Lt2]
  rcases lc with ⟨n1, q', n2, n3, n4⟩ | ⟨p', c', m', us', nl', n2, fh', fc', fo2, fa2, fp2, fq2, fod', pi', op', x1, x2, x3, x4, x5, x6⟩
  · rw [if_pos n1, j125_0, n4, n3, Lp_s, b1]
    exact Or.inl ⟨rfl, q', _, _, _, _, _, _, _, _, _, _, _, _, _, _, n2, rfl⟩
  · subst x1
    subst x4
    have hp' := x3.1
    have frp := TkP.froms (tf := c'.1) (tt := c'.2.1) (ti := c'.2.2.1) (tu := c'.2.2.2) (fr := m'.1) (to := m'.2.1) (so := m'.2.2.1) (wo := m'.2.2.2) x3
    dsimp only
    rw [if_neg (show ¬ (1 : Int32) = 0 by decide)]
    exact aft_ord hR hh _ B z0 _ b1 b2 b3 b4 11 1 p' us' nl' n2 c' m' fh' fc' fod' fo2 fa2 fp2 fq2 (-1) pi' op' _ (by omega) (by omega) x3 x5.1 x5.2.1 x5.2.2 x6 (by rw [frp.2.1, nI_toInt (by omega), zz]; omega)
end
section
/-! law(), class and reference -/
theorem rel_law {L : Nat} {fb ft fw frm frf fh fc fo fa fp fq fcl : Nat → Int32} {wd we fhd : Nat → Int64} {fd : Nat → Option Nat} {rb lw pa fl tf tt ti tu scl us lt thr sta fr to so fau bd ncl nc nl pi opn : Int32} {wo : Int64} {r1 b1 lw' pa' fl' tf' tt' ti' tu' scl' us' lt' r2 s2 fr' to' so' fau' bd' ncl' nc' nl' pi' op' : Int32} {wo' : Int64} {g1 fh' fc' fo' fa' fp' fq' fcl' fw' g2 : Nat → Int32} (k1 : (r1, b1, g1, lw', pa', fl', tf', tt', ti', tu', scl', us', fh', fc', lt') = E_w_law rb frf lw pa fl (nI L) tf tt ti tu fb scl us fh fc lt fd) (k2 : (r2, s2, fr', to', so', wo', fau', bd', ncl', nc', nl', pi', op', fo', fa', fp', fq', fcl', fw', g2) = E_v_law thr sta (nI L) fr to so wo fau bd ncl nc nl pi opn ft fo fa fp fq wd we fcl fhd fw frm) (hR : KRy L fb ft wd we) (h0 : ∀ j, j < L → 0 ≤ (fb j).toInt) (hh : ∀ j, j < 4 → (fhd j).toInt = kwh 0 j) (hl : fw 2 = lt) (h6 : 0 ≤ lt.toInt ∧ lt.toInt ≤ 6) (hf : fl = fau) :
    r1 = r2 ∧ fw' 2 = lt' ∧ fl' = fau' ∧ (∀ j, j ≠ 2 → j < 100 → fw' j = fw j) ∧ ((lt' = lt ∧ fw' = fw) ∨ ∃ t : Nat, t < 6 ∧ lt = nI t ∧ lt' = nI (t + 1) ∧ r1 = nI t ∧ (∀ j, j ≠ 2 → j < 100 + 900 * t ∨ 100 + 900 * t + 900 ≤ j → fw' j = fw j) ∧ ∀ x : LC, TrX scl' us' fh' fc' x → KLaw x (ktx fw' (100 + 900 * t))) := by
  have z6 : (6 : Int32).toInt = 6 := rfl
  obtain ⟨t, ht, hz⟩ : ∃ t : Nat, lt = nI t ∧ (t : Int) = lt.toInt := ⟨lt.toInt.toNat, i_ofN rfl h6.1, by omega⟩
  by_cases c : lt < 6
  · have ct := il_iff.mp c
    have n6 : fw 2 ≠ 6 := fun q => by rw [hl] at q; rw [q] at ct; omega
    have kr := reads_law (lw := lw) (pa := pa) (fl := fl) (tf := tf) (tt := tt) (ti := ti) (tu := tu) (scl := scl) (us := us) (fh := fh) (fc := fc) (thr := thr) (sta := sta) (fr := fr) (to := to) (so := so) (wo := wo) (fau := fau) (bd := bd) (ncl := ncl) (nc := nc) (nl := nl) (pi := pi) (opn := opn) (fo := fo) (fa := fa) (fp := fp) (fq := fq) (fcl := fcl) (frf := frm) hR h0 hh n6
    rw [← k2] at kr
    rw [E_w_law.eq_def, if_pos c] at k1
    generalize E_w_reads 1 lw pa fl (nI L) tf tt ti tu fb scl us fh fc = r at k1 kr
    rcases kr with ⟨n1, q, a, b, c', e, m1, m2, m3, m4, m5, x1, x2, x3, x4, x5, n2, eqx⟩ | ⟨n, us1, nc1, nl1, t1, t2, t3, t4, a, b, e, pi1, op1, fh1, fc1, fo1, fa1, fp1, fq1, fcl1, e1, e2, e3, e4⟩
    · simp only [Lt2] at k1
      rw [if_pos n1] at k1
      simp only [Prod.mk.injEq] at k1 eqx
      obtain ⟨a1, _, _, _, _, a6, _, _, _, _, _, _, _, _, a15⟩ := k1
      obtain ⟨b1', _, _, _, _, _, b7, _, _, _, _, _, _, _, _, _, _, _, b19, _⟩ := eqx
      refine ⟨?_, ?_, ?_, fun j _ _ => by rw [b19], Or.inl ⟨a15, b19⟩⟩
      · rw [a1, refuse_1, b1', tell_1]
      · rw [b19, a15]; exact hl
      · rw [a6, b7]; exact n2
    · subst e1
      obtain ⟨fw1, d1, d2, d3, d4, d5, d6⟩ := racc_at (sta := sta) (a := a) (b := b) (fau := -1) (pi := pi1) (op := op1) (e := e) (nl := nI nl1) (frf := frm) (fo := fo1) (fa := fa1) (fp := fp1) (fq := fq1) (fcl := fcl1) (hl.trans ht) (show t < 6 by omega) e3.2.1 e3.2.2.2.1
      rw [d1] at e2
      rw [E_w_enact.eq_def, if_pos c] at k1
      simp only [Lt2, Lt] at k1
      rw [if_neg (show ¬ (1 : Int32) = 0 by decide), E_w_accept.eq_def, ht, kn_p1 (by omega), kn_m1 (by omega) (by omega), show t + 1 - 1 = t by omega] at k1
      simp only [Prod.mk.injEq] at k1 e2
      obtain ⟨a1, _, _, _, _, a6, _, _, _, _, a11, a12, a13, a14, a15⟩ := k1
      obtain ⟨b1', _, _, _, _, _, b7, _, _, _, _, _, _, _, _, _, _, _, b19, _⟩ := e2
      refine ⟨?_, ?_, ?_, fun j h1 h2 => ?_, Or.inr ⟨t, by omega, ht, a15, a1, fun j h1 h2 => ?_, fun x hx => ?_⟩⟩
      · rw [a1, b1', tell_1]
      · rw [b19, d2, a15]
      · rw [a6, b7]
      · rw [b19]; exact d3 j h1 (by omega)
      · rw [b19]; exact d3 j h1 h2
      · rw [a11, a12, a13, a14] at hx
        rw [b19]
        refine law_text e4 e3.2.1 e3.2.2.1 e3.2.2.2.1 hx d4 (fun j hj => ?_) (fun j hj => ?_)
        · unfold ktx
          rw [show 100 + 900 * t + (2 + j) = 100 + 900 * t + 2 + j by omega]; exact d5 j hj
        · unfold ktx
          rw [show 100 + 900 * t + (98 + 2 * j) = 100 + 900 * t + 98 + 2 * j by omega, show 100 + 900 * t + (98 + 2 * j + 1) = 100 + 900 * t + 98 + 2 * j + 1 by omega]; exact d6 j hj
  · have ct : ¬ lt.toInt < (6 : Int32).toInt := fun q => c (il_iff.mpr q)
    have e6 : fw (2 : Int32).toNatClampNeg = 6 := by
      show fw 2 = 6
      rw [hl]; exact Int32.toInt_inj.mp (by omega)
    rw [E_w_law.eq_def, if_neg c] at k1
    rw [E_v_law.eq_def, Lt_b, if_pos e6] at k2
    simp only [Lt2] at k1 k2
    simp only [Prod.mk.injEq] at k1 k2
    obtain ⟨a1, _, _, _, _, a6, _, _, _, _, _, _, _, _, a15⟩ := k1
    obtain ⟨b1', _, _, _, _, _, b7, _, _, _, _, _, _, _, _, _, _, _, b19, _⟩ := k2
    refine ⟨?_, ?_, ?_, fun j _ _ => by rw [b19], Or.inl ⟨a15, b19⟩⟩
    · rw [a1, refuse_1, b1', tell_1]
    · rw [b19, a15]; exact hl
    · rw [a6, b7]; exact hf
end
section
/-! loops that write one array, place by place -/
noncomputable def kitf (d : Nat → Nat) (s : Nat → (Nat → Int32) → Int32) (f : Nat → Int32) (k : Nat) : Nat → Int32 := match k with
  | 0 => f
  | k + 1 => upd (kitf d s f k) (d k) (s k (kitf d s f k))
theorem lp_it {α : Type} {N : Nat} {B : (Int32 → (Nat → Int32) → α) → Int32 → (Nat → Int32) → α} {d : Nat → Nat} {s : Nat → (Nat → Int32) → Int32} (hB : ∀ (rc : Int32 → (Nat → Int32) → α) (i : Nat) (f : Nat → Int32), i < N → B rc (nI i) f = rc (nI (i + 1)) (upd f (d i) (s i f))) (z : Int32 → (Nat → Int32) → α) (f : Nat → Int32) : ∀ (k F i : Nat), i + k = N → Lp B z (F + k) (nI i) (kitf d s f i) = Lp B z F (nI N) (kitf d s f N) := by
  intro k
  induction k with
  | zero => intro F i h; rw [show i = N by omega, Nat.add_zero]
  | succ k ih =>
    intro F i h
    rw [show F + (k + 1) = F + k + 1 by omega, Lp_s, hB _ _ _ (by omega)]
    exact ih F (i + 1) (by omega)
theorem kitf_cp {s : Nat → Int32} {a : Nat} {f : Nat → Int32} : ∀ k j, kitf (fun i => a + i) (fun i _ => s i) f k j = if a ≤ j ∧ j < a + k then s (j - a) else f j := by
  intro k
  induction k with
  | zero => intro j; rw [if_neg (by omega)]; rfl
  | succ k ih =>
    intro j
    show upd (kitf (fun i => a + i) (fun i _ => s i) f k) (a + k) (s k) j = _
    by_cases h : j = a + k
    · rw [upd_e h, if_pos (by omega), show j - a = k by omega]
    · rw [upd_n h, ih]
      by_cases h2 : a ≤ j ∧ j < a + k
      · rw [if_pos h2, if_pos (by omega)]
      · rw [if_neg h2, if_neg (by omega)]
theorem kitf_sh {e : Nat} (he : 1 ≤ e) {f : Nat → Int32} : ∀ k j, kitf (fun i => i) (fun i g => g (i + e)) f k j = if j < k then f (j + e) else f j := by
  intro k
  induction k with
  | zero => intro j; rw [if_neg (by omega)]; rfl
  | succ k ih =>
    intro j
    show upd (kitf (fun i => i) (fun i g => g (i + e)) f k) k (kitf (fun i => i) (fun i g => g (i + e)) f k (k + e)) j = _
    rw [ih (k + e), if_neg (by omega)]
    by_cases h : j = k
    · rw [upd_e h, if_pos (by omega), h]
    · rw [upd_n h, ih]
      by_cases h2 : j < k
      · rw [if_pos h2, if_pos (by omega)]
      · rw [if_neg h2, if_neg (by omega)]
/-! small sums of places -/
theorem n_ladd {c : Int32} {m i : Nat} (hc : c.toInt = (m : Int)) (h : m + i < 1000000) : c + nI i = nI (m + i) := Int32.toInt_inj.mp (by
  rw [i_add hc (nI_toInt (by omega)) (by omega), nI_toInt (by omega)]; omega)
theorem n_addl {c : Int32} {m i : Nat} (hc : c.toInt = (m : Int)) (h : m + i < 1000000) : nI i + c = nI (i + m) := Int32.toInt_inj.mp (by
  rw [i_add (nI_toInt (by omega)) hc (by omega), nI_toInt (by omega)]; omega)
theorem n_add {i j : Nat} (h : i + j < 1000000) : nI i + nI j = nI (i + j) := Int32.toInt_inj.mp (by
  rw [i_add (nI_toInt (by omega)) (nI_toInt (by omega)) (by omega), nI_toInt (by omega)]; omega)
theorem n_31 {k : Nat} (h : k < 1000) : (31 : Int32) * nI k = nI (31 * k) := Int32.toInt_inj.mp (by
  rw [i_mul (show (31 : Int32).toInt = 31 from rfl) (nI_toInt (by omega)) (by omega), nI_toInt (by omega)]; omega)
theorem n_28 {k : Nat} (h : k < 1000) : nI k * (28 : Int32) = nI (28 * k) := Int32.toInt_inj.mp (by
  rw [i_mul (nI_toInt (by omega)) (show (28 : Int32).toInt = 28 from rfl) (by omega), nI_toInt (by omega)]; omega)
theorem n_8r {k : Nat} (h : k < 1000) : nI k * (8 : Int32) = nI (8 * k) := Int32.toInt_inj.mp (by
  rw [i_mul (nI_toInt (by omega)) (show (8 : Int32).toInt = 8 from rfl) (by omega), nI_toInt (by omega)]; omega)
theorem nI_lit {c : Int32} {m : Nat} (hc : c.toInt = (m : Int)) (h : m < 1000000) : c = nI m := Int32.toInt_inj.mp (by rw [hc, nI_toInt (by omega)])
theorem rd_at {f : Nat → Int32} {c : Int32} {j : Nat} (h : c = nI j) (hj : j < 1000000) : f c.toNatClampNeg = f j := by rw [h, kn_cl (by omega)]
/-! the reference's snaps -/
theorem keepAll_at {k : Nat} (hk : k ≤ 17) {fw fu : Nat → Int32} (j : Nat) : E_v_keepAll (nI k) fw fu j = if 31 * k ≤ j ∧ j < 31 * k + 31 then fw (4 + (j - 31 * k)) else fu j := by
  have hB : ∀ (rc : Int32 → (Nat → Int32) → (Nat → Int32)) (i : Nat) (f : Nat → Int32), i < 31 → E_v_keepAll_l2 (nI k) fw rc (nI i) f = rc (nI (i + 1)) (upd f (31 * k + i) (fw (4 + i))) := fun rc i f hi => by
    rw [E_v_keepAll_l2.eq_def, if_neg (kn_nlel (j := 31) rfl (by omega) hi), Lt_b, Lt_b, Lt_b, Lt_b, Lt_b, Lt_b, kn_po (by omega), n_31 (by omega), n_add (by omega), n_ladd (m := 4) rfl (by omega), kn_cl (by omega), kn_cl (by omega)]
  have q := lp_it hB (fun _ _ => ((fun _ => 0) : Nat → Int32)) fu 31 2 0 rfl
  have e : E_v_keepAll (nI k) fw fu = kitf (fun i => 31 * k + i) (fun i _ => fw (4 + i)) fu 31 := by
    refine Eq.trans (show E_v_keepAll (nI k) fw fu = Lp (α := Int32 → (Nat → Int32) → ((Nat → Int32))) (E_v_keepAll_l2 (nI k) fw) (fun _ _ => ((fun _ => 0) : Nat → Int32)) (2 + 31) (nI 0) fu from rfl) (q.trans ?_)
    rw [Lp_s, E_v_keepAll_l2.eq_def, if_pos (kn_lel (j := 31) rfl (by omega) (Nat.le_refl _))]
  rw [e, kitf_cp]
theorem putBack_at {k : Nat} (hk : k ≤ 17) {fw fu : Nat → Int32} (j : Nat) : E_v_putBack (nI k) fw fu j = if 4 ≤ j ∧ j < 35 then fu (31 * k + (j - 4)) else fw j := by
  have hB : ∀ (rc : Int32 → (Nat → Int32) → (Nat → Int32)) (i : Nat) (f : Nat → Int32), i < 31 → E_v_putBack_l2 (nI k) fu rc (nI i) f = rc (nI (i + 1)) (upd f (4 + i) (fu (31 * k + i))) := fun rc i f hi => by
    rw [E_v_putBack_l2.eq_def, if_neg (kn_nlel (j := 31) rfl (by omega) hi), Lt_b, Lt_b, Lt_b, Lt_b, Lt_b, Lt_b, kn_po (by omega), n_31 (by omega), n_add (by omega), n_ladd (m := 4) rfl (by omega), kn_cl (by omega), kn_cl (by omega)]
  have q := lp_it hB (fun _ _ => ((fun _ => 0) : Nat → Int32)) fw 31 2 0 rfl
  have e : E_v_putBack (nI k) fw fu = kitf (fun i => 4 + i) (fun i _ => fu (31 * k + i)) fw 31 := by
    refine Eq.trans (show E_v_putBack (nI k) fw fu = Lp (α := Int32 → (Nat → Int32) → ((Nat → Int32))) (E_v_putBack_l2 (nI k) fu) (fun _ _ => ((fun _ => 0) : Nat → Int32)) (2 + 31) (nI 0) fw from rfl) (q.trans ?_)
    rw [Lp_s, E_v_putBack_l2.eq_def, if_pos (kn_lel (j := 31) rfl (by omega) (Nat.le_refl _))]
  rw [e, kitf_cp]
theorem remember_j {k s : Nat} (hk : k < 16) {fw fu fs : Nat → Int32} : E_v_remember_j77 (nI s) fw (nI k) fu fs = (nI (k + 1), E_v_keepAll (nI k) fw fu, upd fs k (nI s)) := by
  rw [E_v_remember_j77.eq_def, Lt_b, Lt_b, Lt_b, kn_cl (by omega), kn_p1 (by omega)]
theorem remember_lt {u s : Nat} (hu : u < 16) {fw fu fs : Nat → Int32} : E_v_remember (nI s) (nI u) fw fu fs = (nI (u + 1), E_v_keepAll (nI u) fw fu, upd fs u (nI s)) := by
  rw [E_v_remember.eq_def, if_neg (kn_nz (j := 16) rfl (by omega) (by omega)), remember_j hu]
theorem remember_16 {s : Nat} {fw fu fs : Nat → Int32} : E_v_remember (nI s) (nI 16) fw fu fs = (nI 16, E_v_keepAll (nI 15) fw (kitf (fun i => i) (fun i g => g (i + 31)) fu 465), upd (kitf (fun i => i) (fun i g => g (i + 1)) fs 15) 15 (nI s)) := by
  have hB : ∀ (rc : Int32 → (Nat → Int32) → (Int32 × (Nat → Int32) × (Nat → Int32))) (i : Nat) (f : Nat → Int32), i < 465 → E_v_remember_l11 (nI s) (nI 16) fw fs rc (nI i) f = rc (nI (i + 1)) (upd f i (f (i + 31))) := fun rc i f hi => by
    rw [E_v_remember_l11.eq_def, if_neg (kn_nlel (j := 465) rfl (by omega) hi), Lt_b, Lt_b, Lt_b, Lt_b, kn_po (by omega), n_addl (m := 31) rfl (by omega), kn_cl (by omega), kn_cl (by omega)]
  have hC : ∀ (fu : Nat → Int32) (rc : Int32 → (Nat → Int32) → (Int32 × (Nat → Int32) × (Nat → Int32))) (i : Nat) (f : Nat → Int32), i < 15 → E_v_remember_l41 (nI s) (nI 16) fw fu rc (nI i) f = rc (nI (i + 1)) (upd f i (f (i + 1))) := fun fu rc i f hi => by
    rw [E_v_remember_l41.eq_def, if_neg (kn_nlel (j := 15) rfl (by omega) hi), Lt_b, Lt_b, Lt_b, Lt_b, kn_po (by omega), kn_p1 (by omega), kn_cl (by omega), kn_cl (by omega)]
  have q := lp_it hB (fun _ _ => ((0, fun _ => 0, fun _ => 0) : Int32 × (Nat → Int32) × (Nat → Int32))) fu 465 2 0 rfl
  have q2 := lp_it (hC (kitf (fun i => i) (fun i g => g (i + 31)) fu 465)) (fun _ _ => ((0, fun _ => 0, fun _ => 0) : Int32 × (Nat → Int32) × (Nat → Int32))) fs 15 2 0 rfl
  rw [E_v_remember.eq_def, if_pos (show nI 16 = 16 from rfl)]
  refine Eq.trans (show _ = Lp (α := Int32 → (Nat → Int32) → (Int32 × (Nat → Int32) × (Nat → Int32))) (E_v_remember_l11 (nI s) (nI 16) fw fs) (fun _ _ => ((0, fun _ => 0, fun _ => 0) : Int32 × (Nat → Int32) × (Nat → Int32))) (2 + 465) (nI 0) fu from by
    rw [show ((466 - (0 : Int32).toInt : Int).toNat + 1) = 2 + 465 from rfl]; rfl) (q.trans ?_)
  rw [Lp_s, E_v_remember_l11.eq_def, if_pos (kn_lel (j := 465) rfl (by omega) (Nat.le_refl _))]
  refine Eq.trans (show _ = Lp (α := Int32 → (Nat → Int32) → (Int32 × (Nat → Int32) × (Nat → Int32))) (E_v_remember_l41 (nI s) (nI 16) fw (kitf (fun i => i) (fun i g => g (i + 31)) fu 465)) (fun _ _ => ((0, fun _ => 0, fun _ => 0) : Int32 × (Nat → Int32) × (Nat → Int32))) (2 + 15) (nI 0) fs from rfl) (q2.trans ?_)
  rw [Lp_s, E_v_remember_l41.eq_def, if_pos (kn_lel (j := 15) rfl (by omega) (Nat.le_refl _)), Lt_b, kn_m1 (by omega) (by omega), remember_j (by omega)]
end
section
/-! what can be undone: the class's ring of slots, the reference's row of snaps -/
theorem kcp_pt {f g : Nat → Int32} {s d n j : Nat} : va_cpy (α := Int32) f g s d n j = if d ≤ j ∧ j < d + n then f (s + (j - d)) else g j := rfl
theorem kcp_in {f g : Nat → Int32} {s d n j : Nat} (h : d ≤ j ∧ j < d + n) : va_cpy (α := Int32) f g s d n j = f (s + (j - d)) := if_pos h
theorem kcp_out {f g : Nat → Int32} {s d n j : Nat} (h : ¬ (d ≤ j ∧ j < d + n)) : va_cpy (α := Int32) f g s d n j = g j := if_neg h
theorem n_mod17 : ∀ a, a < 40 → nI a - nI a / 17 * 17 = nI (a % 17) := by decide +kernel
/-- what stands in a slot -/
noncomputable def KSlot (g : Nat → Int32) (q : Nat) (fi a b : Int32) (f1 : Nat → Int32) : Prop := g (28 * q + 1) = fi ∧ g (28 * q + 2) = a ∧ g (28 * q + 3) = b ∧ ∀ j, j < 8 → g (28 * q + 4 + j) = f1 (16 + j) ∧ g (28 * q + 12 + j) = f1 (40 + j) ∧ g (28 * q + 20 + j) = f1 (48 + j)
theorem draft_l {d v s : Nat} {f1 g : Nat → Int32} {rc : Int32 → (Nat → Int32) → (Nat → Int32)} (hd : d ≤ 16) (hv : v < 3) (hs : E_w_changing (nI v) = nI s) (h7 : s < 7) : E_w_draft_l50 f1 (nI (28 * d)) rc (nI v) g = rc (nI (v + 1)) (va_cpy (α := Int32) f1 g (8 * s) (28 * d + 4 + 8 * v) 8) := by
  rw [E_w_draft_l50.eq_def, if_neg (kn_nlel (j := 3) rfl (by omega) hv), hs]
  simp only [Lt]
  rw [kn_po (by omega), n_8r (by omega), n_8r (by omega), n_addl (m := 4) rfl (by omega), n_add (by omega), kn_cl (by omega), kn_cl (by omega), show (8 : Int32).toNatClampNeg = 8 from rfl]
theorem draft_at {d : Nat} (hd : d ≤ 16) {f f1 f2 : Nat → Int32} {fi : Int32} : KSlot (E_w_draft (nI d) f fi f1 f2) d fi (f2 0) (f2 1) f1 ∧ ∀ j, j < 28 * d + 1 ∨ 28 * d + 28 ≤ j → E_w_draft (nI d) f fi f1 f2 j = f j := by
  obtain ⟨g, hg⟩ : ∃ g, g = upd (upd (upd f (28 * d + 1) fi) (28 * d + 2) (f2 0)) (28 * d + 3) (f2 1) := ⟨_, rfl⟩
  have e : E_w_draft (nI d) f fi f1 f2 = va_cpy (α := Int32) f1 (va_cpy (α := Int32) f1 (va_cpy (α := Int32) f1 g (8 * 2) (28 * d + 4 + 8 * 0) 8) (8 * 5) (28 * d + 4 + 8 * 1) 8) (8 * 6) (28 * d + 4 + 8 * 2) 8 := by
    rw [E_w_draft.eq_def, Lt_b, Lt_b, Lt_b, Lt_b, Lt_b, Lt_b, Lt_b, Lt_b, Lt_b]
    rw [n_28 (by omega), kn_p1 (by omega), kn_p2 (by omega), n_addl (m := 3) rfl (by omega), kn_cl (by omega), kn_cl (by omega), kn_cl (by omega), show (0 : Int32).toNatClampNeg = 0 from rfl, show (1 : Int32).toNatClampNeg = 1 from rfl, ← hg]
    rw [show ((4 - (0 : Int32).toInt : Int).toNat + 1) = 1 + 1 + 1 + 1 + 1 by decide, show (0 : Int32) = nI 0 from rfl]
    rw [Lp_s, draft_l hd (show 0 < 3 by omega) (s := 2) rfl (by omega), Lp_s, draft_l hd (show 0 + 1 < 3 by omega) (s := 5) rfl (by omega), Lp_s, draft_l hd (show 0 + 1 + 1 < 3 by omega) (s := 6) rfl (by omega), Lp_s, E_w_draft_l50.eq_def, if_pos (show (3 : Int32) ≤ nI (0 + 1 + 1 + 1) by decide)]
  rw [e]
  refine ⟨⟨?_, ?_, ?_, fun j hj => ⟨?_, ?_, ?_⟩⟩, fun j hj => ?_⟩
  · rw [kcp_out (by omega), kcp_out (by omega), kcp_out (by omega), hg, upd_n (by omega), upd_n (by omega), upd_s]
  · rw [kcp_out (by omega), kcp_out (by omega), kcp_out (by omega), hg, upd_n (by omega), upd_s]
  · rw [kcp_out (by omega), kcp_out (by omega), kcp_out (by omega), hg, upd_s]
  · rw [kcp_out (by omega), kcp_out (by omega), kcp_in (by omega)]
    exact congrArg f1 (by omega)
  · rw [kcp_out (by omega), kcp_in (by omega)]
    exact congrArg f1 (by omega)
  · rw [kcp_in (by omega)]
    exact congrArg f1 (by omega)
  · rw [kcp_out (by omega), kcp_out (by omega), kcp_out (by omega), hg, upd_n (by omega), upd_n (by omega), upd_n (by omega)]
theorem keep_at {d u s : Nat} (hd : d ≤ 16) (hu : u ≤ 16) {f : Nat → Int32} : E_w_keep (nI s) (nI d) (nI u) f = (nI ((d + 1) % 17), nI (min 16 (u + 1)), upd f (28 * d) (nI s)) := by
  rw [E_w_keep.eq_def]
  simp only [Lt]
  rw [n_28 (by omega), kn_p1 (by omega), kn_p1 (by omega), kn_cl (by omega), n_mod17 _ (by omega)]
  by_cases h : u + 1 < 16
  · rw [if_pos (kn_ltl (j := 16) rfl (by omega) h), show min 16 (u + 1) = u + 1 by omega]
  · rw [if_neg (kn_nltl (j := 16) rfl (by omega) (by omega)), show min 16 (u + 1) = 16 by omega]
    rfl
theorem tb_l {q v s : Nat} {f f6 g : Nat → Int32} {kp dr fi : Int32} {rc : Int32 → (Nat → Int32) → (Int32 × Int32 × Int32 × Int32 × (Nat → Int32) × (Nat → Int32))} (hq : q ≤ 16) (hv : v < 3) (hs : (v = 0 ∧ s = 2) ∨ (v = 1 ∧ s = 5) ∨ (v = 2 ∧ s = 6)) : E_w_takeBack_l85 f kp dr (nI (28 * q)) fi f6 rc (nI v) g = rc (nI (v + 1)) (va_cpy (α := Int32) f g (28 * q + 4 + 8 * v) (8 * s) 8) := by
  rw [E_w_takeBack_l85.eq_def, if_neg (kn_nlel (j := 3) rfl (by omega) hv)]
  simp only [Lt]
  rw [kn_po (by omega), n_8r (by omega), n_addl (m := 4) rfl (by omega), n_add (by omega), kn_cl (by omega), show (8 : Int32).toNatClampNeg = 8 from rfl]
  rcases hs with ⟨rfl, rfl⟩ | ⟨rfl, rfl⟩ | ⟨rfl, rfl⟩
  · rw [if_pos (show E_w_changingX (nI 0) = 2 by decide)]; rfl
  · rw [if_neg (show ¬ E_w_changingX (nI 1) = 2 by decide), if_pos (show E_w_changingX (nI 1) = 5 by decide)]; rfl
  · rw [if_neg (show ¬ E_w_changingX (nI 2) = 2 by decide), if_neg (show ¬ E_w_changingX (nI 2) = 5 by decide)]; rfl
theorem takeBack_at {d u : Nat} (hd : d ≤ 16) (hu : u < 16) {f f1 f2 : Nat → Int32} {fi : Int32} : ∃ g1, E_w_takeBack (nI d) (nI (u + 1)) f fi f1 f2 = (f (28 * ((d + 16) % 17)), nI ((d + 16) % 17), nI u, f (28 * ((d + 16) % 17) + 1), g1, upd (upd f2 0 (f (28 * ((d + 16) % 17) + 2))) 1 (f (28 * ((d + 16) % 17) + 3))) ∧
    (∀ j, j < 8 → g1 (16 + j) = f (28 * ((d + 16) % 17) + 4 + j) ∧ g1 (40 + j) = f (28 * ((d + 16) % 17) + 12 + j) ∧ g1 (48 + j) = f (28 * ((d + 16) % 17) + 20 + j)) ∧ ∀ j, (j < 16 ∨ (24 ≤ j ∧ j < 40) ∨ 56 ≤ j) → g1 j = f1 j := by
  obtain ⟨q, hq⟩ : ∃ q, q = (d + 16) % 17 := ⟨_, rfl⟩
  have q16 : q ≤ 16 := by omega
  rw [← hq]
  refine ⟨va_cpy (α := Int32) f (va_cpy (α := Int32) f (va_cpy (α := Int32) f f1 (28 * q + 4 + 8 * 0) (8 * 2) 8) (28 * q + 4 + 8 * 1) (8 * 5) 8) (28 * q + 4 + 8 * 2) (8 * 6) 8, ?_, fun j hj => ⟨?_, ?_, ?_⟩, fun j hj => ?_⟩
  · rw [E_w_takeBack.eq_def, if_neg (kn_nz (j := 0) rfl (by omega) (by omega)), Lt_b, Lt_b, Lt_b, Lt_b, Lt_b, Lt_b, Lt_b, Lt_b, Lt_b, Lt_b, Lt_b, Lt_b, Lt_b]
    rw [kn_m1 (by omega) (by omega), n_addl (m := 17) rfl (by omega), kn_m1 (by omega) (by omega), show d + 17 - 1 = d + 16 by omega, show u + 1 - 1 = u by omega, n_mod17 _ (by omega), ← hq, n_28 (by omega), kn_p1 (by omega), kn_p2 (by omega), n_addl (m := 3) rfl (by omega), kn_cl (by omega), kn_cl (by omega), kn_cl (by omega), show (0 : Int32).toNatClampNeg = 0 from rfl, show (1 : Int32).toNatClampNeg = 1 from rfl]
    rw [show ((4 - (0 : Int32).toInt : Int).toNat + 1) = 1 + 1 + 1 + 1 + 1 by decide, show (0 : Int32) = nI 0 from rfl]
    rw [Lp_s, tb_l q16 (by omega) (Or.inl ⟨rfl, rfl⟩), Lp_s, tb_l q16 (by omega) (Or.inr (Or.inl ⟨rfl, rfl⟩)), Lp_s, tb_l q16 (by omega) (Or.inr (Or.inr ⟨rfl, rfl⟩)), Lp_s, E_w_takeBack_l85.eq_def, if_pos (show (3 : Int32) ≤ nI (0 + 1 + 1 + 1) by decide), Lt_b, kn_cl (by omega)]
  · rw [kcp_out (by omega), kcp_out (by omega), kcp_in (by omega)]
    exact congrArg f (by omega)
  · rw [kcp_out (by omega), kcp_in (by omega)]
    exact congrArg f (by omega)
  · rw [kcp_in (by omega)]
    exact congrArg f (by omega)
  · rw [kcp_out (by omega), kcp_out (by omega), kcp_out (by omega)]
/-- ranges of what a snap holds -/
noncomputable def KRg (g : Nat → Int32) : Prop := (0 ≤ (g 4).toInt ∧ (g 4).toInt ≤ 23) ∧ (0 ≤ (g 5).toInt ∧ (g 5).toInt ≤ 999) ∧ (1 ≤ (g 6).toInt ∧ (g 6).toInt ≤ 20) ∧ (1 ≤ (g 7).toInt ∧ (g 7).toInt ≤ 20) ∧ (0 ≤ (g 8).toInt ∧ (g 8).toInt ≤ 10) ∧ (0 ≤ (g 9).toInt ∧ (g 9).toInt ≤ 9) ∧ (0 ≤ (g 10).toInt ∧ (g 10).toInt ≤ 99999) ∧ ∀ j, j < 8 → (0 ≤ (g (11 + j)).toInt ∧ (g (11 + j)).toInt ≤ 20) ∧ (0 ≤ (g (19 + j)).toInt ∧ (g (19 + j)).toInt ≤ 999) ∧ (0 ≤ (g (27 + j)).toInt ∧ (g (27 + j)).toInt ≤ 9999)
theorem KRg.ext {g f : Nat → Int32} (h : KRg g) (e : ∀ j, 4 ≤ j → j < 35 → f j = g j) : KRg f := by
  obtain ⟨a1, a2, a3, a4, a5, a6, a7, a8⟩ := h
  refine ⟨?_, ?_, ?_, ?_, ?_, ?_, ?_, fun j hj => ?_⟩
  · rw [e 4 (by omega) (by omega)]; exact a1
  · rw [e 5 (by omega) (by omega)]; exact a2
  · rw [e 6 (by omega) (by omega)]; exact a3
  · rw [e 7 (by omega) (by omega)]; exact a4
  · rw [e 8 (by omega) (by omega)]; exact a5
  · rw [e 9 (by omega) (by omega)]; exact a6
  · rw [e 10 (by omega) (by omega)]; exact a7
  · rw [e _ (by omega) (by omega), e _ (by omega) (by omega), e _ (by omega) (by omega)]; exact a8 j hj
noncomputable def snf (fu : Nat → Int32) (i : Nat) : Nat → Int32 := fun j => if j < 40 then fu (31 * i + 15 + (j - 16)) else if j < 48 then fu (31 * i + 7 + (j - 40)) else fu (31 * i + 23 + (j - 48))
theorem snf_c {fu : Nat → Int32} {i j : Nat} (h : j < 8) : snf fu i (16 + j) = fu (31 * i + (15 + j)) := by
  unfold snf; rw [if_pos (by omega)]; exact congrArg fu (by omega)
theorem snf_f {fu : Nat → Int32} {i j : Nat} (h : j < 8) : snf fu i (40 + j) = fu (31 * i + (7 + j)) := by
  unfold snf; rw [if_neg (by omega), if_pos (by omega)]; exact congrArg fu (by omega)
theorem snf_w {fu : Nat → Int32} {i j : Nat} (h : j < 8) : snf fu i (48 + j) = fu (31 * i + (23 + j)) := by
  unfold snf; rw [if_neg (by omega), if_neg (by omega)]; exact congrArg fu (by omega)
/-- one snap, both sides: the class's slot q, the reference's snap i; n houses; fw: the row now -/
noncomputable def HE (n : Int32) (sl fu fs fw : Nat → Int32) (q i : Nat) : Prop := (sl (28 * q) = fs i ∧ KSlot sl q (fu (31 * i + 6)) (fu (31 * i)) (fu (31 * i + 1)) (snf fu i)) ∧
  (∀ j, 2 ≤ j → j < 6 → fu (31 * i + j) = fw (4 + j)) ∧ (∃ s : Nat, s < 4 ∧ fs i = nI s) ∧ (∀ h : Nat, n.toInt ≤ (h : Int) → h < 8 → fu (31 * i + 7 + h) = 0 ∧ fu (31 * i + 23 + h) = 0) ∧ KRg (fun j => fu (31 * i + (j - 4)))
/-- the whole history -/
noncomputable def HR (n dr kp nu : Int32) (sl fu fs fw : Nat → Int32) : Prop := ∃ d u : Nat, (d ≤ 16 ∧ u ≤ 16) ∧ dr = nI d ∧ kp = nI u ∧ nu = nI u ∧ ∀ i, i < u → HE n sl fu fs fw ((d + 17 - u + i) % 17) i
theorem HE.ext {n : Int32} {sl fu fs fw sl' fu' fs' fw' : Nat → Int32} {q i i' : Nat} (h : HE n sl fu fs fw q i) (h1 : ∀ j, 28 * q ≤ j → j < 28 * q + 28 → sl' j = sl j) (h2 : ∀ j, j < 31 → fu' (31 * i' + j) = fu (31 * i + j)) (h3 : fs' i' = fs i) (h4 : ∀ j, 6 ≤ j → j < 10 → fw' j = fw j) : HE n sl' fu' fs' fw' q i' := by
  obtain ⟨⟨a0, a1, a2, a3, a4⟩, b, ⟨s, s1, s2⟩, c, e⟩ := h
  have k0 := h2 0 (by omega)
  rw [Nat.add_zero, Nat.add_zero] at k0
  refine ⟨⟨?_, ?_, ?_, ?_, fun j hj => ⟨?_, ?_, ?_⟩⟩, fun j hj hk => ?_, ⟨s, s1, h3.trans s2⟩, fun k hk h8 => ⟨?_, ?_⟩, e.ext (fun j hj hk => h2 _ (by omega))⟩
  · rw [h1 _ (by omega) (by omega), h3]; exact a0
  · rw [h1 _ (by omega) (by omega), h2 6 (by omega)]; exact a1
  · rw [h1 _ (by omega) (by omega), k0]; exact a2
  · rw [h1 _ (by omega) (by omega), h2 1 (by omega)]; exact a3
  · rw [h1 _ (by omega) (by omega), (a4 j hj).1, snf_c hj, snf_c hj, h2 _ (by omega)]
  · rw [h1 _ (by omega) (by omega), (a4 j hj).2.1, snf_f hj, snf_f hj, h2 _ (by omega)]
  · rw [h1 _ (by omega) (by omega), (a4 j hj).2.2, snf_w hj, snf_w hj, h2 _ (by omega)]
  · rw [h2 j (by omega), h4 _ (by omega) (by omega)]; exact b j hj hk
  · rw [Nat.add_assoc, h2 _ (by omega), ← Nat.add_assoc]; exact (c k hk h8).1
  · rw [Nat.add_assoc, h2 _ (by omega), ← Nat.add_assoc]; exact (c k hk h8).2
theorem HR.clear {n n' dr kp nu : Int32} {sl fu fs fw sl' fu' fs' fw' : Nat → Int32} (h : HR n dr kp nu sl fu fs fw) : HR n' dr 0 0 sl' fu' fs' fw' := by
  obtain ⟨d, u, ⟨h1, h2⟩, h3, h4, h5, h6⟩ := h
  exact ⟨d, 0, ⟨h1, by omega⟩, h3, rfl, rfl, fun i hi => by omega⟩
theorem HR.zero : HR 0 0 0 0 (fun _ => 0) (fun _ => 0) (fun _ => 0) (fun _ => 0) := ⟨0, 0, ⟨by omega, by omega⟩, rfl, rfl, rfl, fun i hi => by omega⟩
theorem HR.keep {n dr kp nu : Int32} {sl fu fs fw fu' fs' fw' : Nat → Int32} (h : HR n dr kp nu sl fu fs fw) (h2 : ∀ j, j < 496 → fu' j = fu j) (h3 : ∀ i, i < 16 → fs' i = fs i) (h4 : ∀ j, 6 ≤ j → j < 10 → fw' j = fw j) : HR n dr kp nu sl fu' fs' fw' := by
  obtain ⟨d, u, ⟨d1, d2⟩, e1, e2, e3, e4⟩ := h
  exact ⟨d, u, ⟨d1, d2⟩, e1, e2, e3, fun i hi => (e4 i hi).ext (fun _ _ _ => rfl) (fun j hj => h2 _ (by omega)) (h3 i (by omega)) h4⟩
end
section
/-! one more act is kept -/
/-- what changes in an hour: class and reference -/
noncomputable def KNow (n fi : Int32) (f1 f2 fw : Nat → Int32) : Prop := (∀ j, j < 6 → f2 j = fw (4 + j)) ∧ fi = fw 10 ∧ (∀ j, j < 8 → f1 (40 + j) = fw (11 + j) ∧ f1 (16 + j) = fw (19 + j) ∧ f1 (48 + j) = fw (27 + j)) ∧ (∀ h : Nat, n.toInt ≤ (h : Int) → h < 8 → fw (11 + h) = 0 ∧ fw (27 + h) = 0) ∧ KRg fw
theorem HE.new {n fi : Int32} {sl fu fs fw f1 f2 : Nat → Int32} {q i s : Nat} (h : KNow n fi f1 f2 fw) (k : KSlot sl q fi (f2 0) (f2 1) f1) (h1 : sl (28 * q) = nI s) (h2 : fs i = nI s) (h3 : s < 4) (h4 : ∀ j, j < 31 → fu (31 * i + j) = fw (4 + j)) : HE n sl fu fs fw q i := by
  obtain ⟨t1, t2, t3, t4, t5⟩ := h
  obtain ⟨a1, a2, a3, a4⟩ := k
  have k0 := h4 0 (by omega)
  rw [Nat.add_zero] at k0
  refine ⟨⟨h1.trans h2.symm, ?_, ?_, ?_, fun j hj => ⟨?_, ?_, ?_⟩⟩, fun j hj hk => h4 j (by omega), ⟨s, h3, h2⟩, fun k hk h8 => ⟨?_, ?_⟩, t5.ext (fun j h1 h2 => (h4 _ (by omega)).trans (congrArg fw (by omega)))⟩
  · rw [a1, h4 6 (by omega)]; exact t2
  · rw [a2, k0]; exact t1 0 (by omega)
  · rw [a3, h4 1 (by omega)]; exact t1 1 (by omega)
  · rw [(a4 j hj).1, (t3 j hj).2.1, snf_c hj, h4 _ (by omega)]
    exact congrArg fw (by omega)
  · rw [(a4 j hj).2.1, (t3 j hj).1, snf_f hj, h4 _ (by omega)]
    exact congrArg fw (by omega)
  · rw [(a4 j hj).2.2, (t3 j hj).2.2, snf_w hj, h4 _ (by omega)]
    exact congrArg fw (by omega)
  · rw [Nat.add_assoc, h4 _ (by omega), show 4 + (7 + k) = 11 + k by omega]; exact (t4 k hk h8).1
  · rw [Nat.add_assoc, h4 _ (by omega), show 4 + (23 + k) = 27 + k by omega]; exact (t4 k hk h8).2
theorem HR.push {n dr kp nu fi dr' kp' nu' : Int32} {sl fu fs fw f1 f2 sl' fu' fs' fw' : Nat → Int32} {s : Nat} (h : HR n dr kp nu sl fu fs fw) (hn : KNow n fi f1 f2 fw) (hs : s < 4) (k1 : (dr', kp', sl') = E_w_keep (nI s) dr kp (E_w_draft dr sl fi f1 f2)) (k2 : (nu', fu', fs') = E_v_remember (nI s) nu fw fu fs) (h4 : ∀ j, 6 ≤ j → j < 10 → fw' j = fw j) : HR n dr' kp' nu' sl' fu' fs' fw' := by
  obtain ⟨d, u, ⟨d1, d2⟩, rfl, rfl, rfl, e4⟩ := h
  obtain ⟨w1, w2⟩ := draft_at (d := d) d1 (f := sl) (f1 := f1) (f2 := f2) (fi := fi)
  rw [keep_at d1 d2] at k1
  generalize E_w_draft (nI d) sl fi f1 f2 = g at w1 w2 k1
  simp only [Prod.mk.injEq] at k1
  obtain ⟨rfl, rfl, rfl⟩ := k1
  have wn : KSlot (upd g (28 * d) (nI s)) d fi (f2 0) (f2 1) f1 := by
    obtain ⟨a1, a2, a3, a4⟩ := w1
    exact ⟨by rw [upd_n (by omega)]; exact a1, by rw [upd_n (by omega)]; exact a2, by rw [upd_n (by omega)]; exact a3, fun j hj => ⟨by rw [upd_n (by omega)]; exact (a4 j hj).1, by rw [upd_n (by omega)]; exact (a4 j hj).2.1, by rw [upd_n (by omega)]; exact (a4 j hj).2.2⟩⟩
  have oth : ∀ q, q ≠ d → ∀ j, 28 * q ≤ j → j < 28 * q + 28 → upd g (28 * d) (nI s) j = sl j := fun q hq j h1 h2 => by
    rw [upd_n (by omega)]
    exact w2 j (by omega)
  have nw : ∀ {fu2 fs2 : Nat → Int32} {i : Nat}, (∀ j, j < 31 → fu2 (31 * i + j) = fw (4 + j)) → fs2 i = nI s → HE n (upd g (28 * d) (nI s)) fu2 fs2 fw' d i := fun q1 q2 => by
    have z := HE.new hn wn upd_s q2 hs q1
    exact z.ext (fun _ _ _ => rfl) (fun _ _ => rfl) rfl h4
  by_cases c : u < 16
  · rw [remember_lt c] at k2
    simp only [Prod.mk.injEq] at k2
    obtain ⟨rfl, rfl, rfl⟩ := k2
    refine ⟨(d + 1) % 17, u + 1, ⟨by omega, by omega⟩, rfl, by rw [show min 16 (u + 1) = u + 1 by omega], rfl, fun i hi => ?_⟩
    rw [show ((d + 1) % 17 + 17 - (u + 1) + i) % 17 = (d + 17 - u + i) % 17 by omega]
    by_cases ci : i < u
    · exact (e4 i ci).ext (oth _ (by omega)) (fun j hj => by rw [keepAll_at (by omega), if_neg (by omega)]) (upd_n (by omega)) h4
    · rw [show i = u by omega, show (d + 17 - u + u) % 17 = d by omega]
      exact nw (fun j hj => by rw [keepAll_at (by omega), if_pos (by omega)]; exact congrArg fw (by omega)) upd_s
  · have cu : u = 16 := by omega
    subst cu
    rw [remember_16] at k2
    simp only [Prod.mk.injEq] at k2
    obtain ⟨rfl, rfl, rfl⟩ := k2
    refine ⟨(d + 1) % 17, 16, ⟨by omega, by omega⟩, rfl, rfl, rfl, fun i hi => ?_⟩
    rw [show ((d + 1) % 17 + 17 - 16 + i) % 17 = (d + 17 - 16 + (i + 1)) % 17 by omega]
    by_cases ci : i < 15
    · exact (e4 (i + 1) (by omega)).ext (oth _ (by omega)) (fun j hj => by rw [keepAll_at (by omega), if_neg (by omega), kitf_sh (by omega), if_pos (by omega)]; exact congrArg fu (by omega)) (by rw [upd_n (by omega), kitf_sh (by omega), if_pos (by omega)]) h4
    · rw [show i = 15 by omega, show (d + 17 - 16 + (15 + 1)) % 17 = d by omega]
      exact nw (fun j hj => by rw [keepAll_at (by omega), if_pos (by omega)]; exact congrArg fw (by omega)) upd_s
/-- a draft that isn't kept leaves the history as it was -/
theorem HR.draft {n dr kp nu fi : Int32} {sl fu fs fw f1 f2 : Nat → Int32} (h : HR n dr kp nu sl fu fs fw) : HR n dr kp nu (E_w_draft dr sl fi f1 f2) fu fs fw := by
  obtain ⟨d, u, ⟨d1, d2⟩, rfl, rfl, rfl, e4⟩ := h
  obtain ⟨w1, w2⟩ := draft_at (d := d) d1 (f := sl) (f1 := f1) (f2 := f2) (fi := fi)
  exact ⟨d, u, ⟨d1, d2⟩, rfl, rfl, rfl, fun i hi => (e4 i hi).ext (fun j h1 h2 => w2 j (by omega)) (fun _ _ => rfl) rfl (fun _ _ _ => rfl)⟩
/-! the rest of what stands in a town -/
noncomputable def TQ (b : Nat) (n lt nf fi : Int32) (f1 f2 : Nat → Int32) (fl : Nat → Option Nat) (G : Nat → LC) (fw : Nat → Int32) : Prop :=
  KNow n fi f1 f2 (fun j => fw (b + j)) ∧ lt = fw (b + 2) ∧ nf = fw (b + 3) ∧ (-1 ≤ nf.toInt ∧ nf.toInt < lt.toInt) ∧ (∀ j, j < 8 → (0 ≤ (fw (b + (35 + j))).toInt ∧ (fw (b + (35 + j))).toInt ≤ 6) ∧ 0 ≤ (fw (b + (43 + j))).toInt ∧ (fw (b + (43 + j))).toInt ≤ 3) ∧ ∀ i : Nat, (i : Int) < lt.toInt → ∃ a, fl i = some a ∧ KLaw (G a) (ktx fw (b + (100 + 900 * i)))
theorem KNow.ext {n fi : Int32} {f1 f2 fw f1' f2' fw' : Nat → Int32} (h : KNow n fi f1 f2 fw) (h1 : ∀ j, (16 ≤ j ∧ j < 24) ∨ (40 ≤ j ∧ j < 56) → f1' j = f1 j) (h2 : ∀ j, j < 6 → f2' j = f2 j) (h3 : ∀ j, 4 ≤ j → j < 35 → fw' j = fw j) : KNow n fi f1' f2' fw' := by
  obtain ⟨t1, t2, t3, t4, t5⟩ := h
  refine ⟨fun j hj => ?_, ?_, fun j hj => ⟨?_, ?_, ?_⟩, fun k hk h8 => ⟨?_, ?_⟩, t5.ext h3⟩
  · rw [h2 j hj, h3 _ (by omega) (by omega)]; exact t1 j hj
  · rw [h3 _ (by omega) (by omega)]; exact t2
  · rw [h1 _ (by omega), h3 _ (by omega) (by omega)]; exact (t3 j hj).1
  · rw [h1 _ (by omega), h3 _ (by omega) (by omega)]; exact (t3 j hj).2.1
  · rw [h1 _ (by omega), h3 _ (by omega) (by omega)]; exact (t3 j hj).2.2
  · rw [h3 _ (by omega) (by omega)]; exact (t4 k hk h8).1
  · rw [h3 _ (by omega) (by omega)]; exact (t4 k hk h8).2
/-- the same at another place, both sides copied -/
theorem TQ.move {b b' : Nat} {n lt nf fi : Int32} {f1 f2 fw f1' f2' fw' : Nat → Int32} {fl fl' : Nat → Option Nat} {G : Nat → LC} (h : TQ b n lt nf fi f1 f2 fl G fw) (h6 : 0 ≤ lt.toInt ∧ lt.toInt ≤ 6) (e : ∀ j, j < 5500 → fw' (b' + j) = fw (b + j)) (e1 : ∀ j, j < 56 → f1' j = f1 j) (e2 : ∀ j, j < 6 → f2' j = f2 j) (e3 : ∀ j, j < 6 → fl' j = fl j) : TQ b' n lt nf fi f1' f2' fl' G fw' := by
  obtain ⟨a, b1, b2, b4, b5, b3⟩ := h
  refine ⟨a.ext (fun j hj => e1 j (by omega)) e2 (fun j h1 h2 => e j (by omega)), b1.trans (e 2 (by omega)).symm, b2.trans (e 3 (by omega)).symm, b4, fun j hj => by rw [e _ (by omega), e _ (by omega)]; exact b5 j hj, fun i hi => ?_⟩
  obtain ⟨q, q1, q2⟩ := b3 i hi
  refine ⟨q, (e3 i (by omega)).trans q1, q2.ext (fun j hj => ?_)⟩
  show fw' (b' + (100 + 900 * i) + j) = fw (b + (100 + 900 * i) + j)
  rw [Nat.add_assoc b', Nat.add_assoc b, e _ (by omega)]
theorem TQ.zero {G : Nat → LC} {f1 f2 fw : Nat → Int32} (h1 : ∀ j, f1 j = 0) (h2 : ∀ j, j < 6 → f2 j = fw (4 + j)) (h3 : ∀ j, j < 3 ∨ 10 ≤ j → fw j = 0) (h4 : fw 3 = -1) (hr : KRg fw) : TQ 0 0 0 (-1) 0 f1 f2 (fun _ => none) G fw := by
  have z : ∀ j, fw j = fw (0 + j) := fun j => congrArg fw (Nat.zero_add j).symm
  have y : ∀ j, j < 3 ∨ 10 ≤ j → fw (0 + j) = 0 := fun j hj => (z j).symm.trans (h3 j hj)
  refine ⟨⟨fun j hj => (h2 j hj).trans (z _), (y 10 (by omega)).symm, fun j hj => ⟨?_, ?_, ?_⟩, fun k hk h8 => ⟨y _ (by omega), y _ (by omega)⟩, hr.ext (fun j _ _ => (z j).symm)⟩, (y 2 (by omega)).symm, (h4.symm.trans (z 3)), by decide, fun j hj => by rw [y _ (by omega), y _ (by omega)]; decide, fun i hi => ?_⟩
  · rw [h1]; exact (y _ (by omega)).symm
  · rw [h1]; exact (y _ (by omega)).symm
  · rw [h1]; exact (y _ (by omega)).symm
  · have z : (0 : Int32).toInt = 0 := rfl
    omega
end
section
/-! a law is asked, on both sides -/
noncomputable def KWo (cw fw : Nat → Int32) (h : Nat) (o : Int32) : Prop := cw 0 = nI h ∧ cw 1 = fw (35 + h) ∧ cw 2 = fw (43 + h) ∧ cw 3 = fw (11 + h) ∧ cw 4 = fw (19 + h) ∧ cw 5 = fw 4 ∧ cw 6 = fw 5 ∧ cw 7 = fw 9 ∧ cw 8 = o
noncomputable def KBd (v : Int32) : Prop := -1000000000 ≤ v.toInt ∧ v.toInt ≤ 1000000000
noncomputable def KBw (fw : Nat → Int32) (h : Nat) (o : Int32) : Prop := KBd (fw (35 + h)) ∧ KBd (fw (43 + h)) ∧ KBd (fw (11 + h)) ∧ KBd (fw (19 + h)) ∧ KBd (fw 4) ∧ KBd (fw 5) ∧ KBd (fw 9) ∧ KBd o
noncomputable def KLs (lt : Int32) (fl : Nat → Option Nat) (G : Nat → LC) (fw : Nat → Int32) : Prop := (0 ≤ lt.toInt ∧ lt.toInt ≤ 6) ∧ ∀ i : Nat, (i : Int) < lt.toInt → ∃ a, fl i = some a ∧ KLaw (G a) (ktx fw (100 + 900 * i))
theorem n_900 {k : Nat} (h : k < 100) : (900 : Int32) * nI k = nI (900 * k) := Int32.toInt_inj.mp (by
  rw [i_mul (show (900 : Int32).toInt = 900 from rfl) (nI_toInt (by omega)) (by omega), nI_toInt (by omega)]; omega)
theorem tells_at {x h : Nat} (hx : x < 6) (hh : h < 8) {w o lw bro : Int32} {v val sm : Int64} {fw : Nat → Int32} {fe frs : Nat → Int64} : ∃ fe' : Nat → Int64, (fe' 1 = (nI h).toInt64 ∧ fe' 2 = (fw (35 + h)).toInt64 ∧ fe' 3 = (fw (43 + h)).toInt64 ∧ fe' 4 = (fw (11 + h)).toInt64 ∧ fe' 5 = (fw (19 + h)).toInt64 ∧ fe' 6 = (fw 4).toInt64 ∧ fe' 7 = (fw 5).toInt64 ∧ fe' 8 = (fw 9).toInt64 ∧ fe' 9 = o.toInt64) ∧ E_v_tells (nI x) w (nI h) o v lw bro val sm fw fe frs = Lp (α := KTR) (E_v_tells_l148 w fw (nI (100 + 900 * x)) fe') (fun _ _ _ _ _ _ => ((0, 0, 0, 0, 0, fun _ => 0, fun _ => 0) : Int64 × Int32 × Int32 × Int64 × Int64 × (Nat → Int64) × (Nat → Int64))) 14 0 v bro val sm frs := by
  refine ⟨vp_updL (vp_updL (vp_updL (vp_updL (vp_updL (vp_updL (vp_updL (vp_updL (vp_updL fe 1 (nI h).toInt64) 2 (fw (35 + h)).toInt64) 3 (fw (43 + h)).toInt64) 4 (fw (11 + h)).toInt64) 5 (fw (19 + h)).toInt64) 6 (fw 4).toInt64) 7 (fw 5).toInt64) 8 (fw 9).toInt64) 9 o.toInt64, ⟨rfl, rfl, rfl, rfl, rfl, rfl, rfl, rfl, rfl⟩, ?_⟩
  rw [E_v_tells.eq_def, if_neg (fun q => by have := congrArg Int32.toInt q; rw [nI_toInt (by omega)] at this; have z : (-1 : Int32).toInt = -1 := rfl; omega)]
  rw [Lt_b, Lt_b, Lt_b, Lt_b, Lt_b, Lt_b, Lt_b, Lt_b, Lt_b, Lt_b, Lt_b, Lt_b, Lt_b, Lt_b, Lt_b, Lt_b, Lt_b, Lt_b, Lt_b, Lt_b, Lt_b, Lt_b, Lt_b, Lt_b, Lt_b, Lt_b, Lt_b, Lt_b, Lt_b, Lt_b, Lt_b]
  rw [n_900 (by omega), n_ladd (m := 100) rfl (by omega), n_ladd (m := 35) rfl (by omega), n_ladd (m := 43) rfl (by omega), n_ladd (m := 11) rfl (by omega), n_ladd (m := 19) rfl (by omega), kn_cl (by omega), kn_cl (by omega), kn_cl (by omega), kn_cl (by omega)]
  rfl
theorem KWo.wd {cw fw : Nat → Int32} {h : Nat} {o : Int32} {fe : Nat → Int64} (k : KWo cw fw h o) (hh : h < 8) (hb : KBw fw h o) (e : fe 1 = (nI h).toInt64 ∧ fe 2 = (fw (35 + h)).toInt64 ∧ fe 3 = (fw (43 + h)).toInt64 ∧ fe 4 = (fw (11 + h)).toInt64 ∧ fe 5 = (fw (19 + h)).toInt64 ∧ fe 6 = (fw 4).toInt64 ∧ fe 7 = (fw 5).toInt64 ∧ fe 8 = (fw 9).toInt64 ∧ fe 9 = o.toInt64) : KWd cw fe := by
  obtain ⟨c0, c1, c2, c3, c4, c5, c6, c7, c8⟩ := k
  obtain ⟨e1, e2, e3, e4, e5, e6, e7, e8, e9⟩ := e
  obtain ⟨b1, b2, b3, b4, b5, b6, b7, b8⟩ := hb
  have g : ∀ {a b : Int32} {c : Int64}, a = b → c = b.toInt64 → KBd b → c.toInt = a.toInt ∧ -1000000000 ≤ a.toInt ∧ a.toInt ≤ 1000000000 := fun q1 q2 q3 => ⟨by rw [q2, q1]; exact wide_at, by rw [q1]; exact q3.1, by rw [q1]; exact q3.2⟩
  intro j hj
  rcases (show j = 0 ∨ j = 1 ∨ j = 2 ∨ j = 3 ∨ j = 4 ∨ j = 5 ∨ j = 6 ∨ j = 7 ∨ j = 8 by omega) with rfl | rfl | rfl | rfl | rfl | rfl | rfl | rfl | rfl
  · exact g c0 e1 ⟨by rw [nI_toInt (by omega)]; omega, by rw [nI_toInt (by omega)]; omega⟩
  · exact g c1 e2 b1
  · exact g c2 e3 b2
  · exact g c3 e4 b3
  · exact g c4 e5 b4
  · exact g c5 e6 b5
  · exact g c6 e7 b6
  · exact g c7 e8 b7
  · exact g c8 e9 b8
/-- what the reference tells (scratch aside), within its bounds -/
noncomputable def RV (x : Int32) (w h : Nat) (o : Int32) (v : Int64) (fw : Nat → Int32) : Int := kz_cl (E_v_tells x (nI w) (nI h) o v 0 0 0 0 fw (fun _ => 0) (fun _ => 0)).1.toInt (aF 3 w).toInt
theorem kz_dflt {w : Nat} (hw : w < 4) {v : Int64} (hv : v.toInt = (aF 2 w).toInt) : kz_cl v.toInt (aF 3 w).toInt = (aF 2 w).toInt := by
  rw [hv]
  rcases (show w = 0 ∨ w = 1 ∨ w = 2 ∨ w = 3 by omega) with rfl | rfl | rfl | rfl <;> decide
/-- one asking, both sides -/
theorem ask_0 {x w h : Nat} {o : Int32} {v : Int64} {fw : Nat → Int32} {c : LC} (hx : x < 6) (hh : h < 8) (hw : w < 4) (hv : v.toInt = (aF 2 w).toInt) (hL : KLaw c (ktx fw (100 + 900 * x))) (hb : KBw fw h o) {cw : Nat → Int32} (hc : KWo cw fw h o) (lw bro : Int32) (val sm : Int64) (fe frs : Nat → Int64) :
    ∃ (t : Int64) (lw' bro' : Int32) (val' sm' : Int64) (fe' frs' : Nat → Int64), E_v_tells (nI x) (nI w) (nI h) o v lw bro val sm fw fe frs = (t, lw', bro', val', sm', fe', frs') ∧ (w = 3 → t.toInt = 0 ∨ t.toInt = 1) ∧ ∀ br fs, ∃ r br' f', E_w_told c.1 c.2.1 c.2.2.1 c.2.2.2.1 c.2.2.2.2.1 (nI w) br fs cw = (r, br', f') ∧ r.toInt = kz_cl t.toInt (aF 3 w).toInt := by
  obtain ⟨fe', e1, e2⟩ := tells_at hx hh (w := nI w) (o := o) (lw := lw) (bro := bro) (v := v) (val := val) (sm := sm) (fw := fw) (fe := fe) (frs := frs)
  rcases told_at hL hw (show 100 + 900 * x ≤ 100000 by omega) (hc.wd hh hb e1) (fun _ _ _ _ _ _ => ((0, 0, 0, 0, 0, fun _ => 0, fun _ => 0) : Int64 × Int32 × Int32 × Int64 × Int64 × (Nat → Int64) × (Nat → Int64))) with ⟨d1, d2⟩ | ⟨g, d0, d1, d2⟩
  · obtain ⟨br', vl', sm', f', q⟩ := d2 v bro val sm frs
    refine ⟨v, _, br', vl', sm', fe', f', e2.trans q, fun q3 => ?_, fun br fs => ?_⟩
    · subst q3; exact Or.inl hv
    · obtain ⟨b1, f1, q1⟩ := d1 br fs
      exact ⟨_, b1, f1, q1, (kz_dflt hw hv).symm⟩
  · obtain ⟨t, br', vl', sm', f', q, q2⟩ := d2 v bro val sm frs
    refine ⟨t, _, br', vl', sm', fe', f', e2.trans q, fun q3 => Or.inr (q2.trans (d0 q3)), fun br fs => ?_⟩
    obtain ⟨r, b1, f1, q1, q3⟩ := d1 br fs
    exact ⟨r, b1, f1, q1, by rw [q2]; exact q3⟩
noncomputable def cwo (fw : Nat → Int32) (h : Nat) (o : Int32) : Nat → Int32 := fun j => if j = 0 then nI h else if j = 1 then fw (35 + h) else if j = 2 then fw (43 + h) else if j = 3 then fw (11 + h) else if j = 4 then fw (19 + h) else if j = 5 then fw 4 else if j = 6 then fw 5 else if j = 7 then fw 9 else o
theorem cwo_at {fw : Nat → Int32} {h : Nat} {o : Int32} : KWo (cwo fw h o) fw h o := ⟨rfl, rfl, rfl, rfl, rfl, rfl, rfl, rfl, rfl⟩
theorem lawAt_n {x lt : Int32} {fl : Nat → Option Nat} (hx : x.toInt = -1) : E_w_lawAt x lt fl = none := by
  rw [E_w_lawAt.eq_def, Lt_b, Lt_b, ifw_n (by have z : (0 : Int32).toInt = 0 := rfl; omega)]
theorem lawAt_p {k : Nat} {lt : Int32} {fl : Nat → Option Nat} (hl : 0 ≤ lt.toInt ∧ lt.toInt ≤ 6) (hx : (k : Int) < lt.toInt) : E_w_lawAt (nI k) lt fl = fl k := by
  have z : (lt - 1).toInt = lt.toInt - 1 := i_sub rfl (show (1 : Int32).toInt = 1 from rfl) (by omega)
  have z0 : (0 : Int32).toInt = 0 := rfl
  rw [E_w_lawAt.eq_def, Lt_b, Lt_b, ifw_p (by rw [z, nI_toInt (by omega)]; omega), Lt_b, kn_cl (by omega)]
/-- THE CLASS ASKS: nothing or a law, the same as the reference tells -/
theorem ask_w {x lt : Int32} {w h : Nat} {o : Int32} {v : Int64} {fl : Nat → Option Nat} {G : Nat → LC} {fw : Nat → Int32} (hx : -1 ≤ x.toInt ∧ x.toInt < lt.toInt) (hh : h < 8) (hw : w < 4) (hv : v.toInt = (aF 2 w).toInt) (hL : KLs lt fl G fw) (hb : KBw fw h o) {cw : Nat → Int32} (hc : KWo cw fw h o) {R : Int32} (hR : R.toInt = RV x w h o v fw) :
    (E_w_lawAt x lt fl = none ∧ aF 2 w = R) ∨ ∃ a, E_w_lawAt x lt fl = some a ∧ ∀ br fs, ∃ br' f', E_w_told (G a).1 (G a).2.1 (G a).2.2.1 (G a).2.2.2.1 (G a).2.2.2.2.1 (nI w) br fs cw = (R, br', f') := by
  by_cases c : x.toInt = -1
  · refine Or.inl ⟨lawAt_n c, ?_⟩
    have xe : x = -1 := i_lit c rfl
    subst xe
    refine Int32.toInt_inj.mp ?_
    rw [hR]
    unfold RV
    rw [E_v_tells.eq_def, if_pos rfl]
    exact (kz_dflt hw hv).symm
  · obtain ⟨k, hk, hz⟩ : ∃ k : Nat, x = nI k ∧ (k : Int) = x.toInt := ⟨x.toInt.toNat, i_ofN rfl (by omega), by omega⟩
    subst hk
    have h6 := hL.1
    obtain ⟨a, q1, q2⟩ := hL.2 k (by omega)
    refine Or.inr ⟨a, (lawAt_p hL.1 (by omega)).trans q1, fun br fs => ?_⟩
    obtain ⟨t, lw', bro', val', sm', fe', frs', e1, _, e2⟩ := ask_0 (show k < 6 by omega) hh hw hv q2 hb hc 0 0 0 0 (fun _ => 0) (fun _ => 0)
    obtain ⟨r, br', f', e3, e4⟩ := e2 br fs
    refine ⟨br', f', ?_⟩
    rw [e3]
    have : r = R := Int32.toInt_inj.mp (by rw [e4, hR]; unfold RV; rw [e1])
    rw [this]
/-- THE REFERENCE TELLS, whatever its scratch -/
theorem ask_v {x lt : Int32} {w h : Nat} {o : Int32} {v : Int64} {fl : Nat → Option Nat} {G : Nat → LC} {fw : Nat → Int32} (hx : -1 ≤ x.toInt ∧ x.toInt < lt.toInt) (hh : h < 8) (hw : w < 4) (hv : v.toInt = (aF 2 w).toInt) (hL : KLs lt fl G fw) (hb : KBw fw h o) (lw bro : Int32) (val sm : Int64) (fe frs : Nat → Int64) :
    ∃ (t : Int64) (lw' bro' : Int32) (val' sm' : Int64) (fe' frs' : Nat → Int64), E_v_tells x (nI w) (nI h) o v lw bro val sm fw fe frs = (t, lw', bro', val', sm', fe', frs') ∧ (w = 3 → t.toInt = 0 ∨ t.toInt = 1) ∧ kz_cl t.toInt (aF 3 w).toInt = RV x w h o v fw := by
  by_cases c : x.toInt = -1
  · have xe : x = -1 := i_lit c rfl
    subst xe
    refine ⟨v, lw, bro, val, sm, fe, frs, by rw [E_v_tells.eq_def, if_pos rfl], fun q => ?_, ?_⟩
    · subst q; exact Or.inl hv
    · unfold RV
      rw [E_v_tells.eq_def, if_pos rfl]
  · obtain ⟨k, hk, hz⟩ : ∃ k : Nat, x = nI k ∧ (k : Int) = x.toInt := ⟨x.toInt.toNat, i_ofN rfl (by omega), by omega⟩
    subst hk
    have h6 := hL.1
    obtain ⟨a, q1, q2⟩ := hL.2 k (by omega)
    obtain ⟨t, lw', bro', val', sm', fe', frs', e1, e0, e2⟩ := ask_0 (show k < 6 by omega) hh hw hv q2 hb cwo_at lw bro val sm fe frs
    obtain ⟨t2, lw2, bro2, val2, sm2, fe2, frs2, e3, _, e4⟩ := ask_0 (show k < 6 by omega) hh hw hv q2 hb cwo_at 0 0 0 0 (fun _ => 0) (fun _ => 0)
    obtain ⟨r, br', f', e5, e6⟩ := e2 0 (fun _ => 0)
    obtain ⟨r2, br2, f2, e7, e8⟩ := e4 0 (fun _ => 0)
    refine ⟨t, lw', bro', val', sm', fe', frs', e1, e0, ?_⟩
    have er : r = r2 := (Prod.mk.inj (e5.symm.trans e7)).1
    unfold RV
    rw [e3, ← e6, er, e8]
end
