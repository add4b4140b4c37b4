/-! an order, read on both sides -/
noncomputable abbrev KR15 : Type := Int32 × Int32 × Int32 × Int64 × Int32 × Int32 × Int32 × Int32 × Int32 × Int32 × (Nat → Int32) × (Nat → Int32) × (Nat → Int32) × (Nat → Int32) × (Nat → Int32)
theorem ro_b {ta fr to so fau bd ord ncl nc nl pi opn : Int32} {wo : Int64} {ft fo fa fp fq fod : Nat → Int32} {fwd fwe fac : Nat → Int64} (rc : Int32 → Int32 → KR16) (v : Nat) (r : Int32) (hv : v < 4) : E_v_readOrder_l4 ta fr to so wo fau bd ord ncl nc nl pi opn ft fo fa fp fq fwd fwe fod fac rc (nI v) r = if E_v_isWord (fac v) so wo = 1 then rc (nI (v + 1)) (nI v) else rc (nI (v + 1)) r := by
  rw [E_v_readOrder_l4.eq_def, if_neg (kn_nlel (j := 4) rfl (by omega) hv)]
  simp only [Lt]
  rw [kn_cl (by omega), kn_po (by omega)]
theorem ro_top {ta fr to so fau bd ord ncl nc nl pi opn : Int32} {wo : Int64} {ft fo fa fp fq fod : Nat → Int32} {fwd fwe fac : Nat → Int64} : E_v_readOrder ta fr to so wo fau bd ord ncl nc nl pi opn ft fo fa fp fq fwd fwe fod fac = Lp (α := Int32 → Int32 → KR16) (E_v_readOrder_l4 ta fr to so wo fau bd ord ncl nc nl pi opn ft fo fa fp fq fwd fwe fod fac) (fun _ _ => ((0, 0, 0, 0, 0, 0, 0, 0, 0, 0, 0, fun _ => 0, fun _ => 0, fun _ => 0, fun _ => 0, fun _ => 0) : KR16)) (1 + 4 + 1) (nI 0) (-1) := by
  rw [E_v_readOrder.eq_def]; rfl
theorem ord_no {ta fr to so fau ord ncl nc nl pi opn : Int32} {wo : Int64} {ft fo fa fp fq fod : Nat → Int32} {fwd fwe fac : Nat → Int64} (h : ∀ j, j < 4 → E_v_isWord (fac j) so wo = 0) : E_v_readOrder ta fr to so wo fau 0 ord ncl nc nl pi opn ft fo fa fp fq fwd fwe fod fac = (fr, to, so, wo, fr, 1, ncl, nc, nl, pi, opn, fo, fa, fp, fq, fod) := by
  have hd := hd_in (wd := fac) (so := so) (wo := wo) (fun _ _ => ((0, 0, 0, 0, 0, 0, 0, 0, 0, 0, 0, fun _ => 0, fun _ => 0, fun _ => 0, fun _ => 0, fun _ => 0) : KR16)) (E_v_readOrder_l4 ta fr to so wo fau 0 ord ncl nc nl pi opn ft fo fa fp fq fwd fwe fod fac) (fun rc v r hv => ro_b rc v r hv) 4 0 1 (-1) (by omega)
  rw [ro_top, hd.1 (fun j _ hj => h j hj), Lp_s, E_v_readOrder_l4.eq_def, if_pos (by decide), if_pos rfl, must_0]
  simp only [Lt2]
  rw [if_neg (by decide)]
theorem ord_full {ta fr to so fau ord nc nl pi opn : Int32} {wo : Int64} {ft fo fa fp fq fod : Nat → Int32} {fwd fwe fac : Nat → Int64} (h : (∃ i, i < 4 ∧ E_v_isWord (fac i) so wo = 1 ∧ ∀ j, j < 4 → j ≠ i → E_v_isWord (fac j) so wo = 0) ∨ ∀ j, j < 4 → E_v_isWord (fac j) so wo = 0) : E_v_readOrder ta fr to so wo fau 0 ord (nI 12) nc nl pi opn ft fo fa fp fq fwd fwe fod fac = (fr, to, so, wo, fr, 1, nI 12, nc, nl, pi, opn, fo, fa, fp, fq, fod) := by
  rcases h with ⟨i, i1, i2, i3⟩ | h
  · have hd := hd_in (wd := fac) (so := so) (wo := wo) (fun _ _ => ((0, 0, 0, 0, 0, 0, 0, 0, 0, 0, 0, fun _ => 0, fun _ => 0, fun _ => 0, fun _ => 0, fun _ => 0) : KR16)) (E_v_readOrder_l4 ta fr to so wo fau 0 ord (nI 12) nc nl pi opn ft fo fa fp fq fwd fwe fod fac) (fun rc v r hv => ro_b rc v r hv) 4 0 1 (-1) (by omega)
    rw [ro_top, hd.2 i (Nat.zero_le _) i1 i2 (fun j _ hj hn => i3 j hj hn), Lp_s, E_v_readOrder_l4.eq_def, if_pos (by decide), if_neg (fun q => by have := congrArg Int32.toInt q; rw [nI_toInt (by omega)] at this; have z1 : (-1 : Int32).toInt = -1 := rfl; omega), if_pos (by decide), must_0]
    simp only [Lt2]
    rw [if_neg (by decide)]
  · exact ord_no h
theorem ord_go {ta fr to so fau ord nc nl pi opn : Int32} {wo : Int64} {n i : Nat} {ft fo fa fp fq fod : Nat → Int32} {fwd fwe fac : Nat → Int64} (hn : n < 12) (i1 : i < 4) (i2 : E_v_isWord (fac i) so wo = 1) (i3 : ∀ j, j < 4 → j ≠ i → E_v_isWord (fac j) so wo = 0) : E_v_readOrder ta fr to so wo fau 0 ord (nI n) nc nl pi opn ft fo fa fp fq fwd fwe fod fac = Lp (α := Int32 → (Nat → Int32) → KR16) (E_v_readOrder_l85 ta ord nc nl pi opn ft fo fa fp fq fwd fwe (nI i) (E_v_next ta fr to so wo ft).1 (E_v_next ta fr to so wo ft).2.1 (E_v_next ta fr to so wo ft).2.2.1 (E_v_next ta fr to so wo ft).2.2.2 fau 0 (nI (8 * n)) (nI (n + 1))) (fun _ _ => ((0, 0, 0, 0, 0, 0, 0, 0, 0, 0, 0, fun _ => 0, fun _ => 0, fun _ => 0, fun _ => 0, fun _ => 0) : KR16)) (1 + 8 + 1) (nI 0) fod := by
  have hd := hd_in (wd := fac) (so := so) (wo := wo) (fun _ _ => ((0, 0, 0, 0, 0, 0, 0, 0, 0, 0, 0, fun _ => 0, fun _ => 0, fun _ => 0, fun _ => 0, fun _ => 0) : KR16)) (E_v_readOrder_l4 ta fr to so wo fau 0 ord (nI n) nc nl pi opn ft fo fa fp fq fwd fwe fod fac) (fun rc v r hv => ro_b rc v r hv) 4 0 1 (-1) (by omega)
  rw [ro_top, hd.2 i (Nat.zero_le _) i1 i2 (fun j _ hj hn => i3 j hj hn), Lp_s, E_v_readOrder_l4.eq_def, if_pos (by decide), if_neg (fun q => by have := congrArg Int32.toInt q; rw [nI_toInt (by omega)] at this; have z1 : (-1 : Int32).toInt = -1 := rfl; omega), if_neg (kn_nlel (j := 12) rfl (by omega) hn), must_1]
  rw [Lt2_b, Lt2_b, Lt2_b, Lt2_b, Lt2_b, if_pos (show (0 : Int32) = 0 from rfl), Lt_b, Lt_b, kn_m8 (by omega), kn_p1 (by omega), show ((9 - (0 : Int32).toInt : Int).toNat + 1) = 1 + 8 + 1 from rfl, show nI 0 = (0 : Int32) from rfl]
theorem oz_b {ta ord nc nl pi opn fr to so fau bd x1 : Int32} {wo : Int64} {n : Nat} {v0 : Int32} {ft fo fa fp fq : Nat → Int32} {fwd fwe : Nat → Int64} (hn : n < 1000) (rc : Int32 → (Nat → Int32) → KR16) (v : Nat) (f : Nat → Int32) (hv : v < 8) : E_v_readOrder_l85 ta ord nc nl pi opn ft fo fa fp fq fwd fwe v0 fr to so wo fau bd (nI (8 * n)) x1 rc (nI v) f = rc (nI (v + 1)) (upd f (8 * n + v) 0) := by
  rw [E_v_readOrder_l85.eq_def, if_neg (kn_nlel (j := 8) rfl (by omega) hv), Lt_b, Lt_b, Lt_b, kn_po (by omega), kn_ac (nI_toInt (by omega)) (by omega), kn_cl (by omega)]
theorem ord_rest3 {ta ord nc nl pi opn fr to so fau x1 : Int32} {wo : Int64} {n : Nat} {ft fo fa fp fq f8 : Nat → Int32} {fwd fwe : Nat → Int64} (hn : n < 1000) (z : Int32 → (Nat → Int32) → KR16) : Lp (α := Int32 → (Nat → Int32) → KR16) (E_v_readOrder_l85 ta ord nc nl pi opn ft fo fa fp fq fwd fwe (nI 3) fr to so wo fau 0 (nI (8 * n)) x1) z (1 + 1) (nI 8) f8 = E_v_readOrder_j160 ta ord ft fwd fwe (nI (8 * n)) x1 fr to so wo fau 0 nc nl pi opn fo fa fp fq (upd f8 (8 * n) (nI 3)) := by
  rw [Lp_s, E_v_readOrder_l85.eq_def, if_pos (by decide), Lt_b, if_pos (show nI 3 = (3 : Int32) from rfl), E_v_readOrder_j125.eq_def, if_neg (by decide), if_neg (by decide), kn_cl (by omega)]
theorem ord_rest {ta ord nc nl pi opn fr to so fau x1 : Int32} {wo : Int64} {n i : Nat} {ft fo fa fp fq f8 : Nat → Int32} {fwd fwe : Nat → Int64} (hn : n < 1000) (hi : i < 3) (z : Int32 → (Nat → Int32) → KR16) : Lp (α := Int32 → (Nat → Int32) → KR16) (E_v_readOrder_l85 ta ord nc nl pi opn ft fo fa fp fq fwd fwe (nI i) fr to so wo fau 0 (nI (8 * n)) x1) z (1 + 1) (nI 8) f8 = (fun R : KR15 => E_v_readOrder_j125 ta ord ft fwd fwe (nI i) (nI (8 * n)) x1 R.1 R.2.1 R.2.2.1 R.2.2.2.1 R.2.2.2.2.1 R.2.2.2.2.2.1 R.2.2.2.2.2.2.1 R.2.2.2.2.2.2.2.1 R.2.2.2.2.2.2.2.2.1 R.2.2.2.2.2.2.2.2.2.1 R.2.2.2.2.2.2.2.2.2.2.1 R.2.2.2.2.2.2.2.2.2.2.2.1 R.2.2.2.2.2.2.2.2.2.2.2.2.1 R.2.2.2.2.2.2.2.2.2.2.2.2.2.1 R.2.2.2.2.2.2.2.2.2.2.2.2.2.2) (E_v_readSum (nI (8 * n + 1)) ta fr to so wo fau 0 ord x1 nc nl pi opn ft fo fa fp fq fwd fwe (upd f8 (8 * n) (nI i))) := by
  rw [Lp_s, E_v_readOrder_l85.eq_def, if_pos (by decide), Lt_b, if_neg (kn_nz (j := 3) rfl (by omega) (by omega)), Lt_b, kn_cl (by omega), kn_ac (c := 1) (k := 1) rfl (by omega)]
  generalize E_v_readSum (nI (8 * n + 1)) ta fr to so wo fau 0 ord x1 nc nl pi opn ft fo fa fp fq fwd fwe (upd f8 (8 * n) (nI i)) = R
  rfl
theorem rsum_at {ta fr to so fau ord ncl nc nl pi opn : Int32} {wo : Int64} {k : Nat} {ft fo fa fp fq fod : Nat → Int32} {fwd fwe : Nat → Int64} (hk : k < 1000) : E_v_readSum (nI k) ta fr to so wo fau 0 ord ncl nc nl pi opn ft fo fa fp fq fwd fwe fod = (fun R : KR14 => ((R.1, R.2.1, R.2.2.1, R.2.2.2.1, R.2.2.2.2.1, R.2.2.2.2.2.1, R.2.2.2.2.2.2.1, R.2.2.2.2.2.2.2.1, R.2.2.2.2.2.2.2.2.1, R.2.2.2.2.2.2.2.2.2.1, R.2.2.2.2.2.2.2.2.2.2.1, R.2.2.2.2.2.2.2.2.2.2.2.1, R.2.2.2.2.2.2.2.2.2.2.2.2.1, R.2.2.2.2.2.2.2.2.2.2.2.2.2, upd (upd fod k nc) (k + 1) R.2.2.2.2.2.2.1) : KR15)) (E_v_readExpression 0 ta fr to so wo fau 0 ord nc nl pi opn ft fo fa fp fq fwd fwe) := by
  rw [E_v_readSum.eq_def, Lt_b, if_pos rfl, kn_cl (by omega)]
  generalize E_v_readExpression 0 ta fr to so wo fau 0 ord nc nl pi opn ft fo fa fp fq fwd fwe = R
  simp only [Lt, Lt2]
  rw [kn_p1 (by omega), kn_cl (by omega)]
theorem rsum_bad {x ta fr to so fau ord ncl nc nl pi opn : Int32} {wo : Int64} {ft fo fa fp fq fod : Nat → Int32} {fwd fwe : Nat → Int64} : (E_v_readSum x ta fr to so wo fau 1 ord ncl nc nl pi opn ft fo fa fp fq fwd fwe fod).2.2.2.2.1 = fau ∧ (E_v_readSum x ta fr to so wo fau 1 ord ncl nc nl pi opn ft fo fa fp fq fwd fwe fod).2.2.2.2.2.1 = 1 := by
  rw [E_v_readSum.eq_def, Lt_b, if_neg (by decide)]
  exact ⟨rfl, rfl⟩
theorem j208_at {ta ord n1 nc nl pi opn fr to so fau bd : Int32} {wo : Int64} {n : Nat} {ft fo fa fp fq fod : Nat → Int32} {fwd fwe : Nat → Int64} (hn : n < 1000) : E_v_readOrder_j208 ta ord ft fwd fwe (nI (8 * n)) n1 nc nl pi opn fo fa fp fq fr to so wo fau bd fod = rIf ta ord ft fwd fwe n1 (8 * n + 6) fr to so wo fau bd nc nl pi opn fo fa fp fq (upd fod (8 * n + 5) nc) := by
  have a0 : (nI (8 * n)).toNatClampNeg = 8 * n := kn_cl (by omega)
  have s1 : nI (8 * n) + 1 = nI (8 * n + 1) := kn_ac (c := 1) (k := 1) rfl (by omega)
  have s3 : nI (8 * n) + 3 = nI (8 * n + 3) := kn_ac (c := 3) (k := 3) rfl (by omega)
  have s5 : nI (8 * n) + 5 = nI (8 * n + 5) := kn_ac (c := 5) (k := 5) rfl (by omega)
  have s6 : nI (8 * n) + 6 = nI (8 * n + 6) := kn_ac (c := 6) (k := 6) rfl (by omega)
  have s7 : nI (8 * n) + 7 = nI (8 * n + 7) := kn_ac (c := 7) (k := 7) rfl (by omega)
  have c5 : (nI (8 * n + 5)).toNatClampNeg = 8 * n + 5 := kn_cl (by omega)
  have c6 : (nI (8 * n + 6)).toNatClampNeg = 8 * n + 6 := kn_cl (by omega)
  have c7 : (nI (8 * n + 7)).toNatClampNeg = 8 * n + 7 := kn_cl (by omega)
  rw [E_v_readOrder_j208.eq_def]
  unfold rIf
  simp only [Lt, Lt2, s5, s6, c5, c6]
theorem j208_bad {ta ord x x1 nc nl pi opn fr to so fau : Int32} {wo : Int64} {ft fo fa fp fq fod : Nat → Int32} {fwd fwe : Nat → Int64} : (E_v_readOrder_j208 ta ord ft fwd fwe x x1 nc nl pi opn fo fa fp fq fr to so wo fau 1 fod).2.2.2.2.1 = fau ∧ (E_v_readOrder_j208 ta ord ft fwd fwe x x1 nc nl pi opn fo fa fp fq fr to so wo fau 1 fod).2.2.2.2.2.1 = 1 := by
  rw [E_v_readOrder_j208.eq_def, Lt_b, Lt_b, if_neg (by decide)]
  exact ⟨rfl, rfl⟩
theorem j160_bad {ta ord x x1 nc nl pi opn fr to so fau : Int32} {wo : Int64} {ft fo fa fp fq fod : Nat → Int32} {fwd fwe : Nat → Int64} : (E_v_readOrder_j160 ta ord ft fwd fwe x x1 fr to so wo fau 1 nc nl pi opn fo fa fp fq fod).2.2.2.2.1 = fau ∧ (E_v_readOrder_j160 ta ord ft fwd fwe x x1 fr to so wo fau 1 nc nl pi opn fo fa fp fq fod).2.2.2.2.2.1 = 1 := by
  rw [E_v_readOrder_j160.eq_def, Lt_b, Lt_b, if_neg (by decide)]
  exact j208_bad
theorem j125_bad {ta ord v x x1 nc nl pi opn fr to so fau : Int32} {wo : Int64} {ft fo fa fp fq fod : Nat → Int32} {fwd fwe : Nat → Int64} : (E_v_readOrder_j125 ta ord ft fwd fwe v x x1 fr to so wo fau 1 nc nl pi opn fo fa fp fq fod).2.2.2.2.1 = fau ∧ (E_v_readOrder_j125 ta ord ft fwd fwe v x x1 fr to so wo fau 1 nc nl pi opn fo fa fp fq fod).2.2.2.2.2.1 = 1 := by
  have key : ∀ R : KR15, R.2.2.2.2.1 = fau → R.2.2.2.2.2.1 = 1 → (E_v_readOrder_j160 ta ord ft fwd fwe x x1 R.1 R.2.1 R.2.2.1 R.2.2.2.1 R.2.2.2.2.1 R.2.2.2.2.2.1 R.2.2.2.2.2.2.1 R.2.2.2.2.2.2.2.1 R.2.2.2.2.2.2.2.2.1 R.2.2.2.2.2.2.2.2.2.1 R.2.2.2.2.2.2.2.2.2.2.1 R.2.2.2.2.2.2.2.2.2.2.2.1 R.2.2.2.2.2.2.2.2.2.2.2.2.1 R.2.2.2.2.2.2.2.2.2.2.2.2.2.1 R.2.2.2.2.2.2.2.2.2.2.2.2.2.2).2.2.2.2.1 = fau ∧ (E_v_readOrder_j160 ta ord ft fwd fwe x x1 R.1 R.2.1 R.2.2.1 R.2.2.2.1 R.2.2.2.2.1 R.2.2.2.2.2.1 R.2.2.2.2.2.2.1 R.2.2.2.2.2.2.2.1 R.2.2.2.2.2.2.2.2.1 R.2.2.2.2.2.2.2.2.2.1 R.2.2.2.2.2.2.2.2.2.2.1 R.2.2.2.2.2.2.2.2.2.2.2.1 R.2.2.2.2.2.2.2.2.2.2.2.2.1 R.2.2.2.2.2.2.2.2.2.2.2.2.2.1 R.2.2.2.2.2.2.2.2.2.2.2.2.2.2).2.2.2.2.2.1 = 1 := fun R h1 h2 => by
    rw [h1, h2]; exact j160_bad
  rw [E_v_readOrder_j125.eq_def]
  by_cases c : v = 1
  · rw [if_pos c, if_neg (by decide), Lt_b]
    exact key _ rsum_bad.1 rsum_bad.2
  · rw [if_neg c]
    by_cases d : v = 2
    · rw [if_pos d, if_neg (by decide), Lt_b]
      exact key _ rsum_bad.1 rsum_bad.2
    · rw [if_neg d]
      exact j160_bad
theorem j125_o {ta ord x x1 nc nl pi opn fr to so fau bd : Int32} {wo : Int64} {ft fo fa fp fq fod : Nat → Int32} {fwd fwe : Nat → Int64} : E_v_readOrder_j125 ta ord ft fwd fwe (nI 0) x x1 fr to so wo fau bd nc nl pi opn fo fa fp fq fod = E_v_readOrder_j160 ta ord ft fwd fwe x x1 fr to so wo fau bd nc nl pi opn fo fa fp fq fod := by
  rw [E_v_readOrder_j125.eq_def, if_neg (by decide), if_neg (by decide)]
theorem j125_by {ta ord x1 nc nl pi opn fr to so fau : Int32} {wo : Int64} {n i : Nat} {ft fo fa fp fq fod : Nat → Int32} {fwd fwe : Nat → Int64} (hn : n < 1000) (hi : i = 1 ∨ i = 2) (h : E_v_isWord 89 so wo = 1) : E_v_readOrder_j125 ta ord ft fwd fwe (nI i) (nI (8 * n)) x1 fr to so wo fau 0 nc nl pi opn fo fa fp fq fod = (fun R : KR15 => E_v_readOrder_j160 ta ord ft fwd fwe (nI (8 * n)) x1 R.1 R.2.1 R.2.2.1 R.2.2.2.1 R.2.2.2.2.1 R.2.2.2.2.2.1 R.2.2.2.2.2.2.1 R.2.2.2.2.2.2.2.1 R.2.2.2.2.2.2.2.2.1 R.2.2.2.2.2.2.2.2.2.1 R.2.2.2.2.2.2.2.2.2.2.1 R.2.2.2.2.2.2.2.2.2.2.2.1 R.2.2.2.2.2.2.2.2.2.2.2.2.1 R.2.2.2.2.2.2.2.2.2.2.2.2.2.1 R.2.2.2.2.2.2.2.2.2.2.2.2.2.2) (E_v_readSum (nI (8 * n + 3)) ta (E_v_next ta fr to so wo ft).1 (E_v_next ta fr to so wo ft).2.1 (E_v_next ta fr to so wo ft).2.2.1 (E_v_next ta fr to so wo ft).2.2.2 fau 0 ord x1 nc nl pi opn ft fo fa fp fq fwd fwe fod) := by
  rw [E_v_readOrder_j125.eq_def]
  rcases hi with rfl | rfl
  · rw [if_pos (show nI 1 = (1 : Int32) from rfl), if_pos rfl, Lt_b, if_pos h, must_1]
    simp only [Lt2, Lt]
    rw [kn_ac (c := 3) (k := 3) rfl (by omega)]
  · rw [if_neg (by decide), if_pos (show nI 2 = (2 : Int32) from rfl), if_pos rfl, Lt_b, if_pos h, must_1]
    simp only [Lt2, Lt]
    rw [kn_ac (c := 3) (k := 3) rfl (by omega)]
theorem j125_no {ta ord x x1 nc nl pi opn fr to so fau : Int32} {wo : Int64} {i : Nat} {ft fo fa fp fq fod : Nat → Int32} {fwd fwe : Nat → Int64} (hi : i = 1 ∨ i = 2) (h : E_v_isWord 89 so wo = 0) : (E_v_readOrder_j125 ta ord ft fwd fwe (nI i) x x1 fr to so wo fau 0 nc nl pi opn fo fa fp fq fod).2.2.2.2.1 = fr ∧ (E_v_readOrder_j125 ta ord ft fwd fwe (nI i) x x1 fr to so wo fau 0 nc nl pi opn fo fa fp fq fod).2.2.2.2.2.1 = 1 := by
  have key : ∀ R : KR15, R.2.2.2.2.1 = fr → R.2.2.2.2.2.1 = 1 → (E_v_readOrder_j160 ta ord ft fwd fwe x x1 R.1 R.2.1 R.2.2.1 R.2.2.2.1 R.2.2.2.2.1 R.2.2.2.2.2.1 R.2.2.2.2.2.2.1 R.2.2.2.2.2.2.2.1 R.2.2.2.2.2.2.2.2.1 R.2.2.2.2.2.2.2.2.2.1 R.2.2.2.2.2.2.2.2.2.2.1 R.2.2.2.2.2.2.2.2.2.2.2.1 R.2.2.2.2.2.2.2.2.2.2.2.2.1 R.2.2.2.2.2.2.2.2.2.2.2.2.2.1 R.2.2.2.2.2.2.2.2.2.2.2.2.2.2).2.2.2.2.1 = fr ∧ (E_v_readOrder_j160 ta ord ft fwd fwe x x1 R.1 R.2.1 R.2.2.1 R.2.2.2.1 R.2.2.2.2.1 R.2.2.2.2.2.1 R.2.2.2.2.2.2.1 R.2.2.2.2.2.2.2.1 R.2.2.2.2.2.2.2.2.1 R.2.2.2.2.2.2.2.2.2.1 R.2.2.2.2.2.2.2.2.2.2.1 R.2.2.2.2.2.2.2.2.2.2.2.1 R.2.2.2.2.2.2.2.2.2.2.2.2.1 R.2.2.2.2.2.2.2.2.2.2.2.2.2.1 R.2.2.2.2.2.2.2.2.2.2.2.2.2.2).2.2.2.2.2.1 = 1 := fun R h1 h2 => by
    rw [h1, h2]; exact j160_bad
  rw [E_v_readOrder_j125.eq_def]
  rcases hi with rfl | rfl
  · rw [if_pos (show nI 1 = (1 : Int32) from rfl), if_pos rfl, Lt_b, if_neg (by rw [h]; decide), must_0]
    exact key _ rsum_bad.1 rsum_bad.2
  · rw [if_neg (by decide), if_pos (show nI 2 = (2 : Int32) from rfl), if_pos rfl, Lt_b, if_neg (by rw [h]; decide), must_0]
    exact key _ rsum_bad.1 rsum_bad.2
theorem j160_no {ta ord x1 nc nl pi opn fr to so fau : Int32} {wo : Int64} {n : Nat} {ft fo fa fp fq fod : Nat → Int32} {fwd fwe : Nat → Int64} (hn : n < 1000) (h : E_v_isWord 21279923 so wo = 0) : E_v_readOrder_j160 ta ord ft fwd fwe (nI (8 * n)) x1 fr to so wo fau 0 nc nl pi opn fo fa fp fq fod = rIf ta ord ft fwd fwe x1 (8 * n + 6) fr to so wo fau 0 nc nl pi opn fo fa fp fq (upd (upd fod (8 * n + 7) 1) (8 * n + 5) nc) := by
  have a0 : (nI (8 * n)).toNatClampNeg = 8 * n := kn_cl (by omega)
  have s1 : nI (8 * n) + 1 = nI (8 * n + 1) := kn_ac (c := 1) (k := 1) rfl (by omega)
  have s3 : nI (8 * n) + 3 = nI (8 * n + 3) := kn_ac (c := 3) (k := 3) rfl (by omega)
  have s5 : nI (8 * n) + 5 = nI (8 * n + 5) := kn_ac (c := 5) (k := 5) rfl (by omega)
  have s6 : nI (8 * n) + 6 = nI (8 * n + 6) := kn_ac (c := 6) (k := 6) rfl (by omega)
  have s7 : nI (8 * n) + 7 = nI (8 * n + 7) := kn_ac (c := 7) (k := 7) rfl (by omega)
  have c5 : (nI (8 * n + 5)).toNatClampNeg = 8 * n + 5 := kn_cl (by omega)
  have c6 : (nI (8 * n + 6)).toNatClampNeg = 8 * n + 6 := kn_cl (by omega)
  have c7 : (nI (8 * n + 7)).toNatClampNeg = 8 * n + 7 := kn_cl (by omega)
  rw [E_v_readOrder_j160.eq_def, Lt_b, Lt_b, if_pos rfl, Lt_b, if_neg (by rw [h]; decide), s7, c7, j208_at hn]
theorem j160_go {ta ord x1 nc nl pi opn fr to so fau : Int32} {wo : Int64} {n : Nat} {ft fo fa fp fq fod : Nat → Int32} {fwd fwe : Nat → Int64} (hn : n < 1000) (h : E_v_isWord 21279923 so wo = 1) : E_v_readOrder_j160 ta ord ft fwd fwe (nI (8 * n)) x1 fr to so wo fau 0 nc nl pi opn fo fa fp fq fod = (fun R : Int32 × Int32 × Int32 × Int32 × Int64 × Int32 × Int32 => E_v_readOrder_j208 ta ord ft fwd fwe (nI (8 * n)) x1 nc nl pi opn fo fa fp fq R.2.1 R.2.2.1 R.2.2.2.1 R.2.2.2.2.1 R.2.2.2.2.2.1 R.2.2.2.2.2.2 (upd (upd fod (8 * n + 7) 1) (8 * n + 7) R.1)) (E_v_number 1 20 ta (E_v_next ta fr to so wo ft).1 (E_v_next ta fr to so wo ft).2.1 (E_v_next ta fr to so wo ft).2.2.1 (E_v_next ta fr to so wo ft).2.2.2 fau 0 ft) := by
  have a0 : (nI (8 * n)).toNatClampNeg = 8 * n := kn_cl (by omega)
  have s1 : nI (8 * n) + 1 = nI (8 * n + 1) := kn_ac (c := 1) (k := 1) rfl (by omega)
  have s3 : nI (8 * n) + 3 = nI (8 * n + 3) := kn_ac (c := 3) (k := 3) rfl (by omega)
  have s5 : nI (8 * n) + 5 = nI (8 * n + 5) := kn_ac (c := 5) (k := 5) rfl (by omega)
  have s6 : nI (8 * n) + 6 = nI (8 * n + 6) := kn_ac (c := 6) (k := 6) rfl (by omega)
  have s7 : nI (8 * n) + 7 = nI (8 * n + 7) := kn_ac (c := 7) (k := 7) rfl (by omega)
  have c5 : (nI (8 * n + 5)).toNatClampNeg = 8 * n + 5 := kn_cl (by omega)
  have c6 : (nI (8 * n + 6)).toNatClampNeg = 8 * n + 6 := kn_cl (by omega)
  have c7 : (nI (8 * n + 7)).toNatClampNeg = 8 * n + 7 := kn_cl (by omega)
  rw [E_v_readOrder_j160.eq_def, Lt_b, Lt_b, if_pos rfl, Lt_b, if_pos h, s7, c7]
  simp only [Lt, Lt2, s7, c7]
/-! the class's side -/
theorem aF5 : ∀ i, i < 4 → aF 5 i = if i = 3 then 0 else if i = 0 then 1 else 2 := by decide
theorem co_top {n i : Nat} {pa ln tf tt ti tu scl us : Int32} {fb fh fc : Nat → Int32} (hn : n < 12) (hi : i < 4) (hf : E_w_find 1 ln tf tt ti tu fb = nI i) : E_w_clause (nI n) 0 pa ln tf tt ti tu fb scl us fh fc = Lp (α := Int32 → Int32 → Int32 → Int32 → Int32 → Int32 → Int32 → (Nat → Int32) → (Nat → Int32) → KW9) (E_w_clause_l76 (nI n) 0 ln fb (if i = 3 then 0 else if i = 0 then 1 else 2)) (fun _ _ _ _ _ _ _ _ _ => ((0, 0, 0, 0, 0, 0, 0, fun _ => 0, fun _ => 0) : KW9)) (1 + 1 + 1 + 1) 0 pa (E_w_step ln tf tt ti tu fb).1 (E_w_step ln tf tt ti tu fb).2.1 (E_w_step ln tf tt ti tu fb).2.2.1 (E_w_step ln tf tt ti tu fb).2.2.2 us fc (upd (upd (upd (upd (upd fh (5 * n + 0) (nI i)) (5 * n + 1) 1) (5 * n + 2) (-1)) (5 * n + 3) (-1)) (5 * n + 4) (-1)) := by
  rw [E_w_clause.eq_def, if_pos rfl, hf, Lt_b, if_neg (kn_nl (by omega)), if_pos (kn_ltl (j := 4) rfl (by omega) hi), Lt2_b, Lt2_b, Lt2_b, Lt_b, open_at hn, if_pos rfl, Lt_b, kn_cl (by omega), aF5 i hi]
  rfl
theorem co_nil {n : Nat} {pa ln tf tt ti tu scl us : Int32} {fb fh fc : Nat → Int32} (hf : E_w_find 1 ln tf tt ti tu fb = -1) : E_w_clause (nI n) 0 pa ln tf tt ti tu fb scl us fh fc = (0, pa, tf, tt, ti, tu, us, fh, fc) := by
  rw [E_w_clause.eq_def, if_pos rfl, hf, Lt_b, if_pos (by decide), E_w_clause_j34.eq_def]
noncomputable abbrev KCl9 : Type := Int32 → Int32 → Int32 → Int32 → Int32 → Int32 → Int32 → (Nat → Int32) → (Nat → Int32) → KW9
theorem j98_at {n v : Nat} {ln pa tf tt ti tu us : Int32} {fb fc fh : Nat → Int32} (hn : n < 12) (hv : v < 3) (rc : KCl9) : E_w_clause_j98 (nI n) 0 ln fb (nI v) pa us fc fh rc tf tt ti tu = (fun S : KW8 => if S.1 = 0 then ((0, S.2.1, S.2.2.1, S.2.2.2.1, S.2.2.2.2.1, S.2.2.2.2.2.1, S.2.2.2.2.2.2.1, upd fh (5 * n + (2 + v)) us, S.2.2.2.2.2.2.2) : KW9) else rc (nI (v + 1)) S.2.1 S.2.2.1 S.2.2.2.1 S.2.2.2.2.1 S.2.2.2.2.2.1 (E_w_emit 0 0 S.2.2.2.2.2.2.1 S.2.2.2.2.2.2.2).2.1 (E_w_emit 0 0 S.2.2.2.2.2.2.1 S.2.2.2.2.2.2.2).2.2 (upd fh (5 * n + (2 + v)) us)) (E_sum_0 0 0 pa ln tf tt ti tu fb us fc) := by
  rw [E_w_clause_j98.eq_def, Lt_b, kn_ca (c := 2) (k := 2) rfl (by omega), Lt_b, setHead_at (j := 2 + v) (nI_toInt (by omega)) hn (by omega)]
  generalize E_sum_0 0 0 pa ln tf tt ti tu fb us fc = S
  simp only [Lt2, Lt]
  rw [kn_po (by omega)]
/-! what has been read of orders -/
noncomputable def KSn (b : Prop) (od us nc : Nat) (fc op ar : Nat → Int32) (h x y : Int32) : Prop := (¬ b ∧ h = -1 ∧ x = y) ∨ (b ∧ KSs od us nc fc op ar h x y)
noncomputable def KOrs (n us nc : Nat) (fh fod fc op ar : Nat → Int32) : Prop := ∀ i, i < n → ∃ v t : Nat, (v < 4 ∧ 1 ≤ t ∧ t ≤ 20) ∧ fh (5 * i) = nI v ∧ fod (8 * i) = nI v ∧ fh (5 * i + 1) = nI t ∧ fod (8 * i + 7) = nI t ∧ KTs 1 us nc fc op ar (fh (5 * i + 4)) (fod (8 * i + 5)) (fod (8 * i + 6)) ∧ KSn (v < 3) 1 us nc fc op ar (fh (5 * i + 2)) (fod (8 * i + 1)) (fod (8 * i + 2)) ∧ KSn (v = 1 ∨ v = 2) 1 us nc fc op ar (fh (5 * i + 3)) (fod (8 * i + 3)) (fod (8 * i + 4))
theorem KSn.ext {b : Prop} {od us nc us' nc' : Nat} {fc op ar fc' op' ar' : Nat → Int32} {h x y : Int32} (k : KSn b od us nc fc op ar h x y) (h1 : us ≤ us') (h2 : nc ≤ nc') (h3 : ∀ j, j < us → fc' j = fc j) (h4 : ∀ j, j < nc → op' j = op j ∧ ar' j = ar j) : KSn b od us' nc' fc' op' ar' h x y := k.imp id (fun k => ⟨k.1, k.2.ext h1 h2 h3 h4⟩)
theorem KOrs.ext {n us nc us' nc' : Nat} {fh fod fc op ar fh' fod' fc' op' ar' : Nat → Int32} (h : KOrs n us nc fh fod fc op ar) (h1 : us ≤ us') (h2 : nc ≤ nc') (h3 : ∀ j, j < us → fc' j = fc j) (h4 : ∀ j, j < nc → op' j = op j ∧ ar' j = ar j) (h5 : ∀ j, j < 5 * n → fh' j = fh j) (h6 : ∀ j, j < 8 * n → fod' j = fod j) : KOrs n us' nc' fh' fod' fc' op' ar' := fun i hi => by
  obtain ⟨v, t, v0, v1, v2, v3, v4, v5, v6, v7⟩ := h i hi
  refine ⟨v, t, v0, (h5 _ (by omega)).trans v1, (h6 _ (by omega)).trans v2, (h5 _ (by omega)).trans v3, (h6 _ (by omega)).trans v4, ?_, ?_, ?_⟩
  · rw [h5 (5 * i + 4) (by omega), h6 (8 * i + 5) (by omega), h6 (8 * i + 6) (by omega)]; exact v5.ext h1 h2 h3 h4
  · rw [h5 (5 * i + 2) (by omega), h6 (8 * i + 1) (by omega), h6 (8 * i + 2) (by omega)]; exact v6.ext h1 h2 h3 h4
  · rw [h5 (5 * i + 3) (by omega), h6 (8 * i + 3) (by omega), h6 (8 * i + 4) (by omega)]; exact v7.ext h1 h2 h3 h4
/-- a sum of an order -/
theorem osum {L n v k p us nl nc : Nat} {fb ft fh fc fo fa fp fq fod : Nat → Int32} {wd we : Nat → Int64} {c : KT4} {m : KM4} {fau pi op ncl : Int32} (hR : KRy L fb ft wd we) (hn : n < 12) (hv : v < 3) (hk : k < 1000) (hT : TkP fb L p c m) (hus : us + 2 ≤ 2 * p) (hnc : nc + 1 ≤ p) (hnl : nl ≤ 50) (rc : KCl9) (P : KW9) (hP : P = E_w_clause_j98 (nI n) 0 (nI L) fb (nI v) (nI nl) (nI us) fc fh rc c.1 c.2.1 c.2.2.1 c.2.2.2) (R : KR15) (hRR : R = E_v_readSum (nI k) (nI L) m.1 m.2.1 m.2.2.1 m.2.2.2 fau 0 1 ncl (nI nc) (nI nl) pi op ft fo fa fp fq wd we fod) :
    (P.1 = 0 ∧ ∃ q : Nat, P.2.2.1 = nI q ∧ R.2.2.2.2.1 = nI q ∧ R.2.2.2.2.2.1 = 1) ∨
    ∃ (p1 : Nat) (c1 : KT4) (m1 : KM4) (us1 nl1 n1 : Nat) (fc1 fo1 fa1 fp1 fq1 : Nat → Int32), P = rc (nI (v + 1)) (nI nl1) c1.1 c1.2.1 c1.2.2.1 c1.2.2.2 (nI us1) fc1 (upd fh (5 * n + (2 + v)) (nI us)) ∧ p < p1 ∧ TkP fb L p1 c1 m1 ∧ R = (m1.1, m1.2.1, m1.2.2.1, m1.2.2.2, fau, 0, nI n1, nI nl1, nI 0, nI 0, fo1, fa1, fp1, fq1, upd (upd fod k (nI nc)) (k + 1) (nI n1)) ∧ (∀ j, j < us → fc1 j = fc j) ∧ (∀ j, j < nc → fo1 j = fo j ∧ fa1 j = fa j) ∧ (us + 2 ≤ us1 ∧ us1 ≤ 2 * p1 ∧ nc < n1 ∧ n1 ≤ p1 ∧ nl ≤ nl1 ∧ nl1 ≤ 50) ∧ KSs 1 us1 n1 fc1 fo1 fa1 (nI us) (nI nc) (nI n1) := by
  have hL := hR.1
  have xs := x_sum hR (show (1 : Nat) ≤ 1 by omega) (fau := fau) (pi0 := pi) (op0 := op) (us := us) (nl := nl) (nc := nc) (w := 1) (fc := fc) (fo := fo) (fa := fa) (fp := fp) (fq := fq) hT (by omega) hnc hnl
  change KX 1 fb L KA_ fau p us nl nc 1 fc fo fa (E_sum_0 0 0 (nI nl) (nI L) c.1 c.2.1 c.2.2.1 c.2.2.2 fb (nI us) fc) (E_v_readExpression 0 (nI L) m.1 m.2.1 m.2.2.1 m.2.2.2 fau 0 1 (nI nc) (nI nl) pi op ft fo fa fp fq wd we) at xs
  rw [j98_at hn hv] at hP
  rw [rsum_at hk] at hRR
  generalize E_sum_0 0 0 (nI nl) (nI L) c.1 c.2.1 c.2.2.1 c.2.2.2 fb (nI us) fc = S at xs hP
  generalize E_v_readExpression 0 (nI L) m.1 m.2.1 m.2.2.1 m.2.2.2 fau 0 1 (nI nc) (nI nl) pi op ft fo fa fp fq wd we = X at xs hRR
  dsimp only at hP hRR
  rcases xs with ⟨n1, q', n2, n3, n4⟩ | ⟨p1, c1, m1, us1, nl1, n1, fc1, fo1, fa1, fp1, fq1, e1, e2, e3, e4, e5, e6, e7, e8⟩
  · rw [if_pos n1] at hP
    subst hP
    subst hRR
    exact Or.inl ⟨rfl, q', n2, n3, n4⟩
  subst e1
  subst e4
  dsimp only at hP hRR
  have hp1 := e3.1
  rw [if_neg (show ¬ (1 : Int32) = 0 by decide), emit_at (us := us1) (by omega)] at hP
  have lt := e8.lt (Nat.le_refl 1) (by omega)
  refine Or.inr ⟨p1, c1, m1, us1 + 2, nl1, n1, upd (upd fc1 us1 0) (us1 + 1) 0, fo1, fa1, fp1, fq1, hP, e2, e3, hRR, fun j hj => by rw [upd_n (by omega), upd_n (by omega)]; exact e5 j hj, e6, ⟨by omega, by omega, lt, by omega, e7.2.2.1, e7.2.2.2.1⟩, us, us1, nc, n1, nl1 - nl, rfl, rfl, rfl, lt, Nat.le_refl _, by omega, ?_, ?_, Nat.le_refl _⟩
  · exact e8.ext (fun j _ hj => by rw [upd_n (by omega), upd_n (by omega)]) (fun _ _ _ => ⟨rfl, rfl⟩)
  · rw [upd_n (by omega), upd_s]
theorem in_20 {v : Int64} : E_v_in v 1 20 = 1 ↔ 1 ≤ v.toInt ∧ v.toInt ≤ 20 := by
  have zA : (20 : Int64).toInt = 20 := rfl
  have zB : (1 : Int64).toInt = 1 := rfl
  unfold E_v_in
  by_cases c0 : lg_cmp v 1 < 0
  · have c1 := jl_iff.mp ((lg_cmp_lt _ _).mp c0)
    rw [if_pos c0]; exact ⟨fun h => absurd h (by decide), fun h => by omega⟩
  · have c1 : ¬ v.toInt < (1 : Int64).toInt := fun h => c0 ((lg_cmp_lt _ _).mpr (jl_iff.mpr h))
    rw [if_neg c0]
    by_cases d0 : 0 < lg_cmp v 20
    · have d1 := jl_iff.mp ((lg_cmp_gt _ _).mp d0)
      rw [if_pos d0]; exact ⟨fun h => absurd h (by decide), fun h => by omega⟩
    · have d1 : ¬ (20 : Int64).toInt < v.toInt := fun h => d0 ((lg_cmp_gt _ _).mpr (jl_iff.mpr h))
      rw [if_neg d0]; exact ⟨fun _ => by omega, fun _ => rfl⟩
/-- "times", "if" -/
theorem times_both {L n p us nl nc : Nat} {fb ft fh fc fo fa fp fq fod : Nat → Int32} {wd we : Nat → Int64} {c : KT4} {m : KM4} {fau pi op x v : Int32} (hR : KRy L fb ft wd we) (hx : x ≤ v) (hT : TkP fb L p c m) (hus : us ≤ 2 * p) (hnc : nc ≤ p) (hnl : nl ≤ 50) (hn : n < 12) (h1 : fh (5 * n + 1) = 1) (rc : KCl9) (P : KW9) (hP : P = E_w_clause_l76 (nI n) 0 (nI L) fb x rc v (nI nl) c.1 c.2.1 c.2.2.1 c.2.2.2 (nI us) fc fh) (R : KR16) (hRR : R = E_v_readOrder_j160 (nI L) 1 ft wd we (nI (8 * n)) (nI (n + 1)) m.1 m.2.1 m.2.2.1 m.2.2.2 fau 0 (nI nc) (nI nl) pi op fo fa fp fq fod) :
    (P.1 = 0 ∧ ∃ q : Nat, P.2.2.1 = nI q ∧ R.2.2.2.2.1 = nI q ∧ R.2.2.2.2.2.1 = 1) ∨
    ∃ (t p1 : Nat) (fht fodt : Nat → Int32), (1 ≤ t ∧ t ≤ 20 ∧ p ≤ p1) ∧ fht (5 * n + 1) = nI t ∧ fodt (8 * n + 7) = nI t ∧ (∀ j, j ≠ 5 * n + 1 → fht j = fh j) ∧ (∀ j, j ≠ 8 * n + 7 → fodt j = fod j) ∧ KIf 1 L n p1 us nl nc fb fau (nI (n + 1)) (8 * n + 6) fht fc (upd fodt (8 * n + 5) (nI nc)) fo fa P R := by
  have hL := hR.1
  have hpL := hT.1
  obtain ⟨q, q1, q2, hQ⟩ := kx_next hR hT
  have hqL := hQ.1
  have frq := TkP.froms (tf := (E_w_step (nI L) c.1 c.2.1 c.2.2.1 c.2.2.2 fb).1) (tt := (E_w_step (nI L) c.1 c.2.1 c.2.2.1 c.2.2.2 fb).2.1) (ti := (E_w_step (nI L) c.1 c.2.1 c.2.2.1 c.2.2.2 fb).2.2.1) (tu := (E_w_step (nI L) c.1 c.2.1 c.2.2.1 c.2.2.2 fb).2.2.2) (fr := (E_v_next (nI L) m.1 m.2.1 m.2.2.1 m.2.2.2 ft).1) (to := (E_v_next (nI L) m.1 m.2.1 m.2.2.1 m.2.2.2 ft).2.1) (so := (E_v_next (nI L) m.1 m.2.1 m.2.2.1 m.2.2.2 ft).2.2.1) (wo := (E_v_next (nI L) m.1 m.2.1 m.2.2.1 m.2.2.2 ft).2.2.2) hQ
  rw [E_w_clause_l76.eq_def, if_pos hx, if_pos rfl] at hP
  rcases tk_one (k := 3) (c := 21279923) (tf := c.1) (tt := c.2.1) (ti := c.2.2.1) (tu := c.2.2.2) (fr := m.1) (to := m.2.1) (so := m.2.2.1) (wo := m.2.2.2) (by omega) (by omega) rfl (by decide +kernel) hT (nI L) with ⟨f0, w1, pl⟩ | ⟨f0, w0⟩
  · have qp := q2 pl
    rw [pas_p f0] at hP
    rw [j160_go (by omega) w1] at hRR
    generalize hs : E_w_step (nI L) c.1 c.2.1 c.2.2.1 c.2.2.2 fb = s at hQ hP frq
    generalize hm : E_v_next (nI L) m.1 m.2.1 m.2.2.1 m.2.2.2 ft = mn at hQ hRR frq
    rw [Lt2_b, Lt2_b, Lt2_b, Lt2_b] at hP
    dsimp only at hP
    rw [if_neg (show ¬ (1 : Int32) = 0 by decide)] at hP
    have bad0 : (mn.2.2.1 ≠ 2 ∨ E_v_in mn.2.2.2 1 20 ≠ 1) → P.1 = 0 → P.2.2.1 = s.1 → (P.1 = 0 ∧ ∃ q : Nat, P.2.2.1 = nI q ∧ R.2.2.2.2.1 = nI q ∧ R.2.2.2.2.2.1 = 1) := fun hb p1 p2 => by
      rw [number_n hb] at hRR
      dsimp only at hRR
      rw [hRR]
      exact ⟨p1, q, p2.trans frq.1, j208_bad.1.trans frq.2.1, j208_bad.2⟩
    rcases tk_num (tf := s.1) (tt := s.2.1) (ti := s.2.2.1) (tu := s.2.2.2) (fr := mn.1) (to := mn.2.1) (so := mn.2.2.1) (wo := mn.2.2.2) hQ with ⟨n0, n1, _, _, n4, n5⟩ | ⟨n1, n2⟩
    case inr =>
      rw [if_pos (show s.2.2.2 < 1 by rw [n2]; decide), E_w_clause_j182.eq_def] at hP
      exact Or.inl (bad0 (Or.inl n1) (by rw [hP]) (by rw [hP]))
    have z1 : (1 : Int32).toInt = 1 := rfl
    have z20 : (20 : Int32).toInt = 20 := rfl
    by_cases c1 : s.2.2.2 < 1
    · have c2 := il_iff.mp c1
      rw [if_pos c1, E_w_clause_j182.eq_def] at hP
      exact Or.inl (bad0 (Or.inr (fun h => by have := in_20.mp h; omega)) (by rw [hP]) (by rw [hP]))
    have c2 : ¬ s.2.2.2.toInt < (1 : Int32).toInt := fun h => c1 (il_iff.mpr h)
    rw [if_neg c1] at hP
    by_cases d1 : s.2.2.2 ≤ 20
    · have d2 := ie_iff.mp d1
      have wv : mn.2.2.2.toInt = s.2.2.2.toInt := by omega
      have wt : mn.2.2.2.toInt32 = s.2.2.2 := Int32.toInt_inj.mp (by rw [l_nar (Eq.refl mn.2.2.2.toInt) (by omega)]; exact wv)
      obtain ⟨t, ht, hz⟩ : ∃ t : Nat, s.2.2.2 = nI t ∧ (t : Int) = s.2.2.2.toInt := ⟨s.2.2.2.toInt.toNat, i_ofN rfl n4, by omega⟩
      rw [if_pos d1, Lt_b, Lt2_b, Lt2_b, Lt2_b, setHead_at (y := 1) (j := 1) rfl hn (by omega)] at hP
      rw [number_p n1 (in_20.mpr (by omega)), wt] at hRR
      dsimp only at hRR
      obtain ⟨s2, s21, s22, hS⟩ := kx_next hR hQ
      have hsL := hS.1
      rw [j208_at (by omega)] at hRR
      subst hP
      subst hRR
      refine Or.inr ⟨t, s2, upd fh (5 * n + 1) s.2.2.2, upd (upd fod (8 * n + 7) 1) (8 * n + 7) s.2.2.2, ⟨by omega, by omega, by omega⟩, by rw [upd_s, ht], by rw [upd_s, ht], fun j hj => upd_n hj, fun j hj => by rw [upd_n hj, upd_n hj], ?_⟩
      exact if_both hR (show (1 : Nat) ≤ 1 by omega) hS (by omega) (by omega) hnl hn
    · have d2 : ¬ s.2.2.2.toInt ≤ (20 : Int32).toInt := fun h => d1 (ie_iff.mpr h)
      rw [if_neg d1, E_w_clause_j182.eq_def] at hP
      exact Or.inl (bad0 (Or.inr (fun h => by have := in_20.mp h; omega)) (by rw [hP]) (by rw [hP]))
  · rw [pas_n f0] at hP
    rw [Lt2_b, Lt2_b, Lt2_b, Lt2_b, if_pos (show (0 : Int32) = 0 from rfl)] at hP
    dsimp only at hP
    rw [j160_no (by omega) w0] at hRR
    subst hP
    subst hRR
    exact Or.inr ⟨1, p, fh, upd fod (8 * n + 7) 1, ⟨by omega, by omega, Nat.le_refl _⟩, h1, upd_s, fun _ _ => rfl, fun j hj => upd_n hj, if_both hR (show (1 : Nat) ≤ 1 by omega) hT hus hnc hnl hn⟩
