/-! behind a sum: a comparison, or the test goes on -/
noncomputable def kcc (o : Nat) : Int32 := match o with
  | 25 => 60
  | 26 => 62
  | _ => 61
theorem kcc_ok : ∀ o, 25 ≤ o → o ≤ 27 → 0 ≤ (kcc o).toInt ∧ ¬ (97 ≤ (kcc o).toInt ∧ (kcc o).toInt ≤ 122) ∧ ¬ (48 ≤ (kcc o).toInt ∧ (kcc o).toInt ≤ 57) := by
  intro o h1 h2
  rcases (show o = 25 ∨ o = 26 ∨ o = 27 by omega) with rfl | rfl | rfl <;> decide
theorem bs_cmp {go ga ft fo fa fp fq fo' fa' : Nat → Int32} {x ta fr to so fau nl opn : Int32} {wo : Int64} {o nc pi nc' pi' : Nat} (ho : 25 ≤ o ∧ o ≤ 27) (h5 : ∀ u, 20 ≤ u → u ≤ 24 → E_v_isSign (kch u) so wo = 0) (hs : ∀ u, 25 ≤ u → u ≤ 27 → E_v_isSign (kcc u) so wo = if u = o then 1 else 0) (hi : (E_v_inner (nI pi) fp = -1 ∧ x ≠ 0) ∨ E_v_inner (nI pi) fp = 31) (hc : E_v_isCompared (nI pi) fp = 0) (hp : pi < 1000) (hp' : pi' < 1000) (hk : kst 5 nc pi fo fa fp fq = (nI nc', nI pi', fo', fa')) : E_v_behindSum go ga x ta fr to so wo fau 0 (nI nc) nl (nI pi) opn ft fo fa fp fq = (1, (E_v_next ta fr to so wo ft).1, (E_v_next ta fr to so wo ft).2.1, (E_v_next ta fr to so wo ft).2.2.1, (E_v_next ta fr to so wo ft).2.2.2, fau, 0, nI nc', nI (pi' + 1), opn, fo', fa', upd fp pi' (nI o), upd fq pi' 0) := by
  have s0 : E_v_isSign 43 so wo = 0 := h5 20 (by omega) (by omega)
  have s1 : E_v_isSign 45 so wo = 0 := h5 21 (by omega) (by omega)
  have s2 : E_v_isSign 42 so wo = 0 := h5 22 (by omega) (by omega)
  have s3 : E_v_isSign 47 so wo = 0 := h5 23 (by omega) (by omega)
  have s4 : E_v_isSign 37 so wo = 0 := h5 24 (by omega) (by omega)
  have c0 : E_v_isSign 60 so wo = if 25 = o then 1 else 0 := hs 25 (by omega) (by omega)
  have c1 : E_v_isSign 62 so wo = if 26 = o then 1 else 0 := hs 26 (by omega) (by omega)
  have c2 : E_v_isSign 61 so wo = if 27 = o then 1 else 0 := hs 27 (by omega) (by omega)
  have stl : E_v_settle go ga 5 (nI nc) (nI pi) fo fa fp fq = (nI nc', nI pi', fo', fa') := (settle_at (l := 5) (by omega)).trans hk
  rw [E_v_behindSum.eq_def, Lt_b, if_neg (by rw [s0]; decide), Lt_b, if_neg (by rw [s1]; decide), Lt_b, if_neg (by rw [s2]; decide), Lt_b, if_neg (by rw [s3]; decide), Lt_b, if_neg (by rw [s4]; decide), Lt_b]
  rcases hi with ⟨hi, hx⟩ | hi
  · rw [if_neg (by rw [hi]; decide), if_pos hi, if_neg hx, Lt_b, if_pos hc, Lt_b, c0]
    rcases (show o = 25 ∨ o = 26 ∨ o = 27 by omega) with rfl | rfl | rfl
    · rw [if_pos (by decide), must_1]
      simp only [Lt2, Lt, E_v_push]
      rw [if_pos (by trivial), stl, kn_cl (a := pi') (by omega), kn_p1 (a := pi') (by omega)]
      rfl
    · rw [if_neg (by decide), Lt_b, c1, if_pos (by decide), must_1]
      simp only [Lt2, Lt, E_v_push]
      rw [if_pos (by trivial), stl, kn_cl (a := pi') (by omega), kn_p1 (a := pi') (by omega)]
      rfl
    · rw [if_neg (by decide), Lt_b, c1, if_neg (by decide), Lt_b, c2, if_pos (by decide), must_1]
      simp only [Lt2, Lt, E_v_push]
      rw [if_pos (by trivial), stl, kn_cl (a := pi') (by omega), kn_p1 (a := pi') (by omega)]
      rfl
  · rw [if_neg (by rw [hi]; decide), if_neg (by rw [hi]; decide), Lt_b, if_pos hc, Lt_b, c0]
    rcases (show o = 25 ∨ o = 26 ∨ o = 27 by omega) with rfl | rfl | rfl
    · rw [if_pos (by decide), must_1]
      simp only [Lt2, Lt, E_v_push]
      rw [if_pos (by trivial), stl, kn_cl (a := pi') (by omega), kn_p1 (a := pi') (by omega)]
      rfl
    · rw [if_neg (by decide), Lt_b, c1, if_pos (by decide), must_1]
      simp only [Lt2, Lt, E_v_push]
      rw [if_pos (by trivial), stl, kn_cl (a := pi') (by omega), kn_p1 (a := pi') (by omega)]
      rfl
    · rw [if_neg (by decide), Lt_b, c1, if_neg (by decide), Lt_b, c2, if_pos (by decide), must_1]
      simp only [Lt2, Lt, E_v_push]
      rw [if_pos (by trivial), stl, kn_cl (a := pi') (by omega), kn_p1 (a := pi') (by omega)]
      rfl
/-- no comparison where one must be -/
theorem bs_cmp_n {go ga ft fo fa fp fq : Nat → Int32} {x ta fr to so fau nc nl opn : Int32} {wo : Int64} {pi : Nat} (h5 : ∀ u, 20 ≤ u → u ≤ 24 → E_v_isSign (kch u) so wo = 0) (hs : ∀ u, 25 ≤ u → u ≤ 27 → E_v_isSign (kcc u) so wo = 0) (hi : (E_v_inner (nI pi) fp = -1 ∧ x ≠ 0) ∨ E_v_inner (nI pi) fp = 31) (hc : E_v_isCompared (nI pi) fp = 0) : ∃ a b e h1 h2 h3 h4, E_v_behindSum go ga x ta fr to so wo fau 0 nc nl (nI pi) opn ft fo fa fp fq = (1, fr, to, so, wo, fr, 1, a, b, e, h1, h2, h3, h4) := by
  have s0 : E_v_isSign 43 so wo = 0 := h5 20 (by omega) (by omega)
  have s1 : E_v_isSign 45 so wo = 0 := h5 21 (by omega) (by omega)
  have s2 : E_v_isSign 42 so wo = 0 := h5 22 (by omega) (by omega)
  have s3 : E_v_isSign 47 so wo = 0 := h5 23 (by omega) (by omega)
  have s4 : E_v_isSign 37 so wo = 0 := h5 24 (by omega) (by omega)
  have c0 : E_v_isSign 60 so wo = 0 := hs 25 (by omega) (by omega)
  have c1 : E_v_isSign 62 so wo = 0 := hs 26 (by omega) (by omega)
  have c2 : E_v_isSign 61 so wo = 0 := hs 27 (by omega) (by omega)
  rw [E_v_behindSum.eq_def, Lt_b, if_neg (by rw [s0]; decide), Lt_b, if_neg (by rw [s1]; decide), Lt_b, if_neg (by rw [s2]; decide), Lt_b, if_neg (by rw [s3]; decide), Lt_b, if_neg (by rw [s4]; decide), Lt_b]
  rcases hi with ⟨hi, hx⟩ | hi
  · rw [if_neg (by rw [hi]; decide), if_pos hi, if_neg hx, Lt_b, if_pos hc, Lt_b, if_neg (by rw [c0]; decide), Lt_b, if_neg (by rw [c1]; decide), Lt_b, if_neg (by rw [c2]; decide), must_0]
    simp only [Lt2, Lt]
    rw [if_neg (by decide)]
    exact ⟨_, _, _, _, _, _, _, rfl⟩
  · rw [if_neg (by rw [hi]; decide), if_neg (by rw [hi]; decide), Lt_b, if_pos hc, Lt_b, if_neg (by rw [c0]; decide), Lt_b, if_neg (by rw [c1]; decide), Lt_b, if_neg (by rw [c2]; decide), must_0]
    simp only [Lt2, Lt]
    rw [if_neg (by decide)]
    exact ⟨_, _, _, _, _, _, _, rfl⟩
/-- both sides of a comparison are told -/
theorem bs_told {go ga ft fo fa fp fq : Nat → Int32} {x ta fr to so fau nc nl opn : Int32} {wo : Int64} {pi : Nat} (h5 : ∀ u, 20 ≤ u → u ≤ 24 → E_v_isSign (kch u) so wo = 0) (hi : (E_v_inner (nI pi) fp = -1 ∧ x ≠ 0) ∨ E_v_inner (nI pi) fp = 31) (hc : E_v_isCompared (nI pi) fp = 1) : E_v_behindSum go ga x ta fr to so wo fau 0 nc nl (nI pi) opn ft fo fa fp fq = (2, fr, to, so, wo, fau, 0, nc, nI pi, opn, fo, fa, fp, fq) := by
  have s0 : E_v_isSign 43 so wo = 0 := h5 20 (by omega) (by omega)
  have s1 : E_v_isSign 45 so wo = 0 := h5 21 (by omega) (by omega)
  have s2 : E_v_isSign 42 so wo = 0 := h5 22 (by omega) (by omega)
  have s3 : E_v_isSign 47 so wo = 0 := h5 23 (by omega) (by omega)
  have s4 : E_v_isSign 37 so wo = 0 := h5 24 (by omega) (by omega)
  rw [E_v_behindSum.eq_def, Lt_b, if_neg (by rw [s0]; decide), Lt_b, if_neg (by rw [s1]; decide), Lt_b, if_neg (by rw [s2]; decide), Lt_b, if_neg (by rw [s3]; decide), Lt_b, if_neg (by rw [s4]; decide), Lt_b]
  rcases hi with ⟨hi, hx⟩ | hi
  · rw [if_neg (by rw [hi]; decide), if_pos hi, if_neg hx, Lt_b, if_neg (by rw [hc]; decide)]
  · rw [if_neg (by rw [hi]; decide), if_neg (by rw [hi]; decide), Lt_b, if_neg (by rw [hc]; decide)]
/-- the end of a sum that is no test's -/
theorem bs_over {go ga ft fo fa fp fq : Nat → Int32} {x ta fr to so fau nc nl opn : Int32} {wo : Int64} {pi : Nat} (h5 : ∀ u, 20 ≤ u → u ≤ 24 → E_v_isSign (kch u) so wo = 0) (hi : E_v_inner (nI pi) fp = -1) (hx : x = 0) : E_v_behindSum go ga x ta fr to so wo fau 0 nc nl (nI pi) opn ft fo fa fp fq = (4, fr, to, so, wo, fau, 0, nc, nI pi, opn, fo, fa, fp, fq) := by
  have s0 : E_v_isSign 43 so wo = 0 := h5 20 (by omega) (by omega)
  have s1 : E_v_isSign 45 so wo = 0 := h5 21 (by omega) (by omega)
  have s2 : E_v_isSign 42 so wo = 0 := h5 22 (by omega) (by omega)
  have s3 : E_v_isSign 47 so wo = 0 := h5 23 (by omega) (by omega)
  have s4 : E_v_isSign 37 so wo = 0 := h5 24 (by omega) (by omega)
  rw [E_v_behindSum.eq_def, Lt_b, if_neg (by rw [s0]; decide), Lt_b, if_neg (by rw [s1]; decide), Lt_b, if_neg (by rw [s2]; decide), Lt_b, if_neg (by rw [s3]; decide), Lt_b, if_neg (by rw [s4]; decide), Lt_b, if_neg (by rw [hi]; decide), if_pos hi, if_pos hx]
/-! behind a test -/
theorem bt_and {go ga ft fo fa fp fq fo' fa' : Nat → Int32} {ta fr to so fau nl opn : Int32} {wo : Int64} {nc pi nc' pi' : Nat} (hw : E_v_isWord 1476 so wo = 1) (hp : pi < 1000) (hp' : pi' < 1000) (hn : nc' < 1000) (hk : kst 2 nc pi fo fa fp fq = (nI nc', nI pi', fo', fa')) : E_v_behindTest go ga ta fr to so wo fau 0 (nI nc) nl (nI pi) opn ft fo fa fp fq = (0, (E_v_next ta fr to so wo ft).1, (E_v_next ta fr to so wo ft).2.1, (E_v_next ta fr to so wo ft).2.2.1, (E_v_next ta fr to so wo ft).2.2.2, fau, 0, nI (nc' + 1), nI (pi' + 1), opn, upd fo' nc' 29, upd fa' nc' 0, upd fp pi' 29, upd fq pi' (nI nc')) := by
  have stl : E_v_settle go ga 2 (nI nc) (nI pi) fo fa fp fq = (nI nc', nI pi', fo', fa') := (settle_at (l := 2) (by omega)).trans hk
  rw [E_v_behindTest.eq_def, Lt_b, if_pos hw, stl]
  simp only [Lt2, Lt, E_v_push, E_v_emit]
  rw [kn_cl (a := nc') (by omega), kn_cl (a := pi') (by omega), kn_p1 (a := nc') (by omega), kn_p1 (a := pi') (by omega)]
theorem bt_or {go ga ft fo fa fp fq fo' fa' : Nat → Int32} {ta fr to so fau nl opn : Int32} {wo : Int64} {nc pi nc' pi' : Nat} (hw0 : E_v_isWord 1476 so wo = 0) (hw : E_v_isWord 498 so wo = 1) (hp : pi < 1000) (hp' : pi' < 1000) (hn : nc' < 1000) (hk : kst 1 nc pi fo fa fp fq = (nI nc', nI pi', fo', fa')) : E_v_behindTest go ga ta fr to so wo fau 0 (nI nc) nl (nI pi) opn ft fo fa fp fq = (0, (E_v_next ta fr to so wo ft).1, (E_v_next ta fr to so wo ft).2.1, (E_v_next ta fr to so wo ft).2.2.1, (E_v_next ta fr to so wo ft).2.2.2, fau, 0, nI (nc' + 1), nI (pi' + 1), opn, upd fo' nc' 30, upd fa' nc' 0, upd fp pi' 30, upd fq pi' (nI nc')) := by
  have stl : E_v_settle go ga 1 (nI nc) (nI pi) fo fa fp fq = (nI nc', nI pi', fo', fa') := (settle_at (l := 1) (by omega)).trans hk
  rw [E_v_behindTest.eq_def, Lt_b, if_neg (by rw [hw0]; decide), Lt_b, if_pos hw, stl]
  simp only [Lt2, Lt, E_v_push, E_v_emit]
  rw [kn_cl (a := nc') (by omega), kn_cl (a := pi') (by omega), kn_p1 (a := nc') (by omega), kn_p1 (a := pi') (by omega)]
theorem bt_over {go ga ft fo fa fp fq : Nat → Int32} {ta fr to so fau nc nl opn : Int32} {wo : Int64} {pi : Nat} (hw0 : E_v_isWord 1476 so wo = 0) (hw : E_v_isWord 498 so wo = 0) (hi : E_v_inner (nI pi) fp = -1) : E_v_behindTest go ga ta fr to so wo fau 0 nc nl (nI pi) opn ft fo fa fp fq = (4, fr, to, so, wo, fau, 0, nc, nI pi, opn, fo, fa, fp, fq) := by
  rw [E_v_behindTest.eq_def, Lt_b, if_neg (by rw [hw0]; decide), Lt_b, if_neg (by rw [hw]; decide), Lt_b, if_pos hi]
theorem bt_close {go ga ft fo fa fp fq fo' fa' : Nat → Int32} {ta fr to so fau nl : Int32} {wo : Int64} {nc pi nc' pi' d : Nat} (hw0 : E_v_isWord 1476 so wo = 0) (hw : E_v_isWord 498 so wo = 0) (hi : E_v_inner (nI pi) fp = 31) (hs : E_v_isSign 41 so wo = 1) (hp : pi < 1000) (hp' : pi' < 1000) (hd : d < 1000) (hk : kst 1 nc pi fo fa fp fq = (nI nc', nI (pi' + 1), fo', fa')) : E_v_behindTest go ga ta fr to so wo fau 0 (nI nc) nl (nI pi) (nI (d + 1)) ft fo fa fp fq = (2, (E_v_next ta fr to so wo ft).1, (E_v_next ta fr to so wo ft).2.1, (E_v_next ta fr to so wo ft).2.2.1, (E_v_next ta fr to so wo ft).2.2.2, fau, 0, nI nc', nI pi', nI d, fo', fa', fp, fq) := by
  have stl : E_v_settle go ga 1 (nI nc) (nI pi) fo fa fp fq = (nI nc', nI (pi' + 1), fo', fa') := (settle_at (l := 1) (by omega)).trans hk
  rw [E_v_behindTest.eq_def, Lt_b, if_neg (by rw [hw0]; decide), Lt_b, if_neg (by rw [hw]; decide), Lt_b, if_neg (by rw [hi]; decide), Lt_b, if_pos hs, must_1]
  simp only [Lt2, Lt]
  rw [if_pos (by trivial), stl, kn_m1 (a := pi' + 1) (by omega) (by omega), kn_m1 (a := d + 1) (by omega) (by omega)]
  rfl
theorem bt_close_n {go ga ft fo fa fp fq : Nat → Int32} {ta fr to so fau nc nl opn : Int32} {wo : Int64} {pi : Nat} (hw0 : E_v_isWord 1476 so wo = 0) (hw : E_v_isWord 498 so wo = 0) (hi : E_v_inner (nI pi) fp = 31) (hs : E_v_isSign 41 so wo = 0) : ∃ a b e h1 h2 h3 h4, E_v_behindTest go ga ta fr to so wo fau 0 nc nl (nI pi) opn ft fo fa fp fq = (2, fr, to, so, wo, fr, 1, a, b, e, h1, h2, h3, h4) := by
  rw [E_v_behindTest.eq_def, Lt_b, if_neg (by rw [hw0]; decide), Lt_b, if_neg (by rw [hw]; decide), Lt_b, if_neg (by rw [hi]; decide), Lt_b, if_neg (by rw [hs]; decide), must_0]
  simp only [Lt2, Lt]
  rw [if_neg (by decide)]
  exact ⟨_, _, _, _, _, _, _, rfl⟩
