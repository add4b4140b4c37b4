/-! readLaw, the reference's side of a clause -/
theorem rl_b {ta fr to so fau bd ord ncl nc nl pi opn : Int32} {wo : Int64} {ft fo fa fp fq fcl : Nat → Int32} {fwd fwe fhd : Nat → Int64} (rc : Int32 → Int32 → KR16) (v : Nat) (r : Int32) (hv : v < 4) : E_v_readLaw_l4 ta fr to so wo fau bd ord ncl nc nl pi opn ft fo fa fp fq fwd fwe fcl fhd rc (nI v) r = if E_v_isWord (fhd v) so wo = 1 then rc (nI (v + 1)) (nI v) else rc (nI (v + 1)) r := by
  rw [E_v_readLaw_l4.eq_def, if_neg (kn_nlel (j := 4) rfl (by omega) hv)]
  simp only [Lt]
  rw [kn_cl (by omega), kn_po (by omega)]
theorem rl_top {ta fr to so fau bd ord ncl nc nl pi opn : Int32} {wo : Int64} {ft fo fa fp fq fcl : Nat → Int32} {fwd fwe fhd : Nat → Int64} : E_v_readLaw ta fr to so wo fau bd ord ncl nc nl pi opn ft fo fa fp fq fwd fwe fcl fhd = Lp (α := Int32 → Int32 → KR16) (E_v_readLaw_l4 ta fr to so wo fau bd ord ncl nc nl pi opn ft fo fa fp fq fwd fwe fcl fhd) (fun _ _ => ((0, 0, 0, 0, 0, 0, 0, 0, 0, 0, 0, fun _ => 0, fun _ => 0, fun _ => 0, fun _ => 0, fun _ => 0) : KR16)) (1 + 4 + 1) (nI 0) (-1) := by
  rw [E_v_readLaw.eq_def]; rfl
theorem law_no {ta fr to so fau ord ncl nc nl pi opn : Int32} {wo : Int64} {ft fo fa fp fq fcl : Nat → Int32} {fwd fwe fhd : Nat → Int64} (h : ∀ j, j < 4 → E_v_isWord (fhd j) so wo = 0) : E_v_readLaw ta fr to so wo fau 0 ord ncl nc nl pi opn ft fo fa fp fq fwd fwe fcl fhd = (fr, to, so, wo, fr, 1, ncl, nc, nl, pi, opn, fo, fa, fp, fq, fcl) := by
  have hd := hd_in (wd := fhd) (so := so) (wo := wo) (fun _ _ => ((0, 0, 0, 0, 0, 0, 0, 0, 0, 0, 0, fun _ => 0, fun _ => 0, fun _ => 0, fun _ => 0, fun _ => 0) : KR16)) (E_v_readLaw_l4 ta fr to so wo fau 0 ord ncl nc nl pi opn ft fo fa fp fq fwd fwe fcl fhd) (fun rc v r hv => rl_b rc v r hv) 4 0 1 (-1) (by omega)
  rw [rl_top, hd.1 (fun j _ hj => h j hj), Lp_s, E_v_readLaw_l4.eq_def, if_pos (by decide), if_pos rfl, must_0]
  simp only [Lt2]
  rw [if_neg (by decide)]
theorem law_full {ta fr to so fau ord nc nl pi opn : Int32} {wo : Int64} {ft fo fa fp fq fcl : Nat → Int32} {fwd fwe fhd : Nat → Int64} (h : (∃ i, i < 4 ∧ E_v_isWord (fhd i) so wo = 1 ∧ ∀ j, j < 4 → j ≠ i → E_v_isWord (fhd j) so wo = 0) ∨ ∀ j, j < 4 → E_v_isWord (fhd j) so wo = 0) : E_v_readLaw ta fr to so wo fau 0 ord (nI 12) nc nl pi opn ft fo fa fp fq fwd fwe fcl fhd = (fr, to, so, wo, fr, 1, nI 12, nc, nl, pi, opn, fo, fa, fp, fq, fcl) := by
  rcases h with ⟨i, i1, i2, i3⟩ | h
  · have hd := hd_in (wd := fhd) (so := so) (wo := wo) (fun _ _ => ((0, 0, 0, 0, 0, 0, 0, 0, 0, 0, 0, fun _ => 0, fun _ => 0, fun _ => 0, fun _ => 0, fun _ => 0) : KR16)) (E_v_readLaw_l4 ta fr to so wo fau 0 ord (nI 12) nc nl pi opn ft fo fa fp fq fwd fwe fcl fhd) (fun rc v r hv => rl_b rc v r hv) 4 0 1 (-1) (by omega)
    rw [rl_top, hd.2 i (Nat.zero_le _) i1 i2 (fun j _ hj hn => i3 j hj hn), Lp_s, E_v_readLaw_l4.eq_def, if_pos (by decide), if_neg (fun q => by have := congrArg Int32.toInt q; rw [nI_toInt (by omega)] at this; have z1 : (-1 : Int32).toInt = -1 := rfl; omega), if_pos (by decide), must_0]
    simp only [Lt2]
    rw [if_neg (by decide)]
  · exact law_no h
theorem law_go {ta fr to so fau ord nc nl pi opn : Int32} {wo : Int64} {n i : Nat} {ft fo fa fp fq fcl : Nat → Int32} {fwd fwe fhd : Nat → Int64} (hn : n < 12) (i1 : i < 4) (i2 : E_v_isWord (fhd i) so wo = 1) (i3 : ∀ j, j < 4 → j ≠ i → E_v_isWord (fhd j) so wo = 0) : E_v_readLaw ta fr to so wo fau 0 ord (nI n) nc nl pi opn ft fo fa fp fq fwd fwe fcl fhd = Lp (α := Int32 → (Nat → Int32) → KR16) (E_v_readLaw_l75 ta ord (nI n) nc nl pi opn ft fo fa fp fq fwd fwe (nI i) (E_v_next ta fr to so wo ft).1 (E_v_next ta fr to so wo ft).2.1 (E_v_next ta fr to so wo ft).2.2.1 (E_v_next ta fr to so wo ft).2.2.2 fau 0 (nI (8 * n))) (fun _ _ => ((0, 0, 0, 0, 0, 0, 0, 0, 0, 0, 0, fun _ => 0, fun _ => 0, fun _ => 0, fun _ => 0, fun _ => 0) : KR16)) (1 + 8 + 1) (nI 0) fcl := by
  have hd := hd_in (wd := fhd) (so := so) (wo := wo) (fun _ _ => ((0, 0, 0, 0, 0, 0, 0, 0, 0, 0, 0, fun _ => 0, fun _ => 0, fun _ => 0, fun _ => 0, fun _ => 0) : KR16)) (E_v_readLaw_l4 ta fr to so wo fau 0 ord (nI n) nc nl pi opn ft fo fa fp fq fwd fwe fcl fhd) (fun rc v r hv => rl_b rc v r hv) 4 0 1 (-1) (by omega)
  rw [rl_top, hd.2 i (Nat.zero_le _) i1 i2 (fun j _ hj hn => i3 j hj hn), Lp_s, E_v_readLaw_l4.eq_def, if_pos (by decide), if_neg (fun q => by have := congrArg Int32.toInt q; rw [nI_toInt (by omega)] at this; have z1 : (-1 : Int32).toInt = -1 := rfl; omega), if_neg (kn_nlel (j := 12) rfl (by omega) hn), must_1]
  rw [Lt2_b, Lt2_b, Lt2_b, Lt2_b, Lt2_b, if_pos (show (0 : Int32) = 0 from rfl), Lt_b, kn_m8 (by omega), show ((9 - (0 : Int32).toInt : Int).toNat + 1) = 1 + 8 + 1 from rfl, show nI 0 = (0 : Int32) from rfl]
theorem lz_b {ta ord nc nl pi opn fr to so fau bd : Int32} {wo : Int64} {n : Nat} {v0 : Int32} {ft fo fa fp fq : Nat → Int32} {fwd fwe : Nat → Int64} (hn : n < 1000) (rc : Int32 → (Nat → Int32) → KR16) (v : Nat) (f : Nat → Int32) (hv : v < 8) : E_v_readLaw_l75 ta ord (nI n) nc nl pi opn ft fo fa fp fq fwd fwe v0 fr to so wo fau bd (nI (8 * n)) rc (nI v) f = rc (nI (v + 1)) (upd f (8 * n + v) 0) := by
  rw [E_v_readLaw_l75.eq_def, if_neg (kn_nlel (j := 8) rfl (by omega) hv), Lt_b, Lt_b, Lt_b, kn_po (by omega), kn_ac (nI_toInt (by omega)) (by omega), kn_cl (by omega)]
theorem law_rest3 {ta ord nc nl pi opn fr to so fau : Int32} {wo : Int64} {n : Nat} {ft fo fa fp fq f8 : Nat → Int32} {fwd fwe : Nat → Int64} (hn : n < 1000) (z : Int32 → (Nat → Int32) → KR16) : Lp (α := Int32 → (Nat → Int32) → KR16) (E_v_readLaw_l75 ta ord (nI n) nc nl pi opn ft fo fa fp fq fwd fwe (nI 3) fr to so wo fau 0 (nI (8 * n))) z (1 + 1) (nI 8) f8 = rIf ta ord ft fwd fwe (nI (n + 1)) (8 * n + 6) fr to so wo fau 0 nc nl pi opn fo fa fp fq (upd (upd (upd (upd f8 (8 * n) (nI 3)) (8 * n + 3) nc) (8 * n + 4) nc) (8 * n + 5) nc) := by
  have a0 : (nI (8 * n)).toNatClampNeg = 8 * n := kn_cl (by omega)
  have a3 : (nI (8 * n) + 3).toNatClampNeg = 8 * n + 3 := by rw [kn_ac (c := 3) (k := 3) rfl (by omega), kn_cl (by omega)]
  have a4 : (nI (8 * n) + 4).toNatClampNeg = 8 * n + 4 := by rw [kn_ac (c := 4) (k := 4) rfl (by omega), kn_cl (by omega)]
  have a5 : (nI (8 * n) + 5).toNatClampNeg = 8 * n + 5 := by rw [kn_ac (c := 5) (k := 5) rfl (by omega), kn_cl (by omega)]
  have a6 : (nI (8 * n) + 6).toNatClampNeg = 8 * n + 6 := by rw [kn_ac (c := 6) (k := 6) rfl (by omega), kn_cl (by omega)]
  have an : nI n + 1 = nI (n + 1) := kn_p1 (by omega)
  rw [Lp_s, E_v_readLaw_l75.eq_def, if_pos (by decide)]
  rw [Lt_b, Lt_b, Lt_b, Lt_b, if_pos (show nI 3 = (3 : Int32) from rfl), Lt_b, Lt_b, Lt_b, Lt_b, if_pos (show (0 : Int32) = 0 from rfl), Lt_b, a0, a3, a4, a5, an]
  unfold rIf
  rw [if_pos (show (0 : Int32) = 0 from rfl)]
  by_cases w : E_v_isWord 294 so wo = 1
  · rw [if_pos w, if_pos w, Lt2_b, Lt2_b, Lt2_b]
    generalize E_v_readExpression 1 ta (E_v_next ta fr to so wo ft).1 (E_v_next ta fr to so wo ft).2.1 (E_v_next ta fr to so wo ft).2.2.1 (E_v_next ta fr to so wo ft).2.2.2 fau 0 ord nc nl pi opn ft fo fa fp fq fwd fwe = R
    rw [← a6]
    rfl
  · rw [if_neg w, if_neg w, Lt_b, Lt_b, a6]
theorem law_rest {ta ord nc nl pi opn fr to so fau : Int32} {wo : Int64} {n i : Nat} {ft fo fa fp fq f8 : Nat → Int32} {fwd fwe : Nat → Int64} (hn : n < 1000) (hi : i < 3) (z : Int32 → (Nat → Int32) → KR16) : Lp (α := Int32 → (Nat → Int32) → KR16) (E_v_readLaw_l75 ta ord (nI n) nc nl pi opn ft fo fa fp fq fwd fwe (nI i) fr to so wo fau 0 (nI (8 * n))) z (1 + 1) (nI 8) f8 = (fun R : KR14 => rIf ta ord ft fwd fwe (nI (n + 1)) (8 * n + 6) R.1 R.2.1 R.2.2.1 R.2.2.2.1 R.2.2.2.2.1 R.2.2.2.2.2.1 R.2.2.2.2.2.2.1 R.2.2.2.2.2.2.2.1 R.2.2.2.2.2.2.2.2.1 R.2.2.2.2.2.2.2.2.2.1 R.2.2.2.2.2.2.2.2.2.2.1 R.2.2.2.2.2.2.2.2.2.2.2.1 R.2.2.2.2.2.2.2.2.2.2.2.2.1 R.2.2.2.2.2.2.2.2.2.2.2.2.2 (upd (upd (upd (upd f8 (8 * n) (nI i)) (8 * n + 3) nc) (8 * n + 4) R.2.2.2.2.2.2.1) (8 * n + 5) R.2.2.2.2.2.2.1)) (E_v_readExpression 0 ta fr to so wo fau 0 ord nc nl pi opn ft fo fa fp fq fwd fwe) := by
  have a0 : (nI (8 * n)).toNatClampNeg = 8 * n := kn_cl (by omega)
  have a3 : (nI (8 * n) + 3).toNatClampNeg = 8 * n + 3 := by rw [kn_ac (c := 3) (k := 3) rfl (by omega), kn_cl (by omega)]
  have a4 : (nI (8 * n) + 4).toNatClampNeg = 8 * n + 4 := by rw [kn_ac (c := 4) (k := 4) rfl (by omega), kn_cl (by omega)]
  have a5 : (nI (8 * n) + 5).toNatClampNeg = 8 * n + 5 := by rw [kn_ac (c := 5) (k := 5) rfl (by omega), kn_cl (by omega)]
  have a6 : (nI (8 * n) + 6).toNatClampNeg = 8 * n + 6 := by rw [kn_ac (c := 6) (k := 6) rfl (by omega), kn_cl (by omega)]
  have an : nI n + 1 = nI (n + 1) := kn_p1 (by omega)
  rw [Lp_s, E_v_readLaw_l75.eq_def, if_pos (by decide)]
  rw [Lt_b, Lt_b, Lt_b, Lt_b, if_neg (kn_nz (j := 3) rfl (by omega) (by omega)), a0, a3, an]
  generalize E_v_readExpression 0 ta fr to so wo fau 0 ord nc nl pi opn ft fo fa fp fq fwd fwe = R
  obtain ⟨q1, q2, q3, q4, q5, q6, q7, q8, q9, q10, q11, q12, q13, q14⟩ := R
  rw [Lt2_b, Lt2_b, Lt2_b, Lt2_b, Lt2_b, Lt2_b, Lt2_b, Lt2_b, Lt2_b, Lt2_b, Lt2_b, Lt2_b, Lt2_b, Lt_b, Lt_b, Lt_b, Lt_b, a4, a5]
  unfold rIf
  dsimp only
  by_cases b : q6 = 0
  · rw [if_pos b, if_pos b, Lt_b]
    by_cases w : E_v_isWord 294 q3 q4 = 1
    · rw [if_pos w, if_pos w, Lt2_b, Lt2_b, Lt2_b]
      generalize E_v_readExpression 1 ta (E_v_next ta q1 q2 q3 q4 ft).1 (E_v_next ta q1 q2 q3 q4 ft).2.1 (E_v_next ta q1 q2 q3 q4 ft).2.2.1 (E_v_next ta q1 q2 q3 q4 ft).2.2.2 q5 q6 ord q7 q8 q9 q10 ft q11 q12 q13 q14 fwd fwe = R
      rw [← a6]
      rfl
    · rw [if_neg w, if_neg w, Lt_b, Lt_b, a6]
  · rw [if_neg b, if_neg b, Lt_b, Lt_b, a6]
/-! the class's side -/
theorem cl_sum1 {n : Nat} {ln pa tf tt ti tu us : Int32} {fb fc fh : Nat → Int32} (rc : Int32 → Int32 → Int32 → Int32 → Int32 → Int32 → Int32 → (Nat → Int32) → (Nat → Int32) → KW9) : E_w_clause_l76a (nI n) 1 ln fb 1 rc 0 pa tf tt ti tu us fc fh = (fun S : KW8 => if S.1 = 0 then ((0, S.2.1, S.2.2.1, S.2.2.2.1, S.2.2.2.2.1, S.2.2.2.2.2.1, S.2.2.2.2.2.2.1, E_w_setHead (nI n) (2 + 0) us fh, S.2.2.2.2.2.2.2) : KW9) else rc (0 + Int32.ofInt 1) S.2.1 S.2.2.1 S.2.2.2.1 S.2.2.2.2.1 S.2.2.2.2.2.1 (E_w_emit 0 0 S.2.2.2.2.2.2.1 S.2.2.2.2.2.2.2).2.1 (E_w_emit 0 0 S.2.2.2.2.2.2.1 S.2.2.2.2.2.2.2).2.2 (E_w_setHead (nI n) (2 + 0) us fh)) (E_sum_0 0 1 pa ln tf tt ti tu fb us fc) := by
  rw [E_w_clause_l76a.eq_def, if_neg (by decide), if_pos (by decide)]
  generalize E_sum_0 0 1 pa ln tf tt ti tu fb us fc = S
  rfl
theorem cl_if1 {n : Nat} {ln pa tf tt ti tu us x v : Int32} {fb fc fh : Nat → Int32} (h : x ≤ v) (rc : Int32 → Int32 → Int32 → Int32 → Int32 → Int32 → Int32 → (Nat → Int32) → (Nat → Int32) → KW9) : E_w_clause_l76a (nI n) 1 ln fb x rc v pa tf tt ti tu us fc fh = E_w_clause_j207 (nI n) 1 ln fb pa us fc tf tt ti tu fh := by
  rw [E_w_clause_l76a.eq_def, if_pos h, if_neg (by decide), E_w_clause_j207.eq_def]
theorem aF4 : ∀ i, i < 4 → aF 4 i = if i = 3 then 0 else 1 := by decide
theorem cl_top {n i : Nat} {pa ln tf tt ti tu scl us : Int32} {fb fh fc : Nat → Int32} (hn : n < 12) (hi : i < 4) (hf : E_w_find 0 ln tf tt ti tu fb = nI i) : E_w_clause (nI n) 1 pa ln tf tt ti tu fb scl us fh fc = Lp (α := Int32 → Int32 → Int32 → Int32 → Int32 → Int32 → Int32 → (Nat → Int32) → (Nat → Int32) → KW9) (E_w_clause_l76a (nI n) 1 ln fb (if i = 3 then 0 else 1)) (fun _ _ _ _ _ _ _ _ _ => ((0, 0, 0, 0, 0, 0, 0, fun _ => 0, fun _ => 0) : KW9)) (1 + 1 + 1) 0 pa (E_w_step ln tf tt ti tu fb).1 (E_w_step ln tf tt ti tu fb).2.1 (E_w_step ln tf tt ti tu fb).2.2.1 (E_w_step ln tf tt ti tu fb).2.2.2 us fc (upd (upd (upd (upd (upd fh (5 * n + 0) (nI i)) (5 * n + 1) 1) (5 * n + 2) (-1)) (5 * n + 3) (-1)) (5 * n + 4) (-1)) := by
  rw [E_w_clause.eq_def, if_neg (by decide), hf, Lt_b, if_neg (kn_nl (by omega)), if_pos (kn_ltl (j := 4) rfl (by omega) hi), Lt2_b, Lt2_b, Lt2_b, Lt_b, open_at hn, if_neg (by decide), Lt_b, kn_cl (by omega), aF4 i hi]
  rfl
theorem cl_none {n : Nat} {pa ln tf tt ti tu scl us : Int32} {fb fh fc : Nat → Int32} (hf : E_w_find 0 ln tf tt ti tu fb = -1) : E_w_clause (nI n) 1 pa ln tf tt ti tu fb scl us fh fc = (0, pa, tf, tt, ti, tu, us, fh, fc) := by
  rw [E_w_clause.eq_def, if_neg (by decide), hf, Lt_b, if_pos (by decide), E_w_clause_j34.eq_def]
/-! what has been read of a law -/
noncomputable def KTs (od us nc : Nat) (fc op ar : Nat → Int32) (h x y : Int32) : Prop := (h = -1 ∧ x = y ∧ ∃ j : Nat, x = nI j ∧ j ≤ nc) ∨ ∃ a e p q m : Nat, h = nI a ∧ x = nI p ∧ y = nI q ∧ p < q ∧ q ≤ nc ∧ m ≤ 64 ∧ SE od KT_ 1 m fc a e op ar p q ∧ fc e = 0 ∧ e + 2 ≤ us
noncomputable def KSs (od us nc : Nat) (fc op ar : Nat → Int32) (h x y : Int32) : Prop := ∃ a e p q m : Nat, h = nI a ∧ x = nI p ∧ y = nI q ∧ p < q ∧ q ≤ nc ∧ m ≤ 64 ∧ SE od KA_ 1 m fc a e op ar p q ∧ fc e = 0 ∧ e + 2 ≤ us
theorem KTs.ext {od us nc us' nc' : Nat} {fc op ar fc' op' ar' : Nat → Int32} {h x y : Int32} (k : KTs od us nc fc op ar h x y) (h1 : us ≤ us') (h2 : nc ≤ nc') (h3 : ∀ j, j < us → fc' j = fc j) (h4 : ∀ j, j < nc → op' j = op j ∧ ar' j = ar j) : KTs od us' nc' fc' op' ar' h x y := by
  rcases k with ⟨a, b, j, c, d⟩ | ⟨a, e, p, q, m, k1, k2, k3, k4, k5, k6, k7, k8, k9⟩
  · exact Or.inl ⟨a, b, j, c, by omega⟩
  · exact Or.inr ⟨a, e, p, q, m, k1, k2, k3, k4, by omega, k6, k7.ext (fun j _ hj => h3 j (by omega)) (fun j _ hj => h4 j (by omega)), by rw [h3 e (by omega)]; exact k8, by omega⟩
theorem KSs.ext {od us nc us' nc' : Nat} {fc op ar fc' op' ar' : Nat → Int32} {h x y : Int32} (k : KSs od us nc fc op ar h x y) (h1 : us ≤ us') (h2 : nc ≤ nc') (h3 : ∀ j, j < us → fc' j = fc j) (h4 : ∀ j, j < nc → op' j = op j ∧ ar' j = ar j) : KSs od us' nc' fc' op' ar' h x y := by
  obtain ⟨a, e, p, q, m, k1, k2, k3, k4, k5, k6, k7, k8, k9⟩ := k
  exact ⟨a, e, p, q, m, k1, k2, k3, k4, by omega, k6, k7.ext (fun j _ hj => h3 j (by omega)) (fun j _ hj => h4 j (by omega)), by rw [h3 e (by omega)]; exact k8, by omega⟩
noncomputable def KCls (n us nc : Nat) (fh fcl fc op ar : Nat → Int32) : Prop := ∀ i, i < n → ∃ v : Nat, v < 4 ∧ fh (5 * i) = nI v ∧ fcl (8 * i) = nI v ∧ KTs 0 us nc fc op ar (fh (5 * i + 4)) (fcl (8 * i + 5)) (fcl (8 * i + 6)) ∧ (v = 3 ∨ KSs 0 us nc fc op ar (fh (5 * i + 2)) (fcl (8 * i + 3)) (fcl (8 * i + 4)))
theorem KCls.ext {n us nc us' nc' : Nat} {fh fcl fc op ar fh' fcl' fc' op' ar' : Nat → Int32} (h : KCls n us nc fh fcl fc op ar) (h1 : us ≤ us') (h2 : nc ≤ nc') (h3 : ∀ j, j < us → fc' j = fc j) (h4 : ∀ j, j < nc → op' j = op j ∧ ar' j = ar j) (h5 : ∀ j, j < 5 * n → fh' j = fh j) (h6 : ∀ j, j < 8 * n → fcl' j = fcl j) : KCls n us' nc' fh' fcl' fc' op' ar' := fun i hi => by
  obtain ⟨v, v1, v2, v3, v4, v5⟩ := h i hi
  refine ⟨v, v1, (h5 _ (by omega)).trans v2, (h6 _ (by omega)).trans v3, ?_, ?_⟩
  · rw [h5 (5 * i + 4) (by omega), h6 (8 * i + 5) (by omega), h6 (8 * i + 6) (by omega)]; exact v4.ext h1 h2 h3 h4
  · rcases v5 with v5 | v5
    · exact Or.inl v5
    · rw [h5 (5 * i + 2) (by omega), h6 (8 * i + 3) (by omega), h6 (8 * i + 4) (by omega)]; exact Or.inr (v5.ext h1 h2 h3 h4)
noncomputable def KCla (L n : Nat) (fb : Nat → Int32) (p : Nat) (fau : Int32) (r : KW9) (R : KR16) : Prop :=
  (r.1 = 0 ∧ ∃ q : Nat, r.2.2.1 = nI q ∧ R.2.2.2.2.1 = nI q ∧ R.2.2.2.2.2.1 = 1) ∨
  ∃ (p' : Nat) (c' : KT4) (m' : KM4) (us' nl' n2 : Nat) (fh' fc' fo2 fa2 fp2 fq2 fcl' : Nat → Int32) (pi' op' : Int32), r = (1, nI nl', c'.1, c'.2.1, c'.2.2.1, c'.2.2.2, nI us', fh', fc') ∧ p < p' ∧ TkP fb L p' c' m' ∧
    R = (m'.1, m'.2.1, m'.2.2.1, m'.2.2.2, fau, 0, nI (n + 1), nI n2, nI nl', pi', op', fo2, fa2, fp2, fq2, fcl') ∧ (us' ≤ 2 * p' ∧ n2 ≤ p' ∧ nl' ≤ 50) ∧ KCls (n + 1) us' n2 fh' fcl' fc' fo2 fa2
/-- A CLAUSE OF A LAW IS READ ALIKE -/
theorem law_clause {L n p us nl nc : Nat} {fb ft fh fc fcl fo fa fp fq : Nat → Int32} {wd we fhd : Nat → Int64} {c : KT4} {m : KM4} {fau pi op scl : Int32} (hR : KRy L fb ft wd we) (hh : ∀ j, j < 4 → (fhd j).toInt = kwh 0 j) (hT : TkP fb L p c m) (hus : us ≤ 2 * p) (hnc : nc ≤ p) (hnl : nl ≤ 50) (hn : n < 12) (hK : KCls n us nc fh fcl fc fo fa) : KCla L n fb p fau (E_w_clause (nI n) 1 (nI nl) (nI L) c.1 c.2.1 c.2.2.1 c.2.2.2 fb scl (nI us) fh fc) (E_v_readLaw (nI L) m.1 m.2.1 m.2.2.1 m.2.2.2 fau 0 0 (nI n) (nI nc) (nI nl) pi op ft fo fa fp fq wd we fcl fhd) := by
  have hL := hR.1
  have hpL := hT.1
  have fr := TkP.froms (tf := c.1) (tt := c.2.1) (ti := c.2.2.1) (tu := c.2.2.2) (fr := m.1) (to := m.2.1) (so := m.2.2.1) (wo := m.2.2.2) hT
  rcases tk_four (k := 0) (Or.inl rfl) hh hT (nI L) with ⟨i, i1, pl, i3, i4, i5⟩ | ⟨i1, i2⟩
  case inr =>
    rw [cl_none i1, law_no i2]
    exact Or.inl ⟨rfl, p, fr.1, fr.2.1, rfl⟩
  obtain ⟨q, q1, q2, hQ⟩ := kx_next hR hT
  have hqL := hQ.1
  have qp := q2 pl
  rw [cl_top hn i1 i3, law_go hn i1 i4 i5]
  generalize hs : E_w_step (nI L) c.1 c.2.1 c.2.2.1 c.2.2.2 fb = s at hQ ⊢
  generalize hm : E_v_next (nI L) m.1 m.2.1 m.2.2.1 m.2.2.2 ft = mn at hQ ⊢
  obtain ⟨f8, z1, z2, _⟩ := zero_l (b := 8 * n) (fun _ _ => ((0, 0, 0, 0, 0, 0, 0, 0, 0, 0, 0, fun _ => 0, fun _ => 0, fun _ => 0, fun _ => 0, fun _ => 0) : KR16)) (E_v_readLaw_l75 (nI L) 0 (nI n) (nI nc) (nI nl) pi op ft fo fa fp fq wd we (nI i) mn.1 mn.2.1 mn.2.2.1 mn.2.2.2 fau 0 (nI (8 * n))) (fun rc v f hv => lz_b (by omega) rc v f hv) 8 0 1 fcl (by omega)
  rw [z1]
  by_cases i3' : i = 3
  · -- "bars"
    subst i3'
    rw [law_rest3 (by omega), if_pos rfl, Lp_s, cl_if1 (by decide)]
    have ib := if_both (n := n) (k6 := 8 * n + 6) (fau := fau) (n1 := nI (n + 1)) (pi := pi) (op := op) (fh := upd (upd (upd (upd (upd fh (5 * n + 0) (nI 3)) (5 * n + 1) 1) (5 * n + 2) (-1)) (5 * n + 3) (-1)) (5 * n + 4) (-1)) (fc := fc) (fcl := upd (upd (upd (upd f8 (8 * n) (nI 3)) (8 * n + 3) (nI nc)) (8 * n + 4) (nI nc)) (8 * n + 5) (nI nc)) (fo := fo) (fa := fa) (fp := fp) (fq := fq) (us := us) (nl := nl) (nc := nc) hR (show (0 : Nat) ≤ 1 by omega) hQ (by omega) (by omega) hnl hn
    rcases ib with ib | ⟨p', c', m', us', nl', n2, fh', fc', fo2, fa2, fp2, fq2, pi', op', e1, e2, e3, e4, e5, e6, e7, e8⟩
    · exact Or.inl ib
    · refine Or.inr ⟨p', c', m', us', nl', n2, fh', fc', fo2, fa2, fp2, fq2, _, pi', op', e1, by omega, e3, e4, ⟨e7.2.1, e7.2.2.2.1, e7.2.2.2.2.2⟩, fun j hj => ?_⟩
      by_cases jn : j < n
      · exact hK.ext e7.1 e7.2.2.1 e5 e6 (fun k hk => by
          rcases e8 with ⟨e8, _⟩ | ⟨e8, _⟩
          · rw [e8, upd_n (by omega), upd_n (by omega), upd_n (by omega), upd_n (by omega), upd_n (by omega)]
          · rw [e8, upd_n (by omega), upd_n (by omega), upd_n (by omega), upd_n (by omega), upd_n (by omega), upd_n (by omega)]) (fun k hk => by
          rw [upd_n (by omega), upd_n (by omega), upd_n (by omega), upd_n (by omega), upd_n (by omega)]; exact z2 k (by omega)) j jn
      · have jj : j = n := by omega
        subst jj
        refine ⟨3, by omega, ?_, ?_, ?_, Or.inl rfl⟩
        · rcases e8 with ⟨e8, _⟩ | ⟨e8, _⟩
          · rw [e8, upd_n (by omega), upd_n (by omega), upd_n (by omega), upd_n (by omega)]; exact upd_s
          · rw [e8, upd_n (by omega), upd_n (by omega), upd_n (by omega), upd_n (by omega), upd_n (by omega)]; exact upd_s
        · rw [upd_n (by omega), upd_n (by omega), upd_n (by omega), upd_n (by omega), upd_s]
        · rw [upd_n (by omega), upd_s, upd_s]
          rcases e8 with ⟨e8, e9, e10⟩ | ⟨e8, e9, e10, e11, e12⟩
          · exact Or.inl ⟨by rw [e8, upd_s], by rw [e10], nc, rfl, by omega⟩
          · exact Or.inr ⟨us, us' - 2, nc, n2, nl' - nl, by rw [e8, upd_s], rfl, rfl, e9, Nat.le_refl _, by omega, e12, e11, by omega⟩
  · -- with a sum
    have i3n : i < 3 := by omega
    have xs := x_sum hR (show (0 : Nat) ≤ 1 by omega) (fau := fau) (pi0 := pi) (op0 := op) (us := us) (nl := nl) (nc := nc) (w := 1) (fc := fc) (fo := fo) (fa := fa) (fp := fp) (fq := fq) hQ (by omega) (by omega) hnl
    rw [law_rest (by omega) i3n, if_neg i3', Lp_s, cl_sum1, show (2 + 0 : Int32) = 2 from by decide, setHead_at (y := 2) (j := 2) rfl hn (by omega)]
    change KX 0 fb L KA_ fau q us nl nc 1 fc fo fa (E_sum_0 0 1 (nI nl) (nI L) s.1 s.2.1 s.2.2.1 s.2.2.2 fb (nI us) fc) (E_v_readExpression 0 (nI L) mn.1 mn.2.1 mn.2.2.1 mn.2.2.2 fau 0 0 (nI nc) (nI nl) pi op ft fo fa fp fq wd we) at xs
    generalize E_sum_0 0 1 (nI nl) (nI L) s.1 s.2.1 s.2.2.1 s.2.2.2 fb (nI us) fc = S at xs ⊢
    generalize E_v_readExpression 0 (nI L) mn.1 mn.2.1 mn.2.2.1 mn.2.2.2 fau 0 0 (nI nc) (nI nl) pi op ft fo fa fp fq wd we = X at xs ⊢
    generalize hrec : Lp (α := Int32 → Int32 → Int32 → Int32 → Int32 → Int32 → Int32 → (Nat → Int32) → (Nat → Int32) → KW9) (E_w_clause_l76a (nI n) 1 (nI L) fb 1) (fun _ _ _ _ _ _ _ _ _ => ((0, 0, 0, 0, 0, 0, 0, fun _ => 0, fun _ => 0) : KW9)) (1 + 1) = rcc
    dsimp only
    rcases xs with ⟨n1, q', n2, n3, n4⟩ | ⟨p1, c1, m1, us1, nl1, n1, fc1, fo1, fa1, fp1, fq1, e1, e2, e3, e4, e5, e6, e7, e8⟩
    · rw [if_pos n1]
      refine Or.inl ⟨rfl, q', n2, ?_, ?_⟩
      · unfold rIf; rw [if_neg (by rw [n4]; decide)]; exact n3
      · unfold rIf; rw [if_neg (by rw [n4]; decide)]; exact n4
    subst e1
    subst e4
    dsimp only
    have hp1 := e3.1
    rw [if_neg (show ¬ (1 : Int32) = 0 by decide), emit_at (us := us1) (by omega)]
    dsimp only
    rw [show (0 : Int32) + Int32.ofInt 1 = 1 from by decide, ← hrec, Lp_s, cl_if1 (by decide)]
    have lt := e8.lt (Nat.le_refl 1) (by omega)
    have ib := if_both (n := n) (k6 := 8 * n + 6) (fau := fau) (n1 := nI (n + 1)) (pi := nI 0) (op := nI 0) (fh := upd (upd (upd (upd (upd (upd fh (5 * n + 0) (nI i)) (5 * n + 1) 1) (5 * n + 2) (-1)) (5 * n + 3) (-1)) (5 * n + 4) (-1)) (5 * n + 2) (nI us)) (fc := upd (upd fc1 us1 0) (us1 + 1) 0) (fcl := upd (upd (upd (upd f8 (8 * n) (nI i)) (8 * n + 3) (nI nc)) (8 * n + 4) (nI n1)) (8 * n + 5) (nI n1)) (fo := fo1) (fa := fa1) (fp := fp1) (fq := fq1) (us := us1 + 2) (nl := nl1) (nc := n1) hR (show (0 : Nat) ≤ 1 by omega) e3 (by omega) (by omega) e7.2.2.2.1 hn
    rcases ib with ib | ⟨p', c', m', us', nl', n2, fh', fc', fo2, fa2, fp2, fq2, pi', op', b1, b2, b3, b4, b5, b6, b7, b8⟩
    · exact Or.inl ib
    · have fcs : ∀ j, j < us → fc' j = fc j := fun j hj => by rw [b5 j (by omega), upd_n (by omega), upd_n (by omega)]; exact e5 j hj
      have ops : ∀ j, j < nc → fo2 j = fo j ∧ fa2 j = fa j := fun j hj => ⟨(b6 j (by omega)).1.trans (e6 j hj).1, (b6 j (by omega)).2.trans (e6 j hj).2⟩
      refine Or.inr ⟨p', c', m', us', nl', n2, fh', fc', fo2, fa2, fp2, fq2, _, pi', op', b1, by omega, b3, b4, ⟨b7.2.1, b7.2.2.2.1, b7.2.2.2.2.2⟩, fun j hj => ?_⟩
      by_cases jn : j < n
      · exact hK.ext (by omega) (by omega) fcs ops (fun k hk => by
          rcases b8 with ⟨b8, _⟩ | ⟨b8, _⟩
          · rw [b8, upd_n (by omega), upd_n (by omega), upd_n (by omega), upd_n (by omega), upd_n (by omega), upd_n (by omega)]
          · rw [b8, upd_n (by omega), upd_n (by omega), upd_n (by omega), upd_n (by omega), upd_n (by omega), upd_n (by omega), upd_n (by omega)]) (fun k hk => by
          rw [upd_n (by omega), upd_n (by omega), upd_n (by omega), upd_n (by omega), upd_n (by omega)]; exact z2 k (by omega)) j jn
      · have jj : j = n := by omega
        subst jj
        refine ⟨i, by omega, ?_, ?_, ?_, Or.inr ⟨us, us1, nc, n1, nl1 - nl, ?_, ?_, ?_, lt, by omega, by omega, ?_, ?_, by omega⟩⟩
        · rcases b8 with ⟨b8, _⟩ | ⟨b8, _⟩
          · rw [b8, upd_n (by omega), upd_n (by omega), upd_n (by omega), upd_n (by omega), upd_n (by omega)]; exact upd_s
          · rw [b8, upd_n (by omega), upd_n (by omega), upd_n (by omega), upd_n (by omega), upd_n (by omega), upd_n (by omega)]; exact upd_s
        · rw [upd_n (by omega), upd_n (by omega), upd_n (by omega), upd_n (by omega), upd_s]
        · rw [upd_n (by omega), upd_s, upd_s]
          rcases b8 with ⟨b8, b9, b10⟩ | ⟨b8, b9, b10, b11, b12⟩
          · exact Or.inl ⟨by rw [b8, upd_n (by omega), upd_s], by rw [b10], n1, rfl, by omega⟩
          · exact Or.inr ⟨us1 + 2, us' - 2, n1, n2, nl' - nl1, by rw [b8, upd_s], rfl, rfl, b9, Nat.le_refl _, by omega, b12, b11, by omega⟩
        · rcases b8 with ⟨b8, _⟩ | ⟨b8, _⟩
          · rw [b8, upd_s]
          · rw [b8, upd_n (by omega), upd_s]
        · rw [upd_n (by omega), upd_n (by omega), upd_n (by omega), upd_s]
        · rw [upd_n (by omega), upd_n (by omega), upd_s]
        · exact e8.ext (fun j _ hj => by rw [b5 j (by omega), upd_n (by omega), upd_n (by omega)]) (fun j _ hj => b6 j (by omega))
        · rw [b5 us1 (by omega), upd_n (by omega), upd_s]
