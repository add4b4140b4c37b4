/-! readPart, by what the token is -/
theorem rp_open {go ga ft fo fa fp fq : Nat → Int32} {wd we : Nat → Int64} {ta fr to so fau od nc nl : Int32} {wo : Int64} {pi d : Nat} (hs : E_v_isSign 91 so wo = 1) (hp : pi < 1000) (hd : d < 8) : E_v_readPart go ga ta fr to so wo fau 0 od nc nl (nI pi) (nI d) ft fo fa fp fq wd we = (1, (E_v_next ta fr to so wo ft).1, (E_v_next ta fr to so wo ft).2.1, (E_v_next ta fr to so wo ft).2.2.1, (E_v_next ta fr to so wo ft).2.2.2, fau, 0, nc, nl, nI (pi + 1), nI (d + 1), fo, fa, upd fp pi (nI 32), upd fq pi 0) := by
  rw [E_v_readPart.eq_def, Lt_b, if_pos hs, open_p hp (by rw [nI_toInt (by omega)]; omega) (by rw [nI_toInt (by omega)]; omega)]
  simp only [Lt2]
  rw [kn_p1 (by omega)]
  rfl
theorem rp_open_n {go ga ft fo fa fp fq : Nat → Int32} {wd we : Nat → Int64} {ta fr to so fau od nc nl pi : Int32} {wo : Int64} {d : Nat} (hs : E_v_isSign 91 so wo = 1) (hd : 8 ≤ d) (hd2 : d < 1000) : ∃ a b c e h1 h2 h3 h4, E_v_readPart go ga ta fr to so wo fau 0 od nc nl pi (nI d) ft fo fa fp fq wd we = (1, fr, to, so, wo, fr, 1, a, b, c, e, h1, h2, h3, h4) := by
  rw [E_v_readPart.eq_def, Lt_b, if_pos hs, open_n (by rw [nI_toInt (by omega)]; omega)]
  simp only [Lt2]
  exact ⟨_, _, _, _, _, _, _, _, rfl⟩
/-- no part can begin with it -/
theorem rp_none {go ga ft fo fa fp fq : Nat → Int32} {wd we : Nat → Int64} {ta fr to so fau od nc nl pi opn : Int32} {wo : Int64} (hs : E_v_isSign 91 so wo = 0) (hp : (if od = 0 then E_v_partAt so wo wd else E_v_orderPartAt so wo we) = -1) (hn : so ≠ 2 ∨ 1000 < wo.toInt) : ∃ a b c e h1 h2 h3 h4, E_v_readPart go ga ta fr to so wo fau 0 od nc nl pi opn ft fo fa fp fq wd we = (3, fr, to, so, wo, fr, 1, a, b, c, e, h1, h2, h3, h4) := by
  have z : (1000 : Int64).toInt = 1000 := rfl
  have j59 : ∃ a b c e h1 h2 h3 h4, E_v_readPart_j59 go ga ta fr to so wo fau 0 od nc nl pi opn ft fo fa fp fq (-1) = (3, fr, to, so, wo, fr, 1, a, b, c, e, h1, h2, h3, h4) := by
    rw [E_v_readPart_j59.eq_def, if_pos rfl, if_pos rfl, leaf_n (Or.inl rfl)]
    simp only [Lt2]
    by_cases c : od = 0
    · rw [if_pos c]; exact ⟨_, _, _, _, _, _, _, _, rfl⟩
    · rw [if_neg c, if_pos (by decide)]; exact ⟨_, _, _, _, _, _, _, _, rfl⟩
  rw [E_v_readPart.eq_def, Lt_b, if_neg (by rw [hs]; decide)]
  by_cases c : od = 0
  · rw [if_pos c] at hp
    rw [if_pos c, Lt_b, hp]
    by_cases s2 : so = 2
    · rw [if_pos s2, if_pos ((lg_cmp_gt _ _).mpr (jl_iff.mpr (by have := hn.resolve_left (fun q => q s2); omega)))]
      exact j59
    · rw [if_neg s2]; exact j59
  · rw [if_neg c] at hp
    rw [if_neg c, Lt_b, hp]
    by_cases s2 : so = 2
    · rw [if_pos s2, if_pos ((lg_cmp_gt _ _).mpr (jl_iff.mpr (by have := hn.resolve_left (fun q => q s2); omega)))]
      exact j59
    · rw [if_neg s2]; exact j59
/-- a number -/
theorem rp_num {go ga ft fo fa fp fq : Nat → Int32} {wd we : Nat → Int64} {ta fr to so fau od pi opn : Int32} {wo : Int64} {nc nl : Nat} (hs : E_v_isSign 91 so wo = 0) (hp : (if od = 0 then E_v_partAt so wo wd else E_v_orderPartAt so wo we) = -1) (h2 : so = 2) (hw : wo.toInt ≤ 1000) (hc : nc < 1000) (hl : nl < 50) : E_v_readPart go ga ta fr to so wo fau 0 od (nI nc) (nI nl) pi opn ft fo fa fp fq wd we = (3, (E_v_next ta fr to so wo ft).1, (E_v_next ta fr to so wo ft).2.1, (E_v_next ta fr to so wo ft).2.2.1, (E_v_next ta fr to so wo ft).2.2.2, fau, 0, nI (nc + 1), nI (nl + 1), pi, opn, upd fo nc 0, upd fa nc wo.toInt32, fp, fq) := by
  have z : (1000 : Int64).toInt = 1000 := rfl
  have n3 : ¬ 0 < lg_cmp wo 1000 := fun q => by have := jl_iff.mp ((lg_cmp_gt _ _).mp q); omega
  rw [E_v_readPart.eq_def, Lt_b, if_neg (by rw [hs]; decide)]
  by_cases c : od = 0
  · rw [if_pos c] at hp
    rw [if_pos c, Lt_b, hp, if_pos h2, if_neg n3, if_pos rfl, if_pos rfl, Lt_b, leaf_p hc hl]
    simp only [Lt2]
    rw [if_pos c]
  · rw [if_neg c] at hp
    rw [if_neg c, Lt_b, hp, if_pos h2, if_neg n3, if_pos rfl, if_pos rfl, Lt_b, leaf_p hc hl]
    simp only [Lt2]
    rw [if_neg c, if_pos (by decide)]
/-- too many parts -/
theorem rp_full {go ga ft fo fa fp fq : Nat → Int32} {wd we : Nat → Int64} {ta fr to so fau od nc pi opn : Int32} {wo : Int64} {nl : Nat} (hs : E_v_isSign 91 so wo = 0) (ho : od = 0 ∨ od = 1) (hp : (if od = 0 then E_v_partAt so wo wd else E_v_orderPartAt so wo we) = -1 ∨ (so = 1 ∧ ∃ i : Nat, i < 10 ∧ (if od = 0 then E_v_partAt so wo wd else E_v_orderPartAt so wo we) = nI (i + 1))) (hl : 50 ≤ nl) (hl2 : nl < 1000) : ∃ a b c e h1 h2 h3 h4, E_v_readPart go ga ta fr to so wo fau 0 od nc (nI nl) pi opn ft fo fa fp fq wd we = (3, fr, to, so, wo, fr, 1, a, b, c, e, h1, h2, h3, h4) := by
  have lf : ∀ y z, E_v_leaf go ga 1 y z ta fr to so wo fau 0 nc (nI nl) pi opn ft fo fa fp fq = (fr, to, so, wo, fr, 1, nc, nI nl, fo, fa) := fun y z => leaf_n (Or.inr ⟨rfl, by rw [nI_toInt (by omega)]; omega⟩)
  have l0 : E_v_leaf go ga 0 0 0 ta fr to so wo fau 0 nc (nI nl) pi opn ft fo fa fp fq = (fr, to, so, wo, fr, 1, nc, nI nl, fo, fa) := leaf_n (Or.inl rfl)
  have j59 : ∀ v : Int32, (v = -1 ∨ ∃ i : Nat, i < 10 ∧ v = nI (i + 1)) → ∃ a b c e h1 h2 h3 h4, E_v_readPart_j59 go ga ta fr to so wo fau 0 od nc (nI nl) pi opn ft fo fa fp fq v = (3, fr, to, so, wo, fr, 1, a, b, c, e, h1, h2, h3, h4) := by
    intro v hv
    rw [E_v_readPart_j59.eq_def]
    rcases hv with hv | ⟨i, i1, hv⟩
    · rw [if_pos hv, if_pos hv, l0]
      simp only [Lt2]
      by_cases c : od = 0
      · rw [if_pos c]; exact ⟨_, _, _, _, _, _, _, _, rfl⟩
      · rw [if_neg c, if_pos (by rw [hv]; decide)]; exact ⟨_, _, _, _, _, _, _, _, rfl⟩
    · have n1 : ¬ v = -1 := fun q => by
        have := congrArg Int32.toInt (hv.symm.trans q)
        rw [nI_toInt (by omega)] at this
        have z1 : (-1 : Int32).toInt = -1 := rfl
        omega
      rw [if_neg n1, if_neg n1, lf]
      simp only [Lt2]
      by_cases c : od = 0
      · rw [if_pos c]; exact ⟨_, _, _, _, _, _, _, _, rfl⟩
      · rw [if_neg c]
        by_cases d : v < 6
        · rw [if_pos d]; exact ⟨_, _, _, _, _, _, _, _, rfl⟩
        · rw [if_neg d, if_neg (by decide)]; exact ⟨_, _, _, _, _, _, _, _, rfl⟩
  have nm : ∀ v : Int32, (v = -1 ∨ (so = 1 ∧ ∃ i : Nat, i < 10 ∧ v = nI (i + 1))) → ∀ (A B : Int32 × Int32 × Int32 × Int32 × Int64 × Int32 × Int32 × Int32 × Int32 × Int32 × Int32 × (Nat → Int32) × (Nat → Int32) × (Nat → Int32) × (Nat → Int32)), (v = -1 → ∃ a b c e h1 h2 h3 h4, A = (3, fr, to, so, wo, fr, 1, a, b, c, e, h1, h2, h3, h4)) → ∃ a b c e h1 h2 h3 h4, (if so = 2 then (if 0 < lg_cmp wo 1000 then E_v_readPart_j59 go ga ta fr to so wo fau 0 od nc (nI nl) pi opn ft fo fa fp fq v else (if v = -1 then A else B)) else E_v_readPart_j59 go ga ta fr to so wo fau 0 od nc (nI nl) pi opn ft fo fa fp fq v) = (3, fr, to, so, wo, fr, 1, a, b, c, e, h1, h2, h3, h4) := by
    intro v hv A B hA
    by_cases s2 : so = 2
    · have v1 : v = -1 := hv.resolve_right (fun q => absurd (q.1.symm.trans s2) (by decide))
      rw [if_pos s2]
      by_cases g : 0 < lg_cmp wo 1000
      · rw [if_pos g]; exact j59 v (Or.inl v1)
      · rw [if_neg g, if_pos v1]; exact hA v1
    · rw [if_neg s2]; exact j59 v (hv.imp id (fun q => q.2))
  rw [E_v_readPart.eq_def, Lt_b, if_neg (by rw [hs]; decide)]
  by_cases c : od = 0
  · rw [if_pos c] at hp
    rw [if_pos c, Lt_b]
    refine nm _ hp _ _ (fun hv => ?_)
    rw [if_pos hv, Lt_b, lf]
    simp only [Lt2]
    rw [if_pos c]; exact ⟨_, _, _, _, _, _, _, _, rfl⟩
  · rw [if_neg c] at hp
    rw [if_neg c, Lt_b]
    refine nm _ hp _ _ (fun hv => ?_)
    rw [if_pos hv, Lt_b, lf]
    simp only [Lt2]
    rw [if_neg c, if_pos (by rw [hv]; decide)]; exact ⟨_, _, _, _, _, _, _, _, rfl⟩
/-- a word (of orders: one that nothing stands behind) -/
theorem rp_word {go ga ft fo fa fp fq : Nat → Int32} {wd we : Nat → Int64} {ta fr to so fau od pi opn : Int32} {wo : Int64} {nc nl i : Nat} (hs : E_v_isSign 91 so wo = 0) (hi : i < 10) (hp : (if od = 0 then E_v_partAt so wo wd else E_v_orderPartAt so wo we) = nI (i + 1)) (h1 : so = 1) (h5 : od = 0 ∨ i < 5) (hc : nc < 1000) (hl : nl < 50) : E_v_readPart go ga ta fr to so wo fau 0 od (nI nc) (nI nl) pi opn ft fo fa fp fq wd we = (3, (E_v_next ta fr to so wo ft).1, (E_v_next ta fr to so wo ft).2.1, (E_v_next ta fr to so wo ft).2.2.1, (E_v_next ta fr to so wo ft).2.2.2, fau, 0, nI (nc + 1), nI (nl + 1), pi, opn, upd fo nc (nI (i + 1)), upd fa nc 0, fp, fq) := by
  have n1 : ¬ nI (i + 1) = -1 := fun q => by
    have := congrArg Int32.toInt q
    rw [nI_toInt (by omega)] at this
    have z1 : (-1 : Int32).toInt = -1 := rfl
    omega
  have n2 : ¬ so = 2 := fun q => absurd (h1.symm.trans q) (by decide)
  rw [E_v_readPart.eq_def, Lt_b, if_neg (by rw [hs]; decide)]
  by_cases c : od = 0
  · rw [if_pos c] at hp
    rw [if_pos c, Lt_b, hp, if_neg n2, E_v_readPart_j59.eq_def, if_neg n1, if_neg n1, leaf_p hc hl]
    simp only [Lt2]
    rw [if_pos c]
  · rw [if_neg c] at hp
    rw [if_neg c, Lt_b, hp, if_neg n2, E_v_readPart_j59.eq_def, if_neg n1, if_neg n1, leaf_p hc hl]
    simp only [Lt2]
    rw [if_neg c, if_pos (kn_ltl (j := 6) rfl (by omega) (by have := h5.resolve_left c; omega))]
theorem number_p {ta fr to so fau : Int32} {wo y z : Int64} {ft : Nat → Int32} (h2 : so = 2) (hi : E_v_in wo y z = 1) : E_v_number y z ta fr to so wo fau 0 ft = (wo.toInt32, (E_v_next ta fr to so wo ft).1, (E_v_next ta fr to so wo ft).2.1, (E_v_next ta fr to so wo ft).2.2.1, (E_v_next ta fr to so wo ft).2.2.2, fau, 0) := by
  rw [E_v_number.eq_def, Lt_b, if_pos h2, Lt_b, if_pos hi, must_1]
  rfl
theorem number_n {ta fr to so fau : Int32} {wo y z : Int64} {ft : Nat → Int32} (h : so ≠ 2 ∨ E_v_in wo y z ≠ 1) : E_v_number y z ta fr to so wo fau 0 ft = (wo.toInt32, fr, to, so, wo, fr, 1) := by
  rw [E_v_number.eq_def, Lt_b]
  by_cases c : so = 2
  · rw [if_pos c, Lt_b, if_neg (h.resolve_left (fun q => q c)), must_0]
    rfl
  · rw [if_neg c, must_0]
    rfl
/-- a word of orders that a number stands behind -/
theorem rp_tell {go ga ft fo fa fp fq : Nat → Int32} {wd we : Nat → Int64} {ta fr to so fau od pi opn : Int32} {wo : Int64} {nc nl i : Nat} (hs : E_v_isSign 91 so wo = 0) (hi : i < 8) (hp : E_v_orderPartAt so wo we = nI (i + 1)) (ho : od = 1) (h1 : so = 1) (h5 : 5 ≤ i) (hc : nc < 1000) (hl : nl < 50) : E_v_readPart go ga ta fr to so wo fau 0 od (nI nc) (nI nl) pi opn ft fo fa fp fq wd we = (3, (E_v_number 0 (if i = 7 then 6 else 7) ta (E_v_next ta fr to so wo ft).1 (E_v_next ta fr to so wo ft).2.1 (E_v_next ta fr to so wo ft).2.2.1 (E_v_next ta fr to so wo ft).2.2.2 fau 0 ft).2.1, (E_v_number 0 (if i = 7 then 6 else 7) ta (E_v_next ta fr to so wo ft).1 (E_v_next ta fr to so wo ft).2.1 (E_v_next ta fr to so wo ft).2.2.1 (E_v_next ta fr to so wo ft).2.2.2 fau 0 ft).2.2.1, (E_v_number 0 (if i = 7 then 6 else 7) ta (E_v_next ta fr to so wo ft).1 (E_v_next ta fr to so wo ft).2.1 (E_v_next ta fr to so wo ft).2.2.1 (E_v_next ta fr to so wo ft).2.2.2 fau 0 ft).2.2.2.1, (E_v_number 0 (if i = 7 then 6 else 7) ta (E_v_next ta fr to so wo ft).1 (E_v_next ta fr to so wo ft).2.1 (E_v_next ta fr to so wo ft).2.2.1 (E_v_next ta fr to so wo ft).2.2.2 fau 0 ft).2.2.2.2.1, (E_v_number 0 (if i = 7 then 6 else 7) ta (E_v_next ta fr to so wo ft).1 (E_v_next ta fr to so wo ft).2.1 (E_v_next ta fr to so wo ft).2.2.1 (E_v_next ta fr to so wo ft).2.2.2 fau 0 ft).2.2.2.2.2.1, (E_v_number 0 (if i = 7 then 6 else 7) ta (E_v_next ta fr to so wo ft).1 (E_v_next ta fr to so wo ft).2.1 (E_v_next ta fr to so wo ft).2.2.1 (E_v_next ta fr to so wo ft).2.2.2 fau 0 ft).2.2.2.2.2.2, nI (nc + 1), nI (nl + 1), pi, opn, upd fo nc (nI (i + 1)), upd (upd fa nc 0) nc (E_v_number 0 (if i = 7 then 6 else 7) ta (E_v_next ta fr to so wo ft).1 (E_v_next ta fr to so wo ft).2.1 (E_v_next ta fr to so wo ft).2.2.1 (E_v_next ta fr to so wo ft).2.2.2 fau 0 ft).1, fp, fq) := by
  have n1 : ¬ nI (i + 1) = -1 := fun q => by
    have := congrArg Int32.toInt q
    rw [nI_toInt (by omega)] at this
    have z1 : (-1 : Int32).toInt = -1 := rfl
    omega
  have n2 : ¬ so = 2 := fun q => absurd (h1.symm.trans q) (by decide)
  have o1 : ¬ od = 0 := by rw [ho]; decide
  rw [E_v_readPart.eq_def, Lt_b, if_neg (by rw [hs]; decide), if_neg o1, Lt_b, hp, if_neg n2, E_v_readPart_j59.eq_def, if_neg n1, if_neg n1, leaf_p hc hl]
  simp only [Lt2, Lt]
  rw [if_neg o1, if_neg (kn_nltl (j := 6) rfl (by omega) (by omega)), if_pos (by trivial), kn_m1 (by omega) (by omega), kn_cl (by omega), show nc + 1 - 1 = nc by omega]
  by_cases e : i = 7
  · rw [if_pos (by rw [e]; rfl), if_pos e]
  · rw [if_neg (kn_nz (j := 8) rfl (by omega) (by omega)), if_neg e]
