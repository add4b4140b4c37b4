/-! what can be undone: the class's ring of slots, the reference's row of snaps -/
theorem kcp_pt {f g : Nat → Int32} {s d n j : Nat} : va_cpy (α := Int32) f g s d n j = if d ≤ j ∧ j < d + n then f (s + (j - d)) else g j := rfl
theorem kcp_in {f g : Nat → Int32} {s d n j : Nat} (h : d ≤ j ∧ j < d + n) : va_cpy (α := Int32) f g s d n j = f (s + (j - d)) := if_pos h
theorem kcp_out {f g : Nat → Int32} {s d n j : Nat} (h : ¬ (d ≤ j ∧ j < d + n)) : va_cpy (α := Int32) f g s d n j = g j := if_neg h
theorem n_mod17 : ∀ a, a < 40 → nI a - nI a / 17 * 17 = nI (a % 17) := by decide +kernel
/-- what stands in a slot -/
noncomputable def KSlot (g : Nat → Int32) (q : Nat) (fi a b : Int32) (f1 : Nat → Int32) : Prop := g (28 * q + 1) = fi ∧ g (28 * q + 2) = a ∧ g (28 * q + 3) = b ∧ ∀ j, j < 8 → g (28 * q + 4 + j) = f1 (16 + j) ∧ g (28 * q + 12 + j) = f1 (40 + j) ∧ g (28 * q + 20 + j) = f1 (48 + j)
theorem draft_l {d v s : Nat} {f1 g : Nat → Int32} {rc : Int32 → (Nat → Int32) → (Nat → Int32)} (hd : d ≤ 16) (hv : v < 3) (hs : E_w_changing (nI v) = nI s) (h7 : s < 7) : E_w_draft_l50 f1 (nI (28 * d)) rc (nI v) g = rc (nI (v + 1)) (va_cpy (α := Int32) f1 g (8 * s) (28 * d + 4 + 8 * v) 8) := by
  rw [E_w_draft_l50.eq_def, if_neg (kn_nlel (j := 3) rfl (by omega) hv), hs]
  simp only [Lt]
  rw [kn_po (by omega), n_8r (by omega), n_8r (by omega), n_addl (m := 4) rfl (by omega), n_add (by omega), kn_cl (by omega), kn_cl (by omega), show (8 : Int32).toNatClampNeg = 8 from rfl]
theorem draft_at {d : Nat} (hd : d ≤ 16) {f f1 f2 : Nat → Int32} {fi : Int32} : KSlot (E_w_draft (nI d) f fi f1 f2) d fi (f2 0) (f2 1) f1 ∧ ∀ j, j < 28 * d + 1 ∨ 28 * d + 28 ≤ j → E_w_draft (nI d) f fi f1 f2 j = f j := by
  obtain ⟨g, hg⟩ : ∃ g, g = upd (upd (upd f (28 * d + 1) fi) (28 * d + 2) (f2 0)) (28 * d + 3) (f2 1) := ⟨_, rfl⟩
  have e : E_w_draft (nI d) f fi f1 f2 = va_cpy (α := Int32) f1 (va_cpy (α := Int32) f1 (va_cpy (α := Int32) f1 g (8 * 2) (28 * d + 4 + 8 * 0) 8) (8 * 5) (28 * d + 4 + 8 * 1) 8) (8 * 6) (28 * d + 4 + 8 * 2) 8 := by
    rw [E_w_draft.eq_def, Lt_b, Lt_b, Lt_b, Lt_b, Lt_b, Lt_b, Lt_b, Lt_b, Lt_b]
    rw [n_28 (by omega), kn_p1 (by omega), kn_p2 (by omega), n_addl (m := 3) rfl (by omega), kn_cl (by omega), kn_cl (by omega), kn_cl (by omega), show (0 : Int32).toNatClampNeg = 0 from rfl, show (1 : Int32).toNatClampNeg = 1 from rfl, ← hg]
    rw [show ((4 - (0 : Int32).toInt : Int).toNat + 1) = 1 + 1 + 1 + 1 + 1 by decide, show (0 : Int32) = nI 0 from rfl]
    rw [Lp_s, draft_l hd (show 0 < 3 by omega) (s := 2) rfl (by omega), Lp_s, draft_l hd (show 0 + 1 < 3 by omega) (s := 5) rfl (by omega), Lp_s, draft_l hd (show 0 + 1 + 1 < 3 by omega) (s := 6) rfl (by omega), Lp_s, E_w_draft_l50.eq_def, if_pos (show (3 : Int32) ≤ nI (0 + 1 + 1 + 1) by decide)]
  rw [e]
  refine ⟨⟨?_, ?_, ?_, fun j hj => ⟨?_, ?_, ?_⟩⟩, fun j hj => ?_⟩
  · rw [kcp_out (by omega), kcp_out (by omega), kcp_out (by omega), hg, upd_n (by omega), upd_n (by omega), upd_s]
  · rw [kcp_out (by omega), kcp_out (by omega), kcp_out (by omega), hg, upd_n (by omega), upd_s]
  · rw [kcp_out (by omega), kcp_out (by omega), kcp_out (by omega), hg, upd_s]
  · rw [kcp_out (by omega), kcp_out (by omega), kcp_in (by omega)]
    exact congrArg f1 (by omega)
  · rw [kcp_out (by omega), kcp_in (by omega)]
    exact congrArg f1 (by omega)
  · rw [kcp_in (by omega)]
    exact congrArg f1 (by omega)
  · rw [kcp_out (by omega), kcp_out (by omega), kcp_out (by omega), hg, upd_n (by omega), upd_n (by omega), upd_n (by omega)]
theorem keep_at {d u s : Nat} (hd : d ≤ 16) (hu : u ≤ 16) {f : Nat → Int32} : E_w_keep (nI s) (nI d) (nI u) f = (nI ((d + 1) % 17), nI (min 16 (u + 1)), upd f (28 * d) (nI s)) := by
  rw [E_w_keep.eq_def]
  simp only [Lt]
  rw [n_28 (by omega), kn_p1 (by omega), kn_p1 (by omega), kn_cl (by omega), n_mod17 _ (by omega)]
  by_cases h : u + 1 < 16
  · rw [if_pos (kn_ltl (j := 16) rfl (by omega) h), show min 16 (u + 1) = u + 1 by omega]
  · rw [if_neg (kn_nltl (j := 16) rfl (by omega) (by omega)), show min 16 (u + 1) = 16 by omega]
    rfl
theorem tb_l {q v s : Nat} {f f6 g : Nat → Int32} {kp dr fi : Int32} {rc : Int32 → (Nat → Int32) → (Int32 × Int32 × Int32 × Int32 × (Nat → Int32) × (Nat → Int32))} (hq : q ≤ 16) (hv : v < 3) (hs : (v = 0 ∧ s = 2) ∨ (v = 1 ∧ s = 5) ∨ (v = 2 ∧ s = 6)) : E_w_takeBack_l85 f kp dr (nI (28 * q)) fi f6 rc (nI v) g = rc (nI (v + 1)) (va_cpy (α := Int32) f g (28 * q + 4 + 8 * v) (8 * s) 8) := by
  rw [E_w_takeBack_l85.eq_def, if_neg (kn_nlel (j := 3) rfl (by omega) hv)]
  simp only [Lt]
  rw [kn_po (by omega), n_8r (by omega), n_addl (m := 4) rfl (by omega), n_add (by omega), kn_cl (by omega), show (8 : Int32).toNatClampNeg = 8 from rfl]
  rcases hs with ⟨rfl, rfl⟩ | ⟨rfl, rfl⟩ | ⟨rfl, rfl⟩
  · rw [if_pos (show E_w_changingX (nI 0) = 2 by decide)]; rfl
  · rw [if_neg (show ¬ E_w_changingX (nI 1) = 2 by decide), if_pos (show E_w_changingX (nI 1) = 5 by decide)]; rfl
  · rw [if_neg (show ¬ E_w_changingX (nI 2) = 2 by decide), if_neg (show ¬ E_w_changingX (nI 2) = 5 by decide)]; rfl
theorem takeBack_at {d u : Nat} (hd : d ≤ 16) (hu : u < 16) {f f1 f2 : Nat → Int32} {fi : Int32} : ∃ g1, E_w_takeBack (nI d) (nI (u + 1)) f fi f1 f2 = (f (28 * ((d + 16) % 17)), nI ((d + 16) % 17), nI u, f (28 * ((d + 16) % 17) + 1), g1, upd (upd f2 0 (f (28 * ((d + 16) % 17) + 2))) 1 (f (28 * ((d + 16) % 17) + 3))) ∧
    (∀ j, j < 8 → g1 (16 + j) = f (28 * ((d + 16) % 17) + 4 + j) ∧ g1 (40 + j) = f (28 * ((d + 16) % 17) + 12 + j) ∧ g1 (48 + j) = f (28 * ((d + 16) % 17) + 20 + j)) ∧ ∀ j, (j < 16 ∨ (24 ≤ j ∧ j < 40) ∨ 56 ≤ j) → g1 j = f1 j := by
  obtain ⟨q, hq⟩ : ∃ q, q = (d + 16) % 17 := ⟨_, rfl⟩
  have q16 : q ≤ 16 := by omega
  rw [← hq]
  refine ⟨va_cpy (α := Int32) f (va_cpy (α := Int32) f (va_cpy (α := Int32) f f1 (28 * q + 4 + 8 * 0) (8 * 2) 8) (28 * q + 4 + 8 * 1) (8 * 5) 8) (28 * q + 4 + 8 * 2) (8 * 6) 8, ?_, fun j hj => ⟨?_, ?_, ?_⟩, fun j hj => ?_⟩
  · rw [E_w_takeBack.eq_def, if_neg (kn_nz (j := 0) rfl (by omega) (by omega)), Lt_b, Lt_b, Lt_b, Lt_b, Lt_b, Lt_b, Lt_b, Lt_b, Lt_b, Lt_b, Lt_b, Lt_b, Lt_b]
    rw [kn_m1 (by omega) (by omega), n_addl (m := 17) rfl (by omega), kn_m1 (by omega) (by omega), show d + 17 - 1 = d + 16 by omega, show u + 1 - 1 = u by omega, n_mod17 _ (by omega), ← hq, n_28 (by omega), kn_p1 (by omega), kn_p2 (by omega), n_addl (m := 3) rfl (by omega), kn_cl (by omega), kn_cl (by omega), kn_cl (by omega), show (0 : Int32).toNatClampNeg = 0 from rfl, show (1 : Int32).toNatClampNeg = 1 from rfl]
    rw [show ((4 - (0 : Int32).toInt : Int).toNat + 1) = 1 + 1 + 1 + 1 + 1 by decide, show (0 : Int32) = nI 0 from rfl]
    rw [Lp_s, tb_l q16 (by omega) (Or.inl ⟨rfl, rfl⟩), Lp_s, tb_l q16 (by omega) (Or.inr (Or.inl ⟨rfl, rfl⟩)), Lp_s, tb_l q16 (by omega) (Or.inr (Or.inr ⟨rfl, rfl⟩)), Lp_s, E_w_takeBack_l85.eq_def, if_pos (show (3 : Int32) ≤ nI (0 + 1 + 1 + 1) by decide), Lt_b, kn_cl (by omega)]
  · rw [kcp_out (by omega), kcp_out (by omega), kcp_in (by omega)]
    exact congrArg f (by omega)
  · rw [kcp_out (by omega), kcp_in (by omega)]
    exact congrArg f (by omega)
  · rw [kcp_in (by omega)]
    exact congrArg f (by omega)
  · rw [kcp_out (by omega), kcp_out (by omega), kcp_out (by omega)]
/-- ranges of what a snap holds -/
noncomputable def KRg (g : Nat → Int32) : Prop := (0 ≤ (g 4).toInt ∧ (g 4).toInt ≤ 23) ∧ (0 ≤ (g 5).toInt ∧ (g 5).toInt ≤ 999) ∧ (1 ≤ (g 6).toInt ∧ (g 6).toInt ≤ 20) ∧ (1 ≤ (g 7).toInt ∧ (g 7).toInt ≤ 20) ∧ (0 ≤ (g 8).toInt ∧ (g 8).toInt ≤ 10) ∧ (0 ≤ (g 9).toInt ∧ (g 9).toInt ≤ 9) ∧ (0 ≤ (g 10).toInt ∧ (g 10).toInt ≤ 99999) ∧ ∀ j, j < 8 → (0 ≤ (g (11 + j)).toInt ∧ (g (11 + j)).toInt ≤ 20) ∧ (0 ≤ (g (19 + j)).toInt ∧ (g (19 + j)).toInt ≤ 999) ∧ (0 ≤ (g (27 + j)).toInt ∧ (g (27 + j)).toInt ≤ 9999)
theorem KRg.ext {g f : Nat → Int32} (h : KRg g) (e : ∀ j, 4 ≤ j → j < 35 → f j = g j) : KRg f := by
  obtain ⟨a1, a2, a3, a4, a5, a6, a7, a8⟩ := h
  refine ⟨?_, ?_, ?_, ?_, ?_, ?_, ?_, fun j hj => ?_⟩
  · rw [e 4 (by omega) (by omega)]; exact a1
  · rw [e 5 (by omega) (by omega)]; exact a2
  · rw [e 6 (by omega) (by omega)]; exact a3
  · rw [e 7 (by omega) (by omega)]; exact a4
  · rw [e 8 (by omega) (by omega)]; exact a5
  · rw [e 9 (by omega) (by omega)]; exact a6
  · rw [e 10 (by omega) (by omega)]; exact a7
  · rw [e _ (by omega) (by omega), e _ (by omega) (by omega), e _ (by omega) (by omega)]; exact a8 j hj
noncomputable def snf (fu : Nat → Int32) (i : Nat) : Nat → Int32 := fun j => if j < 40 then fu (31 * i + 15 + (j - 16)) else if j < 48 then fu (31 * i + 7 + (j - 40)) else fu (31 * i + 23 + (j - 48))
theorem snf_c {fu : Nat → Int32} {i j : Nat} (h : j < 8) : snf fu i (16 + j) = fu (31 * i + (15 + j)) := by
  unfold snf; rw [if_pos (by omega)]; exact congrArg fu (by omega)
theorem snf_f {fu : Nat → Int32} {i j : Nat} (h : j < 8) : snf fu i (40 + j) = fu (31 * i + (7 + j)) := by
  unfold snf; rw [if_neg (by omega), if_pos (by omega)]; exact congrArg fu (by omega)
theorem snf_w {fu : Nat → Int32} {i j : Nat} (h : j < 8) : snf fu i (48 + j) = fu (31 * i + (23 + j)) := by
  unfold snf; rw [if_neg (by omega), if_neg (by omega)]; exact congrArg fu (by omega)
/-- one snap, both sides: the class's slot q, the reference's snap i; n houses; fw: the row now -/
noncomputable def HE (n : Int32) (sl fu fs fw : Nat → Int32) (q i : Nat) : Prop := (sl (28 * q) = fs i ∧ KSlot sl q (fu (31 * i + 6)) (fu (31 * i)) (fu (31 * i + 1)) (snf fu i)) ∧
  (∀ j, 2 ≤ j → j < 6 → fu (31 * i + j) = fw (4 + j)) ∧ (∃ s : Nat, s < 4 ∧ fs i = nI s) ∧ (∀ h : Nat, n.toInt ≤ (h : Int) → h < 8 → fu (31 * i + 7 + h) = 0 ∧ fu (31 * i + 23 + h) = 0) ∧ KRg (fun j => fu (31 * i + (j - 4)))
/-- the whole history -/
noncomputable def HR (n dr kp nu : Int32) (sl fu fs fw : Nat → Int32) : Prop := ∃ d u : Nat, (d ≤ 16 ∧ u ≤ 16) ∧ dr = nI d ∧ kp = nI u ∧ nu = nI u ∧ ∀ i, i < u → HE n sl fu fs fw ((d + 17 - u + i) % 17) i
theorem HE.ext {n : Int32} {sl fu fs fw sl' fu' fs' fw' : Nat → Int32} {q i i' : Nat} (h : HE n sl fu fs fw q i) (h1 : ∀ j, 28 * q ≤ j → j < 28 * q + 28 → sl' j = sl j) (h2 : ∀ j, j < 31 → fu' (31 * i' + j) = fu (31 * i + j)) (h3 : fs' i' = fs i) (h4 : ∀ j, 6 ≤ j → j < 10 → fw' j = fw j) : HE n sl' fu' fs' fw' q i' := by
  obtain ⟨⟨a0, a1, a2, a3, a4⟩, b, ⟨s, s1, s2⟩, c, e⟩ := h
  have k0 := h2 0 (by omega)
  rw [Nat.add_zero, Nat.add_zero] at k0
  refine ⟨⟨?_, ?_, ?_, ?_, fun j hj => ⟨?_, ?_, ?_⟩⟩, fun j hj hk => ?_, ⟨s, s1, h3.trans s2⟩, fun k hk h8 => ⟨?_, ?_⟩, e.ext (fun j hj hk => h2 _ (by omega))⟩
  · rw [h1 _ (by omega) (by omega), h3]; exact a0
  · rw [h1 _ (by omega) (by omega), h2 6 (by omega)]; exact a1
  · rw [h1 _ (by omega) (by omega), k0]; exact a2
  · rw [h1 _ (by omega) (by omega), h2 1 (by omega)]; exact a3
  · rw [h1 _ (by omega) (by omega), (a4 j hj).1, snf_c hj, snf_c hj, h2 _ (by omega)]
  · rw [h1 _ (by omega) (by omega), (a4 j hj).2.1, snf_f hj, snf_f hj, h2 _ (by omega)]
  · rw [h1 _ (by omega) (by omega), (a4 j hj).2.2, snf_w hj, snf_w hj, h2 _ (by omega)]
  · rw [h2 j (by omega), h4 _ (by omega) (by omega)]; exact b j hj hk
  · rw [Nat.add_assoc, h2 _ (by omega), ← Nat.add_assoc]; exact (c k hk h8).1
  · rw [Nat.add_assoc, h2 _ (by omega), ← Nat.add_assoc]; exact (c k hk h8).2
theorem HR.clear {n n' dr kp nu : Int32} {sl fu fs fw sl' fu' fs' fw' : Nat → Int32} (h : HR n dr kp nu sl fu fs fw) : HR n' dr 0 0 sl' fu' fs' fw' := by
  obtain ⟨d, u, ⟨h1, h2⟩, h3, h4, h5, h6⟩ := h
  exact ⟨d, 0, ⟨h1, by omega⟩, h3, rfl, rfl, fun i hi => by omega⟩
theorem HR.zero : HR 0 0 0 0 (fun _ => 0) (fun _ => 0) (fun _ => 0) (fun _ => 0) := ⟨0, 0, ⟨by omega, by omega⟩, rfl, rfl, rfl, fun i hi => by omega⟩
theorem HR.keep {n dr kp nu : Int32} {sl fu fs fw fu' fs' fw' : Nat → Int32} (h : HR n dr kp nu sl fu fs fw) (h2 : ∀ j, j < 496 → fu' j = fu j) (h3 : ∀ i, i < 16 → fs' i = fs i) (h4 : ∀ j, 6 ≤ j → j < 10 → fw' j = fw j) : HR n dr kp nu sl fu' fs' fw' := by
  obtain ⟨d, u, ⟨d1, d2⟩, e1, e2, e3, e4⟩ := h
  exact ⟨d, u, ⟨d1, d2⟩, e1, e2, e3, fun i hi => (e4 i hi).ext (fun _ _ _ => rfl) (fun j hj => h2 _ (by omega)) (h3 i (by omega)) h4⟩
