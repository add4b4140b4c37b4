/-! a part -/
theorem emit_at {us : Nat} {x y : Int32} {fc : Nat → Int32} (h : us + 1 < 800) : E_w_emit x y (nI us) fc = (nI us, nI (us + 2), upd (upd fc us x) (us + 1) y) := by
  simp only [E_w_emit, Lt]
  rw [kn_p1 (by omega), kn_p2 (by omega), if_pos (kn_ltl (j := 800) rfl (by omega) h), kn_cl (by omega), kn_cl (by omega), kn_m2 (by omega) (by omega), show us + 2 - 2 = us by omega]
theorem mz_lt {p p' t t' : Nat} (h : p < p') (hp : p' ≤ 400) (ht : t' ≤ 3) : mz p' t' < mz p t := by unfold mz; omega
/-- the token that comes next, on both sides -/
theorem tk_next {C : KC_} (hC : KCok C) {p : Nat} {c : KT4} {m : KM4} (h : TkP C.1 C.2.2.1 p c m) : ∃ q, p ≤ q ∧ (p < C.2.2.1 → p < q) ∧ TkP C.1 C.2.2.1 q (E_w_step (nI C.2.2.1) c.1 c.2.1 c.2.2.1 c.2.2.2 C.1) (E_v_next (nI C.2.2.1) m.1 m.2.1 m.2.2.1 m.2.2.2 C.2.1) :=
  TkP.next (fr2 := c.1) (fi2 := c.2.2.1) (nu2 := c.2.2.2) (fr3 := m.1) (so3 := m.2.2.1) (wo3 := m.2.2.2) (tf := c.1) (tt := c.2.1) (ti := c.2.2.1) (tu := c.2.2.2) (fr := m.1) (to := m.2.1) (so := m.2.2.1) (wo := m.2.2.2) h hC.2.1 (a := (E_w_step (nI C.2.2.1) c.1 c.2.1 c.2.2.1 c.2.2.2 C.1).1) (b := (E_w_step (nI C.2.2.1) c.1 c.2.1 c.2.2.1 c.2.2.2 C.1).2.1) (c := (E_w_step (nI C.2.2.1) c.1 c.2.1 c.2.2.1 c.2.2.2 C.1).2.2.1) (d := (E_w_step (nI C.2.2.1) c.1 c.2.1 c.2.2.1 c.2.2.2 C.1).2.2.2) (a' := (E_v_next (nI C.2.2.1) m.1 m.2.1 m.2.2.1 m.2.2.2 C.2.1).1) (b' := (E_v_next (nI C.2.2.1) m.1 m.2.1 m.2.2.1 m.2.2.2 C.2.1).2.1) (c' := (E_v_next (nI C.2.2.1) m.1 m.2.1 m.2.2.1 m.2.2.2 C.2.1).2.2.1) (d' := (E_v_next (nI C.2.2.1) m.1 m.2.1 m.2.2.1 m.2.2.2 C.2.1).2.2.2) rfl rfl
theorem kod_0 {o : Nat} (h : o ≤ 1) : (o = 0 ∧ kod o = 0 ∧ klw o = 1) ∨ (o = 1 ∧ kod o = 1 ∧ klw o = 0) := by
  unfold kod klw
  by_cases c : o = 0
  · rw [if_pos c, if_pos c]; exact Or.inl ⟨c, rfl, rfl⟩
  · rw [if_neg c, if_neg c]; exact Or.inr ⟨by omega, rfl, rfl⟩
/-- the word that a token is in the language that is read -/
theorem tk_word {C : KC_} (hC : KCok C) {p : Nat} {c : KT4} {m : KM4} (h : TkP C.1 C.2.2.1 p c m) : (∃ i, i < 9 ∧ (C.2.2.2.1 = 1 → i < 8) ∧ p < C.2.2.1 ∧ m.2.2.1 = 1 ∧ E_w_find (if klw C.2.2.2.1 = 0 then 12 else 11) (nI C.2.2.1) c.1 c.2.1 c.2.2.1 c.2.2.2 C.1 = nI i ∧ (if kod C.2.2.2.1 = 0 then E_v_partAt m.2.2.1 m.2.2.2 C.2.2.2.2.1 else E_v_orderPartAt m.2.2.1 m.2.2.2 C.2.2.2.2.2.1) = nI (i + 1)) ∨ (E_w_find (if klw C.2.2.2.1 = 0 then 12 else 11) (nI C.2.2.1) c.1 c.2.1 c.2.2.1 c.2.2.2 C.1 = -1 ∧ (if kod C.2.2.2.1 = 0 then E_v_partAt m.2.2.1 m.2.2.2 C.2.2.2.2.1 else E_v_orderPartAt m.2.2.1 m.2.2.2 C.2.2.2.2.2.1) = -1) := by
  obtain ⟨_, _, h3, h4, h5⟩ := hC
  rcases kod_0 h3 with ⟨o1, o2, o3⟩ | ⟨o1, o2, o3⟩
  · rw [o2, o3, if_neg (by decide), if_pos rfl]
    rcases tk_lawword (tf := c.1) (tt := c.2.1) (ti := c.2.2.1) (tu := c.2.2.2) (fr := m.1) (to := m.2.1) (so := m.2.2.1) (wo := m.2.2.2) h4 h (nI C.2.2.1) with ⟨i, i1, i2, i3, i4, i5⟩ | q
    · exact Or.inl ⟨i, i1, fun q => by omega, i2, i3, i4, i5⟩
    · exact Or.inr q
  · rw [o2, o3, if_pos rfl, if_neg (by decide)]
    rcases tk_ordword (tf := c.1) (tt := c.2.1) (ti := c.2.2.1) (tu := c.2.2.2) (fr := m.1) (to := m.2.1) (so := m.2.2.1) (wo := m.2.2.2) h5 h (nI C.2.2.1) with ⟨i, i1, i2, i3, i4, i5⟩ | q
    · exact Or.inl ⟨i, by omega, fun _ => i1, i2, i3, i4, i5⟩
    · exact Or.inr q
theorem aF67 : ∀ i, i < 3 → aF 6 i = nI (5 + 8 * i) ∧ aF 7 i = if i = 2 then nI 6 else nI 7 := by decide
