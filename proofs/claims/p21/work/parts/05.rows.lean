noncomputable def tm0 : Nat → Int32 := upd (upd (upd (upd (upd (upd (fun _ => 0) 0 0) 1 0) 2 3) 3 12) 4 3) 5 0
noncomputable def row0 : Nat → Int32 := upd (upd (upd (upd (fun _ => 0) 3 (-1)) 6 3) 7 12) 8 3
theorem up_ne {f : Nat → Int32} {k j : Nat} {x : Int32} (h : j ≠ k) : upd f k x j = f j := pk_un h
theorem row0_hi (j : Nat) (h : 9 ≤ j) : row0 j = 0 := by
  unfold row0
  rw [up_ne (by omega), up_ne (by omega), up_ne (by omega), up_ne (by omega)]
/-- the row of the reference, as long as there are no houses: hour and day, no fines, no chords -/
noncomputable def RowOK (f : Nat → Int32) (hh dd : Nat) : Prop := f 0 = 0 ∧ f 4 = nI hh ∧ f 5 = nI dd ∧ f 10 = 0 ∧ ∀ j, 67 ≤ j → j < 91 → f j = 0
theorem row0_ok : RowOK row0 0 0 := ⟨rfl, rfl, rfl, rfl, fun j h _ => row0_hi j (by omega)⟩
theorem goA {f : Nat → Int32} {hh dd : Nat} (h : RowOK f hh dd) : RowOK (upd (upd (upd f 4 (nI (hh + 1))) 4 0) 5 (nI (dd + 1))) 0 (dd + 1) := by
  obtain ⟨h0, h4, h5, h10, hc⟩ := h
  refine ⟨?_, ?_, ?_, ?_, fun j a b => ?_⟩
  · rw [up_ne (by decide), up_ne (by decide), up_ne (by decide)]; exact h0
  · rw [up_ne (by decide)]; rfl
  · rfl
  · rw [up_ne (by decide), up_ne (by decide), up_ne (by decide)]; exact h10
  · rw [up_ne (by omega), up_ne (by omega), up_ne (by omega)]; exact hc j a b
theorem goB {f : Nat → Int32} {hh dd : Nat} (h : RowOK f hh dd) : RowOK (upd f 4 (nI (hh + 1))) (hh + 1) dd := by
  obtain ⟨h0, h4, h5, h10, hc⟩ := h
  refine ⟨?_, ?_, ?_, ?_, fun j a b => ?_⟩
  · rw [up_ne (by decide)]; exact h0
  · rfl
  · rw [up_ne (by decide)]; exact h5
  · rw [up_ne (by decide)]; exact h10
  · rw [up_ne (by omega)]; exact hc j a b
theorem ro10 {f : Nat → Int32} {hh dd : Nat} (h : RowOK f hh dd) : RowOK (upd f 10 0) hh dd := by
  obtain ⟨h0, h4, h5, h10, hc⟩ := h
  refine ⟨?_, ?_, ?_, rfl, fun j a b => ?_⟩
  · rw [up_ne (by decide)]; exact h0
  · rw [up_ne (by decide)]; exact h4
  · rw [up_ne (by decide)]; exact h5
  · rw [up_ne (by omega)]; exact hc j a b
theorem z_upd {f : Nat → Int32} {k j : Nat} (h : ∀ j, f j = 0) : upd f k 0 j = 0 := by
  by_cases e : j = k
  · subst e; exact pk_us
  · rw [up_ne e]; exact h j
theorem l_eq {a b : Int64} {x y : Int} (hx : a.toInt = x) (hy : b.toInt = y) (h : a = b) : x = y := by rw [← hx, ← hy, h]
theorem l_ne {a b : Int64} {x y : Int} (hx : a.toInt = x) (hy : b.toInt = y) (h : ¬ a = b) : x ≠ y := by
  rw [← hx, ← hy]; exact fun q => h (Int64.toInt_inj.mp q)
