theorem NW.kw {v : Nat → Nat → Int64} (h : NW v) : KWt (v 0) (v 1) := by
  rw [h.1, h.2.1]
  exact ⟨by decide +kernel, by decide +kernel⟩
theorem NW.hd {v : Nat → Nat → Int64} (h : NW v) : ∀ j, j < 4 → (v 2 j).toInt = kwh 0 j := by
  rw [h.2.2.1]
  decide +kernel
theorem NW.ac {v : Nat → Nat → Int64} (h : NW v) : ∀ j, j < 4 → (v 3 j).toInt = kwh 1 j := by
  rw [h.2.2.2]
  decide +kernel
