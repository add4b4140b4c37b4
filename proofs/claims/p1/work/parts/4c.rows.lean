theorem goodIn_three {big S : List Cond} {gs : List Nat} (ws : List Cond) (ps : List Nat) (hs : S = pickg big gs) (hp : ws.filter k2_isCode = ps.filterMap (fun i => big[i]?))
    (h : (ws.filter (fun w => !k2_isCode w)).all (fun w => decide (w ∈ S) && goodWord w) = true) : GoodIn big ws := by
  intro w hw
  by_cases hc : k2_isCode w = true
  · have h1 : w ∈ ws.filter k2_isCode := List.mem_filter.mpr ⟨hw, hc⟩
    rw [hp] at h1
    obtain ⟨i, -, hi⟩ := List.mem_filterMap.mp h1
    have hm : w ∈ big := List.mem_of_getElem? hi
    refine ⟨hm, ?_⟩
    cases w <;> first | (simp [k2_isCode] at hc; done) | exact Or.inl rfl
  · have h1 := List.all_eq_true.mp h w (List.mem_filter.mpr ⟨hw, by simpa using hc⟩)
    simp only [Bool.and_eq_true, decide_eq_true_eq] at h1
    refine ⟨pickg_mem gs big w ?_, good_of_word h1.2⟩
    rw [← hs]
    exact h1.1
