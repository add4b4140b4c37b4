
noncomputable def PR (i : Nat) (v : Int) : Prop := (0 ≤ i ∧ i ≤ 0 → 0 ≤ v ∧ v ≤ 8) ∧ (1 ≤ i ∧ i ≤ 1 → 0 ≤ v ∧ v ≤ 6) ∧ (2 ≤ i ∧ i ≤ 2 → 0 ≤ v ∧ v ≤ 6) ∧ (3 ≤ i ∧ i ≤ 3 → (-1) ≤ v ∧ v ≤ 5) ∧ (4 ≤ i ∧ i ≤ 4 → 0 ≤ v ∧ v ≤ 23) ∧ (11 ≤ i ∧ i ≤ 18 → 0 ≤ v ∧ v ≤ 20) ∧ (35 ≤ i ∧ i ≤ 42 → 0 ≤ v ∧ v ≤ 6)
theorem PR.r_0 {i : Nat} {v : Int} (h : PR i v) (hi : 0 ≤ i ∧ i ≤ 0) : 0 ≤ v ∧ v ≤ 8 := (h.1) hi
theorem PR.w_0 {i : Nat} {v : Int} (hi : 0 ≤ i ∧ i ≤ 0) (hv : 0 ≤ v ∧ v ≤ 8) : PR i v := ⟨fun _ => hv, fun h => absurd h (by omega), fun h => absurd h (by omega), fun h => absurd h (by omega), fun h => absurd h (by omega), fun h => absurd h (by omega), fun h => absurd h (by omega)⟩
theorem PR.r_1 {i : Nat} {v : Int} (h : PR i v) (hi : 1 ≤ i ∧ i ≤ 1) : 0 ≤ v ∧ v ≤ 6 := (h.2.1) hi
theorem PR.w_1 {i : Nat} {v : Int} (hi : 1 ≤ i ∧ i ≤ 1) (hv : 0 ≤ v ∧ v ≤ 6) : PR i v := ⟨fun h => absurd h (by omega), fun _ => hv, fun h => absurd h (by omega), fun h => absurd h (by omega), fun h => absurd h (by omega), fun h => absurd h (by omega), fun h => absurd h (by omega)⟩
theorem PR.r_2 {i : Nat} {v : Int} (h : PR i v) (hi : 2 ≤ i ∧ i ≤ 2) : 0 ≤ v ∧ v ≤ 6 := (h.2.2.1) hi
theorem PR.w_2 {i : Nat} {v : Int} (hi : 2 ≤ i ∧ i ≤ 2) (hv : 0 ≤ v ∧ v ≤ 6) : PR i v := ⟨fun h => absurd h (by omega), fun h => absurd h (by omega), fun _ => hv, fun h => absurd h (by omega), fun h => absurd h (by omega), fun h => absurd h (by omega), fun h => absurd h (by omega)⟩
theorem PR.r_3 {i : Nat} {v : Int} (h : PR i v) (hi : 3 ≤ i ∧ i ≤ 3) : (-1) ≤ v ∧ v ≤ 5 := (h.2.2.2.1) hi
theorem PR.w_3 {i : Nat} {v : Int} (hi : 3 ≤ i ∧ i ≤ 3) (hv : (-1) ≤ v ∧ v ≤ 5) : PR i v := ⟨fun h => absurd h (by omega), fun h => absurd h (by omega), fun h => absurd h (by omega), fun _ => hv, fun h => absurd h (by omega), fun h => absurd h (by omega), fun h => absurd h (by omega)⟩
theorem PR.r_4 {i : Nat} {v : Int} (h : PR i v) (hi : 4 ≤ i ∧ i ≤ 4) : 0 ≤ v ∧ v ≤ 23 := (h.2.2.2.2.1) hi
theorem PR.w_4 {i : Nat} {v : Int} (hi : 4 ≤ i ∧ i ≤ 4) (hv : 0 ≤ v ∧ v ≤ 23) : PR i v := ⟨fun h => absurd h (by omega), fun h => absurd h (by omega), fun h => absurd h (by omega), fun h => absurd h (by omega), fun _ => hv, fun h => absurd h (by omega), fun h => absurd h (by omega)⟩
theorem PR.r_11 {i : Nat} {v : Int} (h : PR i v) (hi : 11 ≤ i ∧ i ≤ 18) : 0 ≤ v ∧ v ≤ 20 := (h.2.2.2.2.2.1) hi
theorem PR.w_11 {i : Nat} {v : Int} (hi : 11 ≤ i ∧ i ≤ 18) (hv : 0 ≤ v ∧ v ≤ 20) : PR i v := ⟨fun h => absurd h (by omega), fun h => absurd h (by omega), fun h => absurd h (by omega), fun h => absurd h (by omega), fun h => absurd h (by omega), fun _ => hv, fun h => absurd h (by omega)⟩
theorem PR.r_35 {i : Nat} {v : Int} (h : PR i v) (hi : 35 ≤ i ∧ i ≤ 42) : 0 ≤ v ∧ v ≤ 6 := (h.2.2.2.2.2.2) hi
theorem PR.w_35 {i : Nat} {v : Int} (hi : 35 ≤ i ∧ i ≤ 42) (hv : 0 ≤ v ∧ v ≤ 6) : PR i v := ⟨fun h => absurd h (by omega), fun h => absurd h (by omega), fun h => absurd h (by omega), fun h => absurd h (by omega), fun h => absurd h (by omega), fun h => absurd h (by omega), fun _ => hv⟩
theorem PR.free {i : Nat} {v : Int} (hi : 5 ≤ i ∧ (i < 11 ∨ 18 < i) ∧ (i < 35 ∨ 42 < i)) : PR i v := ⟨fun h => absurd h (by omega), fun h => absurd h (by omega), fun h => absurd h (by omega), fun h => absurd h (by omega), fun h => absurd h (by omega), fun h => absurd h (by omega), fun h => absurd h (by omega)⟩
theorem PR.zero (i : Nat) : PR i 0 := ⟨fun _ => by decide, fun _ => by decide, fun _ => by decide, fun _ => by decide, fun _ => by decide, fun _ => by decide, fun _ => by decide⟩
theorem PR.eqi {i j : Nat} {v w : Int} (h : PR i v) (e : j = i) (f : w = v) : PR j w := by rw [e, f]; exact h
noncomputable def Sstp (o a k hi : Int) (d : Int → Int) : Prop := (0 ≤ o ∧ o ≤ 9 ∧ d (k + 1) = d k + 1) ∨ (20 ≤ o ∧ o ≤ 27 ∧ 2 ≤ d k ∧ d (k + 1) = d k - 1) ∨ (o = 28 ∧ 1 ≤ d k ∧ d (k + 1) = d k) ∨ ((o = 29 ∨ o = 30) ∧ 1 ≤ d k ∧ d (k + 1) = d k - 1 ∧ k < a ∧ a ≤ hi ∧ d a = d k)
noncomputable def Seg (op ar : Int → Int) (lo hi : Int) : Prop := 0 ≤ lo ∧ lo ≤ hi ∧ hi ≤ 400 ∧ ∃ d : Int → Int, d lo = 0 ∧ (∀ k, lo ≤ k → k ≤ hi → 0 ≤ d k ∧ d k ≤ k - lo) ∧ ∀ k, lo ≤ k → k < hi → Sstp (op k) (ar k) k hi d
noncomputable def lop (f : Nat → Int32) (b : Nat) (k : Int) : Int := (f (b + 98 + 2 * k.toNat)).toInt
noncomputable def lar (f : Nat → Int32) (b : Nat) (k : Int) : Int := (f (b + 98 + 2 * k.toNat + 1)).toInt
noncomputable def LawOK (f : Nat → Int32) (b : Nat) : Prop := 0 ≤ (f (b + 1)).toInt ∧ (f (b + 1)).toInt ≤ 12 ∧ ∀ c : Nat, (c : Int) < (f (b + 1)).toInt → Seg (lop f b) (lar f b) (f (b + 2 + 8 * c + 3)).toInt (f (b + 2 + 8 * c + 4)).toInt ∧ Seg (lop f b) (lar f b) (f (b + 2 + 8 * c + 5)).toInt (f (b + 2 + 8 * c + 6)).toInt
noncomputable def Laws (f : Nat → Int32) : Prop := ∀ k, k < 6 → LawOK f (100 + 900 * k)
noncomputable def RwOK (f : Nat → Int32) : Prop := (∀ j, j < 100 → PR j (f j).toInt) ∧ Laws f
theorem LawOK.same {f g : Nat → Int32} {b : Nat} (h : LawOK f b) (e : ∀ j, b ≤ j → j < b + 900 → g j = f j) : LawOK g b := by
  have h9 : ∀ c : Nat, (c : Int) < (f (b + 1)).toInt → c < 12 := fun c hc => by
    have := h.2.1
    omega
  have seg : ∀ lo hi, Seg (lop f b) (lar f b) lo hi → Seg (lop g b) (lar g b) lo hi := by
    intro lo hi ⟨h0, h1, h2, d, d0, d1, d2⟩
    refine ⟨h0, h1, h2, d, d0, d1, fun k hk hk2 => ?_⟩
    have e1 : lop g b k = lop f b k := by unfold lop; rw [e _ (by omega) (by omega)]
    have e2 : lar g b k = lar f b k := by unfold lar; rw [e _ (by omega) (by omega)]
    rw [e1, e2]
    exact d2 k hk hk2
  refine ⟨by rw [e _ (by omega) (by omega)]; exact h.1, by rw [e _ (by omega) (by omega)]; exact h.2.1, fun c hc => ?_⟩
  rw [e (b + 1) (by omega) (by omega)] at hc
  have hc2 := h9 c hc
  obtain ⟨s1, s2⟩ := h.2.2 c hc
  rw [e (b + 2 + 8 * c + 3) (by omega) (by omega), e (b + 2 + 8 * c + 4) (by omega) (by omega), e (b + 2 + 8 * c + 5) (by omega) (by omega), e (b + 2 + 8 * c + 6) (by omega) (by omega)]
  exact ⟨seg _ _ s1, seg _ _ s2⟩
theorem RwOK.same {f g : Nat → Int32} (h : RwOK f) (e : ∀ j, j < 5500 → g j = f j) : RwOK g :=
  ⟨fun j hj => by rw [e j (by omega)]; exact h.1 j hj, fun k hk => (h.2 k hk).same (fun j h1 h2 => e j (by omega))⟩
theorem RwOK.zero : RwOK (fun _ => 0) := ⟨fun j _ => PR.zero j, fun k _ => ⟨Int.le_refl 0, (by show (0 : Int) ≤ 12; decide), fun c hc => absurd (show (c : Int) < 0 from hc) (by omega)⟩⟩
theorem RwOK.at {f : Nat → Int32} (h : RwOK f) {i : Int32} {x : Int} (hx : i.toInt = x) (hh : 0 ≤ x ∧ x < 100) : PR x.toNat (f i.toNatClampNeg).toInt := by
  rw [i_clamp hx]
  exact h.1 _ (by omega)
theorem RwOK.upd {f : Nat → Int32} (h : RwOK f) {i v : Int32} {x y : Int} (hx : i.toInt = x) (hh : 0 ≤ x ∧ x < 100) (hv : v.toInt = y) (hp : PR x.toNat y) : RwOK (upd f i.toNatClampNeg v) := by
  rw [i_clamp hx]
  refine ⟨fun j hj => ?_, fun k hk => (h.2 k hk).same (fun j h1 h2 => pk_un (by omega))⟩
  by_cases e : j = x.toNat
  · subst e; rw [pk_us, hv]; exact hp
  · rw [pk_un e]; exact h.1 j hj
noncomputable def Pu (n : Nat) (g : Nat → Int32) : Prop := ∀ j, j < n → PR (4 + j % 31) (g j).toInt
theorem Pu.zero {n : Nat} : Pu n (fun _ => 0) := fun j _ => PR.zero _
theorem Pu.at {n : Nat} {g : Nat → Int32} (h : Pu n g) {i : Int32} {x : Int} (hx : i.toInt = x) (hh : 0 ≤ x ∧ x < n) : PR (4 + x.toNat % 31) (g i.toNatClampNeg).toInt := by
  rw [i_clamp hx]
  exact h _ (by omega)
theorem Pu.upd {n : Nat} {g : Nat → Int32} (h : Pu n g) {i v : Int32} {x y : Int} (hx : i.toInt = x) (hh : 0 ≤ x) (hv : v.toInt = y) (hp : PR (4 + x.toNat % 31) y) : Pu n (upd g i.toNatClampNeg v) := fun j hj => by
  rw [i_clamp hx]
  by_cases e : j = x.toNat
  · subst e; rw [pk_us, hv]; exact hp
  · rw [pk_un e]; exact h j hj
