/-! numbers: what the exact functions ask, in Int -/
theorem il_iff {a b : Int32} : a < b ↔ a.toInt < b.toInt := Int32.lt_iff_toInt_lt
theorem ie_iff {a b : Int32} : a ≤ b ↔ a.toInt ≤ b.toInt := Int32.le_iff_toInt_le
theorem iq_iff {a b : Int32} : a = b ↔ a.toInt = b.toInt := Int32.toInt_inj.symm
theorem jl_iff {a b : Int64} : a < b ↔ a.toInt < b.toInt := Int64.lt_iff_toInt_lt
theorem je_iff {a b : Int64} : a ≤ b ↔ a.toInt ≤ b.toInt := Int64.le_iff_toInt_le
theorem within_p {v lo hi : Int32} (h : lo.toInt ≤ v.toInt ∧ v.toInt ≤ hi.toInt) : E_w_within v lo hi = 1 := by
  unfold E_w_within
  rw [if_neg (fun q => by have := il_iff.mp q; omega), if_neg (fun q => by have := il_iff.mp q; omega)]
theorem within_n {v lo hi : Int32} (h : ¬ (lo.toInt ≤ v.toInt ∧ v.toInt ≤ hi.toInt)) : E_w_within v lo hi = 0 := by
  unfold E_w_within
  by_cases c : v < lo
  · rw [if_pos c]
  · rw [if_neg c, if_pos]
    have c2 : ¬ v.toInt < lo.toInt := fun q => c (il_iff.mpr q)
    exact il_iff.mpr (by omega)
theorem ifw_p {α : Type} {v lo hi : Int32} {A B : α} (h : lo.toInt ≤ v.toInt ∧ v.toInt ≤ hi.toInt) : (if E_w_within v lo hi = 1 then A else B) = A := if_pos (within_p h)
theorem ifw_n {α : Type} {v lo hi : Int32} {A B : α} (h : ¬ (lo.toInt ≤ v.toInt ∧ v.toInt ≤ hi.toInt)) : (if E_w_within v lo hi = 1 then A else B) = B := if_neg (by rw [within_n h]; decide)
theorem in_p {v : Int32} {lo hi : Int64} (h : lo.toInt ≤ v.toInt ∧ v.toInt ≤ hi.toInt) : E_v_in v.toInt64 lo hi = 1 := by
  have e : v.toInt64.toInt = v.toInt := Int32.toInt_toInt64 v
  unfold E_v_in
  rw [if_neg (fun q => by have := jl_iff.mp ((lg_cmp_lt _ _).mp q); omega), if_neg (fun q => by have := jl_iff.mp ((lg_cmp_gt _ _).mp q); omega)]
theorem in_n {v : Int32} {lo hi : Int64} (h : ¬ (lo.toInt ≤ v.toInt ∧ v.toInt ≤ hi.toInt)) : E_v_in v.toInt64 lo hi = 0 := by
  have e : v.toInt64.toInt = v.toInt := Int32.toInt_toInt64 v
  unfold E_v_in
  by_cases c : v.toInt64 < lo
  · rw [if_pos ((lg_cmp_lt _ _).mpr c)]
  · rw [if_neg (fun q => c ((lg_cmp_lt _ _).mp q)), if_pos]
    have c2 : ¬ v.toInt64.toInt < lo.toInt := fun q => c (jl_iff.mpr q)
    exact (lg_cmp_gt _ _).mpr (jl_iff.mpr (by omega))
theorem ifi_p {α : Type} {v : Int32} {lo hi : Int64} {A B : α} (h : lo.toInt ≤ v.toInt ∧ v.toInt ≤ hi.toInt) : (if E_v_in v.toInt64 lo hi = 1 then A else B) = A := if_pos (in_p h)
theorem ifi_n {α : Type} {v : Int32} {lo hi : Int64} {A B : α} (h : ¬ (lo.toInt ≤ v.toInt ∧ v.toInt ≤ hi.toInt)) : (if E_v_in v.toInt64 lo hi = 1 then A else B) = B := if_neg (by rw [in_n h]; decide)
theorem refuse_1 {x rb : Int32} {f : Nat → Int32} : (E_w_refuse x rb f).1 = x := by
  simp only [E_w_refuse, E_w_refuse_j43, Lt]
  (repeat' split) <;> rfl
theorem tell_1 {x sta : Int32} {f : Nat → Int32} : (E_v_tell x sta f).1 = x := by
  simp only [E_v_tell, E_v_tell_j28, Lt]
  by_cases c : 0 ≤ x
  · rw [if_pos c, if_pos c]
  · rw [if_neg c, if_neg c]
/-! the relation of what stays: a town, and the reference's row from a place on -/
noncomputable def orr (f : Nat → Int32) (n : Nat) : Int32 := match n with
  | 0 => 0
  | n + 1 => orr f n ||| f n
theorem orr_same {f g : Nat → Int32} (n : Nat) (h : ∀ j, j < n → f j = g j) : orr f n = orr g n := by
  induction n with
  | zero => rfl
  | succ n ih =>
    show orr f n ||| f n = orr g n ||| g n
    rw [ih (fun j hj => h j (by omega)), h n (by omega)]
noncomputable def RF (b : Nat) (n ht ho : Int32) (f1 f3 fw : Nat → Int32) : Prop :=
  n = fw (b + 0) ∧ ht = fw (b + 1) ∧ (∀ j, j < 16 → f1 j = fw (b + (35 + j))) ∧ (∀ j, 24 ≤ j → j < 40 → f1 j = fw (b + (27 + j))) ∧ (∀ j, j < 24 → f3 j = fw (b + (67 + j))) ∧ ho = orr (fun k => fw (b + (91 + k))) ht.toInt.toNat
theorem RF.move {b b' : Nat} {n ht ho : Int32} {f1 f3 fw f1' f3' fw' : Nat → Int32} (h : RF b n ht ho f1 f3 fw) (hz : ht.toInt ≤ 6) (e : ∀ j, j ≤ 1 ∨ (35 ≤ j ∧ j < 97) → fw' (b' + j) = fw (b + j)) (e1 : ∀ j, j < 16 ∨ (24 ≤ j ∧ j < 40) → f1' j = f1 j) (e3 : ∀ j, j < 24 → f3' j = f3 j) : RF b' n ht ho f1' f3' fw' := by
  obtain ⟨h0, h1, h2, h3, h4, h5⟩ := h
  refine ⟨h0.trans (e 0 (by omega)).symm, h1.trans (e 1 (by omega)).symm, fun j hj => ?_, fun j hj hk => ?_, fun j hj => ?_, h5.trans (orr_same _ (fun j hj => (e (91 + j) (by omega)).symm))⟩
  · rw [e1 j (by omega), h2 j hj, e (35 + j) (by omega)]
  · rw [e1 j (by omega), h3 j hj hk, e (27 + j) (by omega)]
  · rw [e3 j hj, h4 j hj, e (67 + j) (by omega)]
theorem RF.keep {n ht ho : Int32} {f1 f3 fw f1' f3' fw' : Nat → Int32} (h : RF 0 n ht ho f1 f3 fw) (hz : 0 ≤ ht.toInt ∧ ht.toInt ≤ 6) (hc : FzC f1 f1') (hh : FzH f3 f3') (hm : FzM fw fw') : RF 0 n ht ho f1' f3' fw' :=
  h.move hz.2 (fun j hj => by rw [Nat.zero_add]; exact hm j hj) hc hh
theorem RF.zero {b : Nat} : RF b 0 0 0 (fun _ => 0) (fun _ => 0) (fun _ => 0) := ⟨rfl, rfl, fun _ _ => rfl, fun _ _ _ => rfl, fun _ _ => rfl, rfl⟩
theorem upd_n {f : Nat → Int32} {k j : Nat} {x : Int32} (h : ¬ j = k) : upd f k x j = f j := if_neg h
theorem upd_s {f : Nat → Int32} {k : Nat} {x : Int32} : upd f k x k = x := if_pos rfl
theorem cl_of {x : Int32} {z : Int} (h : x.toInt = z) : x.toNatClampNeg = z.toNat := by rw [← h]; rfl
theorem add_c {a : Int32} {k : Nat} {m : Int32} (hm : m.toInt = (k : Int)) (ha : 0 ≤ a.toInt ∧ a.toInt ≤ 100000) (hk : k ≤ 100000) : (m + a).toNatClampNeg = k + a.toInt.toNat := by
  rw [cl_of (i_add hm (Eq.refl a.toInt) (by omega))]
  omega
theorem inc_1 {a : Int32} (ha : -1000000 ≤ a.toInt ∧ a.toInt ≤ 1000000) : (a + 1).toInt = a.toInt + 1 := i_add (Eq.refl a.toInt) (show (1 : Int32).toInt = 1 from rfl) (by omega)
theorem inc_o {a : Int32} (ha : -1000000 ≤ a.toInt ∧ a.toInt ≤ 1000000) : (a + Int32.ofInt 1).toInt = a.toInt + 1 := i_add (Eq.refl a.toInt) (show (Int32.ofInt 1).toInt = 1 from rfl) (by omega)
theorem toInt_n {a : Int32} (h : 0 ≤ a.toInt) : a.toNatClampNeg = a.toInt.toNat := rfl
