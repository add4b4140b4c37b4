section
/-! numbers: what the exact functions ask, in Int -/
theorem il_iff {a b : Int32} : a < b ↔ a.toInt < b.toInt := Int32.lt_iff_toInt_lt
theorem ie_iff {a b : Int32} : a ≤ b ↔ a.toInt ≤ b.toInt := Int32.le_iff_toInt_le
theorem iq_iff {a b : Int32} : a = b ↔ a.toInt = b.toInt := Int32.toInt_inj.symm
theorem jl_iff {a b : Int64} : a < b ↔ a.toInt < b.toInt := Int64.lt_iff_toInt_lt
theorem je_iff {a b : Int64} : a ≤ b ↔ a.toInt ≤ b.toInt := Int64.le_iff_toInt_le
theorem within_p {v lo hi : Int32} (h : lo.toInt ≤ v.toInt ∧ v.toInt ≤ hi.toInt) : E_w_within v lo hi = 1 := by
  unfold E_w_within
  rw [if_neg (fun q => by have := il_iff.mp q; omega), if_neg (fun q => by have := il_iff.mp q; omega)]
theorem within_n {v lo hi : Int32} (h : ¬ (lo.toInt ≤ v.toInt ∧ v.toInt ≤ hi.toInt)) : E_w_within v lo hi = 0 := by
  unfold E_w_within
  by_cases c : v < lo
  · rw [if_pos c]
  · rw [if_neg c, if_pos]
    have c2 : ¬ v.toInt < lo.toInt := fun q => c (il_iff.mpr q)
    exact il_iff.mpr (by omega)
theorem ifw_p {α : Type} {v lo hi : Int32} {A B : α} (h : lo.toInt ≤ v.toInt ∧ v.toInt ≤ hi.toInt) : (if E_w_within v lo hi = 1 then A else B) = A := if_pos (within_p h)
theorem ifw_n {α : Type} {v lo hi : Int32} {A B : α} (h : ¬ (lo.toInt ≤ v.toInt ∧ v.toInt ≤ hi.toInt)) : (if E_w_within v lo hi = 1 then A else B) = B := if_neg (by rw [within_n h]; decide)
theorem in_p {v : Int32} {lo hi : Int64} (h : lo.toInt ≤ v.toInt ∧ v.toInt ≤ hi.toInt) : E_v_in v.toInt64 lo hi = 1 := by
  have e : v.toInt64.toInt = v.toInt := Int32.toInt_toInt64 v
  unfold E_v_in
  rw [if_neg (fun q => by have := jl_iff.mp ((lg_cmp_lt _ _).mp q); omega), if_neg (fun q => by have := jl_iff.mp ((lg_cmp_gt _ _).mp q); omega)]
theorem in_n {v : Int32} {lo hi : Int64} (h : ¬ (lo.toInt ≤ v.toInt ∧ v.toInt ≤ hi.toInt)) : E_v_in v.toInt64 lo hi = 0 := by
  have e : v.toInt64.toInt = v.toInt := Int32.toInt_toInt64 v
  unfold E_v_in
  by_cases c : v.toInt64 < lo
  · rw [if_pos ((lg_cmp_lt _ _).mpr c)]
  · rw [if_neg (fun q => c ((lg_cmp_lt _ _).mp q)), if_pos]
    have c2 : ¬ v.toInt64.toInt < lo.toInt := fun q => c (jl_iff.mpr q)
    exact (lg_cmp_gt _ _).mpr (jl_iff.mpr (by omega))
theorem ifi_p {α : Type} {v : Int32} {lo hi : Int64} {A B : α} (h : lo.toInt ≤ v.toInt ∧ v.toInt ≤ hi.toInt) : (if E_v_in v.toInt64 lo hi = 1 then A else B) = A := if_pos (in_p h)
theorem ifi_n {α : Type} {v : Int32} {lo hi : Int64} {A B : α} (h : ¬ (lo.toInt ≤ v.toInt ∧ v.toInt ≤ hi.toInt)) : (if E_v_in v.toInt64 lo hi = 1 then A else B) = B := if_neg (by rw [in_n h]; decide)
theorem refuse_1 {x rb : Int32} {f : Nat → Int32} : (E_w_refuse x rb f).1 = x := by
  simp only [E_w_refuse, E_w_refuse_j43, Lt]
  (repeat' split) <;> rfl
theorem tell_1 {x sta : Int32} {f : Nat → Int32} : (E_v_tell x sta f).1 = x := by
  simp only [E_v_tell, E_v_tell_j28, Lt]
  by_cases c : 0 ≤ x
  · rw [if_pos c, if_pos c]
  · rw [if_neg c, if_neg c]
/-! the relation of what stays: a town, and the reference's row from a place on -/
noncomputable def orr (f : Nat → Int32) (n : Nat) : Int32 := match n with
  | 0 => 0
  | n + 1 => orr f n ||| f n
theorem orr_same {f g : Nat → Int32} (n : Nat) (h : ∀ j, j < n → f j = g j) : orr f n = orr g n := by
  induction n with
  | zero => rfl
  | succ n ih =>
    show orr f n ||| f n = orr g n ||| g n
    rw [ih (fun j hj => h j (by omega)), h n (by omega)]
noncomputable def RF (b : Nat) (n ht ho : Int32) (f1 f3 fw : Nat → Int32) : Prop :=
  n = fw (b + 0) ∧ ht = fw (b + 1) ∧ (∀ j, j < 16 → f1 j = fw (b + (35 + j))) ∧ (∀ j, 24 ≤ j → j < 40 → f1 j = fw (b + (27 + j))) ∧ (∀ j, j < 24 → f3 j = fw (b + (67 + j))) ∧ ho = orr (fun k => fw (b + (91 + k))) ht.toInt.toNat
theorem RF.move {b b' : Nat} {n ht ho : Int32} {f1 f3 fw f1' f3' fw' : Nat → Int32} (h : RF b n ht ho f1 f3 fw) (hz : ht.toInt ≤ 6) (e : ∀ j, j ≤ 1 ∨ (35 ≤ j ∧ j < 97) → fw' (b' + j) = fw (b + j)) (e1 : ∀ j, j < 16 ∨ (24 ≤ j ∧ j < 40) → f1' j = f1 j) (e3 : ∀ j, j < 24 → f3' j = f3 j) : RF b' n ht ho f1' f3' fw' := by
  obtain ⟨h0, h1, h2, h3, h4, h5⟩ := h
  refine ⟨h0.trans (e 0 (by omega)).symm, h1.trans (e 1 (by omega)).symm, fun j hj => ?_, fun j hj hk => ?_, fun j hj => ?_, h5.trans (orr_same _ (fun j hj => (e (91 + j) (by omega)).symm))⟩
  · rw [e1 j (by omega), h2 j hj, e (35 + j) (by omega)]
  · rw [e1 j (by omega), h3 j hj hk, e (27 + j) (by omega)]
  · rw [e3 j hj, h4 j hj, e (67 + j) (by omega)]
theorem RF.keep {n ht ho : Int32} {f1 f3 fw f1' f3' fw' : Nat → Int32} (h : RF 0 n ht ho f1 f3 fw) (hz : 0 ≤ ht.toInt ∧ ht.toInt ≤ 6) (hc : FzC f1 f1') (hh : FzH f3 f3') (hm : FzM fw fw') : RF 0 n ht ho f1' f3' fw' :=
  h.move hz.2 (fun j hj => by rw [Nat.zero_add]; exact hm j hj) hc hh
theorem RF.zero {b : Nat} : RF b 0 0 0 (fun _ => 0) (fun _ => 0) (fun _ => 0) := ⟨rfl, rfl, fun _ _ => rfl, fun _ _ _ => rfl, fun _ _ => rfl, rfl⟩
theorem upd_n {f : Nat → Int32} {k j : Nat} {x : Int32} (h : ¬ j = k) : upd f k x j = f j := if_neg h
theorem upd_s {f : Nat → Int32} {k : Nat} {x : Int32} : upd f k x k = x := if_pos rfl
theorem cl_of {x : Int32} {z : Int} (h : x.toInt = z) : x.toNatClampNeg = z.toNat := by rw [← h]; rfl
theorem add_c {a : Int32} {k : Nat} {m : Int32} (hm : m.toInt = (k : Int)) (ha : 0 ≤ a.toInt ∧ a.toInt ≤ 100000) (hk : k ≤ 100000) : (m + a).toNatClampNeg = k + a.toInt.toNat := by
  rw [cl_of (i_add hm (Eq.refl a.toInt) (by omega))]
  omega
theorem inc_1 {a : Int32} (ha : -1000000 ≤ a.toInt ∧ a.toInt ≤ 1000000) : (a + 1).toInt = a.toInt + 1 := i_add (Eq.refl a.toInt) (show (1 : Int32).toInt = 1 from rfl) (by omega)
theorem inc_o {a : Int32} (ha : -1000000 ≤ a.toInt ∧ a.toInt ≤ 1000000) : (a + Int32.ofInt 1).toInt = a.toInt + 1 := i_add (Eq.refl a.toInt) (show (Int32.ofInt 1).toInt = 1 from rfl) (by omega)
theorem toInt_n {a : Int32} (h : 0 ≤ a.toInt) : a.toNatClampNeg = a.toInt.toNat := rfl
end
section
/-! hear, forget, score, chord -/
theorem rel_hear {n x rb hea ho thr sta : Int32} {f1 f3 frf fw frm : Nat → Int32} {r1 b1 hea' ho' r2 s2 : Int32} {g1 fw' g2 : Nat → Int32} (k1 : (r1, b1, g1, hea', ho') = E_w_hear x rb frf hea ho) (k2 : (r2, s2, fw', g2) = E_v_hear x thr sta fw frm) (h : RF 0 n hea ho f1 f3 fw) (hz : 0 ≤ hea.toInt ∧ hea.toInt ≤ 6) : r1 = r2 ∧ RF 0 n hea' ho' f1 f3 fw' := by
  simp only [E_w_hear, Lt, Lt2, E_w_accept] at k1
  simp only [E_v_hear, Lt, Lt2] at k2
  by_cases hx : (0 : Int32).toInt ≤ x.toInt ∧ x.toInt ≤ (127 : Int32).toInt
  · rw [ifw_p hx] at k1
    rw [ifi_p (by exact hx)] at k2
    have e1 : fw (1 : Int32).toNatClampNeg = hea := h.2.1.symm
    rw [e1] at k2
    by_cases h6 : hea < 6
    · have h7 : hea.toInt < 6 := il_iff.mp h6
      rw [if_pos h6] at k1
      rw [if_neg (fun q => by have := congrArg Int32.toInt q; have z : (6 : Int32).toInt = 6 := rfl; omega)] at k2
      simp only [Prod.mk.injEq] at k1 k2
      obtain ⟨a1, a2, a3, a4, a5⟩ := k1
      obtain ⟨b1, b2, b3, b4⟩ := k2
      rw [tell_1] at b1
      have hc : (91 + hea).toNatClampNeg = 91 + hea.toInt.toNat := add_c (k := 91) rfl (by omega) (by omega)
      have hi : (hea + 1).toInt = hea.toInt + 1 := inc_1 (by omega)
      have u1 : upd fw (91 + hea).toNatClampNeg x (1 : Int32).toNatClampNeg = hea := by
        rw [hc]
        rw [show (1 : Int32).toNatClampNeg = 1 from rfl, upd_n (by omega)]
        exact e1
      rw [u1] at b3
      refine ⟨a1.trans b1.symm, ?_⟩
      obtain ⟨q0, q1, q2, q3, q4, q5⟩ := h
      have key : ∀ j, j ≠ 1 → j ≠ 91 + hea.toInt.toNat → fw' j = fw j := fun j n1 n2 => by
        rw [b3, show (1 : Int32).toNatClampNeg = 1 from rfl, upd_n n1, hc, upd_n n2]
      refine ⟨?_, ?_, fun j hj => ?_, fun j hj hk => ?_, fun j hj => ?_, ?_⟩
      · rw [key _ (by omega) (by omega)]; exact q0
      · rw [b3, a4]; exact upd_s.symm
      · rw [key _ (by omega) (by omega)]; exact q2 j hj
      · rw [key _ (by omega) (by omega)]; exact q3 j hj hk
      · rw [key _ (by omega) (by omega)]; exact q4 j hj
      · rw [a4, hi, show (hea.toInt + 1).toNat = hea.toInt.toNat + 1 by omega]
        show ho' = orr _ hea.toInt.toNat ||| fw' (0 + (91 + hea.toInt.toNat))
        rw [orr_same (g := fun k => fw (0 + (91 + k))) hea.toInt.toNat (fun j hj => key _ (by omega) (by omega)), ← q5, a5, b3, Nat.zero_add, show (1 : Int32).toNatClampNeg = 1 from rfl, upd_n (by omega), hc]
        rw [upd_s]
    · have h7 : ¬ hea.toInt < 6 := fun q => h6 (il_iff.mpr q)
      rw [if_neg h6] at k1
      rw [if_pos (i_lit (x := 6) (by omega) rfl)] at k2
      simp only [Prod.mk.injEq] at k1 k2
      obtain ⟨a1, a2, a3, a4, a5⟩ := k1
      obtain ⟨b1, b2, b3, b4⟩ := k2
      rw [refuse_1] at a1
      rw [tell_1] at b1
      rw [a4, a5, b3]
      exact ⟨a1.trans b1.symm, h⟩
  · rw [ifw_n hx] at k1
    rw [ifi_n (by exact hx)] at k2
    simp only [Prod.mk.injEq] at k1 k2
    obtain ⟨a1, a2, a3, a4, a5⟩ := k1
    obtain ⟨b1, b2, b3, b4⟩ := k2
    rw [refuse_1] at a1
    rw [tell_1] at b1
    rw [a4, a5, b3]
    exact ⟨a1.trans b1.symm, h⟩
theorem rel_forget {n hea ho thr : Int32} {f1 f3 fw : Nat → Int32} {r1 r2 : Int32} {fw' : Nat → Int32} (k1 : r1 = E_w_forget hea ho) (k2 : (r2, fw') = E_v_forget thr fw) (h : RF 0 n hea ho f1 f3 fw) : r1 = r2 ∧ RF 0 n 0 0 f1 f3 fw' := by
  simp only [E_v_forget, Lt, Prod.mk.injEq] at k2
  obtain ⟨b1, b2⟩ := k2
  obtain ⟨q0, q1, q2, q3, q4, q5⟩ := h
  have key : ∀ j, j ≠ 1 → fw' j = fw j := fun j n1 => by
    rw [b2, show (1 : Int32).toNatClampNeg = 1 from rfl, upd_n n1]
  refine ⟨k1.trans (q1.trans b1.symm), ?_, ?_, fun j hj => ?_, fun j hj hk => ?_, fun j hj => ?_, rfl⟩
  · rw [key _ (by omega)]; exact q0
  · rw [b2]; exact upd_s.symm
  · rw [key _ (by omega)]; exact q2 j hj
  · rw [key _ (by omega)]; exact q3 j hj hk
  · rw [key _ (by omega)]; exact q4 j hj
theorem rel_chord {n ht ho x thr : Int32} {f1 f3 fw : Nat → Int32} {r1 r2 : Int32} (k1 : r1 = E_w_chord x f3) (k2 : r2 = E_v_chord x thr fw) (h : RF 0 n ht ho f1 f3 fw) : r1 = r2 := by
  simp only [E_w_chord, E_w_chordAt, E_w_chordAt_j19, Lt] at k1
  simp only [E_v_chord, Lt] at k2
  by_cases hx : (0 : Int64).toInt ≤ x.toInt ∧ x.toInt ≤ (23 : Int64).toInt
  · have hx2 : 0 ≤ x.toInt ∧ x.toInt ≤ 23 := hx
    rw [ifi_p (by exact hx)] at k2
    rw [if_neg (fun q => by have := il_iff.mp q; have z : (0 : Int32).toInt = 0 := rfl; omega), if_neg (fun q => by have := ie_iff.mp q; have z : (24 : Int32).toInt = 24 := rfl; omega)] at k1
    rw [k1, k2, add_c (k := 67) rfl (by omega) (by omega)]
    have q := h.2.2.2.2.1 x.toInt.toNat (by omega)
    rw [Nat.zero_add] at q
    exact q
  · have hx2 : ¬ (0 ≤ x.toInt ∧ x.toInt ≤ 23) := hx
    rw [ifi_n (by exact hx)] at k2
    rw [k2]
    by_cases c : x < 0
    · rw [if_pos c] at k1; exact k1
    · have c2 : ¬ x.toInt < 0 := fun q => c (il_iff.mpr q)
      rw [if_neg c, if_pos (ie_iff.mpr (show (24 : Int32).toInt ≤ _ by have z : (24 : Int32).toInt = 24 := rfl; omega))] at k1
      exact k1
theorem rel_score {n ht ho x y rb thr sta : Int32} {f1 f3 frf fw frm : Nat → Int32} {r1 b1 r2 s2 : Int32} {g1 f3' fw' g2 : Nat → Int32} (k1 : (r1, b1, g1, f3') = E_w_score x y rb frf f3) (k2 : (r2, s2, fw', g2) = E_v_score x y thr sta fw frm) (h : RF 0 n ht ho f1 f3 fw) (hz : 0 ≤ ht.toInt ∧ ht.toInt ≤ 6) : r1 = r2 ∧ RF 0 n ht ho f1 f3' fw' := by
  simp only [E_w_score, E_w_score_j20, Lt, Lt2, E_w_accept, E_w_chordAt] at k1
  simp only [E_v_score, E_v_score_j41, E_v_change, Lt, Lt2] at k2
  by_cases hx : (0 : Int32).toInt ≤ x.toInt ∧ x.toInt ≤ (23 : Int32).toInt
  · have hx2 : 0 ≤ x.toInt ∧ x.toInt ≤ 23 := hx
    rw [ifw_p hx] at k1
    rw [ifi_p (by exact hx)] at k2
    by_cases hy : (0 : Int32).toInt ≤ y.toInt ∧ y.toInt ≤ (127 : Int32).toInt
    · rw [ifw_p hy, if_neg (fun q => by have := il_iff.mp q; have z : (0 : Int32).toInt = 0 := rfl; omega), if_neg (fun q => by have := ie_iff.mp q; have z : (24 : Int32).toInt = 24 := rfl; omega)] at k1
      rw [ifi_p (by exact hy), add_c (k := 67) rfl (by omega) (by omega)] at k2
      simp only [Prod.mk.injEq] at k1 k2
      obtain ⟨a1, a2, a3, a4⟩ := k1
      obtain ⟨b1, b2, b3, b4⟩ := k2
      rw [toInt_n hx2.1] at a1 a4
      obtain ⟨q0, q1, q2, q3, q4, q5⟩ := h
      have key : ∀ j, j ≠ 67 + x.toInt.toNat → fw' j = fw j := fun j n1 => by rw [b3, upd_n n1]
      refine ⟨?_, ?_, ?_, fun j hj => ?_, fun j hj hk => ?_, fun j hj => ?_, ?_⟩
      · rw [a1, b1]
        have q := q4 x.toInt.toNat (by omega)
        rw [Nat.zero_add] at q
        exact q
      · rw [key _ (by omega)]; exact q0
      · rw [key _ (by omega)]; exact q1
      · rw [key _ (by omega)]; exact q2 j hj
      · rw [key _ (by omega)]; exact q3 j hj hk
      · by_cases e : j = x.toInt.toNat
        · rw [a4, b3, e, upd_s, Nat.zero_add, upd_s]
        · rw [a4, upd_n e, key _ (by omega)]; exact q4 j hj
      · rw [q5]
        exact orr_same _ (fun j hj => (key _ (by omega)).symm)
    · rw [ifw_n hy] at k1
      rw [ifi_n (by exact hy)] at k2
      simp only [Prod.mk.injEq] at k1 k2
      obtain ⟨a1, a2, a3, a4⟩ := k1
      obtain ⟨b1, b2, b3, b4⟩ := k2
      rw [refuse_1] at a1
      rw [tell_1] at b1
      rw [a4, b3]
      exact ⟨a1.trans b1.symm, h⟩
  · rw [ifw_n hx] at k1
    rw [ifi_n (by exact hx)] at k2
    simp only [Prod.mk.injEq] at k1 k2
    obtain ⟨a1, a2, a3, a4⟩ := k1
    obtain ⟨b1, b2, b3, b4⟩ := k2
    rw [refuse_1] at a1
    rw [tell_1] at b1
    rw [a4, b3]
    exact ⟨a1.trans b1.symm, h⟩
end
section
/-! house -/
theorem fact_at {x y : Int32} {f : Nat → Int32} (hx : 0 ≤ x.toInt ∧ x.toInt < 8) {k : Nat} (hy : y.toInt = (k : Int)) (hk : k < 7) : E_w_fact x y f = f (8 * k + x.toInt.toNat) := by
  unfold E_w_fact
  have z0 : (0 : Int32).toInt = 0 := rfl
  have z8 : (8 : Int32).toInt = 8 := rfl
  have z7 : (7 : Int32).toInt = 7 := rfl
  rw [if_neg (fun q => by have := il_iff.mp q; omega), if_neg (fun q => by have := ie_iff.mp q; omega), if_neg (fun q => by have := il_iff.mp q; omega), if_neg (fun q => by have := ie_iff.mp q; omega)]
  simp only [Lt]
  have m : (y * 8).toInt = y.toInt * 8 := i_mul (Eq.refl y.toInt) z8 (by omega)
  rw [cl_of (i_add m (Eq.refl x.toInt) (by omega))]
  congr 1
  omega
theorem put_at {x y z : Int32} {f : Nat → Int32} (hx : 0 ≤ x.toInt ∧ x.toInt < 8) {k : Nat} (hy : y.toInt = (k : Int)) (hk : k < 7) : E_w_put x y z f = upd f (8 * k + x.toInt.toNat) z := by
  have z0 : (0 : Int32).toInt = 0 := rfl
  have z8 : (8 : Int32).toInt = 8 := rfl
  have z7 : (7 : Int32).toInt = 7 := rfl
  have z6 : (6 : Int32).toInt = 6 := rfl
  simp only [E_w_put, Lt]
  rw [ifw_p (by omega), ifw_p (by omega)]
  have m : (y * 8).toInt = y.toInt * 8 := i_mul (Eq.refl y.toInt) z8 (by omega)
  rw [cl_of (i_add m (Eq.refl x.toInt) (by omega))]
  congr 1
  omega
theorem put2_at {x z : Int32} {f : Nat → Int32} (hx : 0 ≤ x.toInt ∧ x.toInt < 8) : E_w_put_2 x z f = upd f (16 + x.toInt.toNat) z := by
  have z0 : (0 : Int32).toInt = 0 := rfl
  have z7 : (7 : Int32).toInt = 7 := rfl
  simp only [E_w_put_2, Lt]
  rw [ifw_p (by omega), ifw_p (by decide), add_c (k := 16) rfl (by omega) (by omega)]
theorem diner {x n : Int32} {f : Nat → Int32} (hn : 0 ≤ n.toInt ∧ n.toInt ≤ 8) (z : Int32 → Int32) : ∀ (k : Nat) (v : Int32), 0 ≤ v.toInt ∧ v.toInt ≤ 8 → (9 - v.toInt).toNat < k → ((Lp (E_w_dinerOf_l2 x n f) z k v = -1 ∧ ∀ h : Nat, v.toInt ≤ (h : Int) → (h : Int) < n.toInt → f (24 + h) ≠ x) ∨ (Lp (E_w_dinerOf_l2 x n f) z k v ≠ -1 ∧ ∃ h : Nat, v.toInt ≤ (h : Int) ∧ (h : Int) < n.toInt ∧ f (24 + h) = x)) := by
  intro k
  induction k with
  | zero => intro v hv hk; exact absurd hk (Nat.not_lt_zero _)
  | succ k ih =>
    intro v hv hk
    rw [Lp_s]
    simp only [E_w_dinerOf_l2, Lt]
    by_cases c : n ≤ v
    · rw [if_pos c]
      have c2 := ie_iff.mp c
      exact Or.inl ⟨rfl, fun h h1 h2 => by omega⟩
    · rw [if_neg c]
      have c2 : v.toInt < n.toInt := by
        have : ¬ n.toInt ≤ v.toInt := fun q => c (ie_iff.mpr q)
        omega
      rw [fact_at (k := 3) (by omega) rfl (by omega)]
      by_cases e : f (8 * 3 + v.toInt.toNat) = x
      · rw [if_pos e]
        refine Or.inr ⟨fun q => ?_, v.toInt.toNat, by omega, by omega, e⟩
        have := congrArg Int32.toInt q
        have z1 : (-1 : Int32).toInt = -1 := rfl
        omega
      · rw [if_neg e]
        have hi := inc_o (a := v) (by omega)
        rcases ih (v + Int32.ofInt 1) (by omega) (by omega) with ⟨r1, r2⟩ | ⟨r1, h, h1, h2, h3⟩
        · refine Or.inl ⟨r1, fun h h1 h2 => ?_⟩
          by_cases q : (h : Int) = v.toInt
          · rw [show 24 + h = 8 * 3 + v.toInt.toNat by omega]; exact e
          · exact r2 h (by omega) h2
        · exact Or.inr ⟨r1, h, by omega, h2, h3⟩
theorem hl_in {x0 x1 x2 x3 x4 sta nu n : Int32} {fw frf : Nat → Int32} (hn : 0 ≤ n.toInt ∧ n.toInt ≤ 8) (z : Int32 → (Int32 × Int32 × Int32 × (Nat → Int32) × (Nat → Int32))) : ∀ (k : Nat) (v : Int32), 0 ≤ v.toInt ∧ v.toInt ≤ 8 → (9 - v.toInt).toNat < k →
    ((∀ h : Nat, v.toInt ≤ (h : Int) → (h : Int) < n.toInt → fw (51 + h) ≠ x3) → Lp (E_v_houseN_l84 x0 x1 x2 x3 x4 sta nu fw frf n) z k v = E_v_houseN_l84 x0 x1 x2 x3 x4 sta nu fw frf n z n) ∧
    ((∃ h : Nat, v.toInt ≤ (h : Int) ∧ (h : Int) < n.toInt ∧ fw (51 + h) = x3) → Lp (E_v_houseN_l84 x0 x1 x2 x3 x4 sta nu fw frf n) z k v = ((E_v_tell (-3) sta frf).1, (E_v_tell (-3) sta frf).2.1, nu, fw, (E_v_tell (-3) sta frf).2.2)) := by
  intro k
  induction k with
  | zero => intro v hv hk; exact absurd hk (Nat.not_lt_zero _)
  | succ k ih =>
    intro v hv hk
    rw [Lp_s]
    by_cases c : n ≤ v
    · have c2 := ie_iff.mp c
      refine ⟨fun _ => ?_, fun ⟨h, h1, h2, _⟩ => by omega⟩
      unfold E_v_houseN_l84
      rw [if_pos c, if_pos (show n ≤ n from ie_iff.mpr (Int.le_refl _))]
    · have c2 : v.toInt < n.toInt := by
        have : ¬ n.toInt ≤ v.toInt := fun q => c (ie_iff.mpr q)
        omega
      have hi := inc_o (a := v) (by omega)
      have st : E_v_houseN_l84 x0 x1 x2 x3 x4 sta nu fw frf n (Lp (E_v_houseN_l84 x0 x1 x2 x3 x4 sta nu fw frf n) z k) v = if fw (51 + v.toInt.toNat) = x3 then ((E_v_tell (-3) sta frf).1, (E_v_tell (-3) sta frf).2.1, nu, fw, (E_v_tell (-3) sta frf).2.2) else Lp (E_v_houseN_l84 x0 x1 x2 x3 x4 sta nu fw frf n) z k (v + Int32.ofInt 1) := by
        rw [E_v_houseN_l84.eq_def, if_neg c]
        simp only [Lt, Lt2]
        rw [add_c (k := 51) rfl (by omega) (by omega)]
      rw [st]
      have ih2 := ih (v + Int32.ofInt 1) (by omega) (by omega)
      refine ⟨fun hno => ?_, fun ⟨h, h1, h2, h3⟩ => ?_⟩
      · rw [if_neg (hno v.toInt.toNat (by omega) (by omega))]
        exact ih2.1 (fun h h1 h2 => hno h (by omega) h2)
      · by_cases e : fw (51 + v.toInt.toNat) = x3
        · rw [if_pos e]
        · rw [if_neg e]
          refine ih2.2 ⟨h, ?_, h2, h3⟩
          by_cases q : (h : Int) = v.toInt
          · exact absurd (by rw [show 51 + v.toInt.toNat = 51 + h by omega]; exact h3) e
          · omega
end
section
theorem upd_e {f : Nat → Int32} {k j : Nat} {x : Int32} (h : j = k) : upd f k x j = x := if_pos h
theorem rel_house {x0 x1 x2 x3 x4 rb dr kp n ht ho thr sta nu : Int32} {f1 f3 frf fw frm : Nat → Int32} {r1 b1 kp' n' r2 s2 nu' : Int32} {g1 f1' fw' g2 : Nat → Int32} (k1 : (r1, b1, g1, kp', n', f1') = E_w_house x0 x1 x2 x3 x4 rb frf dr kp n f1) (k2 : (r2, s2, nu', fw', g2) = E_v_houseN x0 x1 x2 x3 x4 thr sta nu fw frm) (h : RF 0 n ht ho f1 f3 fw) (hn : 0 ≤ n.toInt ∧ n.toInt ≤ 8) (hz : 0 ≤ ht.toInt ∧ ht.toInt ≤ 6) : r1 = r2 ∧ RF 0 n' ht ho f1' f3 fw' := by
  have bad : ∀ {r b kp2 n2 : Int32} {g f : Nat → Int32}, (r, b, g, kp2, n2, f) = E_w_house_j76 rb frf kp n f1 → ∀ {r' s' nu2 : Int32} {f' g' : Nat → Int32}, (r', s', nu2, f', g') = E_v_houseN_j67 sta nu fw frm → r = r' ∧ RF 0 n2 ht ho f f3 f' := by
    intro r b kp2 n2 g f q1 r' s' nu2 f' g' q2
    simp only [E_w_house_j76, E_v_houseN_j67, Lt2, Prod.mk.injEq] at q1 q2
    obtain ⟨a1, a2, a3, a4, a5, a6⟩ := q1
    obtain ⟨c1, c2, c3, c4, c5⟩ := q2
    rw [refuse_1] at a1
    rw [tell_1] at c1
    rw [a5, a6, c4]
    exact ⟨a1.trans c1.symm, h⟩
  have j52 : ∀ v : Int32, E_w_house_j52 rb frf kp n f1 v = E_w_house_j76 rb frf kp n f1 := fun v => by
    unfold E_w_house_j52
    split <;> rfl
  have j23 : E_w_house_j23 x3 x4 rb frf kp n f1 = E_w_house_j76 rb frf kp n f1 := by
    simp only [E_w_house_j23, Lt, j52]
    split
    · split <;> rfl
    · rfl
  simp only [E_w_house, Lt, j52, j23] at k1
  simp only [E_v_houseN, Lt] at k2
  by_cases p0 : (0 : Int32).toInt ≤ x0.toInt ∧ x0.toInt ≤ (6 : Int32).toInt
  case neg => rw [ifw_n p0] at k1; rw [ifi_n (by exact p0)] at k2; exact bad k1 k2
  rw [ifw_p p0] at k1
  rw [ifi_p (by exact p0)] at k2
  by_cases p1 : (0 : Int32).toInt ≤ x1.toInt ∧ x1.toInt ≤ (3 : Int32).toInt
  case neg => rw [ifw_n p1] at k1; rw [ifi_n (by exact p1)] at k2; exact bad k1 k2
  rw [ifw_p p1] at k1
  rw [ifi_p (by exact p1)] at k2
  by_cases p2 : (0 : Int32).toInt ≤ x2.toInt ∧ x2.toInt ≤ (999 : Int32).toInt
  case neg =>
    rw [ifi_n (by exact p2)] at k2
    by_cases p3 : (0 : Int32).toInt ≤ x3.toInt ∧ x3.toInt ≤ (7 : Int32).toInt
    case neg => rw [ifw_n p3] at k1; exact bad k1 k2
    by_cases p4 : (0 : Int32).toInt ≤ x4.toInt ∧ x4.toInt ≤ (7 : Int32).toInt
    case neg => rw [ifw_p p3, ifw_n p4] at k1; exact bad k1 k2
    rw [ifw_p p3, ifw_p p4, ifw_n p2] at k1
    exact bad k1 k2
  rw [ifi_p (by exact p2)] at k2
  by_cases p3 : (0 : Int32).toInt ≤ x3.toInt ∧ x3.toInt ≤ (7 : Int32).toInt
  case neg => rw [ifw_n p3] at k1; rw [ifi_n (by exact p3)] at k2; exact bad k1 k2
  rw [ifw_p p3] at k1
  rw [ifi_p (by exact p3)] at k2
  by_cases p4 : (0 : Int32).toInt ≤ x4.toInt ∧ x4.toInt ≤ (7 : Int32).toInt
  case neg => rw [ifw_n p4] at k1; rw [ifi_n (by exact p4)] at k2; exact bad k1 k2
  rw [ifw_p p4, ifw_p p2] at k1
  rw [ifi_p (by exact p4)] at k2
  have e0 : fw (0 : Int32).toNatClampNeg = n := h.1.symm
  rw [e0] at k2
  have z0 : (0 : Int32).toInt = 0 := rfl
  unfold E_w_dinerOf at k1
  generalize hN9 : (9 - (0 : Int32).toInt : Int).toNat + 1 = N9 at k1 k2
  have dn := diner (x := x3) (n := n) (f := f1) hn (fun _ => ((0) : Int32)) N9 0 (by decide) (by rw [← hN9]; exact Nat.lt_succ_self _)
  have hl := hl_in (x0 := x0) (x1 := x1) (x2 := x2) (x3 := x3) (x4 := x4) (sta := sta) (nu := nu) (n := n) (fw := fw) (frf := frm) hn (fun _ => ((0, 0, 0, fun _ => 0, fun _ => 0) : Int32 × Int32 × Int32 × (Nat → Int32) × (Nat → Int32))) N9 0 (by decide) (by rw [← hN9]; exact Nat.lt_succ_self _)
  have ed : ∀ j : Nat, (j : Int) < n.toInt → f1 (24 + j) = fw (51 + j) := fun j hj => by
    have q := h.2.2.2.1 (24 + j) (by omega) (by omega)
    rw [Nat.zero_add, show 27 + (24 + j) = 51 + j by omega] at q
    exact q
  rcases dn with ⟨d1, d2⟩ | ⟨d1, j, j1, j2, j3⟩
  · rw [if_pos d1] at k1
    rw [hl.1 (fun j j1 j2 => by rw [← ed j j2]; exact d2 j j1 j2)] at k2
    unfold E_v_houseN_l84 at k2
    rw [if_pos (show n ≤ n from ie_iff.mpr (Int.le_refl _))] at k2
    by_cases c : n < 8
    · have c2 : n.toInt < 8 := il_iff.mp c
      rw [if_pos c] at k1
      rw [if_neg (fun q => by have := congrArg Int32.toInt q; have z : (8 : Int32).toInt = 8 := rfl; omega)] at k2
      have hN : ∀ (m : Int32) (k : Nat), m.toInt = (k : Int) → k ≤ 100 → (m + n).toNatClampNeg = k + n.toInt.toNat := fun m k hm hk => add_c hm (by omega) (by omega)
      simp only [Lt2, Lt, E_w_build, E_w_accept, put_at (k := 0) (y := 0) (show 0 ≤ n.toInt ∧ n.toInt < 8 by omega) rfl (by omega), put_at (k := 1) (y := 1) (show 0 ≤ n.toInt ∧ n.toInt < 8 by omega) rfl (by omega), put2_at (show 0 ≤ n.toInt ∧ n.toInt < 8 by omega), put_at (k := 3) (y := 3) (show 0 ≤ n.toInt ∧ n.toInt < 8 by omega) rfl (by omega), put_at (k := 4) (y := 4) (show 0 ≤ n.toInt ∧ n.toInt < 8 by omega) rfl (by omega), Prod.mk.injEq] at k1
      simp only [Lt2, Lt, hN 35 35 rfl (by decide), hN 43 43 rfl (by decide), hN 19 19 rfl (by decide), hN 51 51 rfl (by decide), hN 59 59 rfl (by decide), hN 11 11 rfl (by decide), hN 27 27 rfl (by decide), show (0 : Int32).toNatClampNeg = 0 from rfl, Prod.mk.injEq] at k2
      obtain ⟨a1, a2, a3, a4, a5, a6⟩ := k1
      obtain ⟨c1, c3, c4, c5, c6⟩ := k2
      rw [tell_1] at c1
      obtain ⟨N, hN2⟩ : ∃ N, N = n.toInt.toNat := ⟨_, rfl⟩
      rw [← hN2] at a6 c5
      have hN8 : N < 8 := by omega
      obtain ⟨q0, q1, q2, q3, q4, q5⟩ := h
      have mk : ∀ i, i ≠ 0 → i ≠ 27 + N → i ≠ 11 + N → i ≠ 59 + N → i ≠ 51 + N → i ≠ 19 + N → i ≠ 43 + N → i ≠ 35 + N → fw' i = fw i := fun i h1 h2 h3 h4 h5 h6 h7 h8 => by
        rw [c5, upd_n h1, upd_n h2, upd_n h3, upd_n h4, upd_n h5, upd_n h6, upd_n h7, upd_n h8]
      have ck : ∀ i, i ≠ 32 + N → i ≠ 24 + N → i ≠ 16 + N → i ≠ 8 + N → i ≠ N → f1' i = f1 i := fun i h1 h2 h3 h4 h5 => by
        rw [a6, upd_n (by omega), upd_n (by omega), upd_n (by omega), upd_n (by omega), upd_n (by omega)]
      refine ⟨a1.trans c1.symm, ?_, ?_, fun j hj => ?_, fun j hj hk => ?_, fun j hj => ?_, ?_⟩
      · rw [a5, c5]
        show _ = upd _ 0 _ 0
        rw [upd_s, upd_n (by omega), upd_n (by omega), upd_n (by omega), upd_n (by omega), upd_n (by omega), upd_n (by omega), upd_n (by omega)]
        exact congrArg (· + 1) q0
      · rw [mk _ (by omega) (by omega) (by omega) (by omega) (by omega) (by omega) (by omega) (by omega)]; exact q1
      · by_cases e1 : j = N
        · rw [a6, upd_n (by omega), upd_n (by omega), upd_n (by omega), upd_n (by omega), upd_e (by omega), c5, upd_n (by omega), upd_n (by omega), upd_n (by omega), upd_n (by omega), upd_n (by omega), upd_n (by omega), upd_n (by omega), upd_e (by omega)]
        · by_cases e2 : j = 8 + N
          · rw [a6, upd_n (by omega), upd_n (by omega), upd_n (by omega), upd_e (by omega), c5, upd_n (by omega), upd_n (by omega), upd_n (by omega), upd_n (by omega), upd_n (by omega), upd_n (by omega), upd_e (by omega)]
          · rw [ck _ (by omega) (by omega) (by omega) (by omega) (by omega), mk _ (by omega) (by omega) (by omega) (by omega) (by omega) (by omega) (by omega) (by omega)]; exact q2 j hj
      · by_cases e1 : j = 24 + N
        · rw [a6, upd_n (by omega), upd_e (by omega), c5, upd_n (by omega), upd_n (by omega), upd_n (by omega), upd_n (by omega), upd_e (by omega)]
        · by_cases e2 : j = 32 + N
          · rw [a6, upd_e (by omega), c5, upd_n (by omega), upd_n (by omega), upd_n (by omega), upd_e (by omega)]
          · rw [ck _ (by omega) (by omega) (by omega) (by omega) (by omega), mk _ (by omega) (by omega) (by omega) (by omega) (by omega) (by omega) (by omega) (by omega)]; exact q3 j hj hk
      · rw [mk _ (by omega) (by omega) (by omega) (by omega) (by omega) (by omega) (by omega) (by omega)]; exact q4 j hj
      · rw [q5]
        exact orr_same _ (fun j hj => (mk _ (by omega) (by omega) (by omega) (by omega) (by omega) (by omega) (by omega) (by omega)).symm)
    · have c2 : ¬ n.toInt < 8 := fun q => c (il_iff.mpr q)
      rw [if_neg c] at k1
      rw [if_pos (i_lit (x := 8) (by omega) rfl)] at k2
      simp only [Lt2, Prod.mk.injEq] at k1 k2
      obtain ⟨a1, a2, a3, a4, a5, a6⟩ := k1
      obtain ⟨c1, c3, c4, c5, c6⟩ := k2
      rw [refuse_1] at a1
      rw [tell_1] at c1
      rw [a5, a6, c5]
      exact ⟨a1.trans c1.symm, h⟩
  · rw [if_neg d1] at k1
    rw [hl.2 ⟨j, j1, j2, by rw [← ed j j2]; exact j3⟩] at k2
    simp only [Lt2, Prod.mk.injEq] at k1 k2
    obtain ⟨a1, a2, a3, a4, a5, a6⟩ := k1
    obtain ⟨c1, c3, c4, c5, c6⟩ := k2
    rw [refuse_1] at a1
    rw [tell_1] at c1
    rw [a5, a6, c5]
    exact ⟨a1.trans c1.symm, h⟩
end
section
/-! row -/
theorem byte_at {v ln : Int32} {fb : Nat → Int32} (h : 0 ≤ v.toInt ∧ v.toInt < ln.toInt ∧ ln.toInt ≤ 400) : E_w_byteAtX v ln fb = fb v.toInt.toNat := by
  unfold E_w_byteAtX
  have z0 : (0 : Int32).toInt = 0 := rfl
  have z4 : (400 : Int32).toInt = 400 := rfl
  rw [if_neg (fun q => by have := il_iff.mp q; omega), if_neg (fun q => by have := ie_iff.mp q; omega), if_neg (fun q => by have := ie_iff.mp q; omega)]
  rfl
theorem row_in {rb ln sta : Int32} {frf fb ft frm fw : Nat → Int32} (hl : 0 ≤ ln.toInt ∧ ln.toInt ≤ 400) (hb : ∀ j : Nat, (j : Int) < ln.toInt → fb j = ft j ∧ 0 ≤ (fb j).toInt) (z1 : Int32 → Int32 → (Nat → Int32) → (Int32 × Int32 × Int32 × (Nat → Int32) × Int32 × (Nat → Int32))) (z2 : Int32 → Int32 → Int32 → (Nat → Int32) → (Int32 × Int32 × Int32 × (Nat → Int32) × (Nat → Int32))) : ∀ (k : Nat) (v c d a : Int32) (f g : Nat → Int32), 0 ≤ v.toInt ∧ v.toInt ≤ 400 → (401 - v.toInt).toNat < k → (∀ j, j < 24 → f j = g (67 + j)) → (∀ j, j < 67 ∨ 91 ≤ j → g j = fw j) →
    (∀ j, j < 24 → (Lp (E_w_rowX_l21 rb frf ln fb) z1 k v c f).2.2.2.2.2 j = (Lp (E_v_rowX_l35 sta ln ft frm) z2 k v d a g).2.2.2.1 (67 + j)) ∧ ∀ j, j < 67 ∨ 91 ≤ j → (Lp (E_v_rowX_l35 sta ln ft frm) z2 k v d a g).2.2.2.1 j = fw j := by
  intro k
  induction k with
  | zero => intro v c d a f g hv hk; exact absurd hk (Nat.not_lt_zero _)
  | succ k ih =>
    intro v c d a f g hv hk h1 h2
    rw [Lp_s, Lp_s]
    simp only [E_w_rowX_l21, E_v_rowX_l35, Lt, Lt2]
    by_cases e : ln ≤ v
    · rw [if_pos e, if_pos e]
      exact ⟨h1, h2⟩
    · have e2 : v.toInt < ln.toInt := by
        have : ¬ ln.toInt ≤ v.toInt := fun q => e (ie_iff.mpr q)
        omega
      have hi := inc_o (a := v) (by omega)
      rw [if_neg e, if_neg e]
      by_cases e4 : 24 ≤ v
      · rw [if_pos e4, if_pos e4]
        exact ih _ _ _ _ _ _ (by omega) (by omega) h1 h2
      · have e5 : v.toInt < 24 := by
          have : ¬ (24 : Int32).toInt ≤ v.toInt := fun q => e4 (ie_iff.mpr q)
          have z : (24 : Int32).toInt = 24 := rfl
          omega
        rw [if_neg e4, if_neg e4, byte_at (by omega), toInt_n hv.1]
        obtain ⟨b1, b2⟩ := hb v.toInt.toNat (by omega)
        rw [← b1]
        have z0 : (0 : Int32).toInt = 0 := rfl
        have z7 : (127 : Int32).toInt = 127 := rfl
        have z8 : (128 : Int32).toInt = 128 := rfl
        by_cases w : 128 ≤ fb v.toInt.toNat
        · have w2 := ie_iff.mp w
          rw [if_pos w, ifw_n (by omega)]
          exact ih _ _ _ _ _ _ (by omega) (by omega) h1 h2
        · have w2 : ¬ (128 : Int32).toInt ≤ (fb v.toInt.toNat).toInt := fun q => w (ie_iff.mpr q)
          rw [if_neg w, ifw_p (by omega), add_c (k := 67) rfl (by omega) (by omega)]
          refine ih _ _ _ _ _ _ (by omega) (by omega) (fun j hj => ?_) (fun j hj => ?_)
          · by_cases q : j = v.toInt.toNat
            · rw [q, upd_s, upd_s]
            · rw [upd_n q, upd_n (by omega)]; exact h1 j hj
          · rw [upd_n (by omega)]; exact h2 j hj
theorem rel_row {n ht ho rb ato ln thr sta as_ ta : Int32} {f1 f3 frf fb fw ft frm : Nat → Int32} {r1 b1 ato' ln' r2 s2 as' : Int32} {g1 f3' fw' g2 : Nat → Int32} (k1 : (r1, b1, ato', g1, ln', f3') = E_w_rowX rb ato frf ln fb f3) (k2 : (r2, s2, as', fw', g2) = E_v_rowX thr sta as_ ta fw ft frm) (h : RF 0 n ht ho f1 f3 fw) (hz : 0 ≤ ht.toInt ∧ ht.toInt ≤ 6) (hl : 0 ≤ ln.toInt ∧ ln.toInt ≤ 400) (hlt : ln.toInt = ta.toInt) (hT : RT fb ft ln.toInt) : RF 0 n ht ho f1 f3' fw' := by
  obtain rfl : ln = ta := Int32.toInt_inj.mp hlt
  simp only [E_w_rowX, Lt, Lt2] at k1
  simp only [E_v_rowX, Lt, Lt2] at k2
  by_cases e : ln = 0
  · rw [if_pos e] at k1 k2
    simp only [Prod.mk.injEq] at k1 k2
    rw [k1.2.2.2.2.2, k2.2.2.2.1]
    exact h
  · rw [if_neg e] at k1 k2
    generalize hN : (401 - (0 : Int32).toInt : Int).toNat + 1 = N at k1 k2
    have q := row_in (rb := rb) (ln := ln) (sta := sta) (frf := frf) (fb := fb) (ft := ft) (frm := frm) (fw := fw) hl hT (fun _ _ _ => ((0, 0, 0, fun _ => 0, 0, fun _ => 0) : Int32 × Int32 × Int32 × (Nat → Int32) × Int32 × (Nat → Int32))) (fun _ _ _ _ => ((0, 0, 0, fun _ => 0, fun _ => 0) : Int32 × Int32 × Int32 × (Nat → Int32) × (Nat → Int32))) N 0 0 0 0 f3 fw (by decide) (by rw [← hN]; exact Nat.lt_succ_self _) (fun j hj => by have := h.2.2.2.2.1 j hj; rwa [Nat.zero_add] at this) (fun _ _ => rfl)
    rw [← k1, ← k2] at q
    obtain ⟨q0, q1⟩ := q
    obtain ⟨p0, p1, p2, p3, p4, p5⟩ := h
    refine ⟨?_, ?_, fun j hj => ?_, fun j hj hk => ?_, fun j hj => ?_, ?_⟩
    · rw [show fw' (0 + 0) = fw (0 + 0) from q1 _ (by omega)]; exact p0
    · rw [show fw' (0 + 1) = fw (0 + 1) from q1 _ (by omega)]; exact p1
    · rw [show fw' (0 + (35 + j)) = fw (0 + (35 + j)) from q1 _ (by omega)]; exact p2 j hj
    · rw [show fw' (0 + (27 + j)) = fw (0 + (27 + j)) from q1 _ (by omega)]; exact p3 j hj hk
    · rw [Nat.zero_add]; exact q0 j hj
    · rw [p5]
      exact orr_same _ (fun j hj => (q1 _ (by omega)).symm)
/-! images -/
theorem become_in {Bd : Nat → Option Nat} {p q r : Nat → Int32} (z : Int32 → (Nat → Option Nat) → ((Nat → Int32) × (Nat → Int32) × (Nat → Int32) × (Nat → Option Nat))) : ∀ (k : Nat) (v : Int32) (g : Nat → Option Nat), 0 ≤ v.toInt ∧ v.toInt ≤ 6 → (7 - v.toInt).toNat < k → (Lp (E_w_become_l56 Bd p q r) z k v g).1 = p ∧ (Lp (E_w_become_l56 Bd p q r) z k v g).2.2.1 = q ∧ (Lp (E_w_become_l56 Bd p q r) z k v g).2.1 = r := by
  intro k
  induction k with
  | zero => intro v g hv hk; exact absurd hk (Nat.not_lt_zero _)
  | succ k ih =>
    intro v g hv hk
    rw [Lp_s]
    simp only [E_w_become_l56, Lt]
    by_cases e : 6 ≤ v
    · rw [if_pos e]
      exact ⟨rfl, rfl, rfl⟩
    · have e2 : v.toInt < 6 := by
        have : ¬ (6 : Int32).toInt ≤ v.toInt := fun q => e (ie_iff.mpr q)
        have z : (6 : Int32).toInt = 6 := rfl
        omega
      have hi := inc_o (a := v) (by omega)
      rw [if_neg e]
      cases Bd v.toNatClampNeg with
      | none => exact ih _ _ (by omega) (by omega)
      | some y => exact ih _ _ (by omega) (by omega)
theorem cpy_at {f g : Nat → Int32} {n : Int32} {k j : Nat} (hn : n.toNatClampNeg = k) (hj : j < k) : va_cpy (α := Int32) f g (0 : Int32).toNatClampNeg (0 : Int32).toNatClampNeg n.toNatClampNeg j = f j := by
  rw [hn]
  show (if 0 ≤ j ∧ j < 0 + k then f (0 + (j - 0)) else g j) = f j
  rw [if_pos (by omega), Nat.zero_add, Nat.sub_zero]
theorem become_at {An Al Af Ai Ah Ao Bn Bl Bf Bi Bh Bo : Int32} {Aa Ab Ac Ba Bb Bc : Nat → Int32} {Ad Bd : Nat → Option Nat} : (∀ j, j < 56 → (E_w_become An Al Af Ai Ah Ao Aa Ab Ac Ad Bn Bl Bf Bi Bh Bo Ba Bb Bc Bd).1 j = Ba j) ∧ (∀ j, j < 24 → (E_w_become An Al Af Ai Ah Ao Aa Ab Ac Ad Bn Bl Bf Bi Bh Bo Ba Bb Bc Bd).2.2.1 j = Bc j) ∧ ∀ j, j < 6 → (E_w_become An Al Af Ai Ah Ao Aa Ab Ac Ad Bn Bl Bf Bi Bh Bo Ba Bb Bc Bd).2.1 j = Bb j := by
  simp only [E_w_become, Lt]
  generalize hN : (7 - (0 : Int32).toInt : Int).toNat + 1 = N
  obtain ⟨a, b, c⟩ := become_in (Bd := Bd) (p := va_cpy (α := Int32) Ba Aa (0 : Int32).toNatClampNeg (0 : Int32).toNatClampNeg (56 : Int32).toNatClampNeg) (q := va_cpy (α := Int32) Bc Ac (0 : Int32).toNatClampNeg (0 : Int32).toNatClampNeg (24 : Int32).toNatClampNeg) (r := va_cpy (α := Int32) Bb Ab (0 : Int32).toNatClampNeg (0 : Int32).toNatClampNeg (6 : Int32).toNatClampNeg) (fun _ _ => ((fun _ => 0, fun _ => 0, fun _ => 0, fun _ => none) : (Nat → Int32) × (Nat → Int32) × (Nat → Int32) × (Nat → Option Nat))) N 0 Ad (by decide) (by rw [← hN]; exact Nat.lt_succ_self _)
  rw [a, b, c]
  exact ⟨fun j hj => cpy_at rfl hj, fun j hj => cpy_at rfl hj, fun j hj => cpy_at rfl hj⟩
theorem img0_in {sta : Int32} {fw fk frm fi : Nat → Int32} (z : Int32 → (Nat → Int32) → (Int32 × Int32 × (Nat → Int32) × (Nat → Int32) × (Nat → Int32))) : ∀ (k : Nat) (v : Int32) (f : Nat → Int32), 0 ≤ v.toInt ∧ v.toInt ≤ 5500 → (5501 - v.toInt).toNat < k → CpU fw fi f 0 v.toInt.toNat → CpU fw fi (Lp (E_v_imageX_l23 sta fw fk frm) z k v f).2.2.1 0 5500 := by
  intro k
  induction k with
  | zero => intro v f hv hk; exact absurd hk (Nat.not_lt_zero _)
  | succ k ih =>
    intro v f hv hk h
    rw [Lp_s]
    simp only [E_v_imageX_l23, Lt, Lt2]
    have z5 : (5500 : Int32).toInt = 5500 := rfl
    by_cases e : 5500 ≤ v
    · rw [if_pos e]
      have e2 := ie_iff.mp e
      rw [show v.toInt.toNat = 5500 by omega] at h
      exact h
    · have e2 : v.toInt < 5500 := by
        have : ¬ (5500 : Int32).toInt ≤ v.toInt := fun q => e (ie_iff.mpr q)
        omega
      have hi := inc_o (a := v) (by omega)
      rw [if_neg e, add_c (k := 0) rfl (by omega) (by omega), toInt_n hv.1]
      refine ih _ _ (by omega) (by omega) ?_
      rw [hi, show (v.toInt + 1).toNat = v.toInt.toNat + 1 by omega]
      exact CpU.step h (by omega)
theorem img1_in {sta : Int32} {fw fk frm fi : Nat → Int32} (z : Int32 → (Nat → Int32) → (Int32 × Int32 × (Nat → Int32) × (Nat → Int32) × (Nat → Int32))) : ∀ (k : Nat) (v : Int32) (f : Nat → Int32), 0 ≤ v.toInt ∧ v.toInt ≤ 5500 → (5501 - v.toInt).toNat < k → CpU fw fi f 5500 v.toInt.toNat → CpU fw fi (Lp (E_v_imageX_l23a sta fw fk frm) z k v f).2.2.1 5500 5500 := by
  intro k
  induction k with
  | zero => intro v f hv hk; exact absurd hk (Nat.not_lt_zero _)
  | succ k ih =>
    intro v f hv hk h
    rw [Lp_s]
    simp only [E_v_imageX_l23a, Lt, Lt2]
    have z5 : (5500 : Int32).toInt = 5500 := rfl
    by_cases e : 5500 ≤ v
    · rw [if_pos e]
      have e2 := ie_iff.mp e
      rw [show v.toInt.toNat = 5500 by omega] at h
      exact h
    · have e2 : v.toInt < 5500 := by
        have : ¬ (5500 : Int32).toInt ≤ v.toInt := fun q => e (ie_iff.mpr q)
        omega
      have hi := inc_o (a := v) (by omega)
      rw [if_neg e, add_c (k := 5500) rfl (by omega) (by omega), toInt_n hv.1]
      refine ih _ _ (by omega) (by omega) ?_
      rw [hi, show (v.toInt + 1).toNat = v.toInt.toNat + 1 by omega]
      exact CpU.step h (by omega)
theorem bak0_in {sta : Int32} {fi frm : Nat → Int32} (z : Int32 → (Nat → Int32) → (Int32 × Int32 × Int32 × (Nat → Int32) × (Nat → Int32))) : ∀ (k : Nat) (v : Int32) (f : Nat → Int32), 0 ≤ v.toInt ∧ v.toInt ≤ 5500 → (5501 - v.toInt).toNat < k → CpV fi f 0 v.toInt.toNat → CpV fi (Lp (E_v_backX_l39 sta fi frm) z k v f).2.2.2.1 0 5500 := by
  intro k
  induction k with
  | zero => intro v f hv hk; exact absurd hk (Nat.not_lt_zero _)
  | succ k ih =>
    intro v f hv hk h
    rw [Lp_s]
    simp only [E_v_backX_l39, Lt, Lt2]
    have z5 : (5500 : Int32).toInt = 5500 := rfl
    by_cases e : 5500 ≤ v
    · rw [if_pos e]
      have e2 := ie_iff.mp e
      rw [show v.toInt.toNat = 5500 by omega] at h
      exact h
    · have e2 : v.toInt < 5500 := by
        have : ¬ (5500 : Int32).toInt ≤ v.toInt := fun q => e (ie_iff.mpr q)
        omega
      have hi := inc_o (a := v) (by omega)
      rw [if_neg e, add_c (k := 0) rfl (by omega) (by omega), toInt_n hv.1]
      refine ih _ _ (by omega) (by omega) ?_
      rw [hi, show (v.toInt + 1).toNat = v.toInt.toNat + 1 by omega]
      exact CpV.step h
theorem bak1_in {sta : Int32} {fi frm : Nat → Int32} (z : Int32 → (Nat → Int32) → (Int32 × Int32 × Int32 × (Nat → Int32) × (Nat → Int32))) : ∀ (k : Nat) (v : Int32) (f : Nat → Int32), 0 ≤ v.toInt ∧ v.toInt ≤ 5500 → (5501 - v.toInt).toNat < k → CpV fi f 5500 v.toInt.toNat → CpV fi (Lp (E_v_backX_l39a sta fi frm) z k v f).2.2.2.1 5500 5500 := by
  intro k
  induction k with
  | zero => intro v f hv hk; exact absurd hk (Nat.not_lt_zero _)
  | succ k ih =>
    intro v f hv hk h
    rw [Lp_s]
    simp only [E_v_backX_l39a, Lt, Lt2]
    have z5 : (5500 : Int32).toInt = 5500 := rfl
    by_cases e : 5500 ≤ v
    · rw [if_pos e]
      have e2 := ie_iff.mp e
      rw [show v.toInt.toNat = 5500 by omega] at h
      exact h
    · have e2 : v.toInt < 5500 := by
        have : ¬ (5500 : Int32).toInt ≤ v.toInt := fun q => e (ie_iff.mpr q)
        omega
      have hi := inc_o (a := v) (by omega)
      rw [if_neg e, add_c (k := 5500) rfl (by omega) (by omega), toInt_n hv.1]
      refine ih _ _ (by omega) (by omega) ?_
      rw [hi, show (v.toInt + 1).toNat = v.toInt.toNat + 1 by omega]
      exact CpV.step h
end
section
theorem Lt_b {α β : Type} {e : α} {f : α → β} : Lt e f = f e := rfl
theorem Lt2_b {α β γ : Type} {e : α × β} {f : α → β → γ} : Lt2 e f = f e.1 e.2 := rfl
theorem rel_image {x rb dr kp thr sta : Int32} {frf fik fw fi fk frm : Nat → Int32} {Bn Bl Bf Bi Bh Bo : Int32} {Ba Bb Bc : Nat → Int32} {Bd : Nat → Option Nat} {In Il If Ii Ih Io : Int32} {Ia Ib Ic : Nat → Int32} {Id : Nat → Option Nat} {Jn Jl Jf Ji Jh Jo : Int32} {Ja Jb Jc : Nat → Int32} {Jd : Nat → Option Nat} {r1 b1 r2 s2 : Int32} {g1 ik' fi' fk' g2 : Nat → Int32} {In' Il' If' Ii' Ih' Io' : Int32} {Ia' Ib' Ic' : Nat → Int32} {Id' : Nat → Option Nat} {Jn' Jl' Jf' Ji' Jh' Jo' : Int32} {Ja' Jb' Jc' : Nat → Int32} {Jd' : Nat → Option Nat} (k1 : (r1, b1, g1, ik', In', Il', If', Ii', Ih', Io', Ia', Ib', Ic', Id', Jn', Jl', Jf', Ji', Jh', Jo', Ja', Jb', Jc', Jd') = E_w_imageX x rb frf dr kp fik Bn Bl Bf Bi Bh Bo Ba Bb Bc Bd In Il If Ii Ih Io Ia Ib Ic Id Jn Jl Jf Ji Jh Jo Ja Jb Jc Jd) (k2 : (r2, s2, fi', fk', g2) = E_v_imageX x thr sta fw fi fk frm) (h : RF 0 Bn Bh Bo Ba Bc fw) (hi : RF 0 In Ih Io Ia Ic fi) (hj : RF 5500 Jn Jh Jo Ja Jc fi) (hz : 0 ≤ Bh.toInt ∧ Bh.toInt ≤ 6) (hz2 : 0 ≤ Ih.toInt ∧ Ih.toInt ≤ 6) (hz3 : 0 ≤ Jh.toInt ∧ Jh.toInt ≤ 6) : RF 0 In' Ih' Io' Ia' Ic' fi' ∧ RF 5500 Jn' Jh' Jo' Ja' Jc' fi' := by
  simp only [E_w_imageX, Lt, Lt2] at k1
  rw [E_v_imageX.eq_def] at k2
  by_cases c0 : x.toInt < 0
  · rw [if_pos c0] at k1 k2
    rw [ifw_n (by have z : (0 : Int32).toInt = 0 := rfl; omega)] at k1
    rw [Lt_b, Lt_b, ifi_n (by have z : (0 : Int64).toInt = 0 := rfl; omega)] at k2
    simp only [Lt2, Prod.mk.injEq] at k1 k2
    obtain ⟨-, -, -, -, rfl, -, -, -, rfl, rfl, rfl, -, rfl, -, rfl, -, -, -, rfl, rfl, rfl, -, rfl, -⟩ := k1
    have c9 := k2.2.2.1
    rw [c9]
    exact ⟨hi, hj⟩
  rw [if_neg c0] at k1 k2
  by_cases c1 : x.toInt = 0
  · rw [if_pos c1] at k1 k2
    rw [ifw_p (by decide)] at k1
    rw [Lt_b, if_pos (show E_v_in 0 0 1 = 1 by decide)] at k2
    generalize hN : (5501 - (0 : Int32).toInt : Int).toNat + 1 = N at k2
    have q := img0_in (sta := sta) (fw := fw) (fk := fk) (frm := frm) (fi := fi) (fun _ _ => ((0, 0, fun _ => 0, fun _ => 0, fun _ => 0) : Int32 × Int32 × (Nat → Int32) × (Nat → Int32) × (Nat → Int32))) N 0 fi (by decide) (by rw [← hN]; exact Nat.lt_succ_self _) CpU.base
    rw [← k2] at q
    simp only [Prod.mk.injEq] at k1
    obtain ⟨-, -, -, -, rfl, -, -, -, rfl, rfl, e1, -, e3, -, rfl, -, -, -, rfl, rfl, rfl, -, rfl, -⟩ := k1
    obtain ⟨m1, m2, -⟩ := become_at (An := In) (Al := Il) (Af := If) (Ai := Ii) (Ah := Ih) (Ao := Io) (Aa := Ia) (Ab := Ib) (Ac := Ic) (Ad := Id) (Bn := In') (Bl := Bl) (Bf := Bf) (Bi := Bi) (Bh := Ih') (Bo := Io') (Ba := Ba) (Bb := Bb) (Bc := Bc) (Bd := Bd)
    rw [← e1] at m1
    rw [← e3] at m2
    exact ⟨h.move hz.2 (fun j hj => (q.1 j (by omega)).trans (by rw [Nat.zero_add])) (fun j hj => m1 j (by omega)) m2, hj.move hz3.2 (fun j hj => q.2 _ (by omega)) (fun _ _ => rfl) (fun _ _ => rfl)⟩
  rw [if_neg c1] at k1 k2
  by_cases c2 : x.toInt = 1
  · rw [if_pos c2] at k1 k2
    rw [ifw_p (by decide)] at k1
    rw [Lt_b, if_pos (show E_v_in 1 0 1 = 1 by decide)] at k2
    generalize hN : (5501 - (0 : Int32).toInt : Int).toNat + 1 = N at k2
    have q := img1_in (sta := sta) (fw := fw) (fk := fk) (frm := frm) (fi := fi) (fun _ _ => ((0, 0, fun _ => 0, fun _ => 0, fun _ => 0) : Int32 × Int32 × (Nat → Int32) × (Nat → Int32) × (Nat → Int32))) N 0 fi (by decide) (by rw [← hN]; exact Nat.lt_succ_self _) CpU.base
    rw [← k2] at q
    simp only [Prod.mk.injEq] at k1
    obtain ⟨-, -, -, -, rfl, -, -, -, rfl, rfl, rfl, -, rfl, -, rfl, -, -, -, rfl, rfl, e1, -, e3, -⟩ := k1
    obtain ⟨m1, m2, -⟩ := become_at (An := Jn) (Al := Jl) (Af := Jf) (Ai := Ji) (Ah := Jh) (Ao := Jo) (Aa := Ja) (Ab := Jb) (Ac := Jc) (Ad := Jd) (Bn := Jn') (Bl := Bl) (Bf := Bf) (Bi := Bi) (Bh := Jh') (Bo := Jo') (Ba := Ba) (Bb := Bb) (Bc := Bc) (Bd := Bd)
    rw [← e1] at m1
    rw [← e3] at m2
    exact ⟨hi.move hz2.2 (fun j hj => by rw [Nat.zero_add]; exact q.2 _ (by omega)) (fun _ _ => rfl) (fun _ _ => rfl), h.move hz.2 (fun j hj => by rw [Nat.zero_add]; exact q.1 j (by omega)) (fun j hj => m1 j (by omega)) m2⟩
  rw [if_neg c2] at k1 k2
  rw [ifw_n (by have z : (1 : Int32).toInt = 1 := rfl; omega)] at k1
  rw [Lt_b, Lt_b, ifi_n (by have z : (1 : Int64).toInt = 1 := rfl; omega)] at k2
  simp only [Lt2, Prod.mk.injEq] at k1 k2
  obtain ⟨-, -, -, -, rfl, -, -, -, rfl, rfl, rfl, -, rfl, -, rfl, -, -, -, rfl, rfl, rfl, -, rfl, -⟩ := k1
  have c9 := k2.2.2.1
  rw [c9]
  exact ⟨hi, hj⟩
theorem rel_back {x rb dr kp thr sta nu : Int32} {frf fik fw fi fk frm : Nat → Int32} {Bn Bl Bf Bi Bh Bo : Int32} {Ba Bb Bc : Nat → Int32} {Bd : Nat → Option Nat} {In Il If Ii Ih Io : Int32} {Ia Ib Ic : Nat → Int32} {Id : Nat → Option Nat} {Jn Jl Jf Ji Jh Jo : Int32} {Ja Jb Jc : Nat → Int32} {Jd : Nat → Option Nat} {r1 b1 kp' r2 s2 nu' : Int32} {g1 fw' g2 : Nat → Int32} {Bn' Bl' Bf' Bi' Bh' Bo' : Int32} {Ba' Bb' Bc' : Nat → Int32} {Bd' : Nat → Option Nat} (k1 : (r1, b1, g1, kp', Bn', Bl', Bf', Bi', Bh', Bo', Ba', Bb', Bc', Bd') = E_w_backX x rb frf dr kp fik Bn Bl Bf Bi Bh Bo Ba Bb Bc Bd In Il If Ii Ih Io Ia Ib Ic Id Jn Jl Jf Ji Jh Jo Ja Jb Jc Jd) (k2 : (r2, s2, nu', fw', g2) = E_v_backX x thr sta nu fw fi fk frm) (h : RF 0 Bn Bh Bo Ba Bc fw) (hi : RF 0 In Ih Io Ia Ic fi) (hj : RF 5500 Jn Jh Jo Ja Jc fi) (hz2 : 0 ≤ Ih.toInt ∧ Ih.toInt ≤ 6) (hz3 : 0 ≤ Jh.toInt ∧ Jh.toInt ≤ 6) (hk : KF fik fk) : RF 0 Bn' Bh' Bo' Ba' Bc' fw' := by
  simp only [E_w_backX, Lt, Lt2] at k1
  rw [E_v_backX.eq_def] at k2
  by_cases c0 : x.toInt < 0
  · rw [if_pos c0] at k1 k2
    rw [ifw_n (by have z : (0 : Int32).toInt = 0 := rfl; omega)] at k1
    rw [Lt_b, Lt_b, ifi_n (by have z : (0 : Int64).toInt = 0 := rfl; omega)] at k2
    simp only [Lt2, Prod.mk.injEq] at k1 k2
    obtain ⟨-, -, -, -, rfl, -, -, -, rfl, rfl, rfl, -, rfl, -⟩ := k1
    have c9 := k2.2.2.2.1
    rw [c9]
    exact h
  rw [if_neg c0] at k1 k2
  by_cases c1 : x.toInt = 0
  · rw [if_pos c1] at k1 k2
    rw [ifw_p (by decide)] at k1
    rw [Lt_b, if_pos (show E_v_in 0 0 1 = 1 by decide)] at k2
    have ek : fik (0 : Int32).toNatClampNeg = fk (0 : Int32).toNatClampNeg := Int32.toInt_inj.mp hk.1
    rw [Lt_b, ← ek] at k2
    by_cases g : fik (0 : Int32).toNatClampNeg = 0
    · rw [if_pos g] at k1 k2
      simp only [Lt2, Prod.mk.injEq] at k1 k2
      obtain ⟨-, -, -, -, rfl, -, -, -, rfl, rfl, rfl, -, rfl, -⟩ := k1
      have c9 := k2.2.2.2.1
      rw [c9]
      exact h
    · rw [if_neg g] at k1 k2
      generalize hN : (5501 - (0 : Int32).toInt : Int).toNat + 1 = N at k2
      have q := bak0_in (sta := sta) (fi := fi) (frm := frm) (fun _ _ => ((0, 0, 0, fun _ => 0, fun _ => 0) : Int32 × Int32 × Int32 × (Nat → Int32) × (Nat → Int32))) N 0 fw (by decide) (by rw [← hN]; exact Nat.lt_succ_self _) CpV.base
      rw [← k2] at q
      simp only [Prod.mk.injEq] at k1
      obtain ⟨-, -, -, -, rfl, -, -, -, rfl, rfl, e1, -, e3, -⟩ := k1
      obtain ⟨m1, m2, -⟩ := become_at (An := Bn) (Al := Bl) (Af := Bf) (Ai := Bi) (Ah := Bh) (Ao := Bo) (Aa := Ba) (Ab := Bb) (Ac := Bc) (Ad := Bd) (Bn := Bn') (Bl := Il) (Bf := If) (Bi := Ii) (Bh := Bh') (Bo := Bo') (Ba := Ia) (Bb := Ib) (Bc := Ic) (Bd := Id)
      rw [← e1] at m1
      rw [← e3] at m2
      exact hi.move hz2.2 (fun j hj => by have q9 := q j (by omega); rw [Nat.zero_add] at q9 ⊢; exact q9) (fun j hj => m1 j (by omega)) m2
  rw [if_neg c1] at k1 k2
  by_cases c2 : x.toInt = 1
  · rw [if_pos c2] at k1 k2
    rw [ifw_p (by decide)] at k1
    rw [Lt_b, if_pos (show E_v_in 1 0 1 = 1 by decide)] at k2
    have ek : fik (1 : Int32).toNatClampNeg = fk (1 : Int32).toNatClampNeg := Int32.toInt_inj.mp hk.2
    rw [Lt_b, ← ek] at k2
    by_cases g : fik (1 : Int32).toNatClampNeg = 0
    · rw [if_pos g] at k1 k2
      simp only [Lt2, Prod.mk.injEq] at k1 k2
      obtain ⟨-, -, -, -, rfl, -, -, -, rfl, rfl, rfl, -, rfl, -⟩ := k1
      have c9 := k2.2.2.2.1
      rw [c9]
      exact h
    · rw [if_neg g] at k1 k2
      generalize hN : (5501 - (0 : Int32).toInt : Int).toNat + 1 = N at k2
      have q := bak1_in (sta := sta) (fi := fi) (frm := frm) (fun _ _ => ((0, 0, 0, fun _ => 0, fun _ => 0) : Int32 × Int32 × Int32 × (Nat → Int32) × (Nat → Int32))) N 0 fw (by decide) (by rw [← hN]; exact Nat.lt_succ_self _) CpV.base
      rw [← k2] at q
      simp only [Prod.mk.injEq] at k1
      obtain ⟨-, -, -, -, rfl, -, -, -, rfl, rfl, e1, -, e3, -⟩ := k1
      obtain ⟨m1, m2, -⟩ := become_at (An := Bn) (Al := Bl) (Af := Bf) (Ai := Bi) (Ah := Bh) (Ao := Bo) (Aa := Ba) (Ab := Bb) (Ac := Bc) (Ad := Bd) (Bn := Bn') (Bl := Jl) (Bf := Jf) (Bi := Ji) (Bh := Bh') (Bo := Bo') (Ba := Ja) (Bb := Jb) (Bc := Jc) (Bd := Jd)
      rw [← e1] at m1
      rw [← e3] at m2
      exact hj.move hz3.2 (fun j hj => by rw [Nat.zero_add]; exact q j (by omega)) (fun j hj => m1 j (by omega)) m2
  rw [if_neg c2] at k1 k2
  rw [ifw_n (by have z : (1 : Int32).toInt = 1 := rfl; omega)] at k1
  rw [Lt_b, Lt_b, ifi_n (by have z : (1 : Int64).toInt = 1 := rfl; omega)] at k2
  simp only [Lt2, Prod.mk.injEq] at k1 k2
  obtain ⟨-, -, -, -, rfl, -, -, -, rfl, rfl, rfl, -, rfl, -⟩ := k1
  have c9 := k2.2.2.2.1
  rw [c9]
  exact h
end
