/-! one more act is kept -/
/-- what changes in an hour: class and reference -/
noncomputable def KNow (n fi : Int32) (f1 f2 fw : Nat → Int32) : Prop := (∀ j, j < 6 → f2 j = fw (4 + j)) ∧ fi = fw 10 ∧ (∀ j, j < 8 → f1 (40 + j) = fw (11 + j) ∧ f1 (16 + j) = fw (19 + j) ∧ f1 (48 + j) = fw (27 + j)) ∧ (∀ h : Nat, n.toInt ≤ (h : Int) → h < 8 → fw (11 + h) = 0 ∧ fw (27 + h) = 0) ∧ KRg fw
theorem HE.new {n fi : Int32} {sl fu fs fw f1 f2 : Nat → Int32} {q i s : Nat} (h : KNow n fi f1 f2 fw) (k : KSlot sl q fi (f2 0) (f2 1) f1) (h1 : sl (28 * q) = nI s) (h2 : fs i = nI s) (h3 : s < 4) (h4 : ∀ j, j < 31 → fu (31 * i + j) = fw (4 + j)) : HE n sl fu fs fw q i := by
  obtain ⟨t1, t2, t3, t4, t5⟩ := h
  obtain ⟨a1, a2, a3, a4⟩ := k
  have k0 := h4 0 (by omega)
  rw [Nat.add_zero] at k0
  refine ⟨⟨h1.trans h2.symm, ?_, ?_, ?_, fun j hj => ⟨?_, ?_, ?_⟩⟩, fun j hj hk => h4 j (by omega), ⟨s, h3, h2⟩, fun k hk h8 => ⟨?_, ?_⟩, t5.ext (fun j h1 h2 => (h4 _ (by omega)).trans (congrArg fw (by omega)))⟩
  · rw [a1, h4 6 (by omega)]; exact t2
  · rw [a2, k0]; exact t1 0 (by omega)
  · rw [a3, h4 1 (by omega)]; exact t1 1 (by omega)
  · rw [(a4 j hj).1, (t3 j hj).2.1, snf_c hj, h4 _ (by omega)]
    exact congrArg fw (by omega)
  · rw [(a4 j hj).2.1, (t3 j hj).1, snf_f hj, h4 _ (by omega)]
    exact congrArg fw (by omega)
  · rw [(a4 j hj).2.2, (t3 j hj).2.2, snf_w hj, h4 _ (by omega)]
    exact congrArg fw (by omega)
  · rw [Nat.add_assoc, h4 _ (by omega), show 4 + (7 + k) = 11 + k by omega]; exact (t4 k hk h8).1
  · rw [Nat.add_assoc, h4 _ (by omega), show 4 + (23 + k) = 27 + k by omega]; exact (t4 k hk h8).2
theorem HR.push {n dr kp nu fi dr' kp' nu' : Int32} {sl fu fs fw f1 f2 sl' fu' fs' fw' : Nat → Int32} {s : Nat} (h : HR n dr kp nu sl fu fs fw) (hn : KNow n fi f1 f2 fw) (hs : s < 4) (k1 : (dr', kp', sl') = E_w_keep (nI s) dr kp (E_w_draft dr sl fi f1 f2)) (k2 : (nu', fu', fs') = E_v_remember (nI s) nu fw fu fs) (h4 : ∀ j, 6 ≤ j → j < 10 → fw' j = fw j) : HR n dr' kp' nu' sl' fu' fs' fw' := by
  obtain ⟨d, u, ⟨d1, d2⟩, rfl, rfl, rfl, e4⟩ := h
  obtain ⟨w1, w2⟩ := draft_at (d := d) d1 (f := sl) (f1 := f1) (f2 := f2) (fi := fi)
  rw [keep_at d1 d2] at k1
  generalize E_w_draft (nI d) sl fi f1 f2 = g at w1 w2 k1
  simp only [Prod.mk.injEq] at k1
  obtain ⟨rfl, rfl, rfl⟩ := k1
  have wn : KSlot (upd g (28 * d) (nI s)) d fi (f2 0) (f2 1) f1 := by
    obtain ⟨a1, a2, a3, a4⟩ := w1
    exact ⟨by rw [upd_n (by omega)]; exact a1, by rw [upd_n (by omega)]; exact a2, by rw [upd_n (by omega)]; exact a3, fun j hj => ⟨by rw [upd_n (by omega)]; exact (a4 j hj).1, by rw [upd_n (by omega)]; exact (a4 j hj).2.1, by rw [upd_n (by omega)]; exact (a4 j hj).2.2⟩⟩
  have oth : ∀ q, q ≠ d → ∀ j, 28 * q ≤ j → j < 28 * q + 28 → upd g (28 * d) (nI s) j = sl j := fun q hq j h1 h2 => by
    rw [upd_n (by omega)]
    exact w2 j (by omega)
  have nw : ∀ {fu2 fs2 : Nat → Int32} {i : Nat}, (∀ j, j < 31 → fu2 (31 * i + j) = fw (4 + j)) → fs2 i = nI s → HE n (upd g (28 * d) (nI s)) fu2 fs2 fw' d i := fun q1 q2 => by
    have z := HE.new hn wn upd_s q2 hs q1
    exact z.ext (fun _ _ _ => rfl) (fun _ _ => rfl) rfl h4
  by_cases c : u < 16
  · rw [remember_lt c] at k2
    simp only [Prod.mk.injEq] at k2
    obtain ⟨rfl, rfl, rfl⟩ := k2
    refine ⟨(d + 1) % 17, u + 1, ⟨by omega, by omega⟩, rfl, by rw [show min 16 (u + 1) = u + 1 by omega], rfl, fun i hi => ?_⟩
    rw [show ((d + 1) % 17 + 17 - (u + 1) + i) % 17 = (d + 17 - u + i) % 17 by omega]
    by_cases ci : i < u
    · exact (e4 i ci).ext (oth _ (by omega)) (fun j hj => by rw [keepAll_at (by omega), if_neg (by omega)]) (upd_n (by omega)) h4
    · rw [show i = u by omega, show (d + 17 - u + u) % 17 = d by omega]
      exact nw (fun j hj => by rw [keepAll_at (by omega), if_pos (by omega)]; exact congrArg fw (by omega)) upd_s
  · have cu : u = 16 := by omega
    subst cu
    rw [remember_16] at k2
    simp only [Prod.mk.injEq] at k2
    obtain ⟨rfl, rfl, rfl⟩ := k2
    refine ⟨(d + 1) % 17, 16, ⟨by omega, by omega⟩, rfl, rfl, rfl, fun i hi => ?_⟩
    rw [show ((d + 1) % 17 + 17 - 16 + i) % 17 = (d + 17 - 16 + (i + 1)) % 17 by omega]
    by_cases ci : i < 15
    · exact (e4 (i + 1) (by omega)).ext (oth _ (by omega)) (fun j hj => by rw [keepAll_at (by omega), if_neg (by omega), kitf_sh (by omega), if_pos (by omega)]; exact congrArg fu (by omega)) (by rw [upd_n (by omega), kitf_sh (by omega), if_pos (by omega)]) h4
    · rw [show i = 15 by omega, show (d + 17 - 16 + (15 + 1)) % 17 = d by omega]
      exact nw (fun j hj => by rw [keepAll_at (by omega), if_pos (by omega)]; exact congrArg fw (by omega)) upd_s
/-- a draft that isn't kept leaves the history as it was -/
theorem HR.draft {n dr kp nu fi : Int32} {sl fu fs fw f1 f2 : Nat → Int32} (h : HR n dr kp nu sl fu fs fw) : HR n dr kp nu (E_w_draft dr sl fi f1 f2) fu fs fw := by
  obtain ⟨d, u, ⟨d1, d2⟩, rfl, rfl, rfl, e4⟩ := h
  obtain ⟨w1, w2⟩ := draft_at (d := d) d1 (f := sl) (f1 := f1) (f2 := f2) (fi := fi)
  exact ⟨d, u, ⟨d1, d2⟩, rfl, rfl, rfl, fun i hi => (e4 i hi).ext (fun j h1 h2 => w2 j (by omega)) (fun _ _ => rfl) rfl (fun _ _ _ => rfl)⟩
/-! the rest of what stands in a town -/
noncomputable def TQ (b : Nat) (n lt nf fi : Int32) (f1 f2 : Nat → Int32) (fl : Nat → Option Nat) (G : Nat → LC) (fw : Nat → Int32) : Prop :=
  KNow n fi f1 f2 (fun j => fw (b + j)) ∧ lt = fw (b + 2) ∧ nf = fw (b + 3) ∧ (-1 ≤ nf.toInt ∧ nf.toInt < lt.toInt) ∧ (∀ j, j < 8 → (0 ≤ (fw (b + (35 + j))).toInt ∧ (fw (b + (35 + j))).toInt ≤ 6) ∧ 0 ≤ (fw (b + (43 + j))).toInt ∧ (fw (b + (43 + j))).toInt ≤ 3) ∧ ∀ i : Nat, (i : Int) < lt.toInt → ∃ a, fl i = some a ∧ KLaw (G a) (ktx fw (b + (100 + 900 * i)))
theorem KNow.ext {n fi : Int32} {f1 f2 fw f1' f2' fw' : Nat → Int32} (h : KNow n fi f1 f2 fw) (h1 : ∀ j, (16 ≤ j ∧ j < 24) ∨ (40 ≤ j ∧ j < 56) → f1' j = f1 j) (h2 : ∀ j, j < 6 → f2' j = f2 j) (h3 : ∀ j, 4 ≤ j → j < 35 → fw' j = fw j) : KNow n fi f1' f2' fw' := by
  obtain ⟨t1, t2, t3, t4, t5⟩ := h
  refine ⟨fun j hj => ?_, ?_, fun j hj => ⟨?_, ?_, ?_⟩, fun k hk h8 => ⟨?_, ?_⟩, t5.ext h3⟩
  · rw [h2 j hj, h3 _ (by omega) (by omega)]; exact t1 j hj
  · rw [h3 _ (by omega) (by omega)]; exact t2
  · rw [h1 _ (by omega), h3 _ (by omega) (by omega)]; exact (t3 j hj).1
  · rw [h1 _ (by omega), h3 _ (by omega) (by omega)]; exact (t3 j hj).2.1
  · rw [h1 _ (by omega), h3 _ (by omega) (by omega)]; exact (t3 j hj).2.2
  · rw [h3 _ (by omega) (by omega)]; exact (t4 k hk h8).1
  · rw [h3 _ (by omega) (by omega)]; exact (t4 k hk h8).2
/-- the same at another place, both sides copied -/
theorem TQ.move {b b' : Nat} {n lt nf fi : Int32} {f1 f2 fw f1' f2' fw' : Nat → Int32} {fl fl' : Nat → Option Nat} {G : Nat → LC} (h : TQ b n lt nf fi f1 f2 fl G fw) (h6 : 0 ≤ lt.toInt ∧ lt.toInt ≤ 6) (e : ∀ j, j < 5500 → fw' (b' + j) = fw (b + j)) (e1 : ∀ j, j < 56 → f1' j = f1 j) (e2 : ∀ j, j < 6 → f2' j = f2 j) (e3 : ∀ j, j < 6 → fl' j = fl j) : TQ b' n lt nf fi f1' f2' fl' G fw' := by
  obtain ⟨a, b1, b2, b4, b5, b3⟩ := h
  refine ⟨a.ext (fun j hj => e1 j (by omega)) e2 (fun j h1 h2 => e j (by omega)), b1.trans (e 2 (by omega)).symm, b2.trans (e 3 (by omega)).symm, b4, fun j hj => by rw [e _ (by omega), e _ (by omega)]; exact b5 j hj, fun i hi => ?_⟩
  obtain ⟨q, q1, q2⟩ := b3 i hi
  refine ⟨q, (e3 i (by omega)).trans q1, q2.ext (fun j hj => ?_)⟩
  show fw' (b' + (100 + 900 * i) + j) = fw (b + (100 + 900 * i) + j)
  rw [Nat.add_assoc b', Nat.add_assoc b, e _ (by omega)]
theorem TQ.zero {G : Nat → LC} {f1 f2 fw : Nat → Int32} (h1 : ∀ j, f1 j = 0) (h2 : ∀ j, j < 6 → f2 j = fw (4 + j)) (h3 : ∀ j, j < 3 ∨ 10 ≤ j → fw j = 0) (h4 : fw 3 = -1) (hr : KRg fw) : TQ 0 0 0 (-1) 0 f1 f2 (fun _ => none) G fw := by
  have z : ∀ j, fw j = fw (0 + j) := fun j => congrArg fw (Nat.zero_add j).symm
  have y : ∀ j, j < 3 ∨ 10 ≤ j → fw (0 + j) = 0 := fun j hj => (z j).symm.trans (h3 j hj)
  refine ⟨⟨fun j hj => (h2 j hj).trans (z _), (y 10 (by omega)).symm, fun j hj => ⟨?_, ?_, ?_⟩, fun k hk h8 => ⟨y _ (by omega), y _ (by omega)⟩, hr.ext (fun j _ _ => (z j).symm)⟩, (y 2 (by omega)).symm, (h4.symm.trans (z 3)), by decide, fun j hj => by rw [y _ (by omega), y _ (by omega)]; decide, fun i hi => ?_⟩
  · rw [h1]; exact (y _ (by omega)).symm
  · rw [h1]; exact (y _ (by omega)).symm
  · rw [h1]; exact (y _ (by omega)).symm
  · have z : (0 : Int32).toInt = 0 := rfl
    omega
