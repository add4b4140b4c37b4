/-! "and", "or": skips that wait for their place -/
theorem land_none {us : Int32} {fc : Nat → Int32} : E_w_land (-1) us fc = fc := by
  rw [E_w_land.eq_def, if_pos (by decide), E_w_land_j27.eq_def]
theorem land_at {s us : Nat} {fc : Nat → Int32} (h : s + 1 < 800) : E_w_land (nI s) (nI us) fc = upd fc (s + 1) (nI us) := by
  rw [E_w_land.eq_def, if_neg (kn_nl (by omega)), Lt_b, kn_p1 (by omega), if_neg (kn_nlel (j := 800) rfl (by omega) (by omega)), Lt_b, kn_cl (by omega), Lt_b, E_w_land_j27.eq_def]
/-- what waits: nothing, or a piece read, with a skip behind it -/
noncomputable def KSk (od : Nat) (v : Bool) (m : Nat) (sv : Int32) (a b x y pi pi' : Nat) (fc op ar fp fq : Nat → Int32) : Prop :=
  (sv = -1 ∧ b = a ∧ y = x ∧ pi' = pi ∧ m = 0) ∨ ∃ s xs, sv = nI s ∧ SE od KT_ 1 m fc a s op ar x xs ∧ fc s = (if v then 12 else 13) ∧ b = s + 2 ∧ op xs = (if v then 30 else 29) ∧ y = xs + 1 ∧ pi' = pi + 1 ∧ fp pi = nI (if v then 30 else 29) ∧ fq pi = nI xs ∧ a ≤ s ∧ x ≤ xs
theorem KSk.le {od m a b x y pi pi' : Nat} {v : Bool} {sv : Int32} {fc op ar fp fq : Nat → Int32} (h : KSk od v m sv a b x y pi pi' fc op ar fp fq) : a ≤ b ∧ x ≤ y ∧ pi ≤ pi' := by
  rcases h with ⟨_, h1, h2, h3, _⟩ | ⟨s, xs, _, _, _, h1, _, h2, h3, _, _, h4, h5⟩ <;> omega
theorem KSk.ext {od m a b x y pi pi' : Nat} {v : Bool} {sv : Int32} {fc op ar fp fq fc' op' ar' fp' fq' : Nat → Int32} (h : KSk od v m sv a b x y pi pi' fc op ar fp fq) (h1 : ∀ j, a ≤ j → j < b → fc' j = fc j) (h2 : ∀ j, x ≤ j → j < y → op' j = op j ∧ ar' j = ar j) (h3 : ∀ j, pi ≤ j → j < pi' → fp' j = fp j ∧ fq' j = fq j) : KSk od v m sv a b x y pi pi' fc' op' ar' fp' fq' := by
  rcases h with h | ⟨s, xs, e1, e2, e3, e4, e5, e6, e7, e8, e9, e10, e11⟩
  · exact Or.inl h
  · refine Or.inr ⟨s, xs, e1, e2.ext (fun j p q => h1 j p (by omega)) (fun j p q => h2 j p (by omega)), (h1 s e10 (by omega)).trans e3, e4, (h2 xs e11 (by omega)).1.trans e5, e6, e7, (h3 pi (Nat.le_refl _) (by omega)).1.trans e8, (h3 pi (Nat.le_refl _) (by omega)).2.trans e9, e10, e11⟩
/-- the skip lands -/
theorem KSk.land {od m n a b c x y w pi pi' : Nat} {v : Bool} {sv : Int32} {fc op ar fp fq : Nat → Int32} (h : KSk od v m sv a b x y pi pi' fc op ar fp fq) (h2 : SE od KT_ 1 n fc b c op ar y w) (hc : c ≤ 800) (hw : w ≤ 900) (hp : pi < 900) : ∃ fc' ar', E_w_land sv (nI c) fc = fc' ∧ SE od KT_ 1 (m + n) fc' a c op ar' x w ∧ (∀ j, j < a → fc' j = fc j) ∧ (∀ j, j < x → ar' j = ar j) ∧ KP (if v then 1 else 2) w pi' op ar w pi op ar' fp fq := by
  rcases h with ⟨e1, e2, e3, e4, e5⟩ | ⟨s, xs, e1, e2, e3, e4, e5, e6, e7, e8, e9, e10, e11⟩
  · refine ⟨fc, ar, by rw [e1]; exact land_none, ?_, fun _ _ => rfl, fun _ _ => rfl, ?_⟩
    · rw [e5, Nat.zero_add, ← e2, ← e3]; exact h2
    · rw [e4]; exact KP.rfl
  · have b1 := h2.2.1
    have b2 := h2.2.2.1
    refine ⟨upd fc (s + 1) (nI c), upd ar xs (nI w), by rw [e1]; exact land_at (by omega), ?_, fun j hj => upd_n (by omega), fun j hj => upd_n (by omega), ?_⟩
    · rw [e4, e6] at h2
      refine SE.skip v (e2.ext (fun j _ hj => upd_n (by omega)) (fun j _ hj => ⟨rfl, upd_n (by omega)⟩)) (h2.ext (fun j hj _ => upd_n (by omega)) (fun j hj _ => ⟨rfl, upd_n (by omega)⟩)) (by rw [upd_n (by omega)]; exact e3) upd_s e5 upd_s
    · rw [e7]
      cases v with
      | true => exact KP.land (by omega) (Or.inr rfl) (by decide) e8 e9 (by omega)
      | false => exact KP.land (by omega) (Or.inl rfl) (by decide) e8 e9 (by omega)
/-- where a test was read to -/
noncomputable def KTst (C : KC_) (fau : Int32) (d p : Nat) (m : KM4) (nl nc pi : Nat) (fc fo fa fp fq : Nat → Int32) (us0 nl0 nc0 pi0 w : Nat) (r : KW8) : Prop :=
  ∃ (p' : Nat) (c' : KT4) (m' : KM4) (us' nl' n1 pi1 n2 : Nat) (fc' fo1 fa1 fp1 fq1 fo2 fa2 : Nat → Int32),
    r = (1, nI nl', c'.1, c'.2.1, c'.2.2.1, c'.2.2.2, nI us', fc') ∧ p < p' ∧ TkP C.1 C.2.2.1 p' c' m' ∧
    KGo C fau 0 3 p m nc nl pi d fo fa fp fq 2 1 p' m' n1 nl' pi1 d fo1 fa1 fp1 fq1 ∧
    (pi0 ≤ pi1 ∧ pi1 ≤ p' ∧ (∀ j, j < pi0 → fp1 j = fp j ∧ fq1 j = fq j) ∧ ∀ j, pi0 ≤ j → j < pi1 → ∃ o : Nat, 20 ≤ o ∧ o ≤ 30 ∧ fp1 j = nI o) ∧
    KP 1 n1 pi1 fo1 fa1 n2 pi0 fo2 fa2 fp1 fq1 ∧
    ((∀ j, j < us0 → fc' j = fc j) ∧ ∀ j, j < nc0 → fo2 j = fo j ∧ fa2 j = fa j) ∧
    (us0 ≤ us' ∧ nc0 ≤ n2 ∧ nl0 ≤ nl' ∧ nl' ≤ 50 ∧ us' + 2 * w ≤ 2 * p' ∧ n2 + w ≤ p' ∧ n1 ≤ p') ∧
    SE C.2.2.2.1 KT_ 1 (nl' - nl0) fc' us0 us' fo2 fa2 nc0 n2 ∧ E_v_isWord 1476 m'.2.2.1 m'.2.2.2 = 0 ∧ E_v_isWord 498 m'.2.2.1 m'.2.2.2 = 0
theorem KTst.from {C : KC_} {fau : Int32} {d p nl nc pi p2 nl2 nc2 pi2 us0 nl0 nc0 pi0 w : Nat} {m m2 : KM4} {fc fo fa fp fq fc2 fo2 fa2 fp2 fq2 : Nat → Int32} {r : KW8} (h : KTst C fau d p2 m2 nl2 nc2 pi2 fc2 fo2 fa2 fp2 fq2 us0 nl0 nc0 pi0 w r) (hp : p ≤ p2) (g : KGo C fau 0 3 p m nc nl pi d fo fa fp fq 0 3 p2 m2 nc2 nl2 pi2 d fo2 fa2 fp2 fq2) (h1 : ∀ j, j < us0 → fc2 j = fc j) (h2 : ∀ j, j < nc0 → fo2 j = fo j ∧ fa2 j = fa j) (h3 : ∀ j, j < pi0 → fp2 j = fp j ∧ fq2 j = fq j) : KTst C fau d p m nl nc pi fc fo fa fp fq us0 nl0 nc0 pi0 w r := by
  obtain ⟨p', c', m', us', nl', n1, pi1, n2, fc', fo1, fa1, fp1, fq1, fo3, fa3, e1, e2, e3, e4, e5, e6, e7, e8, e9⟩ := h
  exact ⟨p', c', m', us', nl', n1, pi1, n2, fc', fo1, fa1, fp1, fq1, fo3, fa3, e1, by omega, e3, g.trans e4, ⟨e5.1, e5.2.1, fun j hj => ⟨(e5.2.2.1 j hj).1.trans (h3 j hj).1, (e5.2.2.1 j hj).2.trans (h3 j hj).2⟩, e5.2.2.2⟩, e6, ⟨fun j hj => (e7.1 j hj).trans (h1 j hj), fun j hj => ⟨(e7.2 j hj).1.trans (h2 j hj).1, (e7.2 j hj).2.trans (h2 j hj).2⟩⟩, e8, e9⟩
/-- a pile that holds still at a bracket, or under an "or" -/
theorem kst_hold {l nc pi : Nat} {fo fa fp fq : Nat → Int32} (hp : pi < 900) (hl : 1 ≤ l) (hl2 : l ≤ 2) (h : pi = 0 ∨ fp (pi - 1) = nI 31 ∨ (fp (pi - 1) = nI 30 ∧ l = 2)) : kst l nc pi fo fa fp fq = (nI nc, nI pi, fo, fa) := by
  by_cases z : pi = 0
  · rw [z]; exact kst_0
  · rcases h with h | h | ⟨h, h'⟩
    · exact absurd h z
    · have := kst_stop (nc := nc) (fo := fo) (fa := fa) (fq := fq) (l := l) (pi := pi - 1) (o := 31) (by omega) (by omega) (by omega) h (by rw [show kbd 31 = 0 from rfl]; omega)
      rw [show pi - 1 + 1 = pi by omega] at this
      exact this
    · have := kst_stop (nc := nc) (fo := fo) (fa := fa) (fq := fq) (l := l) (pi := pi - 1) (o := 30) (by omega) (by omega) (by omega) h (by rw [show kbd 30 = 1 from rfl]; omega)
      rw [show pi - 1 + 1 = pi by omega] at this
      exact this
