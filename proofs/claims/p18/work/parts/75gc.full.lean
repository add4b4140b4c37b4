/-! law(): read, and written down -/
theorem reads_law {L : Nat} {fb ft fw frf fh fc fo fa fp fq fcl : Nat → Int32} {wd we fhd : Nat → Int64} {lw pa fl tf tt ti tu scl us thr sta fr to so fau bd ncl nc nl pi opn : Int32} {wo : Int64} (hR : KRy L fb ft wd we) (h0 : ∀ j, j < L → 0 ≤ (fb j).toInt) (hh : ∀ j, j < 4 → (fhd j).toInt = kwh 0 j) (h6 : fw 2 ≠ 6) : KRes sta frf fw (-1) (E_w_reads 1 lw pa fl (nI L) tf tt ti tu fb scl us fh fc) (E_v_law thr sta (nI L) fr to so wo fau bd ncl nc nl pi opn ft fo fa fp fq wd we fcl fhd fw frf) := by
  have hL := hR.1
  have z0 : (0 : Int32).toInt = 0 := rfl
  obtain ⟨q, hQ⟩ := tk_start hL h0 hR.2.1 (fr2 := tf) (fi2 := ti) (nu2 := tu) (fr3 := fr) (so3 := so) (wo3 := wo)
  have e1 : E_w_reads 1 lw pa fl (nI L) tf tt ti tu fb scl us fh fc = Lp (α := KL45) (E_w_reads_l45 1 (nI L) fb) (fun _ _ _ _ _ _ _ _ _ _ _ => ((0, 0, 0, 0, 0, 0, 0, 0, 0, fun _ => 0, fun _ => 0) : KW11)) (14 - 0) (nI 0) 0 (nI 0) 0 (nI 0) (E_w_step (nI L) tf 0 ti tu fb).1 (E_w_step (nI L) tf 0 ti tu fb).2.1 (E_w_step (nI L) tf 0 ti tu fb).2.2.1 (E_w_step (nI L) tf 0 ti tu fb).2.2.2 fh fc := by
    rw [E_w_reads.eq_def, Lt2_b, Lt2_b, Lt2_b]; rfl
  have eb : E_v_beginText 0 (nI L) fr to so wo fau bd 0 ncl nc nl ft = E_v_next (nI L) fr 0 so wo ft := by
    rw [E_v_beginText.eq_def, E_v_begin.eq_def]; rfl
  rw [e1, rd_1 _ (by omega), E_v_law.eq_def, Lt_b, if_neg (show ¬ fw (2 : Int32).toNatClampNeg = 6 from h6), eb, Lt2_b, Lt2_b, Lt2_b]
  have lc := law_clause hR hh (n := 0) (us := 0) (nl := 0) (nc := 0) (fau := -1) (pi := pi) (op := opn) (scl := 0) (fh := fh) (fc := fc) (fcl := fcl) (fo := fo) (fa := fa) (fp := fp) (fq := fq) hQ (Nat.zero_le _) (Nat.zero_le _) (by omega) (by omega) (fun i hi => absurd hi (Nat.not_lt_zero _))
  change KCla L 0 fb q (-1) _ (E_v_readLaw (nI L) (E_v_next (nI L) fr 0 so wo ft).1 (E_v_next (nI L) fr 0 so wo ft).2.1 (E_v_next (nI L) fr 0 so wo ft).2.2.1 (E_v_next (nI L) fr 0 so wo ft).2.2.2 (-1) 0 0 0 0 0 pi opn ft fo fa fp fq wd we fcl fhd) at lc
  generalize E_w_clause (nI 0) 1 (nI 0) (nI L) (E_w_step (nI L) tf 0 ti tu fb).1 (E_w_step (nI L) tf 0 ti tu fb).2.1 (E_w_step (nI L) tf 0 ti tu fb).2.2.1 (E_w_step (nI L) tf 0 ti tu fb).2.2.2 fb 0 (nI 0) fh fc = r at lc ⊢
  generalize E_v_readLaw (nI L) (E_v_next (nI L) fr 0 so wo ft).1 (E_v_next (nI L) fr 0 so wo ft).2.1 (E_v_next (nI L) fr 0 so wo ft).2.2.1 (E_v_next (nI L) fr 0 so wo ft).2.2.2 (-1) 0 0 0 0 0 pi opn ft fo fa fp fq wd we fcl fhd = X at lc ⊢
  simp only [Lt2]
  rcases lc with ⟨n1, q', n2, n3, n4⟩ | ⟨p', c', m', us', nl', n2, fh', fc', fo2, fa2, fp2, fq2, fcl', pi', op', x1, x2, x3, x4, x5, x6⟩
  · rw [if_pos n1, j125_0, n4, n3, l37_bad]
    exact Or.inl ⟨rfl, q', _, _, _, _, _, _, _, _, _, _, _, _, _, _, n2, rfl⟩
  · subst x1
    subst x4
    have hp' := x3.1
    have frp := TkP.froms (tf := c'.1) (tt := c'.2.1) (ti := c'.2.2.1) (tu := c'.2.2.2) (fr := m'.1) (to := m'.2.1) (so := m'.2.2.1) (wo := m'.2.2.2) x3
    dsimp only
    rw [if_neg (show ¬ (1 : Int32) = 0 by decide)]
    exact aft_law hR hh _ _ 11 1 p' us' nl' n2 c' m' fh' fc' fcl' fo2 fa2 fp2 fq2 (-1) pi' op' _ (by omega) (by omega) x3 x5.1 x5.2.1 x5.2.2 x6 (by rw [frp.2.1, nI_toInt (by omega), z0]; omega)
/-! copies -/
theorem copy1 {α : Type} (z : Int32 → (Nat → Int32) → α) (B : (Int32 → (Nat → Int32) → α) → Int32 → (Nat → Int32) → α) {b N : Nat} {g : Nat → Int32} (hB : ∀ rc (v : Nat) f, v < N → B rc (nI v) f = rc (nI (v + 1)) (upd f (b + v) (g v))) : ∀ (d v F : Nat) (f : Nat → Int32), v + d = N → ∃ f', Lp B z (F + d + 1) (nI v) f = Lp B z (F + 1) (nI N) f' ∧ (∀ j, j < b + v ∨ b + N ≤ j → f' j = f j) ∧ ∀ j, v ≤ j → j < N → f' (b + j) = g j := by
  intro d
  induction d with
  | zero => intro v F f hv; exact ⟨f, by rw [show v = N by omega], fun _ _ => rfl, fun j _ _ => by omega⟩
  | succ d ih =>
    intro v F f hv
    obtain ⟨f', e1, e2, e3⟩ := ih (v + 1) F (upd f (b + v) (g v)) (by omega)
    refine ⟨f', ?_, fun j hj => ?_, fun j h1 h2 => ?_⟩
    · rw [show F + (d + 1) + 1 = (F + d + 1) + 1 by omega, Lp_s, hB _ _ _ (by omega), e1]
    · rw [e2 j (by omega), upd_n (by omega)]
    · by_cases q : j = v
      · rw [e2 (b + j) (by omega), q, upd_s]
      · exact e3 j (by omega) h2
theorem copy2 {α : Type} (z : Int32 → (Nat → Int32) → α) (B : (Int32 → (Nat → Int32) → α) → Int32 → (Nat → Int32) → α) {b N : Nat} {g h : Nat → Int32} (hB : ∀ rc (v : Nat) f, v < N → B rc (nI v) f = rc (nI (v + 1)) (upd (upd f (b + 2 * v) (g v)) (b + 2 * v + 1) (h v))) : ∀ (d v F : Nat) (f : Nat → Int32), v + d = N → ∃ f', Lp B z (F + d + 1) (nI v) f = Lp B z (F + 1) (nI N) f' ∧ (∀ j, j < b + 2 * v ∨ b + 2 * N ≤ j → f' j = f j) ∧ ∀ j, v ≤ j → j < N → f' (b + 2 * j) = g j ∧ f' (b + 2 * j + 1) = h j := by
  intro d
  induction d with
  | zero => intro v F f hv; exact ⟨f, by rw [show v = N by omega], fun _ _ => rfl, fun j _ _ => by omega⟩
  | succ d ih =>
    intro v F f hv
    obtain ⟨f', e1, e2, e3⟩ := ih (v + 1) F (upd (upd f (b + 2 * v) (g v)) (b + 2 * v + 1) (h v)) (by omega)
    refine ⟨f', ?_, fun j hj => ?_, fun j h1 h2 => ?_⟩
    · rw [show F + (d + 1) + 1 = (F + d + 1) + 1 by omega, Lp_s, hB _ _ _ (by omega), e1]
    · rw [e2 j (by omega), upd_n (by omega), upd_n (by omega)]
    · by_cases q : j = v
      · rw [e2 (b + 2 * j) (by omega), e2 (b + 2 * j + 1) (by omega), q, upd_n (by omega), upd_s, upd_s]; exact ⟨rfl, rfl⟩
      · exact e3 j (by omega) h2
theorem kn_m900 {n : Nat} (h : n < 1000) : 900 * nI n = nI (900 * n) := Int32.toInt_inj.mp (by
  rw [i_mul (show (900 : Int32).toInt = 900 from rfl) (nI_toInt (by omega)) (by omega), nI_toInt (by omega)]; omega)
theorem kn_ca {a k : Nat} {c : Int32} (hc : c.toInt = (k : Int)) (h : a + k < 1000000) : c + nI a = nI (k + a) := Int32.toInt_inj.mp (by
  rw [i_add hc (nI_toInt (by omega)) (by omega), nI_toInt (by omega)]; omega)
theorem kn_t2 {n : Nat} (h : n < 1000) : 2 * nI n = nI (2 * n) := Int32.toInt_inj.mp (by
  rw [i_mul (show (2 : Int32).toInt = 2 from rfl) (nI_toInt (by omega)) (by omega), nI_toInt (by omega)]; omega)
/-- the row behind law(): one law more -/
theorem racc_at {sta a b fau pi op : Int32} {e : Int64} {t n nc : Nat} {nl : Int32} {frf fw fo fa fp fq fcl : Nat → Int32} (ht : fw 2 = nI t) (h6 : t < 6) (hn : n ≤ 12) (hc : nc ≤ 400) : ∃ fw', rAcc sta frf fw a b 0 e fau 0 (nI n) (nI nc) nl pi op fo fa fp fq fcl = ((E_v_tell (nI t) sta frf).1, (E_v_tell (nI t) sta frf).2.1, a, b, 0, e, fau, 0, nI n, nI nc, nl, pi, op, fo, fa, fp, fq, fcl, fw', (E_v_tell (nI t) sta frf).2.2) ∧ fw' 2 = nI (t + 1) ∧ (∀ j, j ≠ 2 → j < 100 + 900 * t ∨ 100 + 900 * t + 900 ≤ j → fw' j = fw j) ∧ fw' (100 + 900 * t + 1) = nI n ∧ (∀ j, j < 8 * n → fw' (100 + 900 * t + 2 + j) = fcl j) ∧ ∀ j, j < nc → fw' (100 + 900 * t + 98 + 2 * j) = fo j ∧ fw' (100 + 900 * t + 98 + 2 * j + 1) = fa j := by
  have hb : 100 + 900 * fw 2 = nI (100 + 900 * t) := by rw [ht, kn_m900 (by omega), kn_ca (c := 100) (k := 100) rfl (by omega)]
  have b1 : (100 + 900 * fw 2 + 1).toNatClampNeg = 100 + 900 * t + 1 := by rw [hb, kn_ac (c := 1) (k := 1) rfl (by omega), kn_cl (by omega)]
  have e1 : rAcc sta frf fw a b 0 e fau 0 (nI n) (nI nc) nl pi op fo fa fp fq fcl = Lp (α := Int32 → (Nat → Int32) → KR20) (E_v_law_l110 sta frf (nI n) (nI nc) nl pi op fo fa fp fq fcl a b 0 e fau 0 (nI (100 + 900 * t))) (fun _ _ => ((0, 0, 0, 0, 0, 0, 0, 0, 0, 0, 0, 0, 0, fun _ => 0, fun _ => 0, fun _ => 0, fun _ => 0, fun _ => 0, fun _ => 0, fun _ => 0) : KR20)) ((97 - 8 * n) + 8 * n + 1) (nI 0) (upd fw (100 + 900 * t + 1) (nI n)) := by
    unfold rAcc
    rw [b1, hb, show (97 - 8 * n) + 8 * n + 1 = (97 - (0 : Int32).toInt : Int).toNat + 1 by rw [show (0 : Int32).toInt = 0 from rfl]; omega]
    rfl
  obtain ⟨f1, c1, c2, c3⟩ := copy1 (fun _ _ => ((0, 0, 0, 0, 0, 0, 0, 0, 0, 0, 0, 0, 0, fun _ => 0, fun _ => 0, fun _ => 0, fun _ => 0, fun _ => 0, fun _ => 0, fun _ => 0) : KR20)) (E_v_law_l110 sta frf (nI n) (nI nc) nl pi op fo fa fp fq fcl a b 0 e fau 0 (nI (100 + 900 * t))) (b := 100 + 900 * t + 2) (N := 8 * n) (g := fcl) (fun rc v f hv => by
    rw [E_v_law_l110.eq_def, Lt_b, kn_m8 (by omega), if_neg (fun q => by have := (kn_le (by omega) (by omega)).mp q; omega)]
    simp only [Lt]
    rw [kn_ac (c := 2) (k := 2) rfl (by omega), kn_ac (nI_toInt (by omega)) (by omega), kn_cl (by omega), kn_cl (by omega), kn_po (by omega)]) (8 * n) 0 (97 - 8 * n) (upd fw (100 + 900 * t + 1) (nI n)) (by omega)
  rw [e1, c1, Lp_s, E_v_law_l110.eq_def, Lt_b, kn_m8 (by omega), if_pos ((kn_le (by omega) (by omega)).mpr (Nat.le_refl _))]
  obtain ⟨f2, d1, d2, d3⟩ := copy2 (fun _ _ => ((0, 0, 0, 0, 0, 0, 0, 0, 0, 0, 0, 0, 0, fun _ => 0, fun _ => 0, fun _ => 0, fun _ => 0, fun _ => 0, fun _ => 0, fun _ => 0) : KR20)) (E_v_law_l145 sta frf (nI n) (nI nc) nl pi op fo fa fp fq fcl a b 0 e fau 0 (nI (100 + 900 * t))) (b := 100 + 900 * t + 98) (N := nc) (g := fo) (h := fa) (fun rc v f hv => by
    rw [E_v_law_l145.eq_def, if_neg (fun q => by have := (kn_le (by omega) (by omega)).mp q; omega)]
    simp only [Lt]
    rw [kn_ac (c := 98) (k := 98) rfl (by omega), kn_t2 (by omega), kn_ac (nI_toInt (by omega)) (by omega), kn_ac (c := 1) (k := 1) rfl (by omega), kn_cl (by omega), kn_cl (by omega), kn_cl (by omega), kn_po (by omega)]) nc 0 (401 - nc) f1 (by omega)
  have fu : ((401 - (0 : Int32).toInt : Int).toNat + 1) = (401 - nc) + nc + 1 := by rw [show (0 : Int32).toInt = 0 from rfl]; omega
  rw [show nI 0 = (0 : Int32) from rfl] at d1
  rw [fu, d1, Lp_s, E_v_law_l145.eq_def, if_pos ((kn_le (by omega) (by omega)).mpr (Nat.le_refl _))]
  have f22 : f2 2 = nI t := by rw [d2 2 (by omega), c2 2 (by omega), upd_n (by omega)]; exact ht
  simp only [Lt, Lt2]
  rw [show (2 : Int32).toNatClampNeg = 2 from rfl, upd_s, f22, kn_p1 (by omega), kn_m1 (by omega) (by omega), show t + 1 - 1 = t by omega]
  refine ⟨_, rfl, upd_s, fun j h1 h2 => ?_, ?_, fun j hj => ?_, fun j hj => ?_⟩
  · rw [upd_n h1, d2 j (by omega), c2 j (by omega), upd_n (by omega)]
  · rw [upd_n (by omega), d2 _ (by omega), c2 _ (by omega), upd_s]
  · rw [upd_n (by omega), d2 _ (by omega)]; exact c3 j (Nat.zero_le _) hj
  · rw [upd_n (by omega), upd_n (by omega)]; exact d3 j (Nat.zero_le _) hj
/-- THE LAW MADE IS THE TEXT WRITTEN -/
theorem law_text {n us nc : Nat} {fh fcl fc fo fa T : Nat → Int32} {x : LC} (hK : KCls n us nc fh fcl fc fo fa) (hn : n ≤ 12) (hu : us ≤ 800) (hc : nc ≤ 400) (hx : TrX (nI n) (nI us) fh fc x) (h1 : T 1 = nI n) (h2 : ∀ j, j < 8 * n → T (2 + j) = fcl j) (h3 : ∀ j, j < nc → T (98 + 2 * j) = fo j ∧ T (98 + 2 * j + 1) = fa j) : KLaw x T := by
  obtain ⟨x1, x2, x3, x4, x5⟩ := hx
  rw [nI_toInt (by omega)] at x2 x3
  have op : ∀ (p q : Nat), q ≤ nc → ∀ j, p ≤ j → j < q → kop T 0 j = fo j ∧ kar T 0 j = fa j := fun p q hq j _ hj => by
    have := h3 j (by omega)
    unfold kop kar
    rw [show 0 + 98 + 2 * j = 98 + 2 * j by omega]; exact this
  refine ⟨n, hn, x1, h1, by omega, by omega, by omega, fun i hi => ?_⟩
  obtain ⟨v, v1, v2, v3, v4, v5⟩ := hK i hi
  refine ⟨v, v1, by rw [x4 _ (by omega)]; exact v2, by rw [h2 (8 * i) (by omega)]; exact v3, ?_, ?_⟩
  · rw [x4 (5 * i + 4) (by omega), show 2 + 8 * i + 5 = 2 + (8 * i + 5) by omega, show 2 + 8 * i + 6 = 2 + (8 * i + 6) by omega, h2 (8 * i + 5) (by omega), h2 (8 * i + 6) (by omega)]
    rcases v4 with ⟨a, b, j, c, d⟩ | ⟨a, e, p, q, m, k1, k2, k3, k4, k5, k6, k7, k8, k9⟩
    · exact Or.inl ⟨a, b, j, c, by omega⟩
    · exact Or.inr ⟨a, e, p, q, m, k1, k2, k3, k4, by omega, k6, k7.ext (fun j _ hj => x5 j (by omega)) (op p q k5), by rw [x5 e (by omega)]; exact k8, by omega⟩
  · rcases v5 with v5 | ⟨a, e, p, q, m, k1, k2, k3, k4, k5, k6, k7, k8, k9⟩
    · exact Or.inl v5
    · rw [x4 (5 * i + 2) (by omega), show 2 + 8 * i + 3 = 2 + (8 * i + 3) by omega, show 2 + 8 * i + 4 = 2 + (8 * i + 4) by omega, h2 (8 * i + 3) (by omega), h2 (8 * i + 4) (by omega)]
      exact Or.inr ⟨a, e, p, q, m, k1, k2, k3, by omega, k6, k7.ext (fun j _ hj => x5 j (by omega)) (op p q k5), by rw [x5 e (by omega)]; exact k8, by omega⟩
