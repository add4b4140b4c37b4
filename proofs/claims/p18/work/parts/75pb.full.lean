theorem n_8l {k : Nat} (h : k < 1000) : (8 : Int32) * nI k = nI (8 * k) := Int32.toInt_inj.mp (by
  rw [i_mul (show (8 : Int32).toInt = 8 from rfl) (nI_toInt (by omega)) (by omega), nI_toInt (by omega)]; omega)
/-! all turns of orders, both sides -/
noncomputable abbrev KC23 : Type := Int32 × Int32 × Int32 × Int32 × Int32 × (Nat → Int32) × (Nat → Int32) × Int32 × Int32 × (Nat → Int32) × Int32 × (Nat → Int32) × (Nat → Int32) × Int32 × (Nat → Int32) × (Nat → Int32) × (Nat → Int32) × (Nat → Option Nat) × (Nat → Int32) × (Nat → Int32) × (Nat → Int32) × (Nat → Option Nat) × (Nat → Int32)
noncomputable abbrev KM37 : Type := Int32 × Int32 × Int32 × Int32 × Int32 × Int32 × Int64 × Int32 × Int32 × Int32 × Int32 × Int32 × Int32 × Int32 × Int32 × Int32 × Int64 × Int64 × Int32 × Int32 × Int32 × Int32 × (Nat → Int32) × (Nat → Int32) × (Nat → Int32) × (Nat → Int32) × (Nat → Int32) × (Nat → Int32) × (Nat → Int64) × (Nat → Int64) × (Nat → Int32) × (Nat → Int32) × (Nat → Int32) × (Nat → Int64) × (Nat → Int32) × (Nat → Int32) × (Nat → Int32)
noncomputable abbrev KCo : Type := Int32 → Int32 → Int32 → Int32 → Int32 → Int32 → Int32 → Int32 → (Nat → Int32) → (Nat → Int32) → (Nat → Int32) → (Nat → Int32) → (Nat → Int32) → (Nat → Int32) → (Nat → Int32) → KC23
noncomputable abbrev KMo : Type := Int32 → Int32 → Int32 → Int32 → Int64 → Int64 → Int32 → Int32 → Int32 → (Nat → Int64) → (Nat → Int64) → (Nat → Int32) → (Nat → Int32) → (Nat → Int64) → (Nat → Int32) → (Nat → Int32) → KM37
noncomputable def zCo : KCo := fun _ _ _ _ _ _ _ _ _ _ _ _ _ _ _ => ((0, 0, 0, 0, 0, fun _ => 0, fun _ => 0, 0, 0, fun _ => 0, 0, fun _ => 0, fun _ => 0, 0, fun _ => 0, fun _ => 0, fun _ => 0, fun _ => none, fun _ => 0, fun _ => 0, fun _ => 0, fun _ => none, fun _ => 0) : KC23)
noncomputable def zMo : KMo := fun _ _ _ _ _ _ _ _ _ _ _ _ _ _ _ _ => ((0, 0, 0, 0, 0, 0, 0, 0, 0, 0, 0, 0, 0, 0, 0, 0, 0, 0, 0, 0, 0, 0, fun _ => 0, fun _ => 0, fun _ => 0, fun _ => 0, fun _ => 0, fun _ => 0, fun _ => 0, fun _ => 0, fun _ => 0, fun _ => 0, fun _ => 0, fun _ => 0, fun _ => 0, fun _ => 0, fun _ => 0) : KM37)
/-- what comes of all: the same answer, the same place where it stopped, the same towns -/
noncomputable def OrdR (n lt nf : Int32) (G : Nat → LC) (sta : Int32) (frm fw0 : Nat → Int32) (fau : Int32) (C : KC23) (M : KM37) : Prop := C.1 = M.1 ∧ C.2.2.2.1 = M.2.2.2.2.2.2.2.2.2.2.2.2.2.2.2.2.2.2.2.2.1 ∧ M.2.2.2.2.2.2.2.1 = fau ∧ ((0 ≤ C.1.toInt ∧ M.2.1 = 0 ∧ M.2.2.2.2.2.2.2.2.2.2.2.2.2.2.2.2.2.2.2.2.2.2.2.2.2.2.2.2.2.2.2.2.2.2.2.2 = frm) ∨ (C.1 = -3 ∧ M.2.1 = (E_v_tell (-3) sta frm).2.1 ∧ M.2.2.2.2.2.2.2.2.2.2.2.2.2.2.2.2.2.2.2.2.2.2.2.2.2.2.2.2.2.2.2.2.2.2.2.2 = (E_v_tell (-3) sta frm).2.2)) ∧ TW n lt nf C.2.2.2.2.2.2.2.2.2.2.2.2.2.1 C.2.2.2.2.2.2.2.2.2.2.2.2.2.2.1 C.2.2.2.2.2.2.2.2.2.2.2.2.2.2.2.1 C.2.2.2.2.2.2.2.2.2.2.2.2.2.2.2.2.2.1 G M.2.2.2.2.2.2.2.2.2.2.2.2.2.2.2.2.2.2.2.2.2.2.2.2.2.2.2.1 ∧ HR n C.2.2.2.2.2.2.2.1 C.2.2.2.2.2.2.2.2.1 M.2.2.1 C.2.2.2.2.2.2.2.2.2.1 M.2.2.2.2.2.2.2.2.2.2.2.2.2.2.2.2.2.2.2.2.2.2.2.2.2.2.2.2.2.2.1 M.2.2.2.2.2.2.2.2.2.2.2.2.2.2.2.2.2.2.2.2.2.2.2.2.2.2.2.2.2.2.2.1 M.2.2.2.2.2.2.2.2.2.2.2.2.2.2.2.2.2.2.2.2.2.2.2.2.2.2.2.1 ∧ ∀ j, j < 4 ∨ 35 ≤ j → M.2.2.2.2.2.2.2.2.2.2.2.2.2.2.2.2.2.2.2.2.2.2.2.2.2.2.2.1 j = fw0 j
/-- where both stand between two turns -/
noncomputable def KSt (D : Nat) (n lt nf fi nu dr kp dn me : Int32) (f1 f2 sl fw fu fsr fuS fw0 : Nat → Int32) (fl : Nat → Option Nat) (G : Nat → LC) : Prop := TW n lt nf fi f1 f2 fl G fw ∧ HR n dr kp nu sl fu fsr fw ∧ (0 ≤ dn.toInt ∧ dn.toInt ≤ (D : Int)) ∧ (-1 ≤ me.toInt ∧ me.toInt ≤ 1) ∧ (∀ j, 496 ≤ j → fu j = fuS j) ∧ ∀ j, j < 4 ∨ 35 ≤ j → fw j = fw0 j
theorem KLs.ext2 {lt : Int32} {fl fl' : Nat → Option Nat} {G : Nat → LC} {fw fw' : Nat → Int32} (h : KLs lt fl G fw) (e : ∀ j, 100 ≤ j → j < 5500 → fw' j = fw j) (e2 : ∀ j, j < 6 → fl' j = fl j) : KLs lt fl' G fw' := by
  refine ⟨h.1, fun i hi => ?_⟩
  obtain ⟨a, q1, q2⟩ := h.2 i hi
  have h6 := h.1
  exact ⟨a, (e2 i (by omega)).trans q1, q2.ext (fun j hj => e _ (by omega) (by omega))⟩
theorem TW.ext {n lt nf fi : Int32} {f1 f2 fw f1' f2' fw' : Nat → Int32} {fl fl' : Nat → Option Nat} {G : Nat → LC} (h : TW n lt nf fi f1 f2 fl G fw) (e1 : ∀ j, j < 56 → f1' j = f1 j) (e2 : ∀ j, j < 6 → f2' j = f2 j) (e3 : ∀ j, j < 6 → fl' j = fl j) (e : ∀ j, j < 5500 → fw' j = fw j) : TW n lt nf fi f1' f2' fl' G fw' := by
  obtain ⟨a, b1, b2, b3, b4, b5, b6, b7⟩ := h
  exact ⟨a.ext (fun j hj => e1 j (by omega)) e2 (fun j _ _ => e j (by omega)), by rw [e 2 (by omega)]; exact b1, by rw [e 3 (by omega)]; exact b2, b3, fun j hj => by rw [e _ (by omega), e _ (by omega)]; exact b4 j hj, b5.ext2 (fun j _ h2 => e j h2) e3, ⟨by rw [e 0 (by omega)]; exact b6.1, b6.2⟩, fun j hj => by rw [e1 j (by omega), e _ (by omega)]; exact b7 j hj⟩
theorem HR.ext {n dr kp nu : Int32} {sl fu fs fw sl' fu' fs' fw' : Nat → Int32} (h : HR n dr kp nu sl fu fs fw) (h1 : ∀ j, j < 476 → sl' j = sl j) (h2 : ∀ j, j < 496 → fu' j = fu j) (h3 : ∀ i, i < 16 → fs' i = fs i) (h4 : ∀ j, 6 ≤ j → j < 10 → fw' j = fw j) : HR n dr kp nu sl' fu' fs' fw' := by
  obtain ⟨d, u, ⟨d1, d2⟩, e1, e2, e3, e4⟩ := h
  exact ⟨d, u, ⟨d1, d2⟩, e1, e2, e3, fun i hi => (e4 i hi).ext (fun j _ hj => h1 j (by omega)) (fun j hj => h2 _ (by omega)) (h3 i (by omega)) h4⟩
theorem become_l {Bd : Nat → Option Nat} {p q r : Nat → Int32} (z : Int32 → (Nat → Option Nat) → ((Nat → Int32) × (Nat → Int32) × (Nat → Int32) × (Nat → Option Nat))) : ∀ (d a F : Nat), a + d = 6 → ∀ g : Nat → Option Nat, (∀ j, j < a → g j = Bd j) → ∀ j, j < 6 → (Lp (E_w_become_l56 Bd p q r) z (F + d + 1) (nI a) g).2.2.2 j = Bd j := by
  intro d
  induction d with
  | zero =>
    intro a F ha g hg j hj
    have : a = 6 := by omega
    subst this
    rw [Lp_s, E_w_become_l56.eq_def, if_pos (show (6 : Int32) ≤ nI 6 by decide)]
    exact hg j hj
  | succ d ih =>
    intro a F ha g hg j hj
    have c1 : ¬ (6 : Int32) ≤ nI a := kn_nlel (j := 6) rfl (by omega) (by omega)
    rw [show F + (d + 1) + 1 = F + d + 1 + 1 by omega, Lp_s, E_w_become_l56.eq_def, if_neg c1, Lt_b, kn_cl (by omega)]
    have up : ∀ {y : Option Nat}, y = Bd a → ∀ k, k < a + 1 → va_up g a y k = Bd k := fun hy k hk => by
      by_cases e : k = a
      · rw [e, ← hy]; exact if_pos rfl
      · exact (if_neg e).trans (hg k (by omega))
    cases hB : Bd a with
    | none =>
      show (Lt (va_up g a none : Nat → Option Nat) (fun f_243 => Lt (nI a + Int32.ofInt 1 : Int32) (fun x_244 => Lp (E_w_become_l56 Bd p q r) z (F + d + 1) x_244 f_243))).2.2.2 j = Bd j
      rw [Lt_b, Lt_b, kn_po (by omega)]
      exact ih (a + 1) F (by omega) _ (up hB.symm) j hj
    | some y =>
      show (Lt (va_up g a (some y) : Nat → Option Nat) (fun f_245 => Lt (nI a + Int32.ofInt 1 : Int32) (fun x_246 => Lp (E_w_become_l56 Bd p q r) z (F + d + 1) x_246 f_245))).2.2.2 j = Bd j
      rw [Lt_b, Lt_b, kn_po (by omega)]
      exact ih (a + 1) F (by omega) _ (up hB.symm) j hj
theorem become_laws {An Al Af Ai Ah Ao Bn Bl Bf Bi Bh Bo : Int32} {Aa Ab Ac Ba Bb Bc : Nat → Int32} {Ad Bd : Nat → Option Nat} : ∀ j, j < 6 → (E_w_become An Al Af Ai Ah Ao Aa Ab Ac Ad Bn Bl Bf Bi Bh Bo Ba Bb Bc Bd).2.2.2 j = Bd j := by
  rw [E_w_become.eq_def, Lt_b, Lt_b, Lt_b, show ((7 - (0 : Int32).toInt : Int).toNat + 1) = 1 + 6 + 1 by decide]
  exact become_l _ 6 0 1 rfl Ad (fun j hj => absurd hj (Nat.not_lt_zero _))
theorem hbec_at {f g : Nat → Int32} {dr kp : Int32} {j : Nat} (hj : j < 476) : E_w_hbecome f dr kp g j = g j := by
  rw [E_w_hbecome.eq_def, Lt_b]
  exact cpy_at rfl hj
theorem giveBack_at {x nu : Int32} {fw fu fs fub fsb : Nat → Int32} : (E_v_giveBack x nu fw fu fs fub fsb).1 = E_v_putBack 17 fw fu ∧ (∀ j, j < 496 → (E_v_giveBack x nu fw fu fs fub fsb).2.1 j = fub j) ∧ ∀ j, j < 16 → (E_v_giveBack x nu fw fu fs fub fsb).2.2 j = fsb j := by
  have hB : ∀ (rc : Int32 → (Nat → Int32) → ((Nat → Int32) × (Nat → Int32) × (Nat → Int32))) (i : Nat) (f : Nat → Int32), i < 496 → E_v_giveBack_l8 fs fub fsb (E_v_putBack 17 fw fu) rc (nI i) f = rc (nI (i + 1)) (upd f (0 + i) (fub i)) := fun rc i f hi => by
    rw [E_v_giveBack_l8.eq_def, if_neg (kn_nlel (j := 496) rfl (by omega) hi), Lt_b, Lt_b, Lt_b, kn_po (by omega), kn_cl (by omega), Nat.zero_add]
  have hC : ∀ (g : Nat → Int32) (rc : Int32 → (Nat → Int32) → ((Nat → Int32) × (Nat → Int32) × (Nat → Int32))) (i : Nat) (f : Nat → Int32), i < 16 → E_v_giveBack_l35 fsb (E_v_putBack 17 fw fu) g rc (nI i) f = rc (nI (i + 1)) (upd f (0 + i) (fsb i)) := fun g rc i f hi => by
    rw [E_v_giveBack_l35.eq_def, if_neg (kn_nlel (j := 16) rfl (by omega) hi), Lt_b, Lt_b, Lt_b, kn_po (by omega), kn_cl (by omega), Nat.zero_add]
  have q := lp_it (d := fun i => 0 + i) (s := fun i _ => fub i) hB (fun _ _ => ((fun _ => 0, fun _ => 0, fun _ => 0) : (Nat → Int32) × (Nat → Int32) × (Nat → Int32))) fu 496 2 0 rfl
  have q2 := lp_it (d := fun i => 0 + i) (s := fun i _ => fsb i) (hC (kitf (fun i => 0 + i) (fun i _ => fub i) fu 496)) (fun _ _ => ((fun _ => 0, fun _ => 0, fun _ => 0) : (Nat → Int32) × (Nat → Int32) × (Nat → Int32))) fs 16 2 0 rfl
  have e : E_v_giveBack x nu fw fu fs fub fsb = (E_v_putBack 17 fw fu, kitf (fun i => 0 + i) (fun i _ => fub i) fu 496, kitf (fun i => 0 + i) (fun i _ => fsb i) fs 16) := by
    rw [E_v_giveBack.eq_def, Lt_b, show ((497 - (0 : Int32).toInt : Int).toNat + 1) = 2 + 496 by decide]
    refine Eq.trans q ?_
    rw [Lp_s, E_v_giveBack_l8.eq_def, if_pos (kn_lel (j := 496) rfl (by omega) (Nat.le_refl _)), show ((17 - (0 : Int32).toInt : Int).toNat + 1) = 2 + 16 by decide]
    refine Eq.trans q2 ?_
    rw [Lp_s, E_v_giveBack_l35.eq_def, if_pos (kn_lel (j := 16) rfl (by omega) (Nat.le_refl _))]
  rw [e]
  refine ⟨by dsimp only, fun j hj => ?_, fun j hj => ?_⟩
  · dsimp only
    rw [kitf_cp, if_pos (by omega)]; exact congrArg fub (by omega)
  · dsimp only
    rw [kitf_cp, if_pos (by omega)]; exact congrArg fsb (by omega)
/-- the turns of one clause -/
theorem co_in {n lt nf fi0 dr0 kp0 nu0 hea ho scl sus sta nc' nl pi op fr to so fau bd : Int32} {wo : Int64} {N us nc : Nat} {fh fc f3 u0 u1 u2 uh fo fa fp fq fod fub fsb frm f10 f20 sl0 fw0 fu0 fs0 fuS : Nat → Int32} {fl u3 : Nat → Option Nat} {G : Nat → LC} (h0 : TW n lt nf fi0 f10 f20 fl G fw0) (hr0 : HR n dr0 kp0 nu0 sl0 fu0 fs0 fw0) (hu0 : ∀ j, j < 56 → u0 j = f10 j) (hu1 : ∀ j, j < 6 → u1 j = f20 j) (hu3 : ∀ j, j < 6 → u3 j = fl j) (huh : ∀ j, j < 476 → uh j = sl0 j) (hub : ∀ j, j < 496 → fub j = fu0 j) (hsb : ∀ j, j < 16 → fsb j = fs0 j) (hsn : ∀ j, j < 31 → fuS (527 + j) = fw0 (4 + j)) (h3 : ∀ j, j < 24 → f3 j = fw0 (67 + j)) (hus : us ≤ 800) (hnc : nc ≤ 400) {i T v : Nat} (hi : i < 12) (hN : N ≤ 12) (hK : KClz i us nc fh fod fc fo fa v T) (rc1 : KCo) (rc2 : KMo) (hrec : ∀ (dn : Int32) (me : Int32) (xb : Int32) (br : Int32) (fi : Int32) (dr : Int32) (kp : Int32) (fx : Nat → Int32) (fv : Nat → Int32) (fs : Nat → Int32) (cw : Nat → Int32) (f1 : Nat → Int32) (f2 : Nat → Int32) (sl : Nat → Int32) (nu : Int32) (lw : Int32) (bro : Int32) (val : Int64) (sm : Int64) (ofm : Int32) (fe : Nat → Int64) (frs : Nat → Int64) (fsr : Nat → Int32) (fb : Nat → Int32) (fnw : Nat → Int64) (fw : Nat → Int32) (fu : Nat → Int32), KSt (20 * i + T) n lt nf fi nu dr kp dn me f1 f2 sl fw fu fsr fuS fw0 fl G → OrdR n lt nf G sta frm fw0 fau (rc1 (nI (i + 1)) dn me xb br fi dr kp fx fv fs cw f1 f2 sl) (rc2 (nI (i + 1)) nu lw bro val sm dn me ofm fe frs fsr fb fnw fw fu)) : ∀ (d t F F2 : Nat), t + d = T → ∀ (dn : Int32) (me : Int32) (xb : Int32) (br : Int32) (fi : Int32) (dr : Int32) (kp : Int32) (fx : Nat → Int32) (fv : Nat → Int32) (fs : Nat → Int32) (cw : Nat → Int32) (f1 : Nat → Int32) (f2 : Nat → Int32) (sl : Nat → Int32) (nu : Int32) (lw : Int32) (bro : Int32) (val : Int64) (sm : Int64) (ofm : Int32) (fe : Nat → Int64) (frs : Nat → Int64) (fsr : Nat → Int32) (fb : Nat → Int32) (fnw : Nat → Int64) (fw : Nat → Int32) (fu : Nat → Int32), KSt (20 * i + t) n lt nf fi nu dr kp dn me f1 f2 sl fw fu fsr fuS fw0 fl G → OrdR n lt nf G sta frm fw0 fau (Lp (α := KCo) (E_w_carryOut_l50 G scl sus fh fc dr0 kp0 n lt nf fi0 hea ho f3 fl u0 u1 u2 u3 uh (nI i) rc1 (nI T)) zCo (F + d + 1) (nI t) dn me xb br fi dr kp fx fv fs cw f1 f2 sl) (Lp (α := KMo) (E_v_orders_l150 sta nu0 frm (nI N) nc' nl pi op fo fa fp fq fod fr to so wo fau bd fub fsb (nI i) rc2) zMo (F2 + d + 1) (nI t) nu lw bro val sm dn me ofm fe frs fsr fb fnw fw fu) := by
  have hT := hK.1.2
  have c4 := hK.2.2.2.2.1
  intro d
  induction d with
  | zero =>
    intro t F F2 ht dn me xb br fi dr kp fx fv fs cw f1 f2 sl nu lw bro val sm ofm fe frs fsr fb fnw fw fu hs
    have : t = T := by omega
    subst this
    rw [Nat.add_zero, Nat.add_zero, Lp_s, Lp_s, E_w_carryOut_l50.eq_def, E_v_orders_l150.eq_def, if_pos ((kn_le (by omega) (by omega)).mpr (Nat.le_refl _)), Lt_b, kn_po (by omega), Lt_b, n_8l (by omega), Lt_b, n_addl (m := 7) (i := 8 * i) rfl (by omega), Lt_b, kn_cl (by omega), c4, if_pos ((kn_le (by omega) (by omega)).mpr (Nat.le_refl _)), Lt_b]
    exact hrec dn me xb br fi dr kp fx fv fs cw f1 f2 sl nu lw bro val sm ofm fe frs fsr fb fnw fw fu hs
  | succ d ih =>
    intro t F F2 ht dn me xb br fi dr kp fx fv fs cw f1 f2 sl nu lw bro val sm ofm fe frs fsr fb fnw fw fu hs
    obtain ⟨h, hr, hd, hm, hu, hf⟩ := hs
    have c1 : ¬ nI T ≤ nI t := fun q => by have := (kn_le (by omega) (by omega)).mp q; omega
    have h3' : ∀ j, j < 24 → f3 j = fw (67 + j) := fun j hj => (h3 j hj).trans (hf _ (by omega)).symm
    generalize hA : E_w_turn G (nI i) dn me xb fx fv scl sus fh fc dr kp sl br fs cw n lt nf fi f1 f2 f3 fl = A
    generalize hB : E_v_run (nI (8 * i)) nu lw bro val sm dn me ofm fw fe frs fu fsr fb fnw fo fa fod = B
    obtain ⟨A1, A2, A3, A4, A5, A6, A7, A8, A9, A10, A11, A12, A13, A14, A15⟩ := A
    obtain ⟨B1, B2, B3, B4, B5, B6, B7, B8, B9, B10, B11, B12, B13, B14, B15, B16⟩ := B
    have tr := turn_run hi hK hus hnc hA.symm hB.symm h hr h3' (by omega) hm
    obtain ⟨b1, b2, b3⟩ := become_at (An := n) (Al := lt) (Af := nf) (Ai := A13) (Ah := hea) (Ao := ho) (Aa := A14) (Ab := A15) (Ac := f3) (Ad := fl) (Bn := n) (Bl := lt) (Bf := nf) (Bi := fi0) (Bh := hea) (Bo := ho) (Ba := u0) (Bb := u1) (Bc := u2) (Bd := u3)
    have b4 := become_laws (An := n) (Al := lt) (Af := nf) (Ai := A13) (Ah := hea) (Ao := ho) (Aa := A14) (Ab := A15) (Ac := f3) (Ad := fl) (Bn := n) (Bl := lt) (Bf := nf) (Bi := fi0) (Bh := hea) (Bo := ho) (Ba := u0) (Bb := u1) (Bc := u2) (Bd := u3)
    obtain ⟨g1, g2, g3⟩ := giveBack_at (x := nu0) (nu := B2) (fw := B10) (fu := B13) (fs := B14) (fub := fub) (fsb := fsb)
    have hh := fun (j : Nat) (hj : j < 476) => hbec_at (f := A9) (g := uh) (dr := dr0) (kp := kp0) hj
    have tl := tell_s (x := -3) (sta := sta) (f := frm) (b := 3) (by decide)
    generalize hBc : E_w_become n lt nf A13 hea ho A14 A15 f3 fl n lt nf fi0 hea ho u0 u1 u2 u3 = Bc at b1 b2 b3 b4
    generalize hGb : E_v_giveBack nu0 B2 B10 B13 B14 fub fsb = Gb at g1 g2 g3
    generalize hHb : E_w_hbecome A9 dr0 kp0 uh = Hb at hh
    have sA : Lp (α := KCo) (E_w_carryOut_l50 G scl sus fh fc dr0 kp0 n lt nf fi0 hea ho f3 fl u0 u1 u2 u3 uh (nI i) rc1 (nI T)) zCo (F + (d + 1) + 1) (nI t) dn me xb br fi dr kp fx fv fs cw f1 f2 sl = if A1 = 0 then ((-3, A2, A3, nI i, A4, A5, A6, dr0, kp0, Hb, A10, A11, A12, fi0, Bc.1, Bc.2.1, Bc.2.2.1, Bc.2.2.2, u0, u1, u2, u3, uh) : KC23) else Lp (α := KCo) (E_w_carryOut_l50 G scl sus fh fc dr0 kp0 n lt nf fi0 hea ho f3 fl u0 u1 u2 u3 uh (nI i) rc1 (nI T)) zCo (F + d + 1) (nI (t + 1)) A2 A3 A4 A10 A13 A7 A8 A5 A6 A11 A12 A14 A15 A9 := by
      rw [Lp_s, E_w_carryOut_l50.eq_def, if_neg c1, hA, Lt2_b, Lt2_b, Lt2_b, Lt2_b, Lt2_b, Lt2_b, Lt2_b, Lt2_b, Lt2_b, Lt2_b, Lt2_b, Lt2_b, Lt2_b, Lt2_b]
      dsimp only
      by_cases q : A1 = 0
      · rw [if_pos q, if_pos q, hBc, hHb, Lt2_b, Lt2_b, Lt2_b, Lt_b]
      · rw [if_neg q, if_neg q, Lt_b, kn_po (by omega)]
        rfl
    have sB : Lp (α := KMo) (E_v_orders_l150 sta nu0 frm (nI N) nc' nl pi op fo fa fp fq fod fr to so wo fau bd fub fsb (nI i) rc2) zMo (F2 + (d + 1) + 1) (nI t) nu lw bro val sm dn me ofm fe frs fsr fb fnw fw fu = if 0 ≤ B1 then Lp (α := KMo) (E_v_orders_l150 sta nu0 frm (nI N) nc' nl pi op fo fa fp fq fod fr to so wo fau bd fub fsb (nI i) rc2) zMo (F2 + d + 1) (nI (t + 1)) B2 B3 B4 B5 B6 B7 B8 B9 B11 B12 B14 B15 B16 B10 B13 else ((-3, -3, nu0, fr, to, so, wo, fau, bd, nI N, nc', nl, pi, op, B3, B4, B5, B6, B7, B8, nI i, B9, fo, fa, fp, fq, fod, Gb.1, B11, B12, Gb.2.1, Gb.2.2, B15, B16, fub, fsb, upd frm 3 (frm 3 + 1)) : KM37) := by
      rw [Lp_s, E_v_orders_l150.eq_def, n_8l (by omega), Lt_b, n_addl (m := 7) (i := 8 * i) rfl (by omega), Lt_b, Lt_b, kn_cl (by omega), c4, if_neg c1, Lt_b, hB, Lt2_b, Lt2_b, Lt2_b, Lt2_b, Lt2_b, Lt2_b, Lt2_b, Lt2_b, Lt2_b, Lt2_b, Lt2_b, Lt2_b, Lt2_b, Lt2_b, Lt2_b]
      dsimp only
      by_cases q : 0 ≤ B1
      · rw [if_pos q, if_pos q, Lt_b, kn_po (by omega)]
        rfl
      · rw [if_neg q, if_neg q, hGb, tl, Lt2_b, Lt2_b, Lt2_b, Lt2_b]
    rw [sA, sB]
    rcases tr with ⟨q1, q2, q3, q4⟩ | ⟨q1, q2, q3, q4, q5, q6, q7, q8, q9, q10⟩
    · rw [if_pos q1, if_neg (show ¬ (0 : Int32) ≤ B1 by rw [q2]; decide)]
      have pb := fun j => putBack_at (k := 17) (by omega) (fw := B10) (fu := B13) j
      have e0 : ∀ j, Gb.1 j = fw0 j := fun j => by
        rw [g1, show (17 : Int32) = nI 17 from rfl, pb]
        by_cases c : 4 ≤ j ∧ j < 35
        · rw [if_pos c, q3 _ (by omega), hu _ (by omega), show 31 * 17 + (j - 4) = 527 + (j - 4) by omega, hsn _ (by omega)]
          exact congrArg fw0 (by omega)
        · rw [if_neg c, q4 j (by omega)]; exact hf j (by omega)
      have t1 := h0.ext (fun j hj => (b1 j hj).trans (hu0 j hj)) (fun j hj => (b3 j hj).trans (hu1 j hj)) (fun j hj => (b4 j hj).trans (hu3 j hj)) (fun j _ => e0 j)
      have t2 := hr0.ext (fun j hj => (hh j hj).trans (huh j hj)) (fun j hj => (g2 j hj).trans (hub j hj)) (fun j hj => (g3 j hj).trans (hsb j hj)) (fun j _ _ => e0 j)
      unfold OrdR
      rw [tl]
      exact ⟨rfl, rfl, rfl, Or.inr ⟨rfl, rfl, rfl⟩, t1, t2, fun j _ => e0 j⟩
    · rw [if_neg (show ¬ A1 = 0 by rw [q1]; decide), if_pos (show (0 : Int32) ≤ B1 by rw [q2]; decide)]
      rw [← q3, ← q4]
      rw [← q3] at q5
      rw [← q4] at q6
      exact ih (t + 1) F F2 (by omega) A2 A3 A4 A10 A13 A7 A8 A5 A6 A11 A12 A14 A15 A9 B2 B3 B4 B5 B6 B9 B11 B12 B14 B15 B16 B10 B13 ⟨q7, q8, ⟨q5.1, by omega⟩, q6, fun j hj => (q9 j hj).trans (hu j hj), fun j hj => (q10 j hj).trans (hf j hj)⟩
/-- all clauses -/
theorem co_out {n lt nf fi0 dr0 kp0 nu0 hea ho sus sta nc' nl pi op fr to so fau bd : Int32} {wo : Int64} {N us nc : Nat} {fh fc f3 u0 u1 u2 uh fo fa fp fq fod fub fsb frm f10 f20 sl0 fw0 fu0 fs0 fuS : Nat → Int32} {fl u3 : Nat → Option Nat} {G : Nat → LC} (h0 : TW n lt nf fi0 f10 f20 fl G fw0) (hr0 : HR n dr0 kp0 nu0 sl0 fu0 fs0 fw0) (hu0 : ∀ j, j < 56 → u0 j = f10 j) (hu1 : ∀ j, j < 6 → u1 j = f20 j) (hu3 : ∀ j, j < 6 → u3 j = fl j) (huh : ∀ j, j < 476 → uh j = sl0 j) (hub : ∀ j, j < 496 → fub j = fu0 j) (hsb : ∀ j, j < 16 → fsb j = fs0 j) (hsn : ∀ j, j < 31 → fuS (527 + j) = fw0 (4 + j)) (h3 : ∀ j, j < 24 → f3 j = fw0 (67 + j)) (hus : us ≤ 800) (hnc : nc ≤ 400) (hN : N ≤ 12) (hKK : KOrs N us nc fh fod fc fo fa) : ∀ (d i F F2 : Nat), i + d = N → ∀ (dn : Int32) (me : Int32) (xb : Int32) (br : Int32) (fi : Int32) (dr : Int32) (kp : Int32) (fx : Nat → Int32) (fv : Nat → Int32) (fs : Nat → Int32) (cw : Nat → Int32) (f1 : Nat → Int32) (f2 : Nat → Int32) (sl : Nat → Int32) (nu : Int32) (lw : Int32) (bro : Int32) (val : Int64) (sm : Int64) (ofm : Int32) (fe : Nat → Int64) (frs : Nat → Int64) (fsr : Nat → Int32) (fb : Nat → Int32) (fnw : Nat → Int64) (fw : Nat → Int32) (fu : Nat → Int32), KSt (20 * i) n lt nf fi nu dr kp dn me f1 f2 sl fw fu fsr fuS fw0 fl G → OrdR n lt nf G sta frm fw0 fau (Lp (α := KCo) (E_w_carryOut_l29 G (-1) (nI N) sus fh fc dr0 kp0 n lt nf fi0 hea ho f3 fl u0 u1 u2 u3 uh) zCo (F + d + 1) (nI i) dn me xb br fi dr kp fx fv fs cw f1 f2 sl) (Lp (α := KMo) (E_v_orders_l140 sta nu0 frm (nI N) nc' nl pi op fo fa fp fq fod fr to so wo fau bd fub fsb) zMo (F2 + d + 1) (nI i) nu lw bro val sm dn me ofm fe frs fsr fb fnw fw fu) := by
  intro d
  induction d with
  | zero =>
    intro i F F2 hi dn me xb br fi dr kp fx fv fs cw f1 f2 sl nu lw bro val sm ofm fe frs fsr fb fnw fw fu hs
    have : i = N := by omega
    subst this
    obtain ⟨h, hr, hd, hm, hu, hf⟩ := hs
    rw [Nat.add_zero, Nat.add_zero, Lp_s, Lp_s, E_w_carryOut_l29.eq_def, E_v_orders_l140.eq_def, if_pos ((kn_le (by omega) (by omega)).mpr (Nat.le_refl _)), if_pos ((kn_le (by omega) (by omega)).mpr (Nat.le_refl _)), tell_p hd.1]
    simp only [Lt2]
    exact ⟨rfl, rfl, rfl, Or.inl ⟨hd.1, rfl, rfl⟩, h, hr, hf⟩
  | succ d ih =>
    intro i F F2 hi dn me xb br fi dr kp fx fv fs cw f1 f2 sl nu lw bro val sm ofm fe frs fsr fb fnw fw fu hs
    obtain ⟨v, t, hK⟩ := hKK i (by omega)
    have c3 := hK.2.2.2.1
    have hT := hK.1.2
    have c1 : ¬ nI N ≤ nI i := fun q => by have := (kn_le (by omega) (by omega)).mp q; omega
    rw [Lp_s, Lp_s, E_w_carryOut_l29.eq_def, E_v_orders_l140.eq_def, if_neg c1, if_neg c1, Lt_b, (head_at (j := 1) rfl (by omega) (by omega) (by omega) (by omega)).trans c3, show ((1001 - (0 : Int32).toInt : Int).toNat + 1) = 1001 - t + t + 1 by rw [show (0 : Int32).toInt = 0 from rfl]; omega, show ((21 - (0 : Int32).toInt : Int).toNat + 1) = 21 - t + t + 1 by rw [show (0 : Int32).toInt = 0 from rfl]; omega]
    refine co_in h0 hr0 hu0 hu1 hu3 huh hub hsb hsn h3 hus hnc (by omega) hN hK (Lp (α := KCo) (E_w_carryOut_l29 G (-1) (nI N) sus fh fc dr0 kp0 n lt nf fi0 hea ho f3 fl u0 u1 u2 u3 uh) zCo (F + (d + 1))) (Lp (α := KMo) (E_v_orders_l140 sta nu0 frm (nI N) nc' nl pi op fo fa fp fq fod fr to so wo fau bd fub fsb) zMo (F2 + (d + 1))) ?_ t 0 (1001 - t) (21 - t) (by omega) dn me xb br fi dr kp fx fv fs cw f1 f2 sl nu lw bro val sm ofm fe frs fsr fb fnw fw fu hs
    intro dn me xb br fi dr kp fx fv fs cw f1 f2 sl nu lw bro val sm ofm fe frs fsr fb fnw fw fu hs2
    obtain ⟨h, hr, hd, hm, hu, hf⟩ := hs2
    exact ih (i + 1) F F2 (by omega) dn me xb br fi dr kp fx fv fs cw f1 f2 sl nu lw bro val sm ofm fe frs fsr fb fnw fw fu ⟨h, hr, ⟨hd.1, by omega⟩, hm, hu, hf⟩
