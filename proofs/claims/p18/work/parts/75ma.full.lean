/-! who sounds; what beside is -/
theorem TW.sings {n lt nf fi : Int32} {f1 f2 fw : Nat → Int32} {fl : Nat → Option Nat} {G : Nat → LC} (h : TW n lt nf fi f1 f2 fl G fw) {k : Nat} (hk : k < 8) : E_w_sings (nI k) f1 f2 = E_v_isSounding (nI k) fw := by
  have t1 := h.1.1
  rw [E_w_sings.eq_def, Lt_b, h.fire hk, Lt_b, E_w_loud.eq_def, E_v_isSounding.eq_def, n_ladd (m := 11) rfl (by omega), Lt_b, Lt_b, Lt_b, Lt_b, Lt_b, Lt_b, Lt_b, Lt_b, Lt_b, Lt_b, kn_cl (by omega), show E_v_term 2 fw = fw 6 from rfl, show E_v_term 3 fw = fw 7 from rfl, show f2 (2 : Int32).toNatClampNeg = fw 6 from t1 2 (by omega), show f2 (3 : Int32).toNatClampNeg = fw 7 from t1 3 (by omega)]
  have w6 : (fw 6).toInt64.toInt = (fw 6).toInt := wide_at
  have w7 : (fw 7).toInt64.toInt = (fw 7).toInt := wide_at
  by_cases c : (fw 6).toInt ≤ (fw (11 + k)).toInt ∧ (fw (11 + k)).toInt ≤ (fw 7).toInt
  · rw [ifi_p (by rw [w6, w7]; exact c), if_neg (fun q => by have := il_iff.mp q; omega), if_neg (fun q => by have := il_iff.mp q; omega)]
  · rw [ifi_n (by rw [w6, w7]; exact c)]
    by_cases d : fw (11 + k) < fw 6
    · rw [if_pos d]; rfl
    · have d1 : ¬ (fw (11 + k)).toInt < (fw 6).toInt := fun q => d (il_iff.mpr q)
      rw [if_neg d, if_pos (il_iff.mpr (by omega))]; rfl
theorem bes_0 : ∀ p, p < 7 → ∀ q, q < 7 → (if (if 0 ≤ nI p - nI q then nI p - nI q else 0 - (nI p - nI q)) = 1 then (1 : Int32) else if (if 0 ≤ nI p - nI q then nI p - nI q else 0 - (nI p - nI q)) = 6 then 1 else 0) = (if (nI p - nI q + 7 - (nI p - nI q + 7) / 7 * 7) = 1 then 1 else if (nI p - nI q + 7 - (nI p - nI q + 7) / 7 * 7) = 6 then 1 else 0) := by decide +kernel
theorem TW.beside {n lt nf fi : Int32} {f1 f2 fw : Nat → Int32} {fl : Nat → Option Nat} {G : Nat → LC} (h : TW n lt nf fi f1 f2 fl G fw) {a b : Nat} (ha : a < 8) (hb : b < 8) : E_w_beside (nI a) (nI b) f1 = if fw (43 + a) = fw (43 + b) then E_v_areBeside (fw (35 + a)) (fw (35 + b)) else 0 := by
  rw [E_w_beside.eq_def, h.note ha, h.note hb, h.street ha, h.street hb, Lt_b, Lt_b, Lt_b, Lt_b, Lt_b, Lt_b]
  by_cases c : fw (43 + a) = fw (43 + b)
  · rw [if_pos c, if_pos c]
    have n1 := (h.2.2.2.2.1 a ha).1
    have n2 := (h.2.2.2.2.1 b hb).1
    obtain ⟨p, hp, p7⟩ : ∃ p : Nat, fw (35 + a) = nI p ∧ p < 7 := ⟨(fw (35 + a)).toInt.toNat, i_ofN rfl n1.1, by omega⟩
    obtain ⟨q, hq, q7⟩ : ∃ q : Nat, fw (35 + b) = nI q ∧ q < 7 := ⟨(fw (35 + b)).toInt.toNat, i_ofN rfl n2.1, by omega⟩
    rw [hp, hq]
    exact bes_0 p p7 q q7
  · rw [if_neg c, if_neg c]; rfl
theorem isS_01 {x : Int32} {fw : Nat → Int32} : E_v_isSounding x fw = 0 ∨ E_v_isSounding x fw = 1 := by
  rw [E_v_isSounding.eq_def]
  simp only [Lt]
  split
  · exact Or.inr rfl
  · exact Or.inl rfl
theorem TW.nN {n lt nf fi : Int32} {f1 f2 fw : Nat → Int32} {fl : Nat → Option Nat} {G : Nat → LC} (h : TW n lt nf fi f1 f2 fl G fw) : ∃ N : Nat, N ≤ 8 ∧ n = nI N ∧ fw 0 = nI N ∧ (N : Int) = n.toInt := by
  obtain ⟨h1, h2, h3⟩ := h.2.2.2.2.2.2.1
  have e := i_ofN (Eq.refl n.toInt) h2
  exact ⟨n.toInt.toNat, by omega, e, h1.symm.trans e, by omega⟩
theorem TW.notes {n lt nf fi : Int32} {f1 f2 fw : Nat → Int32} {fl : Nat → Option Nat} {G : Nat → LC} (h : TW n lt nf fi f1 f2 fl G fw) : E_w_notesNow n f1 f2 = E_v_soundingNotes fw := by
  obtain ⟨N, n8, e1, e2, _⟩ := h.nN
  have go : ∀ d a F acc, a + d = N → Lp (α := Int32 → Int32 → (Int32)) (E_w_notesNow_l4 n f1 f2) (fun _ _ => ((0) : Int32)) (F + d + 1) (nI a) acc = Lp (α := Int32 → Int32 → (Int32)) (E_v_soundingNotes_l4 fw) (fun _ _ => ((0) : Int32)) (F + d + 1) (nI a) acc := by
    intro d
    induction d with
    | zero =>
      intro a F acc ha
      have : a = N := by omega
      subst this
      have c1 : nI a ≤ nI a := (kn_le (by omega) (by omega)).mpr (Nat.le_refl _)
      rw [Lp_s, E_w_notesNow_l4.eq_def, e1, if_pos c1, Lp_s, E_v_soundingNotes_l4.eq_def, Lt_b, show fw (0 : Int32).toNatClampNeg = nI a from e2, if_pos c1]
    | succ d ih =>
      intro a F acc ha
      have c1 : ¬ nI N ≤ nI a := fun q => by have := (kn_le (by omega) (by omega)).mp q; omega
      have a8 : a < 8 := by omega
      have f0 : fw (0 : Int32).toNatClampNeg = nI N := e2
      have st1 : Lp (α := Int32 → Int32 → (Int32)) (E_w_notesNow_l4 n f1 f2) (fun _ _ => ((0) : Int32)) (F + d + 1 + 1) (nI a) acc = Lp (α := Int32 → Int32 → (Int32)) (E_w_notesNow_l4 n f1 f2) (fun _ _ => ((0) : Int32)) (F + d + 1) (nI (a + 1)) (if E_v_isSounding (nI a) fw = 0 then acc ||| 0 else acc ||| 1 <<< (fw (35 + a) &&& 31)) := by
        rw [Lp_s, E_w_notesNow_l4.eq_def, e1, if_neg c1, Lt_b, h.sings a8]
        by_cases s : E_v_isSounding (nI a) fw = 0
        · rw [if_pos s, if_pos s, Lt_b, Lt_b, kn_po (by omega)]
        · rw [if_neg s, if_neg s, Lt_b, h.note a8, Lt_b, Lt_b, Lt_b, kn_po (by omega)]
      have st2 : Lp (α := Int32 → Int32 → (Int32)) (E_v_soundingNotes_l4 fw) (fun _ _ => ((0) : Int32)) (F + d + 1 + 1) (nI a) acc = Lp (α := Int32 → Int32 → (Int32)) (E_v_soundingNotes_l4 fw) (fun _ _ => ((0) : Int32)) (F + d + 1) (nI (a + 1)) (if E_v_isSounding (nI a) fw = 0 then acc ||| 0 else acc ||| 1 <<< (fw (35 + a) &&& 31)) := by
        rw [Lp_s, E_v_soundingNotes_l4.eq_def, Lt_b, f0, if_neg c1, Lt_b]
        by_cases s : E_v_isSounding (nI a) fw = 0
        · rw [if_pos s, if_pos s, Lt_b, Lt_b, kn_po (by omega)]
        · rw [if_neg s, if_neg s, n_ladd (m := 35) rfl (by omega), Lt_b, Lt_b, Lt_b, Lt_b, Lt_b, kn_po (by omega), kn_cl (by omega)]
      rw [show F + (d + 1) + 1 = F + d + 1 + 1 by omega, st1, st2]
      exact ih (a + 1) F _ (by omega)
  have q := go N 0 (9 - N) 0 (by omega)
  rw [E_w_notesNow.eq_def, E_v_soundingNotes.eq_def, show ((9 - (0 : Int32).toInt : Int).toNat + 1) = 9 - N + N + 1 by rw [show (0 : Int32).toInt = 0 from rfl]; omega]
  exact q
theorem bit_met {s w : Int32} : (s &&& w = w) ↔ (w &&& (s ^^^ (-1)) = 0) := by
  have m : ∀ i : Nat, i < 32 → (-1 : Int32).toBitVec.getLsbD i = true := by decide
  constructor
  · intro h
    rw [← h]
    apply Int32.toBitVec_inj.mp
    apply BitVec.eq_of_getLsbD_eq
    intro i hi
    simp only [Int32.toBitVec_and, Int32.toBitVec_xor, BitVec.getLsbD_and, BitVec.getLsbD_xor, m i hi]
    show _ = (0 : Int32).toBitVec.getLsbD i
    rw [show (0 : Int32).toBitVec = 0#32 from rfl, BitVec.getLsbD_zero]
    cases s.toBitVec.getLsbD i <;> cases w.toBitVec.getLsbD i <;> rfl
  · intro h
    apply Int32.toBitVec_inj.mp
    apply BitVec.eq_of_getLsbD_eq
    intro i hi
    have q := congrArg (fun x : Int32 => x.toBitVec.getLsbD i) h
    simp only [Int32.toBitVec_and, Int32.toBitVec_xor, BitVec.getLsbD_and, BitVec.getLsbD_xor, m i hi] at q
    rw [show (0 : Int32).toBitVec = 0#32 from rfl, BitVec.getLsbD_zero] at q
    simp only [Int32.toBitVec_and, BitVec.getLsbD_and]
    revert q
    cases s.toBitVec.getLsbD i <;> cases w.toBitVec.getLsbD i <;> decide
theorem TW.met {n lt nf fi : Int32} {f1 f2 f3 fw : Nat → Int32} {fl : Nat → Option Nat} {G : Nat → LC} (h : TW n lt nf fi f1 f2 fl G fw) (h3 : ∀ j, j < 24 → f3 j = fw (67 + j)) : E_w_meetsChord n f1 f2 f3 = E_v_isMet fw := by
  obtain ⟨hr, r1, r2, r3⟩ := h.hour
  rw [E_w_meetsChord.eq_def, E_v_isMet.eq_def, show f2 (0 : Int32).toNatClampNeg = nI hr from r3, show E_v_term_0 fw = nI hr from r2, h.notes]
  simp only [Lt]
  rw [E_w_chordAt.eq_def, if_neg (kn_nl (by omega)), if_neg (kn_nlel (j := 24) rfl (by omega) (by omega)), Lt_b, n_ladd (m := 67) rfl (by omega), kn_cl (by omega), kn_cl (by omega), h3 hr (by omega)]
  by_cases c : E_v_soundingNotes fw &&& fw (67 + hr) = fw (67 + hr)
  · rw [if_pos c, if_pos (bit_met.mp c)]
  · rw [if_neg c, if_neg (fun q => c (bit_met.mpr q))]
/-! discords -/
noncomputable abbrev DCr : Type := Int32 → Int32 → Int32 → (Nat → Int32) → (Nat → Int32) → (Int32 × Int32 × (Nat → Int32) × (Nat → Int32))
noncomputable abbrev DRr : Type := Int32 → Int32 → Int32 → Int32 → Int64 → Int64 → (Nat → Int64) → (Nat → Int64) → (Int32 × Int32 × Int32 × Int64 × Int64 × (Nat → Int64) × (Nat → Int64))
theorem KWo.facing {cw fw : Nat → Int32} {h : Nat} {o p : Int32} (k : KWo cw fw h o) : KWo (E_w_facing p cw) fw h p := by
  obtain ⟨c0, c1, c2, c3, c4, c5, c6, c7, c8⟩ := k
  rw [E_w_facing.eq_def, Lt_b, show (8 : Int32).toNatClampNeg = 8 from rfl]
  refine ⟨?_, ?_, ?_, ?_, ?_, ?_, ?_, ?_, upd_s⟩ <;> rw [upd_n (by omega)] <;> assumption
theorem disc_in {n lt nf fi : Int32} {f1 f2 fw : Nat → Int32} {fl : Nat → Option Nat} {G : Nat → LC} (h : TW n lt nf fi f1 f2 fl G fw) {N a : Nat} (hN : N ≤ 8) (e1 : n = nI N) (e2 : fw 0 = nI N) (z1 rc1 : DCr) (z2 rc2 : DRr) : ∀ (d b F F2 : Nat), b + d = N → a < b → ∀ (acc : Int32) (A : Nat) (br : Int32) (fs cw : Nat → Int32) (lw bro : Int32) (val sm : Int64) (fe frs : Nat → Int64), 0 ≤ acc.toInt ∧ acc.toInt ≤ A ∧ A + 999 * d ≤ 1000000 → ∃ (acc' br' : Int32) (fs' cw' : Nat → Int32) (lw' bro' : Int32) (val' sm' : Int64) (fe' frs' : Nat → Int64), (0 ≤ acc'.toInt ∧ acc'.toInt ≤ (A + 999 * d : Nat)) ∧ Lp (E_w_discords_l17 G n lt nf f1 f2 fl (nI a) rc1) z1 (F + d + 1) (nI b) acc br fs cw = rc1 (nI (a + 1)) acc' br' fs' cw' ∧ Lp (E_v_discords_l18 fw (nI a) rc2) z2 (F2 + d + 1) (nI b) acc lw bro val sm fe frs = rc2 (nI (a + 1)) acc' lw' bro' val' sm' fe' frs' := by
  intro d
  induction d with
  | zero =>
    intro b F F2 hb hab acc A br fs cw lw bro val sm fe frs hA
    have : b = N := by omega
    subst this
    refine ⟨acc, br, fs, cw, lw, bro, val, sm, fe, frs, ⟨hA.1, by omega⟩, ?_, ?_⟩
    · rw [Lp_s, E_w_discords_l17.eq_def, e1, if_pos ((kn_le (by omega) (by omega)).mpr (Nat.le_refl _)), Lt_b, kn_po (by omega)]
    · rw [Lp_s, E_v_discords_l18.eq_def, Lt_b, show fw (0 : Int32).toNatClampNeg = nI b from e2, if_pos ((kn_le (by omega) (by omega)).mpr (Nat.le_refl _)), Lt_b, kn_po (by omega)]
  | succ d ih =>
    intro b F F2 hb hab acc A br fs cw lw bro val sm fe frs hA
    have a8 : a < 8 := by omega
    have b8 : b < 8 := by omega
    have c1 : ¬ n ≤ nI b := fun q => by rw [e1] at q; have := (kn_le (by omega) (by omega)).mp q; omega
    have c2 : ¬ fw (0 : Int32).toNatClampNeg ≤ nI b := fun q => by rw [show fw (0 : Int32).toNatClampNeg = nI N from e2] at q; have := (kn_le (by omega) (by omega)).mp q; omega
    have skip : ∀ (acc : Int32) (A : Nat) (br : Int32) (fs cw : Nat → Int32) (lw bro : Int32) (val sm : Int64) (fe frs : Nat → Int64), 0 ≤ acc.toInt ∧ acc.toInt ≤ A ∧ A + 999 * d ≤ 1000000 → ∃ (acc' br' : Int32) (fs' cw' : Nat → Int32) (lw' bro' : Int32) (val' sm' : Int64) (fe' frs' : Nat → Int64), (0 ≤ acc'.toInt ∧ acc'.toInt ≤ (A + 999 * d : Nat)) ∧ E_w_discords_j98 (nI b) (Lp (E_w_discords_l17 G n lt nf f1 f2 fl (nI a) rc1) z1 (F + (d + 1))) acc br fs cw = rc1 (nI (a + 1)) acc' br' fs' cw' ∧ E_v_discords_j121 (nI b) (Lp (E_v_discords_l18 fw (nI a) rc2) z2 (F2 + (d + 1))) acc lw bro val sm fe frs = rc2 (nI (a + 1)) acc' lw' bro' val' sm' fe' frs' := by
      intro acc A br fs cw lw bro val sm fe frs hA
      rw [E_w_discords_j98.eq_def, E_v_discords_j121.eq_def, Lt_b, Lt_b, kn_po (by omega)]
      exact ih (b + 1) F F2 (by omega) (by omega) acc A br fs cw lw bro val sm fe frs hA
    obtain ⟨p, ep⟩ : ∃ p, p = Lp (E_w_discords_l17 G n lt nf f1 f2 fl (nI a) rc1) z1 (F + (d + 1) + 1) (nI b) acc br fs cw := ⟨_, rfl⟩
    obtain ⟨r, er⟩ : ∃ r, r = Lp (E_v_discords_l18 fw (nI a) rc2) z2 (F2 + (d + 1) + 1) (nI b) acc lw bro val sm fe frs := ⟨_, rfl⟩
    rw [← ep, ← er]
    rw [Lp_s, E_w_discords_l17.eq_def, if_neg c1, Lt_b, h.sings a8, h.sings b8, h.beside a8 b8] at ep
    rw [Lp_s, E_v_discords_l18.eq_def, Lt_b, if_neg c2, Lt_b] at er
    have out : ∀ {A' : Nat}, (∃ (acc' br' : Int32) (fs' cw' : Nat → Int32) (lw' bro' : Int32) (val' sm' : Int64) (fe' frs' : Nat → Int64), (0 ≤ acc'.toInt ∧ acc'.toInt ≤ (A' + 999 * d : Nat)) ∧ p = rc1 (nI (a + 1)) acc' br' fs' cw' ∧ r = rc2 (nI (a + 1)) acc' lw' bro' val' sm' fe' frs') → A' ≤ A + 999 → ∃ (acc' br' : Int32) (fs' cw' : Nat → Int32) (lw' bro' : Int32) (val' sm' : Int64) (fe' frs' : Nat → Int64), (0 ≤ acc'.toInt ∧ acc'.toInt ≤ (A + 999 * (d + 1) : Nat)) ∧ p = rc1 (nI (a + 1)) acc' br' fs' cw' ∧ r = rc2 (nI (a + 1)) acc' lw' bro' val' sm' fe' frs' := by
      intro A' ⟨x1, x2, x3, x4, x5, x6, x7, x8, x9, x10, x11, x12⟩ hA'
      exact ⟨x1, x2, x3, x4, x5, x6, x7, x8, x9, x10, ⟨x11.1, by omega⟩, x12⟩
    have sk := skip acc A br fs cw lw bro val sm fe frs ⟨hA.1, hA.2.1, by omega⟩
    by_cases s1 : E_v_isSounding (nI a) fw = 0
    · rw [if_pos s1] at ep er
      rw [← ep, ← er] at sk
      exact out sk (by omega)
    rw [if_neg s1, Lt_b] at ep er
    by_cases s2 : E_v_isSounding (nI b) fw = 0
    · rw [if_pos s2] at ep er
      rw [← ep, ← er] at sk
      exact out sk (by omega)
    rw [if_neg s2, Lt_b] at ep er
    rw [n_ladd (m := 43) rfl (by omega), n_ladd (m := 43) rfl (by omega), Lt_b, Lt_b, Lt_b, kn_cl (by omega), kn_cl (by omega)] at er
    by_cases s3 : fw (43 + a) = fw (43 + b)
    case neg =>
      rw [if_neg s3, if_pos rfl] at ep
      rw [if_neg s3] at er
      rw [← ep, ← er] at sk
      exact out sk (by omega)
    rw [if_pos s3] at ep er
    rw [n_ladd (m := 35) rfl (by omega), n_ladd (m := 35) rfl (by omega), Lt_b, Lt_b, Lt_b, Lt_b, Lt_b, kn_cl (by omega), kn_cl (by omega)] at er
    by_cases s4 : E_v_areBeside (fw (35 + a)) (fw (35 + b)) = 0
    · rw [if_pos s4] at ep er
      rw [← ep, ← er] at sk
      exact out sk (by omega)
    rw [if_neg s4, Lt_b, Lt_b, Lt_b, Lt_b, Lt_b, h.fire a8, h.note b8] at ep
    rw [if_neg s4, Lt_b, Lt_b, Lt_b, show fw (3 : Int32).toNatClampNeg = fw 3 from rfl, kn_cl (by omega)] at er
    have hw := (h.words (cw := cw) a8).facing (p := fw (35 + b))
    have hob := (h.2.2.2.2.1 b b8).1
    have e3 : nf = fw 3 := h.2.2.1
    obtain ⟨R, hR, hR2⟩ := RV_ex (w := 2) (by omega) nf a (fw (35 + b)) 1 fw
    have m9 : (aF 3 2).toInt = 999 := by decide
    obtain ⟨br1, fs1, ep⟩ := ask_k (w := 2) (h.askn a8 ⟨by omega, hob.2⟩) (by omega) (show (1 : Int64).toInt = (aF 2 2).toInt from by decide) hw hR ep (fun _ => rfl)
    obtain ⟨t, lw', bro', val', sm', fe', frs', q1, _, q2⟩ := ask_v (w := 2) (h.ask a8 (o := fw (35 + b)) ⟨by omega, hob.2⟩).1 a8 (by omega) (show (1 : Int64).toInt = (aF 2 2).toInt from by decide) h.2.2.2.2.2.1 (h.bw a8 ⟨by omega, hob.2⟩) lw bro val sm fe frs
    have q1' : E_v_tells (fw 3) 2 (nI a) (fw (35 + b)) 1 lw bro val sm fw fe frs = (t, lw', bro', val', sm', fe', frs') := q1
    rw [q1', Lt2_b, Lt2_b, Lt2_b, Lt2_b, Lt2_b, Lt2_b, Lt_b, Lt_b] at er
    have e9 : E_v_within_999 t = R := Int32.toInt_inj.mp (by rw [wi999, hR, e3, ← q2, m9])
    dsimp only at er
    rw [e9] at er
    rw [Lt_b] at ep
    have sum := i_add (Eq.refl acc.toInt) (Eq.refl R.toInt) (by omega)
    have sk2 := skip (acc + R) (A + 999) br1 fs1 (E_w_facing (fw (35 + b)) (E_w_face (nI a) (fw (11 + a)) 0 cw f1 f2)) lw' bro' val' sm' fe' frs' (by omega)
    rw [← ep, ← er] at sk2
    exact out sk2 (Nat.le_refl _)
theorem disc_out {n lt nf fi : Int32} {f1 f2 fw : Nat → Int32} {fl : Nat → Option Nat} {G : Nat → LC} (h : TW n lt nf fi f1 f2 fl G fw) {N : Nat} (hN : N ≤ 8) (e1 : n = nI N) (e2 : fw 0 = nI N) (z1 : DCr) (z2 : DRr) : ∀ (d a F F2 : Nat), a + d = N → ∀ (acc : Int32) (A : Nat) (br : Int32) (fs cw : Nat → Int32) (lw bro : Int32) (val sm : Int64) (fe frs : Nat → Int64), 0 ≤ acc.toInt ∧ acc.toInt ≤ A ∧ A + 8000 * d ≤ 900000 → ∃ (acc' br' : Int32) (fs' cw' : Nat → Int32) (lw' bro' : Int32) (val' sm' : Int64) (fe' frs' : Nat → Int64), (0 ≤ acc'.toInt ∧ acc'.toInt ≤ (A + 8000 * d : Nat)) ∧ Lp (E_w_discords_l4 G n lt nf f1 f2 fl) z1 (F + d + 1) (nI a) acc br fs cw = (acc', br', fs', cw') ∧ Lp (E_v_discords_l4 fw) z2 (F2 + d + 1) (nI a) acc lw bro val sm fe frs = (acc', lw', bro', val', sm', fe', frs') := by
  intro d
  induction d with
  | zero =>
    intro a F F2 ha acc A br fs cw lw bro val sm fe frs hA
    have : a = N := by omega
    subst this
    refine ⟨acc, br, fs, cw, lw, bro, val, sm, fe, frs, ⟨hA.1, by omega⟩, ?_, ?_⟩
    · rw [Lp_s, E_w_discords_l4.eq_def, e1, if_pos ((kn_le (by omega) (by omega)).mpr (Nat.le_refl _))]
    · rw [Lp_s, E_v_discords_l4.eq_def, Lt_b, show fw (0 : Int32).toNatClampNeg = nI a from e2, if_pos ((kn_le (by omega) (by omega)).mpr (Nat.le_refl _))]
  | succ d ih =>
    intro a F F2 ha acc A br fs cw lw bro val sm fe frs hA
    have c1 : ¬ n ≤ nI a := fun q => by rw [e1] at q; have := (kn_le (by omega) (by omega)).mp q; omega
    have c2 : ¬ fw (0 : Int32).toNatClampNeg ≤ nI a := fun q => by rw [show fw (0 : Int32).toNatClampNeg = nI N from e2] at q; have := (kn_le (by omega) (by omega)).mp q; omega
    rw [Lp_s, Lp_s, E_w_discords_l4.eq_def, E_v_discords_l4.eq_def, if_neg c1, Lt_b, Lt_b, if_neg c2, Lt_b, kn_p1 (by omega), show (9 - (nI (a + 1)).toInt : Int).toNat + 1 = 9 - N + d + 1 by rw [nI_toInt (by omega)]; omega]
    obtain ⟨x1, x2, x3, x4, x5, x6, x7, x8, x9, x10, x11, x12, x13⟩ := disc_in h hN e1 e2 (a := a) (fun _ _ _ _ _ => ((0, 0, fun _ => 0, fun _ => 0) : Int32 × Int32 × (Nat → Int32) × (Nat → Int32))) (Lp (E_w_discords_l4 G n lt nf f1 f2 fl) z1 (F + (d + 1))) (fun _ _ _ _ _ _ _ _ => ((0, 0, 0, 0, 0, fun _ => 0, fun _ => 0) : Int32 × Int32 × Int32 × Int64 × Int64 × (Nat → Int64) × (Nat → Int64))) (Lp (E_v_discords_l4 fw) z2 (F2 + (d + 1))) d (a + 1) (9 - N) (9 - N) (by omega) (by omega) acc A br fs cw lw bro val sm fe frs ⟨hA.1, hA.2.1, by omega⟩
    rw [x12, x13]
    obtain ⟨y1, y2, y3, y4, y5, y6, y7, y8, y9, y10, y11, y12⟩ := ih (a + 1) F F2 (by omega) x1 (A + 999 * d) x2 x3 x4 x5 x6 x7 x8 x9 x10 ⟨x11.1, x11.2, by omega⟩
    exact ⟨y1, y2, y3, y4, y5, y6, y7, y8, y9, y10, ⟨y11.1, by omega⟩, y12⟩
/-- DISCORDS, both sides -/
theorem disc_at {n lt nf fi : Int32} {f1 f2 f3 fw : Nat → Int32} {fl : Nat → Option Nat} {G : Nat → LC} (h : TW n lt nf fi f1 f2 fl G fw) (br fi' : Int32) (fs cw : Nat → Int32) (lw bro : Int32) (val sm : Int64) (fe frs : Nat → Int64) : ∃ (v br' : Int32) (fs' cw' : Nat → Int32) (lw' bro' : Int32) (val' sm' : Int64) (fe' frs' : Nat → Int64), (0 ≤ v.toInt ∧ v.toInt ≤ 100000) ∧ E_w_discords G br fs cw n lt nf fi' f1 f2 f3 fl = (v, br', fs', cw') ∧ E_v_discords lw bro val sm fw fe frs = (v, lw', bro', val', sm', fe', frs') := by
  obtain ⟨N, n8, e1, e2, _⟩ := h.nN
  obtain ⟨y1, y2, y3, y4, y5, y6, y7, y8, y9, y10, y11, y12, y13⟩ := disc_out h n8 e1 e2 (fun _ _ _ _ _ => ((0, 0, fun _ => 0, fun _ => 0) : Int32 × Int32 × (Nat → Int32) × (Nat → Int32))) (fun _ _ _ _ _ _ _ _ => ((0, 0, 0, 0, 0, fun _ => 0, fun _ => 0) : Int32 × Int32 × Int32 × Int64 × Int64 × (Nat → Int64) × (Nat → Int64))) N 0 (9 - N) (9 - N) (by omega) 0 0 br fs cw lw bro val sm fe frs ⟨by decide, by decide, by omega⟩
  have fu : ((9 - (0 : Int32).toInt : Int).toNat + 1) = 9 - N + N + 1 := by rw [show (0 : Int32).toInt = 0 from rfl]; omega
  refine ⟨y1, y2, y3, y4, y5, y6, y7, y8, y9, y10, ⟨y11.1, by omega⟩, ?_, ?_⟩
  · rw [E_w_discords.eq_def, fu]; exact y12
  · rw [E_v_discords.eq_def, fu]; exact y13
