/-! who sounds; what beside is -/
theorem TW.sings {n lt nf fi : Int32} {f1 f2 fw : Nat → Int32} {fl : Nat → Option Nat} {G : Nat → LC} (h : TW n lt nf fi f1 f2 fl G fw) {k : Nat} (hk : k < 8) : E_w_sings (nI k) f1 f2 = E_v_isSounding (nI k) fw := by
  have t1 := h.1.1
  rw [E_w_sings.eq_def, Lt_b, h.fire hk, Lt_b, E_w_loud.eq_def, E_v_isSounding.eq_def, n_ladd (m := 11) rfl (by omega), Lt_b, Lt_b, Lt_b, Lt_b, Lt_b, Lt_b, Lt_b, Lt_b, Lt_b, Lt_b, kn_cl (by omega), show E_v_term 2 fw = fw 6 from rfl, show E_v_term 3 fw = fw 7 from rfl, show f2 (2 : Int32).toNatClampNeg = fw 6 from t1 2 (by omega), show f2 (3 : Int32).toNatClampNeg = fw 7 from t1 3 (by omega)]
  have w6 : (fw 6).toInt64.toInt = (fw 6).toInt := wide_at
  have w7 : (fw 7).toInt64.toInt = (fw 7).toInt := wide_at
  by_cases c : (fw 6).toInt ≤ (fw (11 + k)).toInt ∧ (fw (11 + k)).toInt ≤ (fw 7).toInt
  · rw [ifi_p (by rw [w6, w7]; exact c), if_neg (fun q => by have := il_iff.mp q; omega), if_neg (fun q => by have := il_iff.mp q; omega)]
  · rw [ifi_n (by rw [w6, w7]; exact c)]
    by_cases d : fw (11 + k) < fw 6
    · rw [if_pos d]; rfl
    · have d1 : ¬ (fw (11 + k)).toInt < (fw 6).toInt := fun q => d (il_iff.mpr q)
      rw [if_neg d, if_pos (il_iff.mpr (by omega))]; rfl
theorem bes_0 : ∀ p, p < 7 → ∀ q, q < 7 → (if (if 0 ≤ nI p - nI q then nI p - nI q else 0 - (nI p - nI q)) = 1 then (1 : Int32) else if (if 0 ≤ nI p - nI q then nI p - nI q else 0 - (nI p - nI q)) = 6 then 1 else 0) = (if (nI p - nI q + 7 - (nI p - nI q + 7) / 7 * 7) = 1 then 1 else if (nI p - nI q + 7 - (nI p - nI q + 7) / 7 * 7) = 6 then 1 else 0) := by decide +kernel
theorem TW.beside {n lt nf fi : Int32} {f1 f2 fw : Nat → Int32} {fl : Nat → Option Nat} {G : Nat → LC} (h : TW n lt nf fi f1 f2 fl G fw) {a b : Nat} (ha : a < 8) (hb : b < 8) : E_w_beside (nI a) (nI b) f1 = if fw (43 + a) = fw (43 + b) then E_v_areBeside (fw (35 + a)) (fw (35 + b)) else 0 := by
  rw [E_w_beside.eq_def, h.note ha, h.note hb, h.street ha, h.street hb, Lt_b, Lt_b, Lt_b, Lt_b, Lt_b, Lt_b]
  by_cases c : fw (43 + a) = fw (43 + b)
  · rw [if_pos c, if_pos c]
    have n1 := (h.2.2.2.2.1 a ha).1
    have n2 := (h.2.2.2.2.1 b hb).1
    obtain ⟨p, hp, p7⟩ : ∃ p : Nat, fw (35 + a) = nI p ∧ p < 7 := ⟨(fw (35 + a)).toInt.toNat, i_ofN rfl n1.1, by omega⟩
    obtain ⟨q, hq, q7⟩ : ∃ q : Nat, fw (35 + b) = nI q ∧ q < 7 := ⟨(fw (35 + b)).toInt.toNat, i_ofN rfl n2.1, by omega⟩
    rw [hp, hq]
    exact bes_0 p p7 q q7
  · rw [if_neg c, if_neg c]; rfl
theorem isS_01 {x : Int32} {fw : Nat → Int32} : E_v_isSounding x fw = 0 ∨ E_v_isSounding x fw = 1 := by
  rw [E_v_isSounding.eq_def]
  simp only [Lt]
  split
  · exact Or.inr rfl
  · exact Or.inl rfl
theorem TW.nN {n lt nf fi : Int32} {f1 f2 fw : Nat → Int32} {fl : Nat → Option Nat} {G : Nat → LC} (h : TW n lt nf fi f1 f2 fl G fw) : ∃ N : Nat, N ≤ 8 ∧ n = nI N ∧ fw 0 = nI N ∧ (N : Int) = n.toInt := by
  obtain ⟨h1, h2, h3⟩ := h.2.2.2.2.2.2.1
  have e := i_ofN (Eq.refl n.toInt) h2
  exact ⟨n.toInt.toNat, by omega, e, h1.symm.trans e, by omega⟩
theorem TW.notes {n lt nf fi : Int32} {f1 f2 fw : Nat → Int32} {fl : Nat → Option Nat} {G : Nat → LC} (h : TW n lt nf fi f1 f2 fl G fw) : E_w_notesNow n f1 f2 = E_v_soundingNotes fw := by
  obtain ⟨N, n8, e1, e2, _⟩ := h.nN
  have go : ∀ d a F acc, a + d = N → Lp (α := Int32 → Int32 → (Int32)) (E_w_notesNow_l4 n f1 f2) (fun _ _ => ((0) : Int32)) (F + d + 1) (nI a) acc = Lp (α := Int32 → Int32 → (Int32)) (E_v_soundingNotes_l4 fw) (fun _ _ => ((0) : Int32)) (F + d + 1) (nI a) acc := by
    intro d
    induction d with
    | zero =>
      intro a F acc ha
      have : a = N := by omega
      subst this
      have c1 : nI a ≤ nI a := (kn_le (by omega) (by omega)).mpr (Nat.le_refl _)
      rw [Lp_s, E_w_notesNow_l4.eq_def, e1, if_pos c1, Lp_s, E_v_soundingNotes_l4.eq_def, Lt_b, show fw (0 : Int32).toNatClampNeg = nI a from e2, if_pos c1]
    | succ d ih =>
      intro a F acc ha
      have c1 : ¬ nI N ≤ nI a := fun q => by have := (kn_le (by omega) (by omega)).mp q; omega
      have a8 : a < 8 := by omega
      have f0 : fw (0 : Int32).toNatClampNeg = nI N := e2
      have st1 : Lp (α := Int32 → Int32 → (Int32)) (E_w_notesNow_l4 n f1 f2) (fun _ _ => ((0) : Int32)) (F + d + 1 + 1) (nI a) acc = Lp (α := Int32 → Int32 → (Int32)) (E_w_notesNow_l4 n f1 f2) (fun _ _ => ((0) : Int32)) (F + d + 1) (nI (a + 1)) (if E_v_isSounding (nI a) fw = 0 then acc ||| 0 else acc ||| 1 <<< (fw (35 + a) &&& 31)) := by
        rw [Lp_s, E_w_notesNow_l4.eq_def, e1, if_neg c1, Lt_b, h.sings a8]
        by_cases s : E_v_isSounding (nI a) fw = 0
        · rw [if_pos s, if_pos s, Lt_b, Lt_b, kn_po (by omega)]
        · rw [if_neg s, if_neg s, Lt_b, h.note a8, Lt_b, Lt_b, Lt_b, kn_po (by omega)]
      have st2 : Lp (α := Int32 → Int32 → (Int32)) (E_v_soundingNotes_l4 fw) (fun _ _ => ((0) : Int32)) (F + d + 1 + 1) (nI a) acc = Lp (α := Int32 → Int32 → (Int32)) (E_v_soundingNotes_l4 fw) (fun _ _ => ((0) : Int32)) (F + d + 1) (nI (a + 1)) (if E_v_isSounding (nI a) fw = 0 then acc ||| 0 else acc ||| 1 <<< (fw (35 + a) &&& 31)) := by
        rw [Lp_s, E_v_soundingNotes_l4.eq_def, Lt_b, f0, if_neg c1, Lt_b]
        by_cases s : E_v_isSounding (nI a) fw = 0
        · rw [if_pos s, if_pos s, Lt_b, Lt_b, kn_po (by omega)]
        · rw [if_neg s, if_neg s, n_ladd (m := 35) rfl (by omega), Lt_b, Lt_b, Lt_b, Lt_b, Lt_b, kn_po (by omega), kn_cl (by omega)]
      rw [show F + (d + 1) + 1 = F + d + 1 + 1 by omega, st1, st2]
      exact ih (a + 1) F _ (by omega)
  have q := go N 0 (9 - N) 0 (by omega)
  rw [E_w_notesNow.eq_def, E_v_soundingNotes.eq_def, show ((9 - (0 : Int32).toInt : Int).toNat + 1) = 9 - N + N + 1 by rw [show (0 : Int32).toInt = 0 from rfl]; omega]
  exact q
theorem bit_met {s w : Int32} : (s &&& w = w) ↔ (w &&& (s ^^^ (-1)) = 0) := by
  have m : ∀ i : Nat, i < 32 → (-1 : Int32).toBitVec.getLsbD i = true := by decide
  constructor
  · intro h
    rw [← h]
    apply Int32.toBitVec_inj.mp
    apply BitVec.eq_of_getLsbD_eq
    intro i hi
    simp only [Int32.toBitVec_and, Int32.toBitVec_xor, BitVec.getLsbD_and, BitVec.getLsbD_xor, m i hi]
    show _ = (0 : Int32).toBitVec.getLsbD i
    rw [show (0 : Int32).toBitVec = 0#32 from rfl, BitVec.getLsbD_zero]
    cases s.toBitVec.getLsbD i <;> cases w.toBitVec.getLsbD i <;> rfl
  · intro h
    apply Int32.toBitVec_inj.mp
    apply BitVec.eq_of_getLsbD_eq
    intro i hi
    have q := congrArg (fun x : Int32 => x.toBitVec.getLsbD i) h
    simp only [Int32.toBitVec_and, Int32.toBitVec_xor, BitVec.getLsbD_and, BitVec.getLsbD_xor, m i hi] at q
    rw [show (0 : Int32).toBitVec = 0#32 from rfl, BitVec.getLsbD_zero] at q
    simp only [Int32.toBitVec_and, BitVec.getLsbD_and]
    revert q
    cases s.toBitVec.getLsbD i <;> cases w.toBitVec.getLsbD i <;> decide
theorem TW.met {n lt nf fi : Int32} {f1 f2 f3 fw : Nat → Int32} {fl : Nat → Option Nat} {G : Nat → LC} (h : TW n lt nf fi f1 f2 fl G fw) (h3 : ∀ j, j < 24 → f3 j = fw (67 + j)) : E_w_meetsChord n f1 f2 f3 = E_v_isMet fw := by
  obtain ⟨hr, r1, r2, r3⟩ := h.hour
  rw [E_w_meetsChord.eq_def, E_v_isMet.eq_def, show f2 (0 : Int32).toNatClampNeg = nI hr from r3, show E_v_term_0 fw = nI hr from r2, h.notes]
  simp only [Lt]
  rw [E_w_chordAt.eq_def, if_neg (kn_nl (by omega)), if_neg (kn_nlel (j := 24) rfl (by omega) (by omega)), Lt_b, n_ladd (m := 67) rfl (by omega), kn_cl (by omega), kn_cl (by omega), h3 hr (by omega)]
  by_cases c : E_v_soundingNotes fw &&& fw (67 + hr) = fw (67 + hr)
  · rw [if_pos c, if_pos (bit_met.mp c)]
  · rw [if_neg c, if_neg (fun q => c (bit_met.mpr q))]
/-! discords -/
noncomputable abbrev DCr : Type := Int32 → Int32 → Int32 → (Nat → Int32) → (Nat → Int32) → (Int32 × Int32 × (Nat → Int32) × (Nat → Int32))
noncomputable abbrev DRr : Type := Int32 → Int32 → Int32 → Int32 → Int64 → Int64 → (Nat → Int64) → (Nat → Int64) → (Int32 × Int32 × Int32 × Int64 × Int64 × (Nat → Int64) × (Nat → Int64))
theorem KWo.facing {cw fw : Nat → Int32} {h : Nat} {o p : Int32} (k : KWo cw fw h o) : KWo (E_w_facing p cw) fw h p := by
  obtain ⟨c0, c1, c2, c3, c4, c5, c6, c7, c8⟩ := k
  rw [E_w_facing.eq_def, Lt_b, show (8 : Int32).toNatClampNeg = 8 from rfl]
  refine ⟨?_, ?_, ?_, ?_, ?_, ?_, ?_, ?_, upd_s⟩ <;> rw [upd_n (by omega)] <;> assumption
theorem disc_in {n lt nf fi : Int32} {f1 f2 fw : Nat → Int32} {fl : Nat → Option Nat} {G : Nat → LC} (h : TW n lt nf fi f1 f2 fl G fw) {N a : Nat} (hN : N ≤ 8) (e1 : n = nI N) (e2 : fw 0 = nI N) (z1 rc1 : DCr) (z2 rc2 : DRr) : ∀ (d b F F2 : Nat), b + d = N → a < b → ∀ (acc : Int32) (A : Nat) (br : Int32) (fs cw : Nat → Int32) (lw bro : Int32) (val sm : Int64) (fe frs : Nat → Int64), 0 ≤ acc.toInt ∧ acc.toInt ≤ A ∧ A + 999 * d ≤ 1000000 → ∃ (acc' br' : Int32) (fs' cw' : Nat → Int32) (lw' bro' : Int32) (val' sm' : Int64) (fe' frs' : Nat → Int64), (0 ≤ acc'.toInt ∧ acc'.toInt ≤ (A + 999 * d : Nat)) ∧ Lp (E_w_discords_l17 G n lt nf f1 f2 fl (nI a) rc1) z1 (F + d + 1) (nI b) acc br fs cw = rc1 (nI (a + 1)) acc' br' fs' cw' ∧ Lp (E_v_discords_l18 fw (nI a) rc2) z2 (F2 + d + 1) (nI b) acc lw bro val sm fe frs = rc2 (nI (a + 1)) acc' lw' bro' val' sm' fe' frs' := by
  intro d
  induction d with
  | zero =>
    intro b F F2 hb hab acc A br fs cw lw bro val sm fe frs hA
    have : b = N := by omega
    subst this
    refine ⟨acc, br, fs, cw, lw, bro, val, sm, fe, frs, ⟨hA.1, by omega⟩, ?_, ?_⟩
    · rw [Lp_s, E_w_discords_l17.eq_def, e1, if_pos ((kn_le (by omega) (by omega)).mpr (Nat.le_refl _)), Lt_b, kn_po (by omega)]
    · rw [Lp_s, E_v_discords_l18.eq_def, Lt_b, show fw (0 : Int32).toNatClampNeg = nI b from e2, if_pos ((kn_le (by omega) (by omega)).mpr (Nat.le_refl _)), Lt_b, kn_po (by omega)]
  | succ d ih =>
    intro b F F2 hb hab acc A br fs cw lw bro val sm fe frs hA
    have a8 : a < 8 := by omega
    have b8 : b < 8 := by omega
    have c1 : ¬ n ≤ nI b := fun q => by rw [e1] at q; have := (kn_le (by omega) (by omega)).mp q; omega
    have c2 : ¬ fw (0 : Int32).toNatClampNeg ≤ nI b := fun q => by rw [show fw (0 : Int32).toNatClampNeg = nI N from e2] at q; have := (kn_le (by omega) (by omega)).mp q; omega
    have skip : ∀ (acc : Int32) (A : Nat) (br : Int32) (fs cw : Nat → Int32) (lw bro : Int32) (val sm : Int64) (fe frs : Nat → Int64), 0 ≤ acc.toInt ∧ acc.toInt ≤ A ∧ A + 999 * d ≤ 1000000 → ∃ (acc' br' : Int32) (fs' cw' : Nat → Int32) (lw' bro' : Int32) (val' sm' : Int64) (fe' frs' : Nat → Int64), (0 ≤ acc'.toInt ∧ acc'.toInt ≤ (A + 999 * d : Nat)) ∧ E_w_discords_j98 (nI b) (Lp (E_w_discords_l17 G n lt nf f1 f2 fl (nI a) rc1) z1 (F + (d + 1))) acc br fs cw = rc1 (nI (a + 1)) acc' br' fs' cw' ∧ E_v_discords_j121 (nI b) (Lp (E_v_discords_l18 fw (nI a) rc2) z2 (F2 + (d + 1))) acc lw bro val sm fe frs = rc2 (nI (a + 1)) acc' lw' bro' val' sm' fe' frs' := by
      intro acc A br fs cw lw bro val sm fe frs hA
      rw [E_w_discords_j98.eq_def, E_v_discords_j121.eq_def, Lt_b, Lt_b, kn_po (by omega)]
      exact ih (b + 1) F F2 (by omega) (by omega) acc A br fs cw lw bro val sm fe frs hA
    obtain ⟨p, ep⟩ : ∃ p, p = Lp (E_w_discords_l17 G n lt nf f1 f2 fl (nI a) rc1) z1 (F + (d + 1) + 1) (nI b) acc br fs cw := ⟨_, rfl⟩
    obtain ⟨r, er⟩ : ∃ r, r = Lp (E_v_discords_l18 fw (nI a) rc2) z2 (F2 + (d + 1) + 1) (nI b) acc lw bro val sm fe frs := ⟨_, rfl⟩
    rw [← ep, ← er]
    rw [Lp_s, E_w_discords_l17.eq_def, if_neg c1, Lt_b, h.sings a8, h.sings b8, h.beside a8 b8] at ep
    rw [Lp_s, E_v_discords_l18.eq_def, Lt_b, if_neg c2, Lt_b] at er
    have out : ∀ {A' : Nat}, (∃ (acc' br' : Int32) (fs' cw' : Nat → Int32) (lw' bro' : Int32) (val' sm' : Int64) (fe' frs' : Nat → Int64), (0 ≤ acc'.toInt ∧ acc'.toInt ≤ (A' + 999 * d : Nat)) ∧ p = rc1 (nI (a + 1)) acc' br' fs' cw' ∧ r = rc2 (nI (a + 1)) acc' lw' bro' val' sm' fe' frs') → A' ≤ A + 999 → ∃ (acc' br' : Int32) (fs' cw' : Nat → Int32) (lw' bro' : Int32) (val' sm' : Int64) (fe' frs' : Nat → Int64), (0 ≤ acc'.toInt ∧ acc'.toInt ≤ (A + 999 * (d + 1) : Nat)) ∧ p = rc1 (nI (a + 1)) acc' br' fs' cw' ∧ r = rc2 (nI (a + 1)) acc' lw' bro' val' sm' fe' frs' := by
      intro A' ⟨x1, x2, x3, x4, x5, x6, x7, x8, x9, x10, x11, x12⟩ hA'
      exact ⟨x1, x2, x3, x4, x5, x6, x7, x8, x9, x10, ⟨x11.1, by omega⟩, x12⟩
    have sk := skip acc A br fs cw lw bro val sm fe frs ⟨hA.1, hA.2.1, by omega⟩
    by_cases s1 : E_v_isSounding (nI a) fw = 0
    · rw [if_pos s1] at ep er
      rw [← ep, ← er] at sk
      exact out sk (by omega)
    rw [if_neg s1, Lt_b] at ep er
    by_cases s2 : E_v_isSounding (nI b) fw = 0
    · rw [if_pos s2] at ep er
      rw [← ep, ← er] at sk
      exact out sk (by omega)
    rw [if_neg s2, Lt_b] at ep er
    rw [n_ladd (m := 43) rfl (by omega), n_ladd (m := 43) rfl (by omega), Lt_b, Lt_b, Lt_b, kn_cl (by omega), kn_cl (by omega)] at er
    by_cases s3 : fw (43 + a) = fw (43 + b)
    case neg =>
      rw [if_neg s3, if_pos rfl] at ep
      rw [if_neg s3] at er
      rw [← ep, ← er] at sk
      exact out sk (by omega)
    rw [if_pos s3] at ep er
    rw [n_ladd (m := 35) rfl (by omega), n_ladd (m := 35) rfl (by omega), Lt_b, Lt_b, Lt_b, Lt_b, Lt_b, kn_cl (by omega), kn_cl (by omega)] at er
    by_cases s4 : E_v_areBeside (fw (35 + a)) (fw (35 + b)) = 0
    · rw [if_pos s4] at ep er
      rw [← ep, ← er] at sk
      exact out sk (by omega)
    rw [if_neg s4, Lt_b, Lt_b, Lt_b, Lt_b, Lt_b, h.fire a8, h.note b8] at ep
    rw [if_neg s4, Lt_b, Lt_b, Lt_b, show fw (3 : Int32).toNatClampNeg = fw 3 from rfl, kn_cl (by omega)] at er
    have hw := (h.words (cw := cw) a8).facing (p := fw (35 + b))
    have hob := (h.2.2.2.2.1 b b8).1
    have e3 : nf = fw 3 := h.2.2.1
    obtain ⟨R, hR, hR2⟩ := RV_ex (w := 2) (by omega) nf a (fw (35 + b)) 1 fw
    have m9 : (aF 3 2).toInt = 999 := by decide
    obtain ⟨br1, fs1, ep⟩ := ask_k (w := 2) (h.askn a8 ⟨by omega, hob.2⟩) (by omega) (show (1 : Int64).toInt = (aF 2 2).toInt from by decide) hw hR ep (fun _ => rfl)
    obtain ⟨t, lw', bro', val', sm', fe', frs', q1, _, q2⟩ := ask_v (w := 2) (h.ask a8 (o := fw (35 + b)) ⟨by omega, hob.2⟩).1 a8 (by omega) (show (1 : Int64).toInt = (aF 2 2).toInt from by decide) h.2.2.2.2.2.1 (h.bw a8 ⟨by omega, hob.2⟩) lw bro val sm fe frs
    have q1' : E_v_tells (fw 3) 2 (nI a) (fw (35 + b)) 1 lw bro val sm fw fe frs = (t, lw', bro', val', sm', fe', frs') := q1
    rw [q1', Lt2_b, Lt2_b, Lt2_b, Lt2_b, Lt2_b, Lt2_b, Lt_b, Lt_b] at er
    have e9 : E_v_within_999 t = R := Int32.toInt_inj.mp (by rw [wi999, hR, e3, ← q2, m9])
    dsimp only at er
    rw [e9] at er
    rw [Lt_b] at ep
    have sum := i_add (Eq.refl acc.toInt) (Eq.refl R.toInt) (by omega)
    have sk2 := skip (acc + R) (A + 999) br1 fs1 (E_w_facing (fw (35 + b)) (E_w_face (nI a) (fw (11 + a)) 0 cw f1 f2)) lw' bro' val' sm' fe' frs' (by omega)
    rw [← ep, ← er] at sk2
    exact out sk2 (Nat.le_refl _)
theorem disc_out {n lt nf fi : Int32} {f1 f2 fw : Nat → Int32} {fl : Nat → Option Nat} {G : Nat → LC} (h : TW n lt nf fi f1 f2 fl G fw) {N : Nat} (hN : N ≤ 8) (e1 : n = nI N) (e2 : fw 0 = nI N) (z1 : DCr) (z2 : DRr) : ∀ (d a F F2 : Nat), a + d = N → ∀ (acc : Int32) (A : Nat) (br : Int32) (fs cw : Nat → Int32) (lw bro : Int32) (val sm : Int64) (fe frs : Nat → Int64), 0 ≤ acc.toInt ∧ acc.toInt ≤ A ∧ A + 8000 * d ≤ 900000 → ∃ (acc' br' : Int32) (fs' cw' : Nat → Int32) (lw' bro' : Int32) (val' sm' : Int64) (fe' frs' : Nat → Int64), (0 ≤ acc'.toInt ∧ acc'.toInt ≤ (A + 8000 * d : Nat)) ∧ Lp (E_w_discords_l4 G n lt nf f1 f2 fl) z1 (F + d + 1) (nI a) acc br fs cw = (acc', br', fs', cw') ∧ Lp (E_v_discords_l4 fw) z2 (F2 + d + 1) (nI a) acc lw bro val sm fe frs = (acc', lw', bro', val', sm', fe', frs') := by
  intro d
  induction d with
  | zero =>
    intro a F F2 ha acc A br fs cw lw bro val sm fe frs hA
    have : a = N := by omega
    subst this
    refine ⟨acc, br, fs, cw, lw, bro, val, sm, fe, frs, ⟨hA.1, by omega⟩, ?_, ?_⟩
    · rw [Lp_s, E_w_discords_l4.eq_def, e1, if_pos ((kn_le (by omega) (by omega)).mpr (Nat.le_refl _))]
    · rw [Lp_s, E_v_discords_l4.eq_def, Lt_b, show fw (0 : Int32).toNatClampNeg = nI a from e2, if_pos ((kn_le (by omega) (by omega)).mpr (Nat.le_refl _))]
  | succ d ih =>
    intro a F F2 ha acc A br fs cw lw bro val sm fe frs hA
    have c1 : ¬ n ≤ nI a := fun q => by rw [e1] at q; have := (kn_le (by omega) (by omega)).mp q; omega
    have c2 : ¬ fw (0 : Int32).toNatClampNeg ≤ nI a := fun q => by rw [show fw (0 : Int32).toNatClampNeg = nI N from e2] at q; have := (kn_le (by omega) (by omega)).mp q; omega
    rw [Lp_s, Lp_s, E_w_discords_l4.eq_def, E_v_discords_l4.eq_def, if_neg c1, Lt_b, Lt_b, if_neg c2, Lt_b, kn_p1 (by omega), show (9 - (nI (a + 1)).toInt : Int).toNat + 1 = 9 - N + d + 1 by rw [nI_toInt (by omega)]; omega]
    obtain ⟨x1, x2, x3, x4, x5, x6, x7, x8, x9, x10, x11, x12, x13⟩ := disc_in h hN e1 e2 (a := a) (fun _ _ _ _ _ => ((0, 0, fun _ => 0, fun _ => 0) : Int32 × Int32 × (Nat → Int32) × (Nat → Int32))) (Lp (E_w_discords_l4 G n lt nf f1 f2 fl) z1 (F + (d + 1))) (fun _ _ _ _ _ _ _ _ => ((0, 0, 0, 0, 0, fun _ => 0, fun _ => 0) : Int32 × Int32 × Int32 × Int64 × Int64 × (Nat → Int64) × (Nat → Int64))) (Lp (E_v_discords_l4 fw) z2 (F2 + (d + 1))) d (a + 1) (9 - N) (9 - N) (by omega) (by omega) acc A br fs cw lw bro val sm fe frs ⟨hA.1, hA.2.1, by omega⟩
    rw [x12, x13]
    obtain ⟨y1, y2, y3, y4, y5, y6, y7, y8, y9, y10, y11, y12⟩ := ih (a + 1) F F2 (by omega) x1 (A + 999 * d) x2 x3 x4 x5 x6 x7 x8 x9 x10 ⟨x11.1, x11.2, by omega⟩
    exact ⟨y1, y2, y3, y4, y5, y6, y7, y8, y9, y10, ⟨y11.1, by omega⟩, y12⟩
/-- DISCORDS, both sides -/
theorem disc_at {n lt nf fi : Int32} {f1 f2 f3 fw : Nat → Int32} {fl : Nat → Option Nat} {G : Nat → LC} (h : TW n lt nf fi f1 f2 fl G fw) (br fi' : Int32) (fs cw : Nat → Int32) (lw bro : Int32) (val sm : Int64) (fe frs : Nat → Int64) : ∃ (v br' : Int32) (fs' cw' : Nat → Int32) (lw' bro' : Int32) (val' sm' : Int64) (fe' frs' : Nat → Int64), (0 ≤ v.toInt ∧ v.toInt ≤ 100000) ∧ E_w_discords G br fs cw n lt nf fi' f1 f2 f3 fl = (v, br', fs', cw') ∧ E_v_discords lw bro val sm fw fe frs = (v, lw', bro', val', sm', fe', frs') := by
  obtain ⟨N, n8, e1, e2, _⟩ := h.nN
  obtain ⟨y1, y2, y3, y4, y5, y6, y7, y8, y9, y10, y11, y12, y13⟩ := disc_out h n8 e1 e2 (fun _ _ _ _ _ => ((0, 0, fun _ => 0, fun _ => 0) : Int32 × Int32 × (Nat → Int32) × (Nat → Int32))) (fun _ _ _ _ _ _ _ _ => ((0, 0, 0, 0, 0, fun _ => 0, fun _ => 0) : Int32 × Int32 × Int32 × Int64 × Int64 × (Nat → Int64) × (Nat → Int64))) N 0 (9 - N) (9 - N) (by omega) 0 0 br fs cw lw bro val sm fe frs ⟨by decide, by decide, by omega⟩
  have fu : ((9 - (0 : Int32).toInt : Int).toNat + 1) = 9 - N + N + 1 := by rw [show (0 : Int32).toInt = 0 from rfl]; omega
  refine ⟨y1, y2, y3, y4, y5, y6, y7, y8, y9, y10, ⟨y11.1, by omega⟩, ?_, ?_⟩
  · rw [E_w_discords.eq_def, fu]; exact y12
  · rw [E_v_discords.eq_def, fu]; exact y13
/-! an hour passes -/
theorem TW.words2 {n lt nf fi : Int32} {f1 f2 fw cw f : Nat → Int32} {fl : Nat → Option Nat} {G : Nat → LC} (h : TW n lt nf fi f1 f2 fl G fw) {k : Nat} (hk : k < 8) (hf : ∀ j, j < 24 → f j = f1 j) : KWo (E_w_face (nI k) (fw (11 + k)) 0 cw f f2) fw k (-1) := by
  obtain ⟨hr, r1, r2, r3⟩ := h.hour
  obtain ⟨q0, q1, q2, q3, q4, q5, q6, q7, q8⟩ := face_at (h := k) (z := 0) (hr := hr) (y := fw (11 + k)) (cw := cw) (f1 := f) (f2 := f2) hk (by omega) r1 r3
  obtain ⟨⟨t1, _, t3, _⟩, _, _, _, _, _, _, b7⟩ := h
  refine ⟨q0, q1.trans ((hf k (by omega)).trans (b7 k (by omega))), q2.trans ((hf _ (by omega)).trans ((b7 _ (by omega)).trans (congrArg fw (by omega)))), q3, q4.trans ((hf _ (by omega)).trans (t3 k hk).2.1), q5.trans ?_, q6.trans ?_, q7.trans (t1 5 (by omega)), q8⟩
  · rw [r2, show (hr + 0) % 24 = hr by omega]
  · rw [show (hr + 0) / 24 = 0 by omega, t1 1 (by omega)]
    exact Int32.toInt_inj.mp (by rw [i_add rfl (show (nI 0).toInt = 0 from rfl) (by have := i_rng (Eq.refl (fw (4 + 1)).toInt); omega), Int.add_zero])
noncomputable abbrev BUr : Type := Int32 → Int32 → (Nat → Int32) → (Nat → Int32) → (Nat → Int32) → (Int32 × (Nat → Int32) × (Nat → Int32) × (Nat → Int32))
theorem burn_in {n lt nf fi : Int32} {f1 f2 fw : Nat → Int32} {fl : Nat → Option Nat} {G : Nat → LC} (h : TW n lt nf fi f1 f2 fl G fw) {N : Nat} (hN : N ≤ 8) (e1 : n = nI N) {B : Nat → Int32} (hB : ∀ a, a < N → (B a).toInt = RV nf 0 a (-1) 1 fw) (hB2 : ∀ a, a < N → 0 ≤ (B a).toInt ∧ (B a).toInt ≤ 20) (z : BUr) : ∀ (d a F : Nat), a + d = N → ∀ (br : Int32) (fs cw f : Nat → Int32), (∀ j, j < 24 → f j = f1 j) → (∀ j, a ≤ j → j < 8 → f (40 + j) = f1 (40 + j) ∧ f (48 + j) = f1 (48 + j)) → ∃ br' fs' cw' f', Lp (E_w_burnDown_l2 G n lt nf f2 fl) z (F + d + 1) (nI a) br fs cw f = (br', fs', cw', f') ∧ (∀ j, a ≤ j → j < N → f' (40 + j) = E_v_within_20 (fw (11 + j) - B j).toInt64 ∧ f' (48 + j) = E_v_within_9999 (fw (27 + j) + fw (11 + j)).toInt64) ∧ ∀ j, ¬ (40 + a ≤ j ∧ j < 40 + N) → ¬ (48 + a ≤ j ∧ j < 48 + N) → f' j = f j := by
  intro d
  induction d with
  | zero =>
    intro a F ha br fs cw f h1 h2
    have : a = N := by omega
    subst this
    refine ⟨br, fs, cw, f, ?_, fun j h3 h4 => by omega, fun _ _ _ => rfl⟩
    rw [Lp_s, E_w_burnDown_l2.eq_def, e1, if_pos ((kn_le (by omega) (by omega)).mpr (Nat.le_refl _))]
  | succ d ih =>
    intro a F ha br fs cw f h1 h2
    have a8 : a < 8 := by omega
    have c1 : ¬ n ≤ nI a := fun q => by rw [e1] at q; have := (kn_le (by omega) (by omega)).mp q; omega
    have rg := h.1.2.2.2.2.2.2.2.2.2.2.2 a a8
    have t3 := h.1.2.2.1 a a8
    have g5 : E_w_fact (nI a) 5 f = fw (11 + a) := by
      rw [fact_at (k := 5) (nIb a8) rfl (by omega), nIt (by omega)]; exact ((h2 a (Nat.le_refl _) a8).1).trans t3.1
    have g6 : E_w_fact (nI a) 6 f = fw (27 + a) := by
      rw [fact_at (k := 6) (nIb a8) rfl (by omega), nIt (by omega)]; exact ((h2 a (Nat.le_refl _) a8).2).trans t3.2.2
    have hw := h.words2 (cw := cw) a8 h1
    obtain ⟨p, ep⟩ : ∃ p, p = Lp (E_w_burnDown_l2 G n lt nf f2 fl) z (F + (d + 1) + 1) (nI a) br fs cw f := ⟨_, rfl⟩
    rw [← ep]
    rw [Lp_s, E_w_burnDown_l2.eq_def, if_neg c1, Lt_b, g5, Lt_b, Lt_b, g6, Lt_b, Lt_b, cap9999 (by omega) (by omega), Lt_b, Lt_b, put6_at (nIb a8), nIt (by omega)] at ep
    obtain ⟨br1, fs1, ep⟩ := ask_k (w := 0) (h.askn a8 m1_rng) (by omega) (show (1 : Int64).toInt = (aF 2 0).toInt from by decide) hw (hB a (by omega)) ep (fun _ => rfl)
    have hb2 := hB2 a (by omega)
    rw [Lt_b, Lt_b, cap0 (by omega) (by omega) (by omega), Lt_b, put5_at (nIb a8), nIt (by omega), Lt_b, kn_po (by omega)] at ep
    obtain ⟨br', fs', cw', f', q1, q2, q3⟩ := ih (a + 1) F (by omega) br1 fs1 (E_w_face (nI a) (fw (11 + a)) 0 cw f f2) (upd (upd f (48 + a) (E_v_within_9999 (fw (27 + a) + fw (11 + a)).toInt64)) (40 + a) (E_v_within_20 (fw (11 + a) - B a).toInt64)) (fun j hj => by rw [upd_n (by omega), upd_n (by omega)]; exact h1 j hj) (fun j h3 h4 => by rw [upd_n (by omega), upd_n (by omega), upd_n (by omega), upd_n (by omega)]; exact h2 j (by omega) h4)
    refine ⟨br', fs', cw', f', ep.trans q1, fun j h3 h4 => ?_, fun j h3 h4 => ?_⟩
    · by_cases ja : j = a
      · subst ja
        rw [q3 _ (by omega) (by omega), q3 _ (by omega) (by omega), upd_s, upd_n (by omega), upd_s]
        exact ⟨rfl, rfl⟩
      · exact q2 j (by omega) h4
    · rw [q3 _ (by omega) (by omega), upd_n (by omega), upd_n (by omega)]
noncomputable abbrev P3r : Type := Int32 → Int32 → Int32 → Int64 → Int64 → (Nat → Int32) → (Nat → Int64) → (Nat → Int64) → (Int32 × Int32 × Int32 × Int64 × Int64 × (Nat → Int32) × (Nat → Int64) × (Nat → Int64) × (Nat → Int32))
noncomputable abbrev P6r : Type := Int32 → (Nat → Int32) → (Int32 × Int32 × Int32 × Int64 × Int64 × (Nat → Int32) × (Nat → Int64) × (Nat → Int64) × (Nat → Int32))
noncomputable def P6z : P6r := fun _ _ => (0, 0, 0, 0, 0, fun _ => 0, fun _ => 0, fun _ => 0, fun _ => 0)
theorem pas_in1 {n lt nf fi : Int32} {f1 f2 fw : Nat → Int32} {fl : Nat → Option Nat} {G : Nat → LC} (h : TW n lt nf fi f1 f2 fl G fw) {N : Nat} (hN : N ≤ 8) (e2 : fw 0 = nI N) {B : Nat → Int32} (hB : ∀ a, a < N → (B a).toInt = RV nf 0 a (-1) 1 fw) (r : Int32) (z : P3r) : ∀ (d a F : Nat), a + d = N → ∀ (lw bro : Int32) (val sm : Int64) (fb : Nat → Int32) (fe frs : Nat → Int64), (∀ j, j < a → fb j = B j) → ∃ (lw' bro' : Int32) (val' sm' : Int64) (fb' : Nat → Int32) (fe' frs' : Nat → Int64), Lp (E_v_passIt_l34 r fw) z (F + d + 1) (nI a) lw bro val sm fb fe frs = Lp (E_v_passIt_l69 r lw' bro' val' sm' fb' fe' frs') P6z (9 - N + N + 1) (nI 0) fw ∧ ∀ j, j < N → fb' j = B j := by
  intro d
  induction d with
  | zero =>
    intro a F ha lw bro val sm fb fe frs hb
    have : a = N := by omega
    subst this
    refine ⟨lw, bro, val, sm, fb, fe, frs, ?_, hb⟩
    rw [Lp_s, E_v_passIt_l34.eq_def, Lt_b, show fw (0 : Int32).toNatClampNeg = nI a from e2, if_pos ((kn_le (by omega) (by omega)).mpr (Nat.le_refl _)), show ((9 - (0 : Int32).toInt : Int).toNat + 1) = 9 - a + a + 1 by rw [show (0 : Int32).toInt = 0 from rfl]; omega]
    rfl
  | succ d ih =>
    intro a F ha lw bro val sm fb fe frs hb
    have a8 : a < 8 := by omega
    have e3 : nf = fw 3 := h.2.2.1
    have c1 : ¬ nI N ≤ nI a := fun q => by have := (kn_le (by omega) (by omega)).mp q; omega
    obtain ⟨x1, x2, x3, x4, x5, x6, x7⟩ := burnsOf_at (h.ask a8 m1_rng) (by rw [← e3]; exact hB a (by omega)) lw bro val sm fe frs
    rw [Lp_s, E_v_passIt_l34.eq_def, Lt_b, show fw (0 : Int32).toNatClampNeg = nI N from e2, if_neg c1, Lt_b, show fw (3 : Int32).toNatClampNeg = fw 3 from rfl, x7, Lt2_b, Lt2_b, Lt2_b, Lt2_b, Lt2_b, Lt2_b, Lt_b, Lt_b, kn_po (by omega), kn_cl (by omega)]
    exact ih (a + 1) F (by omega) x1 x2 x3 x4 (upd fb a (B a)) x5 x6 (fun j hj => by
      by_cases ja : j = a
      · rw [ja, upd_s]
      · rw [upd_n ja]; exact hb j (by omega))
theorem pas_in2 {fw fb : Nat → Int32} {N : Nat} (hN : N ≤ 8) (e2 : fw 0 = nI N) {r lw bro : Int32} {val sm : Int64} {fe frs : Nat → Int64} (z : P6r) : ∀ (d a F : Nat), a + d = N → ∀ f : Nat → Int32, (∀ j, j < 11 → f j = fw j) → (∀ j, a ≤ j → j < 8 → f (11 + j) = fw (11 + j) ∧ f (27 + j) = fw (27 + j)) → ∃ f', Lp (E_v_passIt_l69 r lw bro val sm fb fe frs) z (F + d + 1) (nI a) f = (r, lw, bro, val, sm, E_v_goOn f', fe, frs, fb) ∧ (∀ j, a ≤ j → j < N → f' (11 + j) = E_v_within_20 (fw (11 + j) - fb j).toInt64 ∧ f' (27 + j) = E_v_within_9999 (fw (27 + j) + fw (11 + j)).toInt64) ∧ ∀ j, ¬ (11 + a ≤ j ∧ j < 11 + N) → ¬ (27 + a ≤ j ∧ j < 27 + N) → f' j = f j := by
  intro d
  induction d with
  | zero =>
    intro a F ha f h1 h2
    have : a = N := by omega
    subst this
    refine ⟨f, ?_, fun j h3 h4 => by omega, fun _ _ _ => rfl⟩
    rw [Lp_s, E_v_passIt_l69.eq_def, Lt_b, show f (0 : Int32).toNatClampNeg = nI a from (h1 0 (by omega)).trans e2, if_pos ((kn_le (by omega) (by omega)).mpr (Nat.le_refl _)), Lt_b]
  | succ d ih =>
    intro a F ha f h1 h2
    have a8 : a < 8 := by omega
    have c1 : ¬ nI N ≤ nI a := fun q => by have := (kn_le (by omega) (by omega)).mp q; omega
    obtain ⟨f', q1, q2, q3⟩ := ih (a + 1) F (by omega) (upd (upd f (27 + a) (E_v_within_9999 (fw (27 + a) + fw (11 + a)).toInt64)) (11 + a) (E_v_within_20 (fw (11 + a) - fb a).toInt64)) (fun j hj => by rw [upd_n (by omega), upd_n (by omega)]; exact h1 j hj) (fun j h3 h4 => by rw [upd_n (by omega), upd_n (by omega), upd_n (by omega), upd_n (by omega)]; exact h2 j (by omega) h4)
    refine ⟨f', ?_, fun j h3 h4 => ?_, fun j h3 h4 => ?_⟩
    · rw [← q1, Lp_s, E_v_passIt_l69.eq_def, Lt_b, show f (0 : Int32).toNatClampNeg = nI N from (h1 0 (by omega)).trans e2, if_neg c1, n_ladd (m := 27) rfl (by omega), n_ladd (m := 11) rfl (by omega), Lt_b, Lt_b, Lt_b, Lt_b, Lt_b, Lt_b, Lt_b, Lt_b, Lt_b, Lt_b, Lt_b, Lt_b, Lt_b, Lt_b, Lt_b, Lt_b, Lt_b, Lt_b, kn_po (by omega), kn_cl (by omega), kn_cl (by omega), kn_cl (by omega), upd_n (show ¬ 11 + a = 27 + a by omega), (h2 a (Nat.le_refl _) a8).1, (h2 a (Nat.le_refl _) a8).2]
      rfl
    · by_cases ja : j = a
      · subst ja
        rw [q3 _ (by omega) (by omega), q3 _ (by omega) (by omega), upd_s, upd_n (by omega), upd_s]
        exact ⟨rfl, rfl⟩
      · exact q2 j (by omega) h4
    · rw [q3 _ (by omega) (by omega), upd_n (by omega), upd_n (by omega)]
/-- the hour goes on -/
theorem goOn_at {f : Nat → Int32} {hr : Nat} (h : hr ≤ 23) (e : f 4 = nI hr) : E_v_goOn f 4 = (if hr = 23 then 0 else nI (hr + 1)) ∧ E_v_goOn f 5 = (if hr = 23 then f 5 + 1 else f 5) ∧ ∀ j, j ≠ 4 → j ≠ 5 → E_v_goOn f j = f j := by
  rw [E_v_goOn.eq_def, show f (4 : Int32).toNatClampNeg = nI hr from e, Lt_b, Lt_b, Lt_b, kn_p1 (by omega), show (4 : Int32).toNatClampNeg = 4 from rfl, show (5 : Int32).toNatClampNeg = 5 from rfl]
  have tk : E_v_term_k (nI (hr + 1)) (upd f 4 (nI (hr + 1))) = nI (hr + 1) := rfl
  rw [Lt_b, tk]
  by_cases c : hr = 23
  · subst c
    rw [if_pos rfl, if_pos (show nI (23 + 1) = 24 from rfl), if_pos rfl, Lt_b, Lt_b, Lt_b, Lt_b]
    refine ⟨?_, ?_, fun j h1 h2 => ?_⟩
    · rw [upd_n (by omega), upd_s]
    · rw [upd_s, upd_n (by omega), upd_n (by omega)]
    · rw [upd_n h2, upd_n h1, upd_n h1]
  · rw [if_neg c, if_neg (kn_nz (j := 24) rfl (by omega) (by omega)), if_neg c]
    refine ⟨upd_s, upd_n (by omega), fun j h1 h2 => upd_n h1⟩
theorem TW.fined {n lt nf fi V : Int32} {f1 f2 fw : Nat → Int32} {fl : Nat → Option Nat} {G : Nat → LC} (h : TW n lt nf fi f1 f2 fl G fw) (v : 0 ≤ V.toInt ∧ V.toInt ≤ 99999) : TW n lt nf V f1 f2 fl G (upd fw 10 V) := by
  have hs := h
  obtain ⟨⟨t1, t2, t3, t4, g1, g2, g3, g4, g5, g6, g7, g8⟩, _⟩ := h
  refine hs.step ⟨fun j hj => ?_, upd_s.symm, fun j hj => ?_, fun k hk h8 => ?_, ?_, ?_, ?_, ?_, ?_, ?_, ?_, fun j hj => ?_⟩ (fun j hj => upd_n (by omega)) (fun _ _ => rfl)
  · rw [upd_n (by omega)]; exact t1 j hj
  · rw [upd_n (by omega), upd_n (by omega), upd_n (by omega)]; exact t3 j hj
  · rw [upd_n (by omega), upd_n (by omega)]; exact t4 k hk h8
  · exact g1
  · exact g2
  · exact g3
  · exact g4
  · exact g5
  · exact g6
  · exact v
  · rw [upd_n (by omega), upd_n (by omega), upd_n (by omega)]; exact g8 j hj
/-- all houses have changed, and the hour -/
theorem TW.burned {n lt nf fi : Int32} {f1 f2 fw f1' f2' fw' : Nat → Int32} {fl : Nat → Option Nat} {G : Nat → LC} (h : TW n lt nf fi f1 f2 fl G fw) {N hr : Nat} (hN : N ≤ 8) (eN : (N : Int) = n.toInt) (hr2 : hr ≤ 23) (e0 : fw 4 = nI hr) (can : hr = 23 → (fw 5).toInt < 999) {B : Nat → Int32}
    (c1 : ∀ j, j < N → f1' (40 + j) = E_v_within_20 (fw (11 + j) - B j).toInt64 ∧ f1' (48 + j) = E_v_within_9999 (fw (27 + j) + fw (11 + j)).toInt64) (c2 : ∀ j, ¬ (40 ≤ j ∧ j < 40 + N) → ¬ (48 ≤ j ∧ j < 48 + N) → f1' j = f1 j)
    (c3 : ∀ j, j < N → fw' (11 + j) = E_v_within_20 (fw (11 + j) - B j).toInt64 ∧ fw' (27 + j) = E_v_within_9999 (fw (27 + j) + fw (11 + j)).toInt64) (c4 : ∀ j, j ≠ 4 → j ≠ 5 → ¬ (11 ≤ j ∧ j < 11 + N) → ¬ (27 ≤ j ∧ j < 27 + N) → fw' j = fw j)
    (d1 : fw' 4 = (if hr = 23 then 0 else nI (hr + 1)) ∧ fw' 5 = (if hr = 23 then fw 5 + 1 else fw 5)) (d2 : f2' 0 = fw' 4 ∧ f2' 1 = fw' 5 ∧ ∀ j, 2 ≤ j → f2' j = f2 j) : TW n lt nf fi f1' f2' fl G fw' := by
  have hs := h
  obtain ⟨⟨t1, t2, t3, t4, g1, g2, g3, g4, g5, g6, g7, g8⟩, _⟩ := h
  have z0 : (0 : Int32).toInt = 0 := rfl
  have k : ∀ {j : Nat}, j ≠ 4 → j ≠ 5 → ¬ (11 ≤ j ∧ j < 11 + N) → ¬ (27 ≤ j ∧ j < 27 + N) → fw' j = fw j := fun h1 h2 h3 h4 => c4 _ h1 h2 h3 h4
  refine hs.step ⟨fun j hj => ?_, ?_, fun j hj => ⟨?_, ?_, ?_⟩, fun i hi h8 => ⟨?_, ?_⟩, ?_, ?_, ?_, ?_, ?_, ?_, ?_, fun j hj => ⟨?_, ?_, ?_⟩⟩ (fun j hj => k (by omega) (by omega) (by omega) (by omega)) (fun j hj => c2 j (by omega) (by omega))
  · rcases (show j = 0 ∨ j = 1 ∨ 2 ≤ j by omega) with rfl | rfl | q
    · exact d2.1
    · exact d2.2.1
    · rw [d2.2.2 j q, k (by omega) (by omega) (by omega) (by omega)]; exact t1 j hj
  · rw [k (by omega) (by omega) (by omega) (by omega)]; exact t2
  · by_cases q : j < N
    · rw [(c1 j q).1, (c3 j q).1]
    · rw [c2 _ (by omega) (by omega), k (by omega) (by omega) (by omega) (by omega)]; exact (t3 j hj).1
  · rw [c2 _ (by omega) (by omega), k (by omega) (by omega) (by omega) (by omega)]; exact (t3 j hj).2.1
  · by_cases q : j < N
    · rw [(c1 j q).2, (c3 j q).2]
    · rw [c2 _ (by omega) (by omega), k (by omega) (by omega) (by omega) (by omega)]; exact (t3 j hj).2.2
  · rw [k (by omega) (by omega) (by omega) (by omega)]; exact (t4 i hi h8).1
  · rw [k (by omega) (by omega) (by omega) (by omega)]; exact (t4 i hi h8).2
  · rw [d1.1]
    by_cases q : hr = 23
    · rw [if_pos q]; decide
    · rw [if_neg q, nI_toInt (by omega)]; omega
  · rw [d1.2]
    by_cases q : hr = 23
    · have := can q
      rw [if_pos q, i_add (Eq.refl (fw 5).toInt) (show (1 : Int32).toInt = 1 from rfl) (by omega)]; omega
    · rw [if_neg q]; exact g2
  · rw [k (by omega) (by omega) (by omega) (by omega)]; exact g3
  · rw [k (by omega) (by omega) (by omega) (by omega)]; exact g4
  · rw [k (by omega) (by omega) (by omega) (by omega)]; exact g5
  · rw [k (by omega) (by omega) (by omega) (by omega)]; exact g6
  · rw [k (by omega) (by omega) (by omega) (by omega)]; exact g7
  · by_cases q : j < N
    · rw [(c3 j q).1, wi20]; exact kz_rng (by decide)
    · rw [k (by omega) (by omega) (by omega) (by omega)]; exact (g8 j hj).1
  · rw [k (by omega) (by omega) (by omega) (by omega)]; exact (g8 j hj).2.1
  · by_cases q : j < N
    · rw [(c3 j q).2, wi9999]; exact kz_rng (by decide)
    · rw [k (by omega) (by omega) (by omega) (by omega)]; exact (g8 j hj).2.2
theorem j36_at {G : Nat → LC} {br n lt nf fi b2 V b3 : Int32} {fs cw f1 f2 f3 fs2 cw2 fs3 cw3 f1' : Nat → Int32} {fl : Nat → Option Nat} {d : Int32} {x : Int32} (hx : x = 0 ∨ x = 1) (hm : E_w_meetsChord n f1 f2 f3 = 0 ∨ E_w_meetsChord n f1 f2 f3 = 1) (h1 : E_w_discords G br fs cw n lt nf fi f1 f2 f3 fl = (d, b2, fs2, cw2)) (h2 : (if fi + d < 99999 then fi + d else 99999) = V) (h3 : E_w_burnDown G b2 fs2 cw2 n lt nf V f1 f2 f3 fl = (b3, fs3, cw3, f1')) : E_w_nextHour_j36 G br fs cw n lt nf fi f1 f2 f3 fl x = (E_w_meetsChord n f1 f2 f3, b3, fs3, cw3, V, f1', if x = 0 then upd (upd f2 0 (f2 0 + 1)) 1 (f2 1 + 0) else upd (upd f2 0 0) 1 (f2 1 + 1)) := by
  rw [E_w_nextHour_j36.eq_def, Lt_b]
  rcases hm with m | m
  · rw [if_pos m, m, h1, Lt2_b, Lt2_b, Lt2_b, Lt_b, Lt_b]
    dsimp only
    rw [h2, h3, Lt2_b, Lt2_b, Lt2_b]
    rcases hx with rfl | rfl
    · rw [if_pos rfl, if_pos rfl, Lt_b, Lt_b, Lt_b, Lt_b, if_pos rfl, Lt_b, Lt_b]; rfl
    · rw [if_neg (show ¬ (1 : Int32) = 0 by decide), if_neg (show ¬ (1 : Int32) = 0 by decide), Lt_b, Lt_b, if_neg (show ¬ (1 : Int32) = 0 by decide), Lt_b, Lt_b]; rfl
  · rw [if_neg (by rw [m]; decide), m, h1, Lt2_b, Lt2_b, Lt2_b, Lt_b, Lt_b]
    dsimp only
    rw [h2, h3, Lt2_b, Lt2_b, Lt2_b]
    rcases hx with rfl | rfl
    · rw [if_pos rfl, if_pos rfl, Lt_b, Lt_b, Lt_b, Lt_b, if_pos rfl, Lt_b, Lt_b]; rfl
    · rw [if_neg (show ¬ (1 : Int32) = 0 by decide), if_neg (show ¬ (1 : Int32) = 0 by decide), Lt_b, Lt_b, if_neg (show ¬ (1 : Int32) = 0 by decide), Lt_b, Lt_b]; rfl
theorem met_01 {fw : Nat → Int32} : E_v_isMet fw = 0 ∨ E_v_isMet fw = 1 := by
  rw [E_v_isMet.eq_def, Lt_b, Lt_b, Lt_b, Lt_b, Lt_b, Lt_b]
  split
  · exact Or.inr rfl
  · exact Or.inl rfl
/-- AN HOUR THAT CAN PASS, both sides -/
theorem pass_at {n lt nf fi : Int32} {f1 f2 f3 fw : Nat → Int32} {fl : Nat → Option Nat} {G : Nat → LC} (h : TW n lt nf fi f1 f2 fl G fw) (h3 : ∀ j, j < 24 → f3 j = fw (67 + j)) (can : (fw 4).toInt < 23 ∨ (fw 5).toInt < 999) (br : Int32) (fs cw : Nat → Int32) (lw bro : Int32) (val sm : Int64) (fe frs : Nat → Int64) (fb : Nat → Int32) :
    ∃ (br' : Int32) (fs' cw' : Nat → Int32) (fi' : Int32) (f1' f2' : Nat → Int32) (lw' bro' : Int32) (val' sm' : Int64) (fw' : Nat → Int32) (fe' frs' : Nat → Int64) (fb' : Nat → Int32), E_w_nextHour G br fs cw n lt nf fi f1 f2 f3 fl = (E_v_isMet fw, br', fs', cw', fi', f1', f2') ∧ E_v_passIt lw bro val sm fw fe frs fb = (E_v_isMet fw, lw', bro', val', sm', fw', fe', frs', fb') ∧ TW n lt nf fi' f1' f2' fl G fw' ∧ (∀ j, j < 4 ∨ (6 ≤ j ∧ j < 10) ∨ 35 ≤ j → fw' j = fw j) ∧ ∀ j, j < 40 → f1' j = f1 j := by
  obtain ⟨N, n8, e1, e2, eN⟩ := h.nN
  obtain ⟨hr, r1, r2, r3⟩ := h.hour
  obtain ⟨v, b2, fs2, cw2, lw2, bro2, val2, sm2, fe2, frs2, v1, v2, v3⟩ := disc_at (f3 := f3) h br fi fs cw lw bro val sm fe frs
  have g7 := h.1.2.2.2.2.2.2.2.2.2.2.1
  have t2 := h.1.2.1
  have vV := kz_rng (g := ((fw 10 + v).toInt64).toInt) (M := 99999) (by decide)
  rw [← wi99999] at vV
  have cp := cap99999 (a := fw 10) (b := v) (by omega) (by omega)
  have hV := h.fined vV
  have md := h.met h3
  generalize hVV : E_v_within_99999 (fw 10 + v).toInt64 = V at vV cp hV
  have hB : ∃ B : Nat → Int32, ∀ a, (B a).toInt = RV nf 0 a (-1) 1 (upd fw 10 V) ∧ 0 ≤ (B a).toInt ∧ (B a).toInt ≤ (aF 3 0).toInt := ⟨fun a => (RV_ex (w := 0) (by omega) nf a (-1) 1 (upd fw 10 V)).choose, fun a => (RV_ex (w := 0) (by omega) nf a (-1) 1 (upd fw 10 V)).choose_spec⟩
  obtain ⟨B, hB⟩ := hB
  have m20 : (aF 3 0).toInt = 20 := by decide
  obtain ⟨b3, fs3, cw3, f1', u1, u2, u3⟩ := burn_in hV n8 e1 (fun a _ => (hB a).1) (fun a _ => by have := (hB a).2; omega) (fun _ _ _ _ _ => ((0, fun _ => 0, fun _ => 0, fun _ => 0) : Int32 × (Nat → Int32) × (Nat → Int32) × (Nat → Int32))) N 0 (9 - N) (by omega) b2 fs2 cw2 f1 (fun _ _ => rfl) (fun _ _ _ => ⟨rfl, rfl⟩)
  have fu : ((9 - (0 : Int32).toInt : Int).toNat + 1) = 9 - N + N + 1 := by rw [show (0 : Int32).toInt = 0 from rfl]; omega
  have e2V : upd fw 10 V 0 = nI N := by rw [upd_n (by omega)]; exact e2
  obtain ⟨lw4, bro4, val4, sm4, fb4, fe4, frs4, w1, w2⟩ := pas_in1 hV n8 e2V (fun a _ => (hB a).1) (E_v_isMet fw) (fun _ _ _ _ _ _ _ _ => ((0, 0, 0, 0, 0, fun _ => 0, fun _ => 0, fun _ => 0, fun _ => 0) : Int32 × Int32 × Int32 × Int64 × Int64 × (Nat → Int32) × (Nat → Int64) × (Nat → Int64) × (Nat → Int32))) N 0 (9 - N) (by omega) lw2 bro2 val2 sm2 fb fe2 frs2 (fun j hj => by omega)
  obtain ⟨f5, x1, x2, x3⟩ := pas_in2 (fw := upd fw 10 V) (fb := fb4) n8 e2V (r := E_v_isMet fw) (lw := lw4) (bro := bro4) (val := val4) (sm := sm4) (fe := fe4) (frs := frs4) P6z N 0 (9 - N) (by omega) (upd fw 10 V) (fun _ _ => rfl) (fun _ _ _ => ⟨rfl, rfl⟩)
  have f54 : f5 4 = nI hr := by rw [x3 _ (by omega) (by omega), upd_n (by omega)]; exact r2
  have f55 : f5 5 = fw 5 := by rw [x3 _ (by omega) (by omega), upd_n (by omega)]
  obtain ⟨y1, y2, y3⟩ := goOn_at r1 f54
  have hb : E_w_burnDown G b2 fs2 cw2 n lt nf V f1 f2 f3 fl = (b3, fs3, cw3, f1') := by rw [E_w_burnDown.eq_def, fu]; exact u1
  have m01 : E_w_meetsChord n f1 f2 f3 = 0 ∨ E_w_meetsChord n f1 f2 f3 = 1 := by rw [md]; exact met_01
  have j36 : ∀ x : Int32, (x = 0 ∨ x = 1) → E_w_nextHour_j36 G br fs cw n lt nf fi f1 f2 f3 fl x = (E_v_isMet fw, b3, fs3, cw3, V, f1', if x = 0 then upd (upd f2 0 (f2 0 + 1)) 1 (f2 1 + 0) else upd (upd f2 0 0) 1 (f2 1 + 1)) := fun x hx => by
    rw [← md]; exact j36_at hx m01 v2 (by rw [t2]; exact cp) hb
  have t10 := h.1.1 1 (by omega)
  have hvs : E_v_passIt lw bro val sm fw fe frs fb = (E_v_isMet fw, lw4, bro4, val4, sm4, E_v_goOn f5, fe4, frs4, fb4) := by
    rw [E_v_passIt.eq_def, Lt_b, Lt_b, v3, Lt2_b, Lt2_b, Lt2_b, Lt2_b, Lt2_b, Lt2_b, Lt_b, Lt_b, Lt_b, Lt_b, fu, show (10 : Int32).toNatClampNeg = 10 from rfl]
    dsimp only
    rw [hVV]
    exact w1.trans x1
  have keep : ∀ j, j < 4 ∨ (6 ≤ j ∧ j < 10) ∨ 35 ≤ j → E_v_goOn f5 j = fw j := fun j hj => by
    rw [y3 j (by omega) (by omega), x3 _ (by omega) (by omega), upd_n (by omega)]
  have cls : ∃ f2', E_w_nextHour G br fs cw n lt nf fi f1 f2 f3 fl = (E_v_isMet fw, b3, fs3, cw3, V, f1', f2') ∧ f2' 0 = E_v_goOn f5 4 ∧ f2' 1 = E_v_goOn f5 5 ∧ ∀ j, 2 ≤ j → f2' j = f2 j := by
    rw [E_w_nextHour.eq_def, Lt_b, show f2 (0 : Int32).toNatClampNeg = nI hr from r3, show f2 (1 : Int32).toNatClampNeg = fw 5 from t10]
    by_cases c : hr = 23
    · subst c
      have z9 : (999 : Int32).toInt = 999 := rfl
      have z4 : (fw 4).toInt = 23 := by rw [r2]; rfl
      rw [if_pos (show nI 23 = 23 from rfl), Lt_b, if_pos (il_iff.mpr (by omega)), j36 1 (Or.inr rfl), if_neg (show ¬ (1 : Int32) = 0 by decide), y1, y2, if_pos rfl, if_pos rfl, f55]
      refine ⟨_, rfl, by rw [upd_n (by omega), upd_s], by rw [upd_s, t10], fun j hj => by rw [upd_n (by omega), upd_n (by omega)]⟩
    · rw [if_neg (kn_nz (j := 23) rfl (by omega) c), j36 0 (Or.inl rfl), if_pos rfl, y1, y2, if_neg c, if_neg c, f55]
      refine ⟨_, rfl, by rw [upd_n (by omega), upd_s, r3, kn_p1 (by omega)], ?_, fun j hj => by rw [upd_n (by omega), upd_n (by omega)]⟩
      rw [upd_s, t10]
      exact Int32.toInt_inj.mp (by rw [i_add rfl (show (0 : Int32).toInt = 0 from rfl) (by have := i_rng (Eq.refl (fw (4 + 1)).toInt); omega), Int.add_zero])
  obtain ⟨f2', p1, p2, p3, p4⟩ := cls
  refine ⟨b3, fs3, cw3, V, f1', f2', lw4, bro4, val4, sm4, E_v_goOn f5, fe4, frs4, fb4, p1, hvs, ?_, keep, fun j hj => u3 j (by omega) (by omega)⟩
  refine hV.burned (hr := hr) (B := B) n8 eN r1 (by rw [upd_n (by omega)]; exact r2) (fun q => ?_) (fun j hj => u2 j (Nat.zero_le _) hj) (fun j q1 q2 => u3 j (by omega) (by omega)) (fun j hj => ?_) (fun j q1 q2 q3 q4 => ?_) ⟨y1, ?_⟩ ⟨p2, p3, p4⟩
  · rw [upd_n (by omega)]
    subst q
    have z4 : (fw 4).toInt = 23 := by rw [r2]; rfl
    omega
  · rw [y3 _ (by omega) (by omega), y3 _ (by omega) (by omega)]
    have q := x2 j (Nat.zero_le _) hj
    rw [w2 j hj] at q
    exact q
  · rw [y3 _ q1 q2]
    exact x3 j (by omega) (by omega)
  · rw [y2, f55, upd_n (by omega)]
theorem canPass_at {fw : Nat → Int32} (h4 : 0 ≤ (fw 4).toInt ∧ (fw 4).toInt ≤ 23) : E_v_canPass fw = if (fw 4).toInt < 23 ∨ (fw 5).toInt < 999 then 1 else 0 := by
  have z9 : (999 : Int32).toInt = 999 := rfl
  have z23 : (23 : Int32).toInt = 23 := rfl
  rw [E_v_canPass.eq_def, show E_v_term 1 fw = fw 5 from rfl, show E_v_term_0 fw = fw 4 from rfl, Lt_b]
  by_cases c : fw 5 < 999
  · have c1 := il_iff.mp c
    rw [if_pos c, if_pos (Or.inr (by omega)), E_v_canPass_j21.eq_def]
  · have c1 : ¬ (fw 5).toInt < (999 : Int32).toInt := fun q => c (il_iff.mpr q)
    rw [if_neg c, Lt_b]
    by_cases d : 23 ≤ fw 4
    · have d1 := ie_iff.mp d
      rw [if_pos d, if_neg (by omega)]
    · have d1 : ¬ (23 : Int32).toInt ≤ (fw 4).toInt := fun q => d (ie_iff.mpr q)
      rw [if_neg d, if_pos (by omega), E_v_canPass_j21.eq_def]
theorem noPass_at {n lt nf fi : Int32} {f1 f2 f3 fw : Nat → Int32} {fl : Nat → Option Nat} {G : Nat → LC} (h : TW n lt nf fi f1 f2 fl G fw) (can : ¬ ((fw 4).toInt < 23 ∨ (fw 5).toInt < 999)) (br : Int32) (fs cw : Nat → Int32) : E_w_nextHour G br fs cw n lt nf fi f1 f2 f3 fl = (-3, br, fs, cw, fi, f1, f2) := by
  obtain ⟨hr, r1, r2, r3⟩ := h.hour
  have t10 := h.1.1 1 (by omega)
  have z9 : (999 : Int32).toInt = 999 := rfl
  have z4 : (fw 4).toInt = (hr : Int) := by rw [r2, nI_toInt (by omega)]
  have c : hr = 23 := by omega
  subst c
  rw [E_w_nextHour.eq_def, Lt_b, show f2 (0 : Int32).toNatClampNeg = nI 23 from r3, show f2 (1 : Int32).toNatClampNeg = fw 5 from t10, if_pos (show nI 23 = 23 from rfl), Lt_b, if_neg (fun q => by have := il_iff.mp q; omega)]
theorem act_pass {n lt nf fi nu br lw bro : Int32} {val sm : Int64} {f1 f2 f3 fw fs cw fu fsr fb : Nat → Int32} {fe frs : Nat → Int64} {fl : Nat → Option Nat} {G : Nat → LC} (h : TW n lt nf fi f1 f2 fl G fw) (h3 : ∀ j, j < 24 → f3 j = fw (67 + j)) {r br' r2 nu' lw' bro' fi' : Int32} {val' sm' : Int64} {fs' cw' f1' f2' fw' fu' fsr' fb' : Nat → Int32} {fe' frs' : Nat → Int64} (k1 : (r, br', fs', cw', fi', f1', f2') = E_w_nextHour G br fs cw n lt nf fi f1 f2 f3 fl) (k2 : (r2, nu', lw', bro', val', sm', fw', fe', frs', fu', fsr', fb') = E_v_passNow nu lw bro val sm fw fe frs fu fsr fb) : ActR r r2 3 n lt nf fi fi' f1 f2 f1' f2' fl G fw fw' nu nu' fu fsr fu' fsr' := by
  have g1 := h.1.2.2.2.2.1
  rw [E_v_passNow.eq_def, Lt_b, canPass_at g1] at k2
  by_cases c : (fw 4).toInt < 23 ∨ (fw 5).toInt < 999
  · obtain ⟨b1, b2, b3, b4, b5, b6, b7, b8, b9, b10, b11, b12, b13, b14, p1, p2, p3, p4, p5⟩ := pass_at h h3 c br fs cw lw bro val sm fe frs fb
    rw [p1] at k1
    rw [if_pos c, if_neg (show ¬ (1 : Int32) = 0 by decide), Lt2_b, Lt2_b, p2, Lt2_b, Lt2_b, Lt2_b, Lt2_b, Lt2_b, Lt2_b, Lt2_b, Lt2_b] at k2
    dsimp only at k2
    have m := met_01 (fw := fw)
    have k3 : (r2, nu', lw', bro', val', sm', fw', fe', frs', fu', fsr', fb') = (E_v_isMet fw, (E_v_remember 3 nu fw fu fsr).1, b7, b8, b9, b10, b11, b12, b13, (E_v_remember 3 nu fw fu fsr).2.1, (E_v_remember 3 nu fw fu fsr).2.2, b14) := by
      rcases m with m | m
      · rw [if_pos m] at k2; rw [k2, m]
      · rw [if_neg (by rw [m]; decide)] at k2; rw [k2, m]
    have m0 : 0 ≤ (E_v_isMet fw).toInt := by
      rcases m with m | m <;> rw [m] <;> decide
    simp only [Prod.mk.injEq] at k1 k3
    obtain ⟨rfl, rfl, rfl, rfl, rfl, rfl, rfl⟩ := k1
    obtain ⟨rfl, rfl, rfl, rfl, rfl, rfl, rfl, rfl, rfl, rfl, rfl, rfl⟩ := k3
    exact ⟨rfl, Or.inr ⟨m0, p3, rfl, fun j hj => p4 j (by omega)⟩⟩
  · rw [noPass_at h c] at k1
    rw [if_neg c, if_pos rfl] at k2
    simp only [Prod.mk.injEq] at k1 k2
    obtain ⟨rfl, rfl, rfl, rfl, rfl, rfl, rfl⟩ := k1
    obtain ⟨rfl, rfl, rfl, rfl, rfl, rfl, rfl, rfl, rfl, rfl, rfl, rfl⟩ := k2
    exact ⟨rfl, Or.inl ⟨by decide, rfl, rfl, rfl, rfl, rfl, rfl, rfl⟩⟩
theorem rel_pass {n lt nf fi nu br lw bro dr kp rb sta thr : Int32} {val sm : Int64} {f1 f2 f3 fw fs cw fu fsr sl frf frm fb : Nat → Int32} {fe frs : Nat → Int64} {fl : Nat → Option Nat} {G : Nat → LC} {r1 rb' dr' kp' br' fi' r2 sta' nu' lw' bro' : Int32} {val' sm' : Int64} {frf' sl' fs' cw' f1' f2' fw' fu' fsr' frm' fb' : Nat → Int32} {fe' frs' : Nat → Int64} (k1 : (r1, rb', frf', dr', kp', sl', br', fs', cw', fi', f1', f2') = E_w_pass G rb frf dr kp sl br fs cw n lt nf fi f1 f2 f3 fl) (k2 : (r2, sta', nu', lw', bro', val', sm', fw', fe', frs', fu', fsr', fb', frm') = E_v_pass thr sta nu lw bro val sm fw fe frs fu fsr fb frm) (h : TW n lt nf fi f1 f2 fl G fw) (h3 : ∀ j, j < 24 → f3 j = fw (67 + j)) (hr : HR n dr kp nu sl fu fsr fw) (q : RfR rb sta frf frm) : r1 = r2 ∧ RfR rb' sta' frf' frm' ∧ TW n lt nf fi' f1' f2' fl G fw' ∧ HR n dr' kp' nu' sl' fu' fsr' fw' := by
  rw [E_w_pass.eq_def, Lt_b] at k1
  rw [E_v_pass.eq_def] at k2
  generalize hA : E_w_nextHour G br fs cw n lt nf fi f1 f2 f3 fl = A at k1
  generalize hB : E_v_passNow nu lw bro val sm fw fe frs fu fsr fb = B at k2
  obtain ⟨A1, A2, A3, A4, A5, A6, A7⟩ := A
  obtain ⟨B1, B2, B3, B4, B5, B6, B7, B8, B9, B10, B11, B12⟩ := B
  have a := act_pass h h3 hA.symm hB.symm
  simp only [Lt2, Prod.mk.injEq] at k1 k2
  obtain ⟨a1, a2, a3, a4, a5, a6, a7, a8, a9, a10, a11, a12⟩ := k1
  obtain ⟨b1, b2, b3, b4, b5, b6, b7, b8, b9, b10, b11, b12, b13, b14⟩ := k2
  have s := a.settle (by omega) hr h q (r1 := r1) (rb' := rb') (dr' := dr') (kp' := kp') (frf' := frf') (sl' := sl') (r3 := r2) (sta' := sta') (frm' := frm') (by rw [a1, a2, a3, a4, a5, a6]; rfl) (by rw [b1, b2, b14])
  rw [a10, a11, a12, b3, b8, b11, b12]
  exact s
