section
theorem BJ7_copyOf_59c91_0 : bsegs (ByteArray.data cJ7_copyOf_59c91 |>.toList.drop 0) 0 [(0, [27]), (1, [42]), (2, [190]), (3, [160, 0, 11]), (6, [42]), (7, [182, 1, 60]), (10, [192, 1, 61]), (13, [176]), (14, [27]), (15, [188, 10]), (17, [77]), (18, [42]), (19, [3]), (20, [44]), (21, [3]), (22, [42]), (23, [190]), (24, [27]), (25, [184, 1, 48]), (28, [184, 0, 150]), (31, [44]), (32, [176])] = true := by decide +kernel
theorem dJ7_copyOf_59c91_0 : decode cJ7_copyOf_59c91 0 = .ok (.iload_n 1, 1) := dk_27 (bs_at BJ7_copyOf_59c91_0 0 rfl)
theorem dJ7_copyOf_59c91_1 : decode cJ7_copyOf_59c91 1 = .ok (.aload_n 0, 1) := dk_42 (bs_at BJ7_copyOf_59c91_0 1 rfl)
theorem dJ7_copyOf_59c91_2 : decode cJ7_copyOf_59c91 2 = .ok (.arraylength, 1) := dk_190 (bs_at BJ7_copyOf_59c91_0 2 rfl)
theorem dJ7_copyOf_59c91_3 : decode cJ7_copyOf_59c91 3 = .ok (.if_icmp .ne 11, 3) := dk_160 0 11 (bs_at BJ7_copyOf_59c91_0 3 rfl) rfl
theorem dJ7_copyOf_59c91_6 : decode cJ7_copyOf_59c91 6 = .ok (.aload_n 0, 1) := dk_42 (bs_at BJ7_copyOf_59c91_0 4 rfl)
theorem dJ7_copyOf_59c91_7 : decode cJ7_copyOf_59c91 7 = .ok (.invokevirtual 316, 3) := dk_182 1 60 (bs_at BJ7_copyOf_59c91_0 5 rfl) rfl
theorem dJ7_copyOf_59c91_10 : decode cJ7_copyOf_59c91 10 = .ok (.checkcast 317, 3) := dk_192 1 61 (bs_at BJ7_copyOf_59c91_0 6 rfl) rfl
theorem dJ7_copyOf_59c91_13 : decode cJ7_copyOf_59c91 13 = .ok (.areturn, 1) := dk_176 (bs_at BJ7_copyOf_59c91_0 7 rfl)
theorem dJ7_copyOf_59c91_14 : decode cJ7_copyOf_59c91 14 = .ok (.iload_n 1, 1) := dk_27 (bs_at BJ7_copyOf_59c91_0 8 rfl)
theorem dJ7_copyOf_59c91_15 : decode cJ7_copyOf_59c91 15 = .ok (.newarray .int, 2) := dk_188_10 (bs_at BJ7_copyOf_59c91_0 9 rfl)
theorem dJ7_copyOf_59c91_17 : decode cJ7_copyOf_59c91 17 = .ok (.astore_n 2, 1) := dk_77 (bs_at BJ7_copyOf_59c91_0 10 rfl)
theorem dJ7_copyOf_59c91_18 : decode cJ7_copyOf_59c91 18 = .ok (.aload_n 0, 1) := dk_42 (bs_at BJ7_copyOf_59c91_0 11 rfl)
theorem dJ7_copyOf_59c91_19 : decode cJ7_copyOf_59c91 19 = .ok (.iconst 0, 1) := dk_3 (bs_at BJ7_copyOf_59c91_0 12 rfl)
theorem dJ7_copyOf_59c91_20 : decode cJ7_copyOf_59c91 20 = .ok (.aload_n 2, 1) := dk_44 (bs_at BJ7_copyOf_59c91_0 13 rfl)
theorem dJ7_copyOf_59c91_21 : decode cJ7_copyOf_59c91 21 = .ok (.iconst 0, 1) := dk_3 (bs_at BJ7_copyOf_59c91_0 14 rfl)
theorem dJ7_copyOf_59c91_22 : decode cJ7_copyOf_59c91 22 = .ok (.aload_n 0, 1) := dk_42 (bs_at BJ7_copyOf_59c91_0 15 rfl)
theorem dJ7_copyOf_59c91_23 : decode cJ7_copyOf_59c91 23 = .ok (.arraylength, 1) := dk_190 (bs_at BJ7_copyOf_59c91_0 16 rfl)
theorem dJ7_copyOf_59c91_24 : decode cJ7_copyOf_59c91 24 = .ok (.iload_n 1, 1) := dk_27 (bs_at BJ7_copyOf_59c91_0 17 rfl)
theorem dJ7_copyOf_59c91_25 : decode cJ7_copyOf_59c91 25 = .ok (.invokestatic 304, 3) := dk_184 1 48 (bs_at BJ7_copyOf_59c91_0 18 rfl) rfl
theorem dJ7_copyOf_59c91_28 : decode cJ7_copyOf_59c91 28 = .ok (.invokestatic 150, 3) := dk_184 0 150 (bs_at BJ7_copyOf_59c91_0 19 rfl) rfl
theorem dJ7_copyOf_59c91_31 : decode cJ7_copyOf_59c91 31 = .ok (.aload_n 2, 1) := dk_44 (bs_at BJ7_copyOf_59c91_0 20 rfl)
theorem dJ7_copyOf_59c91_32 : decode cJ7_copyOf_59c91 32 = .ok (.areturn, 1) := dk_176 (bs_at BJ7_copyOf_59c91_0 21 rfl)
theorem fit_int {cA : ClassId} {n : Nat} {f : Nat → Int32} : ∀ (i : Nat) (v : Value), (vp_cell cA (n, .inl f)).slots[i]? = some v → fits .int v = true := fun i v hv => by
  rw [vp_cell_i] at hv
  exact va_fit (fun _ _ => rfl) i v hv
noncomputable abbrev CST : Cond := .castable "[I" "java/lang/Cloneable"
noncomputable def PreC (P : State → Prop) (U : State) : Prop := P U ∧ va_Nw CST U
theorem PreC.bl {P : State → Prop} {av : List Value} (h : FrameBlind (va_Pc av P)) : FrameBlind (va_Pc av (PreC P)) := fun a U gf mk q => by
  obtain ⟨q0, q1, q2⟩ := q
  have := h a U gf mk ⟨q0, q1⟩
  exact ⟨this.1, this.2, va_tabs (by rfl) (rfl : U.vm = (U.calling gf mk a).vm) q2⟩
theorem cst_warm {s U : State} (hW : s.WarmedH U.vm) (h : va_Nw CST s) : va_Nw CST U := va_Nw.warmC hW h
theorem PreC.S {s : State} {H : Heap} {P : State → Prop} {av As : List Value} (h : PreS s H (va_Pc av P) As) (hc : va_Nw CST s) : PreS s H (va_Pc av (PreC P)) As :=
  ⟨PreC.bl h.1, fun U hU hW => ⟨(h.2 U hU hW).1, (h.2 U hU hW).2, cst_warm hW hc⟩⟩
theorem PreC.V {s : State} {H : Heap} {C : String} {b : Addr} {P : State → Prop} {av As : List Value} (h : PreV s H C b (va_Pc av P) As) (hc : va_Nw CST s) : PreV s H C b (va_Pc av (PreC P)) As :=
  ⟨PreC.bl h.1, h.2.1, fun U hU hW => ⟨(h.2.2 U hU hW).1, (h.2.2 U hU hW).2, cst_warm hW hc⟩⟩
theorem InL.mono {L M : Nat → Prop} {f : Nat → Option Nat} (h : InL L f) (hm : ∀ q, L q → M q) : InL M f := fun j => by
  have := h j
  unfold InLo at this ⊢
  cases e : f j with
  | none => trivial
  | some q => rw [e] at this; exact hm q this
noncomputable def NewLaw (K : Nat → ClassId) (L M : Nat → Prop) (G G2 : Nat → LC) (X0 : Prop) (X : Nat → LC → Prop) (w : va_W) : Prop := (w = [] ∧ M = L ∧ G2 = G ∧ X0) ∨ ∃ (q h c nh nc : Nat) (fh fc : Nat → Int32) (cl us : Int32), w = Scr K q h c nh nc fh fc cl us ∧ nh < 1000000 ∧ nc < 1000000 ∧ (Rg nh (-1) 1000 fh ∧ Rg nc 0 1000 fc) ∧ M = (fun z => L z ∨ z = q) ∧ G2 = (fun z => if z = q then (nh, nc, fh, fc, cl, us) else G z) ∧ X q (nh, nc, fh, fc, cl, us)
section MYR
variable {p : Program} {l : Launch} {e : Env} {R : Room} {s : State} {m : MethodId} {args : Array Value} {below : List Frame} {meth : Method} {c : Code} {H : Heap} {locs : List Loc} {cells slots : Nat} {Q : State → Prop}
variable {pc : Nat} {ls : Array Slot} {rest st0 : List Value} {a : Array Value} {A0 : Nat → Prop} {H0 : Heap} {mc ms : Nat} {D : va_G} {ws wc wr : va_W}
theorem kcr {S : Type} {post : S → Prop} {B : S → va_W} {ad : S → Nat} (hr : va_Run p l e R s m args below meth c H locs cells slots mc ms (F0 m pc ls st0) rest (va_Qr post (fun u x t => x = ad u ∧ Wd D (va_A wc H.size) (B u) t) (va_A wc H.size) a) (va_A wc H.size))
    (hP : va_P D vwCl ws H) (hD : va_D A0 ws) (hS : va_S A0 H0 H locs) (hA : ∀ q, H0.size ≤ q → A0 q) (isC isR : List Nat) (hC : isC.map (fun i => ws[i]?) = wc.map some) (hR : isR.map (fun i => ws[i]?) = wr.map some) (hn : va_nd isR = true) (hdis : ∀ i ∈ isR, i ∉ isC)
    (kk : ∀ (u : S) (H1 : Heap) (locs1 : List Loc), post u → va_P D vwCl (wr ++ B u) H1 → va_D A0 (wr ++ B u) → va_S A0 H0 H1 locs1 → W p l e R s m args below meth c H1 locs1 (cells + mc) (slots + ms) Q (F0 m (pc + 3) ls (.ref (ad u) :: rest))) : W p l e R s m args below meth c H locs cells slots Q (F0 m pc ls st0) := by
  have hFc := va_free (wc := wc) hD hS hA isC hC
  refine va_callr hr hS (fun q _ h => hFc q h) hFc (fun u ra t H1 locs1 ht hvm hw hB hz1 hk1 hS1 => ?_)
  obtain ⟨rfl, hP1, hD1⟩ := hB
  rw [ht] at hP1
  obtain ⟨hP2, hD2⟩ := va_join (wr := wr) (w1 := B u) hP hD isC isR hC hR hn hdis hk1 hFc hP1 hD1
  exact kk u H1 locs1 hw hP2 hD2 hS1
end MYR
theorem cpy_in {f g : Nat → Int32} {n : Int32} {j : Nat} (h : j < n.toInt.toNat) : va_cpy (α := Int32) f g (0 : Int32).toNatClampNeg (0 : Int32).toNatClampNeg n.toNatClampNeg j = f j := by
  show (if 0 ≤ j ∧ j < 0 + n.toInt.toNat then f (0 + (j - 0)) else g j) = f j
  rw [if_pos (by omega), Nat.zero_add, Nat.sub_zero]
/-- what trimmed() makes of a text -/
noncomputable def TrX (cl us : Int32) (fh fc : Nat → Int32) (x : LC) : Prop := x.2.2.2.2.1 = cl ∧ (x.1 : Int) = 5 * cl.toInt ∧ (x.2.1 : Int) = us.toInt ∧ (∀ j, j < x.1 → x.2.2.1 j = fh j) ∧ ∀ j, j < x.2.1 → x.2.2.2.1 j = fc j
set_option maxHeartbeats 4000000 in
set_option maxRecDepth 100000 in
theorem w_copy_h (l : Launch) (D : va_G) (K : Nat → ClassId) (a0 : Nat) (n : Int32) (f : Nat → Int32) (sz : Nat) (zn : 0 ≤ n.toInt ∧ n.toInt ≤ 60) (zf : Rg 60 (-1) 1000 f) : Met l yJ7_copyOf_59c91 wsJ7_copyOf_59c91 ({ frames := 1, cells := 1, slots := 60, locals := 40 }) (va_Pc [.ref a0, .int n] (PreC (Pre D K [(cc_l a0 (K 0) 60 f)] sz))) (va_Qr (S := Nat × (Nat → Int32)) (fun u => Rg n.toInt.toNat (-1) 1000 u.2 ∧ ∀ j, j < n.toInt.toNat → u.2 j = f j) (fun u x t => x = (fun u => u.1) u ∧ Wd D (va_A [(cc_l a0 (K 0) 60 f)] sz) ((fun u => [(cc_l a0 (K 0) 60 f), (u.1, .inl (K 0, n.toInt.toNat, .inl u.2))]) u) t) (va_A [(cc_l a0 (K 0) 60 f)] sz)) 1 60 (va_A [(cc_l a0 (K 0) 60 f)] sz) := by
  refine Met.ofW (cc := cJ7_copyOf_59c91) (maxL := 3) (ret := (some (.array .int))) (by decide +kernel) rfl ?_
  intro p e s m args below meth c s₁ B hml hv
  obtain ⟨rfl, ⟨hsz, hP, hK, hD0, hN⟩, hC⟩ := hv
  have hx := B.exec
  have hb := B.bytes
  have hr := B.returns
  have hts := atoms_spec (ws := wsJ7_copyOf_59c91) B.pre
  have hown : s.vm.findClass RJ7 = some m.cls := findClass_of_methodNamed B.named
  have hlocks := B.notSynchronized
  subst hsz
  have hD := hD0.self (sz := s.heap.size)
  generalize hAe : va_A [(cc_l a0 (K 0) 60 f)] s.heap.size = A at hD ⊢
  have hA : ∀ q : Nat, s.heap.size ≤ q → A q := fun q h => by rw [← hAe]; exact Or.inr h
  clear hAe
  have hS : va_S A s.heap s.heap [] := va_S.rf
  replace hP : va_P D vwCl [(cc_l a0 (K 0) 60 f)] s.heap := hP
  have hl := lv_entry [.ref a0, .int n] (n := 3) (Nat.le_of_ble_eq_true rfl)
  rw [lg_entry_eq]
  generalize (lg_sl [.ref a0, .int n] ++ List.replicate (3 - (lg_sl [.ref a0, .int n]).length) Slot.unset).toArray = ls at hl ⊢
  have hl : lv_has ls 3 [(0, .ref a0), (1, .int n)] := hl
  generalize hQ : MQ below _ _ s _ _ _ = Q
  refine lv_iload_n hx hb dJ7_copyOf_59c91_0 rfl (lv_at hl 1 rfl) (lv_aload_n hx hb dJ7_copyOf_59c91_1 rfl (lv_at hl 0 rfl) (va_alen (v := 60) hx hb hK hP 0 0 rfl rfl rfl dJ7_copyOf_59c91_2 (lv_icmp_ne (tgt := 14) hx hb dJ7_copyOf_59c91_3 (by decide +kernel) (fun c_71 => ?_) (fun c_71 => ?_))))
  · have c_71i := i_ne (x := n.toInt) (y := 60) rfl rfl c_71
    refine lv_iload_n hx hb dJ7_copyOf_59c91_14 rfl (lv_at hl 1 rfl) ?_
    refine k_newa (atype := .int) (ty := .int) (cA := K 0) (a0 := ((n.toInt).toNat, .inl (fun _ => 0))) (N' := (n.toInt).toNat) hx hb (hts _ mm_J7_copyOf_59c91_194) rfl hK 0 rfl hP hD hS hA (fun _ => rfl) (fun h9 => by have h8 := i_lt (x := n.toInt) (y := 0) rfl rfl h9; omega) (i_clamp rfl) (by show _ * 4 ≤ _; omega) (Nat.le_of_ble_eq_true rfl) (by show _ ≤ (60 : Nat); omega) dJ7_copyOf_59c91_15 (fun q_72 H hP0 hD0 hS0 => ?_)
    replace hP : va_P D vwCl [(cc_l a0 (K 0) 60 f), (cc_l q_72 (K 0) (n.toInt.toNat) (fun _ => 0))] H := hP0
    replace hD := as_D hP hD0 rfl
    replace hS := hS0
    clear hP0 hD0 hS0
    refine W.widen (k := 1) (n := 59) (by omega) (by omega) ?_
    refine lv_astore_n (lv' := [(2, .ref q_72), (0, .ref a0), (1, .int n)]) hx hb dJ7_copyOf_59c91_17 rfl hl (by decide +kernel) rfl (fun ls hl => ?_)
    refine lv_aload_n hx hb dJ7_copyOf_59c91_18 rfl (lv_at hl 1 rfl) (lv_iconst (v := 0) hx hb dJ7_copyOf_59c91_19 (by decide +kernel) (lv_aload_n hx hb dJ7_copyOf_59c91_20 rfl (lv_at hl 0 rfl) (lv_iconst (v := 0) hx hb dJ7_copyOf_59c91_21 (by decide +kernel) (lv_aload_n hx hb dJ7_copyOf_59c91_22 rfl (lv_at hl 1 rfl) (va_alen (v := 60) hx hb hK hP 0 0 rfl rfl rfl dJ7_copyOf_59c91_23 (lv_iload_n hx hb dJ7_copyOf_59c91_24 rfl (lv_at hl 2 rfl) (va_mmin hx hb (hml.trans hl.1.symm) hown (hts _ mm_J7_copyOf_59c91_568) (hts _ mm_J7_copyOf_59c91_426) (hts _ mm_J7_copyOf_59c91_157) (hts _ mm_J7_copyOf_59c91_427) (Nat.le_of_ble_eq_true rfl) (Nat.le_of_ble_eq_true rfl) (Nat.le_of_ble_eq_true rfl) (Nat.le_of_ble_eq_true rfl) dJ7_copyOf_59c91_25 (lv_topi (fun x_73 ex_73 => ?_)))))))))
    have hx_73 : (60 ≤ n.toInt ∧ x_73.toInt = 60) ∨ (n.toInt < 60 ∧ x_73.toInt = n.toInt) := by rw [ex_73]; exact i_min (show (60 : Int32).toInt = 60 from rfl) rfl
    replace hx_73 : x_73.toInt ≤ n.toInt ∧ 0 ≤ x_73.toInt ∧ x_73.toInt ≤ 59 := by omega
    refine va_copyi hx hb (hml.trans hl.1.symm) hown (hts _ mm_J7_copyOf_59c91_569) (hts _ mm_J7_copyOf_59c91_571) (hts _ mm_J7_copyOf_59c91_570) (hts _ mm_J7_copyOf_59c91_163) hK hP hD hS 0 1 0 0 rfl rfl rfl rfl rfl (by decide +kernel) (by decide +kernel) (fun h9 => by have h8 := i_lt (x := x_73.toInt) (y := 0) rfl rfl h9; omega) (by rw [i_clamp (show (0 : Int32).toInt = 0 from rfl), i_clamp rfl]; omega) (by rw [i_clamp (show (0 : Int32).toInt = 0 from rfl), i_clamp rfl]; omega) (fun _ _ => rfl) (Nat.le_of_ble_eq_true rfl) (by decide +kernel) dJ7_copyOf_59c91_28 (fun H locs hP0 hD0 hS0 => ?_)
    replace hP := hP0
    replace hD := hD0
    replace hS := hS0
    clear hP0 hD0 hS0
    generalize hf_74 : (va_cpy (α := Int32) f (fun _ => 0) (0 : Int32).toNatClampNeg (0 : Int32).toNatClampNeg (x_73 : Int32).toNatClampNeg) = f_74 at hP hD
    have hf_74_0 : Rg n.toInt.toNat (-1) 1000 f_74 := by rw [← hf_74]; exact (Rg.cpy (lo := (-1)) (hi := 1000) zf (Rg.zero (by decide +kernel)) (by rw [i_clamp (show (0 : Int32).toInt = 0 from rfl), i_clamp rfl]; omega))
    have hnz_75 : x_73 = n := by rw [ex_73]; exact if_pos (Int32.lt_iff_toInt_lt.mpr (show n.toInt < 60 by omega))
    have hz_75 : ∀ j, j < n.toInt.toNat → f_74 j = f j := fun j hj => by rw [← hf_74, hnz_75]; exact cpy_in hj
    replace hP : va_P D vwCl [(cc_l a0 (K 0) 60 f), (cc_l q_72 (K 0) (n.toInt.toNat) f_74)] H := hP
    replace hD := as_D hP hD rfl
    refine lv_aload_n hx hb dJ7_copyOf_59c91_31 rfl (lv_at hl 0 rfl) ?_
    rw [← hQ]
    refine W.widen (k := 1) (n := 60) (by omega) (by omega) ?_
    have hP9 := hP.sub (ws' := [(cc_l a0 (K 0) 60 f), (cc_l q_72 (K 0) (n.toInt.toNat) f_74)]) [0, 1] rfl
    have hD9 := sub_D hP9 hD [0, 1] (by decide +kernel) rfl
    exact W.aret (v := .ref q_72) hx hb hr (Or.inr ⟨_, rfl⟩) (Or.inr ⟨_, rfl⟩) (fun t ht hW => ⟨⟨(q_72, f_74), q_72, rfl, ⟨hf_74_0, hz_75⟩, rfl, by rw [ht]; exact hP9, hD9⟩, hS.F ht⟩) hS.2.2 dJ7_copyOf_59c91_32
  · have c_71i := i_eq (x := n.toInt) (y := 60) rfl rfl c_71
    refine lv_aload_n hx hb dJ7_copyOf_59c91_6 rfl (lv_at hl 0 rfl) ?_
    have hAn : s.vm.findClass "[I" = some (K 0) := (hK.2 0 _ rfl).2
    refine va_clone (ty := .int) hx hb (hml.trans hl.1.symm) hown (hts _ mm_J7_copyOf_59c91_562) (hts _ mm_J7_copyOf_59c91_563) (hts _ mm_J7_copyOf_59c91_564) (hts _ mm_J7_copyOf_59c91_565) (hts _ mm_J7_copyOf_59c91_566) hC hK hP hD hS hA 0 0 rfl rfl hAn (fit_int (f := f)) (Nat.le_of_ble_eq_true rfl) (Nat.le_of_ble_eq_true rfl) (Nat.le_of_ble_eq_true rfl) (Nat.le_of_ble_eq_true rfl) dJ7_copyOf_59c91_7 (fun q_9 H _ hP0 hD0 hS0 => ?_)
    replace hP := hP0
    replace hD := hD0
    replace hS := hS0
    clear hP0 hD0 hS0
    refine va_castA (nm := "[I") hx hb hown (hts _ mm_J7_copyOf_59c91_567) hP 1 rfl hAn dJ7_copyOf_59c91_10 ?_
    have e_9 : n.toInt.toNat = 60 := by omega
    have hP : va_P D vwCl [(cc_l a0 (K 0) 60 f), (cc_l q_9 (K 0) (n.toInt.toNat) f)] H := by rw [e_9]; exact hP
    have hD : va_D A [(cc_l a0 (K 0) 60 f), (cc_l q_9 (K 0) (n.toInt.toNat) f)] := by rw [e_9]; exact hD
    refine W.widen (k := 1) (n := 60) (by omega) (by omega) ?_
    rw [← hQ]
    have hP9 := hP.sub (ws' := [(cc_l a0 (K 0) 60 f), (cc_l q_9 (K 0) (n.toInt.toNat) f)]) [0, 1] rfl
    have hD9 := sub_D hP9 hD [0, 1] (by decide +kernel) rfl
    exact W.aret (v := .ref q_9) hx hb hr (Or.inr ⟨_, rfl⟩) (Or.inr ⟨_, rfl⟩) (fun t ht hW => ⟨⟨(q_9, f), q_9, rfl, ⟨(e_9.symm ▸ zf), fun _ _ => rfl⟩, rfl, by rw [ht]; exact hP9, hD9⟩, hS.F ht⟩) hS.2.2 dJ7_copyOf_59c91_13
set_option maxHeartbeats 4000000 in
set_option maxRecDepth 100000 in
theorem w_copy_c (l : Launch) (D : va_G) (K : Nat → ClassId) (a0 : Nat) (n : Int32) (f : Nat → Int32) (sz : Nat) (zn : 0 ≤ n.toInt ∧ n.toInt ≤ 800) (zf : Rg 800 0 1000 f) : Met l yJ7_copyOf_59c91 wsJ7_copyOf_59c91 ({ frames := 1, cells := 1, slots := 800, locals := 40 }) (va_Pc [.ref a0, .int n] (PreC (Pre D K [(cc_l a0 (K 0) 800 f)] sz))) (va_Qr (S := Nat × (Nat → Int32)) (fun u => Rg n.toInt.toNat 0 1000 u.2 ∧ ∀ j, j < n.toInt.toNat → u.2 j = f j) (fun u x t => x = (fun u => u.1) u ∧ Wd D (va_A [(cc_l a0 (K 0) 800 f)] sz) ((fun u => [(cc_l a0 (K 0) 800 f), (u.1, .inl (K 0, n.toInt.toNat, .inl u.2))]) u) t) (va_A [(cc_l a0 (K 0) 800 f)] sz)) 1 800 (va_A [(cc_l a0 (K 0) 800 f)] sz) := by
  refine Met.ofW (cc := cJ7_copyOf_59c91) (maxL := 3) (ret := (some (.array .int))) (by decide +kernel) rfl ?_
  intro p e s m args below meth c s₁ B hml hv
  obtain ⟨rfl, ⟨hsz, hP, hK, hD0, hN⟩, hC⟩ := hv
  have hx := B.exec
  have hb := B.bytes
  have hr := B.returns
  have hts := atoms_spec (ws := wsJ7_copyOf_59c91) B.pre
  have hown : s.vm.findClass RJ7 = some m.cls := findClass_of_methodNamed B.named
  have hlocks := B.notSynchronized
  subst hsz
  have hD := hD0.self (sz := s.heap.size)
  generalize hAe : va_A [(cc_l a0 (K 0) 800 f)] s.heap.size = A at hD ⊢
  have hA : ∀ q : Nat, s.heap.size ≤ q → A q := fun q h => by rw [← hAe]; exact Or.inr h
  clear hAe
  have hS : va_S A s.heap s.heap [] := va_S.rf
  replace hP : va_P D vwCl [(cc_l a0 (K 0) 800 f)] s.heap := hP
  have hl := lv_entry [.ref a0, .int n] (n := 3) (Nat.le_of_ble_eq_true rfl)
  rw [lg_entry_eq]
  generalize (lg_sl [.ref a0, .int n] ++ List.replicate (3 - (lg_sl [.ref a0, .int n]).length) Slot.unset).toArray = ls at hl ⊢
  have hl : lv_has ls 3 [(0, .ref a0), (1, .int n)] := hl
  generalize hQ : MQ below _ _ s _ _ _ = Q
  refine lv_iload_n hx hb dJ7_copyOf_59c91_0 rfl (lv_at hl 1 rfl) (lv_aload_n hx hb dJ7_copyOf_59c91_1 rfl (lv_at hl 0 rfl) (va_alen (v := 800) hx hb hK hP 0 0 rfl rfl rfl dJ7_copyOf_59c91_2 (lv_icmp_ne (tgt := 14) hx hb dJ7_copyOf_59c91_3 (by decide +kernel) (fun c_71 => ?_) (fun c_71 => ?_))))
  · have c_71i := i_ne (x := n.toInt) (y := 800) rfl rfl c_71
    refine lv_iload_n hx hb dJ7_copyOf_59c91_14 rfl (lv_at hl 1 rfl) ?_
    refine k_newa (atype := .int) (ty := .int) (cA := K 0) (a0 := ((n.toInt).toNat, .inl (fun _ => 0))) (N' := (n.toInt).toNat) hx hb (hts _ mm_J7_copyOf_59c91_194) rfl hK 0 rfl hP hD hS hA (fun _ => rfl) (fun h9 => by have h8 := i_lt (x := n.toInt) (y := 0) rfl rfl h9; omega) (i_clamp rfl) (by show _ * 4 ≤ _; omega) (Nat.le_of_ble_eq_true rfl) (by show _ ≤ (800 : Nat); omega) dJ7_copyOf_59c91_15 (fun q_72 H hP0 hD0 hS0 => ?_)
    replace hP : va_P D vwCl [(cc_l a0 (K 0) 800 f), (cc_l q_72 (K 0) (n.toInt.toNat) (fun _ => 0))] H := hP0
    replace hD := as_D hP hD0 rfl
    replace hS := hS0
    clear hP0 hD0 hS0
    refine W.widen (k := 1) (n := 799) (by omega) (by omega) ?_
    refine lv_astore_n (lv' := [(2, .ref q_72), (0, .ref a0), (1, .int n)]) hx hb dJ7_copyOf_59c91_17 rfl hl (by decide +kernel) rfl (fun ls hl => ?_)
    refine lv_aload_n hx hb dJ7_copyOf_59c91_18 rfl (lv_at hl 1 rfl) (lv_iconst (v := 0) hx hb dJ7_copyOf_59c91_19 (by decide +kernel) (lv_aload_n hx hb dJ7_copyOf_59c91_20 rfl (lv_at hl 0 rfl) (lv_iconst (v := 0) hx hb dJ7_copyOf_59c91_21 (by decide +kernel) (lv_aload_n hx hb dJ7_copyOf_59c91_22 rfl (lv_at hl 1 rfl) (va_alen (v := 800) hx hb hK hP 0 0 rfl rfl rfl dJ7_copyOf_59c91_23 (lv_iload_n hx hb dJ7_copyOf_59c91_24 rfl (lv_at hl 2 rfl) (va_mmin hx hb (hml.trans hl.1.symm) hown (hts _ mm_J7_copyOf_59c91_568) (hts _ mm_J7_copyOf_59c91_426) (hts _ mm_J7_copyOf_59c91_157) (hts _ mm_J7_copyOf_59c91_427) (Nat.le_of_ble_eq_true rfl) (Nat.le_of_ble_eq_true rfl) (Nat.le_of_ble_eq_true rfl) (Nat.le_of_ble_eq_true rfl) dJ7_copyOf_59c91_25 (lv_topi (fun x_73 ex_73 => ?_)))))))))
    have hx_73 : (800 ≤ n.toInt ∧ x_73.toInt = 800) ∨ (n.toInt < 800 ∧ x_73.toInt = n.toInt) := by rw [ex_73]; exact i_min (show (800 : Int32).toInt = 800 from rfl) rfl
    replace hx_73 : x_73.toInt ≤ n.toInt ∧ 0 ≤ x_73.toInt ∧ x_73.toInt ≤ 799 := by omega
    refine va_copyi hx hb (hml.trans hl.1.symm) hown (hts _ mm_J7_copyOf_59c91_569) (hts _ mm_J7_copyOf_59c91_571) (hts _ mm_J7_copyOf_59c91_570) (hts _ mm_J7_copyOf_59c91_163) hK hP hD hS 0 1 0 0 rfl rfl rfl rfl rfl (by decide +kernel) (by decide +kernel) (fun h9 => by have h8 := i_lt (x := x_73.toInt) (y := 0) rfl rfl h9; omega) (by rw [i_clamp (show (0 : Int32).toInt = 0 from rfl), i_clamp rfl]; omega) (by rw [i_clamp (show (0 : Int32).toInt = 0 from rfl), i_clamp rfl]; omega) (fun _ _ => rfl) (Nat.le_of_ble_eq_true rfl) (by decide +kernel) dJ7_copyOf_59c91_28 (fun H locs hP0 hD0 hS0 => ?_)
    replace hP := hP0
    replace hD := hD0
    replace hS := hS0
    clear hP0 hD0 hS0
    generalize hf_74 : (va_cpy (α := Int32) f (fun _ => 0) (0 : Int32).toNatClampNeg (0 : Int32).toNatClampNeg (x_73 : Int32).toNatClampNeg) = f_74 at hP hD
    have hf_74_0 : Rg n.toInt.toNat 0 1000 f_74 := by rw [← hf_74]; exact (Rg.cpy (lo := 0) (hi := 1000) zf (Rg.zero (by decide +kernel)) (by rw [i_clamp (show (0 : Int32).toInt = 0 from rfl), i_clamp rfl]; omega))
    have hnz_75 : x_73 = n := by rw [ex_73]; exact if_pos (Int32.lt_iff_toInt_lt.mpr (show n.toInt < 800 by omega))
    have hz_75 : ∀ j, j < n.toInt.toNat → f_74 j = f j := fun j hj => by rw [← hf_74, hnz_75]; exact cpy_in hj
    replace hP : va_P D vwCl [(cc_l a0 (K 0) 800 f), (cc_l q_72 (K 0) (n.toInt.toNat) f_74)] H := hP
    replace hD := as_D hP hD rfl
    refine lv_aload_n hx hb dJ7_copyOf_59c91_31 rfl (lv_at hl 0 rfl) ?_
    rw [← hQ]
    refine W.widen (k := 1) (n := 800) (by omega) (by omega) ?_
    have hP9 := hP.sub (ws' := [(cc_l a0 (K 0) 800 f), (cc_l q_72 (K 0) (n.toInt.toNat) f_74)]) [0, 1] rfl
    have hD9 := sub_D hP9 hD [0, 1] (by decide +kernel) rfl
    exact W.aret (v := .ref q_72) hx hb hr (Or.inr ⟨_, rfl⟩) (Or.inr ⟨_, rfl⟩) (fun t ht hW => ⟨⟨(q_72, f_74), q_72, rfl, ⟨hf_74_0, hz_75⟩, rfl, by rw [ht]; exact hP9, hD9⟩, hS.F ht⟩) hS.2.2 dJ7_copyOf_59c91_32
  · have c_71i := i_eq (x := n.toInt) (y := 800) rfl rfl c_71
    refine lv_aload_n hx hb dJ7_copyOf_59c91_6 rfl (lv_at hl 0 rfl) ?_
    have hAn : s.vm.findClass "[I" = some (K 0) := (hK.2 0 _ rfl).2
    refine va_clone (ty := .int) hx hb (hml.trans hl.1.symm) hown (hts _ mm_J7_copyOf_59c91_562) (hts _ mm_J7_copyOf_59c91_563) (hts _ mm_J7_copyOf_59c91_564) (hts _ mm_J7_copyOf_59c91_565) (hts _ mm_J7_copyOf_59c91_566) hC hK hP hD hS hA 0 0 rfl rfl hAn (fit_int (f := f)) (Nat.le_of_ble_eq_true rfl) (Nat.le_of_ble_eq_true rfl) (Nat.le_of_ble_eq_true rfl) (Nat.le_of_ble_eq_true rfl) dJ7_copyOf_59c91_7 (fun q_9 H _ hP0 hD0 hS0 => ?_)
    replace hP := hP0
    replace hD := hD0
    replace hS := hS0
    clear hP0 hD0 hS0
    refine va_castA (nm := "[I") hx hb hown (hts _ mm_J7_copyOf_59c91_567) hP 1 rfl hAn dJ7_copyOf_59c91_10 ?_
    have e_9 : n.toInt.toNat = 800 := by omega
    have hP : va_P D vwCl [(cc_l a0 (K 0) 800 f), (cc_l q_9 (K 0) (n.toInt.toNat) f)] H := by rw [e_9]; exact hP
    have hD : va_D A [(cc_l a0 (K 0) 800 f), (cc_l q_9 (K 0) (n.toInt.toNat) f)] := by rw [e_9]; exact hD
    refine W.widen (k := 1) (n := 800) (by omega) (by omega) ?_
    rw [← hQ]
    have hP9 := hP.sub (ws' := [(cc_l a0 (K 0) 800 f), (cc_l q_9 (K 0) (n.toInt.toNat) f)]) [0, 1] rfl
    have hD9 := sub_D hP9 hD [0, 1] (by decide +kernel) rfl
    exact W.aret (v := .ref q_9) hx hb hr (Or.inr ⟨_, rfl⟩) (Or.inr ⟨_, rfl⟩) (fun t ht hW => ⟨⟨(q_9, f), q_9, rfl, ⟨(e_9.symm ▸ zf), fun _ _ => rfl⟩, rfl, by rw [ht]; exact hP9, hD9⟩, hS.F ht⟩) hS.2.2 dJ7_copyOf_59c91_13
end
section
theorem BX7_init_0 : bsegs (ByteArray.data cX7_init |>.toList.drop 0) 0 [(0, [42]), (1, [183, 0, 3]), (4, [42]), (5, [43]), (6, [181, 0, 9]), (9, [42]), (10, [44]), (11, [181, 0, 15]), (14, [42]), (15, [29]), (16, [181, 0, 18]), (19, [42]), (20, [44]), (21, [190]), (22, [181, 0, 22]), (25, [177])] = true := by decide +kernel
theorem dX7_init_0 : decode cX7_init 0 = .ok (.aload_n 0, 1) := dk_42 (bs_at BX7_init_0 0 rfl)
theorem dX7_init_1 : decode cX7_init 1 = .ok (.invokespecial 3, 3) := dk_183 0 3 (bs_at BX7_init_0 1 rfl) rfl
theorem dX7_init_4 : decode cX7_init 4 = .ok (.aload_n 0, 1) := dk_42 (bs_at BX7_init_0 2 rfl)
theorem dX7_init_5 : decode cX7_init 5 = .ok (.aload_n 1, 1) := dk_43 (bs_at BX7_init_0 3 rfl)
theorem dX7_init_6 : decode cX7_init 6 = .ok (.putfield 9, 3) := dk_181 0 9 (bs_at BX7_init_0 4 rfl) rfl
theorem dX7_init_9 : decode cX7_init 9 = .ok (.aload_n 0, 1) := dk_42 (bs_at BX7_init_0 5 rfl)
theorem dX7_init_10 : decode cX7_init 10 = .ok (.aload_n 2, 1) := dk_44 (bs_at BX7_init_0 6 rfl)
theorem dX7_init_11 : decode cX7_init 11 = .ok (.putfield 15, 3) := dk_181 0 15 (bs_at BX7_init_0 7 rfl) rfl
theorem dX7_init_14 : decode cX7_init 14 = .ok (.aload_n 0, 1) := dk_42 (bs_at BX7_init_0 8 rfl)
theorem dX7_init_15 : decode cX7_init 15 = .ok (.iload_n 3, 1) := dk_29 (bs_at BX7_init_0 9 rfl)
theorem dX7_init_16 : decode cX7_init 16 = .ok (.putfield 18, 3) := dk_181 0 18 (bs_at BX7_init_0 10 rfl) rfl
theorem dX7_init_19 : decode cX7_init 19 = .ok (.aload_n 0, 1) := dk_42 (bs_at BX7_init_0 11 rfl)
theorem dX7_init_20 : decode cX7_init 20 = .ok (.aload_n 2, 1) := dk_44 (bs_at BX7_init_0 12 rfl)
theorem dX7_init_21 : decode cX7_init 21 = .ok (.arraylength, 1) := dk_190 (bs_at BX7_init_0 13 rfl)
theorem dX7_init_22 : decode cX7_init 22 = .ok (.putfield 22, 3) := dk_181 0 22 (bs_at BX7_init_0 14 rfl) rfl
theorem dX7_init_25 : decode cX7_init 25 = .ok (.return_, 1) := dk_177 (bs_at BX7_init_0 15 rfl)
theorem BX7_trimmed_0 : bsegs (ByteArray.data cX7_trimmed |>.toList.drop 0) 0 [(0, [187, 0, 10]), (3, [89]), (4, [42]), (5, [180, 0, 9]), (8, [42]), (9, [180, 0, 18]), (12, [8]), (13, [104]), (14, [184, 0, 25]), (17, [42]), (18, [180, 0, 15]), (21, [42]), (22, [180, 0, 22]), (25, [184, 0, 25]), (28, [42]), (29, [180, 0, 18]), (32, [183, 0, 31]), (35, [176])] = true := by decide +kernel
theorem dX7_trimmed_0 : decode cX7_trimmed 0 = .ok (.new 10, 3) := dk_187 0 10 (bs_at BX7_trimmed_0 0 rfl) rfl
theorem dX7_trimmed_3 : decode cX7_trimmed 3 = .ok (.dup, 1) := dk_89 (bs_at BX7_trimmed_0 1 rfl)
theorem dX7_trimmed_4 : decode cX7_trimmed 4 = .ok (.aload_n 0, 1) := dk_42 (bs_at BX7_trimmed_0 2 rfl)
theorem dX7_trimmed_5 : decode cX7_trimmed 5 = .ok (.getfield 9, 3) := dk_180 0 9 (bs_at BX7_trimmed_0 3 rfl) rfl
theorem dX7_trimmed_8 : decode cX7_trimmed 8 = .ok (.aload_n 0, 1) := dk_42 (bs_at BX7_trimmed_0 4 rfl)
theorem dX7_trimmed_9 : decode cX7_trimmed 9 = .ok (.getfield 18, 3) := dk_180 0 18 (bs_at BX7_trimmed_0 5 rfl) rfl
theorem dX7_trimmed_12 : decode cX7_trimmed 12 = .ok (.iconst 5, 1) := dk_8 (bs_at BX7_trimmed_0 6 rfl)
theorem dX7_trimmed_13 : decode cX7_trimmed 13 = .ok (.imul, 1) := dk_104 (bs_at BX7_trimmed_0 7 rfl)
theorem dX7_trimmed_14 : decode cX7_trimmed 14 = .ok (.invokestatic 25, 3) := dk_184 0 25 (bs_at BX7_trimmed_0 8 rfl) rfl
theorem dX7_trimmed_17 : decode cX7_trimmed 17 = .ok (.aload_n 0, 1) := dk_42 (bs_at BX7_trimmed_0 9 rfl)
theorem dX7_trimmed_18 : decode cX7_trimmed 18 = .ok (.getfield 15, 3) := dk_180 0 15 (bs_at BX7_trimmed_0 10 rfl) rfl
theorem dX7_trimmed_21 : decode cX7_trimmed 21 = .ok (.aload_n 0, 1) := dk_42 (bs_at BX7_trimmed_0 11 rfl)
theorem dX7_trimmed_22 : decode cX7_trimmed 22 = .ok (.getfield 22, 3) := dk_180 0 22 (bs_at BX7_trimmed_0 12 rfl) rfl
theorem dX7_trimmed_25 : decode cX7_trimmed 25 = .ok (.invokestatic 25, 3) := dk_184 0 25 (bs_at BX7_trimmed_0 13 rfl) rfl
theorem dX7_trimmed_28 : decode cX7_trimmed 28 = .ok (.aload_n 0, 1) := dk_42 (bs_at BX7_trimmed_0 14 rfl)
theorem dX7_trimmed_29 : decode cX7_trimmed 29 = .ok (.getfield 18, 3) := dk_180 0 18 (bs_at BX7_trimmed_0 15 rfl) rfl
theorem dX7_trimmed_32 : decode cX7_trimmed 32 = .ok (.invokespecial 31, 3) := dk_183 0 31 (bs_at BX7_trimmed_0 16 rfl) rfl
theorem dX7_trimmed_35 : decode cX7_trimmed 35 = .ok (.areturn, 1) := dk_176 (bs_at BX7_trimmed_0 17 rfl)
theorem BX9_enact_0 : bsegs (ByteArray.data cX9_enact |>.toList.drop 0) 0 [(0, [42]), (1, [180, 0, 31]), (4, [16, 6]), (6, [161, 0, 5]), (11, [42]), (12, [180, 0, 23]), (15, [42]), (16, [180, 0, 31]), (19, [43]), (20, [83]), (21, [42]), (22, [89]), (23, [180, 0, 31]), (26, [4]), (27, [96]), (28, [181, 0, 31]), (31, [42]), (32, [180, 0, 31]), (35, [4]), (36, [100]), (37, [172])] = true := by decide +kernel
theorem dX9_enact_0 : decode cX9_enact 0 = .ok (.aload_n 0, 1) := dk_42 (bs_at BX9_enact_0 0 rfl)
theorem dX9_enact_1 : decode cX9_enact 1 = .ok (.getfield 31, 3) := dk_180 0 31 (bs_at BX9_enact_0 1 rfl) rfl
theorem dX9_enact_4 : decode cX9_enact 4 = .ok (.bipush 6, 2) := dk_16 6 (bs_at BX9_enact_0 2 rfl) rfl
theorem dX9_enact_6 : decode cX9_enact 6 = .ok (.if_icmp .lt 5, 3) := dk_161 0 5 (bs_at BX9_enact_0 3 rfl) rfl
theorem dX9_enact_11 : decode cX9_enact 11 = .ok (.aload_n 0, 1) := dk_42 (bs_at BX9_enact_0 4 rfl)
theorem dX9_enact_12 : decode cX9_enact 12 = .ok (.getfield 23, 3) := dk_180 0 23 (bs_at BX9_enact_0 5 rfl) rfl
theorem dX9_enact_15 : decode cX9_enact 15 = .ok (.aload_n 0, 1) := dk_42 (bs_at BX9_enact_0 6 rfl)
theorem dX9_enact_16 : decode cX9_enact 16 = .ok (.getfield 31, 3) := dk_180 0 31 (bs_at BX9_enact_0 7 rfl) rfl
theorem dX9_enact_19 : decode cX9_enact 19 = .ok (.aload_n 1, 1) := dk_43 (bs_at BX9_enact_0 8 rfl)
theorem dX9_enact_20 : decode cX9_enact 20 = .ok (.aastore, 1) := dk_83 (bs_at BX9_enact_0 9 rfl)
theorem dX9_enact_21 : decode cX9_enact 21 = .ok (.aload_n 0, 1) := dk_42 (bs_at BX9_enact_0 10 rfl)
theorem dX9_enact_22 : decode cX9_enact 22 = .ok (.dup, 1) := dk_89 (bs_at BX9_enact_0 11 rfl)
theorem dX9_enact_23 : decode cX9_enact 23 = .ok (.getfield 31, 3) := dk_180 0 31 (bs_at BX9_enact_0 12 rfl) rfl
theorem dX9_enact_26 : decode cX9_enact 26 = .ok (.iconst 1, 1) := dk_4 (bs_at BX9_enact_0 13 rfl)
theorem dX9_enact_27 : decode cX9_enact 27 = .ok (.iadd, 1) := dk_96 (bs_at BX9_enact_0 14 rfl)
theorem dX9_enact_28 : decode cX9_enact 28 = .ok (.putfield 31, 3) := dk_181 0 31 (bs_at BX9_enact_0 15 rfl) rfl
theorem dX9_enact_31 : decode cX9_enact 31 = .ok (.aload_n 0, 1) := dk_42 (bs_at BX9_enact_0 16 rfl)
theorem dX9_enact_32 : decode cX9_enact 32 = .ok (.getfield 31, 3) := dk_180 0 31 (bs_at BX9_enact_0 17 rfl) rfl
theorem dX9_enact_35 : decode cX9_enact 35 = .ok (.iconst 1, 1) := dk_4 (bs_at BX9_enact_0 18 rfl)
theorem dX9_enact_36 : decode cX9_enact 36 = .ok (.isub, 1) := dk_100 (bs_at BX9_enact_0 19 rfl)
theorem dX9_enact_37 : decode cX9_enact 37 = .ok (.ireturn, 1) := dk_172 (bs_at BX9_enact_0 20 rfl)
theorem ggX7_trimmed_J7_copyOf_59c91 : GoodIn wsX7_trimmed wsJ7_copyOf_59c91 := gi_ch ch_X7_trimmed ch_J7_copyOf_59c91 (by decide +kernel)
theorem gX7_trimmed_J7_copyOf_59c91 : GoodIn wsX7_trimmed (va_wsS RX7 25 yJ7_copyOf_59c91 wsJ7_copyOf_59c91) := gi_ch ch_X7_trimmed (ch_s [559, 560, 162] rfl ch_J7_copyOf_59c91) (by decide +kernel)
theorem ggX7_trimmed_X7_init : GoodIn wsX7_trimmed wsX7_init := gi_ch ch_X7_trimmed ch_X7_init (by decide +kernel)
set_option maxRecDepth 20000 in
theorem gX7_trimmed_X7_init : GoodIn wsX7_trimmed (wsX7_init) := ggX7_trimmed_X7_init
set_option maxRecDepth 100000 in
noncomputable def E_w_sinit (cl : Int32) (nc : Nat) (fc : Nat → Int32) : Int32 :=
  ((nI nc) : Int32)
set_option maxHeartbeats 4000000 in
set_option maxRecDepth 100000 in
theorem w_sinit (l : Launch) (D : va_G) (K : Nat → ClassId) (q0 : Nat) (h0 : Nat) (c0 : Nat) (cl : Int32) (nc : Nat) (fc : Nat → Int32) (sz : Nat) (znc : nc < 1000000) : Met l yX7_init wsX7_init ({ frames := 1, cells := 0, slots := 0, locals := 12 }) (va_Pc [.ref q0, .ref h0, .ref c0, .int cl] (Pre D K [(cc_O q0 7 [.null, .null, .int 0, .int 0]), (cc_l c0 (K 0) nc fc)] sz)) (va_Qv (S := Su) (fun (u : Su) => (0 ≤ (u.2.2.2.1 0).toInt ∧ (u.2.2.2.1 0).toInt ≤ 999999) ∧ ((u.2.2.2.1 0) = E_w_sinit cl nc fc) ∧ True) (fun u t => Wd D (va_A [(cc_O q0 7 [.null, .null, .int 0, .int 0]), (cc_l c0 (K 0) nc fc)] sz) ((fun u => [(cc_O q0 7 [.ref h0, .ref c0, .int cl, .int (u.2.2.2.1 0)]), (cc_l c0 (K 0) nc fc)]) u) t) (va_A [(cc_O q0 7 [.null, .null, .int 0, .int 0]), (cc_l c0 (K 0) nc fc)] sz)) 0 0 (va_A [(cc_O q0 7 [.null, .null, .int 0, .int 0]), (cc_l c0 (K 0) nc fc)] sz) := by
  refine Met.ofW (cc := cX7_init) (maxL := 4) (ret := none) (by decide +kernel) rfl ?_
  intro p e s m args below meth c s₁ B hml hv
  obtain ⟨rfl, hsz, hP, hK, hD0, hN⟩ := hv
  have hx := B.exec
  have hb := B.bytes
  have hr := B.returns
  have hts := atoms_spec (ws := wsX7_init) B.pre
  have hown : s.vm.findClass RX7 = some m.cls := findClass_of_methodNamed B.named
  have hlocks := B.notSynchronized
  have hin : meth.name = "<init>" := (name_of_methodNamed B.named B.method).1
  subst hsz
  have hD := hD0.self (sz := s.heap.size)
  generalize hAe : va_A [(cc_O q0 7 [.null, .null, .int 0, .int 0]), (cc_l c0 (K 0) nc fc)] s.heap.size = A at hD ⊢
  have hA : ∀ q : Nat, s.heap.size ≤ q → A q := fun q h => by rw [← hAe]; exact Or.inr h
  clear hAe
  have hS : va_S A s.heap s.heap [] := va_S.rf
  replace hP : va_P D vwCl [(cc_O q0 7 [.null, .null, .int 0, .int 0]), (cc_l c0 (K 0) nc fc)] s.heap := hP
  have hl := lv_entry [.ref q0, .ref h0, .ref c0, .int cl] (n := 4) (Nat.le_of_ble_eq_true rfl)
  rw [lg_entry_eq]
  generalize (lg_sl [.ref q0, .ref h0, .ref c0, .int cl] ++ List.replicate (4 - (lg_sl [.ref q0, .ref h0, .ref c0, .int cl]).length) Slot.unset).toArray = ls at hl ⊢
  have hl : lv_has ls 4 [(0, .ref q0), (1, .ref h0), (2, .ref c0), (3, .int cl)] := hl
  have hw7 : ∀ w ∈ wsX70, w ∈ wsX7_init := fun w h => (List.mem_cons_of_mem _ (List.mem_append_right _ h))
  generalize hQ : MQ below _ _ s _ _ _ = Q
  have hE := E_w_sinit.eq_def cl nc fc
  refine lv_aload_n hx hb dX7_init_0 rfl (lv_at hl 0 rfl) ?_
  refine W.objInit hx hb hown (hts _ mm_X7_init_222) (hts _ mm_X7_init_166) (hts _ (List.mem_cons_of_mem _ (List.mem_append_left _ (List.mem_of_getElem? (i := 2) rfl)))) rfl (by rw [hml]; exact hl.1) rfl dX7_init_1 (Nat.le_of_ble_eq_true rfl) (Nat.le_of_ble_eq_true rfl) ?_
  refine W.eq (g2 := F0 m 4 ls []) rfl ?_
  refine lv_aload_n hx hb dX7_init_4 rfl (lv_at hl 0 rfl) (lv_aload_n hx hb dX7_init_5 rfl (lv_at hl 1 rfl) (va_putF (ci := 7) (v := .ref h0) (ty := .array .int) (C := RX7) (T := TX7) (N := 4) hx hb hts hw7 tyX7 tyX7_ok nmX7 hown hK hP hD hS 0 rfl rfl 0 (by decide +kernel) (hts _ mm_X7_init_223) (fun _ h9 => h9) rfl hin rfl (by decide +kernel) (by first | rfl | decide) (by first | rfl | decide) (Nat.le_of_ble_eq_true rfl) dX7_init_6 (fun H locs hP0 hD0 hS0 => ?_)))
  replace hP : va_P D vwCl [(cc_O q0 7 [.ref h0, .null, .int 0, .int 0]), (cc_l c0 (K 0) nc fc)] H := hP0
  replace hD := as_D hP hD0 rfl
  replace hS := hS0
  clear hP0 hD0 hS0
  refine lv_aload_n hx hb dX7_init_9 rfl (lv_at hl 0 rfl) (lv_aload_n hx hb dX7_init_10 rfl (lv_at hl 2 rfl) (va_putF (ci := 7) (v := .ref c0) (ty := .array .int) (C := RX7) (T := TX7) (N := 4) hx hb hts hw7 tyX7 tyX7_ok nmX7 hown hK hP hD hS 0 rfl rfl 1 (by decide +kernel) (hts _ mm_X7_init_224) (fun _ h9 => h9) rfl hin rfl (by decide +kernel) (by first | rfl | decide) (by first | rfl | decide) (Nat.le_of_ble_eq_true rfl) dX7_init_11 (fun H locs hP0 hD0 hS0 => ?_)))
  replace hP : va_P D vwCl [(cc_O q0 7 [.ref h0, .ref c0, .int 0, .int 0]), (cc_l c0 (K 0) nc fc)] H := hP0
  replace hD := as_D hP hD0 rfl
  replace hS := hS0
  clear hP0 hD0 hS0
  refine lv_aload_n hx hb dX7_init_14 rfl (lv_at hl 0 rfl) (lv_iload_n hx hb dX7_init_15 rfl (lv_at hl 3 rfl) (va_put (ci := 7) (v := .int cl) (ty := .int) (C := RX7) (T := TX7) (N := 4) hx hb hts hw7 tyX7 tyX7_ok nmX7 hown hK hP hD hS 0 rfl rfl 2 (by decide +kernel) (hts _ mm_X7_init_225) (fun _ h9 => h9) rfl (by decide +kernel) (by first | rfl | decide) (by first | rfl | decide) (Nat.le_of_ble_eq_true rfl) dX7_init_16 (fun H locs hP0 hD0 hS0 => ?_)))
  replace hP : va_P D vwCl [(cc_O q0 7 [.ref h0, .ref c0, .int cl, .int 0]), (cc_l c0 (K 0) nc fc)] H := hP0
  replace hD := as_D hP hD0 rfl
  replace hS := hS0
  clear hP0 hD0 hS0
  refine lv_aload_n hx hb dX7_init_19 rfl (lv_at hl 0 rfl) (lv_aload_n hx hb dX7_init_20 rfl (lv_at hl 2 rfl) (va_alen (v := (nI nc)) hx hb hK hP 1 0 rfl rfl rfl dX7_init_21 (va_put (ci := 7) (v := .int (nI nc)) (ty := .int) (C := RX7) (T := TX7) (N := 4) hx hb hts hw7 tyX7 tyX7_ok nmX7 hown hK hP hD hS 0 rfl rfl 3 (by decide +kernel) (hts _ mm_X7_init_226) (fun _ h9 => h9) rfl (by decide +kernel) (by first | rfl | decide) (by first | rfl | decide) (Nat.le_of_ble_eq_true rfl) dX7_init_22 (fun H locs hP0 hD0 hS0 => ?_))))
  replace hP : va_P D vwCl [(cc_O q0 7 [.ref h0, .ref c0, .int cl, .int (nI nc)]), (cc_l c0 (K 0) nc fc)] H := hP0
  replace hD := as_D hP hD0 rfl
  replace hS := hS0
  clear hP0 hD0 hS0
  rw [← hQ]
  have hP9 := hP.sub (ws' := [(cc_O q0 7 [.ref h0, .ref c0, .int cl, .int (nI nc)]), (cc_l c0 (K 0) nc fc)]) [0, 1] rfl
  have hD9 := sub_D hP9 hD [0, 1] (by decide +kernel) rfl
  exact W.vret hx hb hr (fun t ht hW => ⟨⟨((fun _ => 0, fun _ => fun _ => 0, fun _ => fun _ => 0, fun i => match i with | _ => (nI nc), fun _ => 0, fun _ => fun _ => none) : Su), rfl, ⟨(show 0 ≤ ((nI nc) : Int32).toInt ∧ ((nI nc) : Int32).toInt ≤ 999999 by rw [(nI_toInt (by omega))]; omega), hE.symm, trivial⟩, (⟨by rw [ht]; exact hP9, hD9⟩ : Wd D A _ t)⟩, hS.F ht⟩) hS.2.2 dX7_init_25
set_option maxHeartbeats 4000000 in
set_option maxRecDepth 100000 in
theorem w_trimmed (l : Launch) (D : va_G) (K : Nat → ClassId) (s0 : Nat) (s1 : Nat) (s2 : Nat) (scl : Int32) (us : Int32) (fh : Nat → Int32) (fc : Nat → Int32) (sz : Nat) (zscl : 0 ≤ scl.toInt ∧ scl.toInt ≤ 12) (zus : 0 ≤ us.toInt ∧ us.toInt ≤ 800) (zfh : Rg 60 (-1) 1000 fh) (zfc : Rg 800 0 1000 fc) : Met l yX7_trimmed wsX7_trimmed ({ frames := 2, cells := 3, slots := 864, locals := 62 }) (va_Pc [.ref s0] (PreC (Pre D K [(cc_O s0 7 [.ref s1, .ref s2, .int scl, .int us]), (cc_l s1 (K 0) 60 fh), (cc_l s2 (K 0) 800 fc)] sz))) (va_Qr (S := (Nat → Nat) × (Nat → Int32) × (Nat → Int32) × Int32 × Int32) (fun u => u.1 3 < 1000000 ∧ u.1 4 < 1000000 ∧ Rg (u.1 3) (-1) 1000 u.2.1 ∧ Rg (u.1 4) 0 1000 u.2.2.1 ∧ TrX scl us fh fc (u.1 3, u.1 4, u.2.1, u.2.2.1, u.2.2.2.1, u.2.2.2.2)) (fun u x t => x = (fun u => u.1 0) u ∧ Wd D (va_A [(cc_O s0 7 [.ref s1, .ref s2, .int scl, .int us]), (cc_l s1 (K 0) 60 fh), (cc_l s2 (K 0) 800 fc)] sz) ((fun u => [(cc_O s0 7 [.ref s1, .ref s2, .int scl, .int us]), (cc_l s1 (K 0) 60 fh), (cc_l s2 (K 0) 800 fc)] ++ Scr K (u.1 0) (u.1 1) (u.1 2) (u.1 3) (u.1 4) u.2.1 u.2.2.1 u.2.2.2.1 u.2.2.2.2) u) t) (va_A [(cc_O s0 7 [.ref s1, .ref s2, .int scl, .int us]), (cc_l s1 (K 0) 60 fh), (cc_l s2 (K 0) 800 fc)] sz)) 3 864 (va_A [(cc_O s0 7 [.ref s1, .ref s2, .int scl, .int us]), (cc_l s1 (K 0) 60 fh), (cc_l s2 (K 0) 800 fc)] sz) := by
  refine Met.ofW (cc := cX7_trimmed) (maxL := 1) (ret := (some (.object "SmokeTune$Script"))) (by decide +kernel) rfl ?_
  intro p e s m args below meth c s₁ B hml hv
  obtain ⟨rfl, ⟨hsz, hP, hK, hD0, hN⟩, hC⟩ := hv
  have hx := B.exec
  have hb := B.bytes
  have hr := B.returns
  have hts := atoms_spec (ws := wsX7_trimmed) B.pre
  have hown : s.vm.findClass RX7 = some m.cls := findClass_of_methodNamed B.named
  have hlocks := B.notSynchronized
  subst hsz
  have hD := hD0.self (sz := s.heap.size)
  generalize hAe : va_A [(cc_O s0 7 [.ref s1, .ref s2, .int scl, .int us]), (cc_l s1 (K 0) 60 fh), (cc_l s2 (K 0) 800 fc)] s.heap.size = A at hD ⊢
  have hA : ∀ q : Nat, s.heap.size ≤ q → A q := fun q h => by rw [← hAe]; exact Or.inr h
  clear hAe
  have hS : va_S A s.heap s.heap [] := va_S.rf
  replace hP : va_P D vwCl [(cc_O s0 7 [.ref s1, .ref s2, .int scl, .int us]), (cc_l s1 (K 0) 60 fh), (cc_l s2 (K 0) 800 fc)] s.heap := hP
  have hl := lv_entry [.ref s0] (n := 1) (Nat.le_of_ble_eq_true rfl)
  rw [lg_entry_eq]
  generalize (lg_sl [.ref s0] ++ List.replicate (1 - (lg_sl [.ref s0]).length) Slot.unset).toArray = ls at hl ⊢
  have hl : lv_has ls 1 [(0, .ref s0)] := hl
  have hw7 : ∀ w ∈ wsX70, w ∈ wsX7_trimmed := fun w h => (List.mem_cons_of_mem _ (List.mem_append_right _ h))
  generalize hQ : MQ below _ _ s _ _ _ = Q
  refine va_new (ci := 7) (fs := [.null, .null, .int 0, .int 0]) (C := RX7) (T := TX7) (N := 4) hx hb hts hw7 tyX7 tyX7_ok hown (hts _ mm_X7_trimmed_558) (hts _ mm_X7_trimmed_219) (hts _ mm_X7_trimmed_148) hK hP hD hS hA rfl dfv_X7 (Nat.le_of_ble_eq_true rfl) (Nat.le_of_ble_eq_true rfl) dX7_trimmed_0 (fun q_85 H hP0 hD0 hS0 => ?_)
  replace hP : va_P D vwCl [(cc_O s0 7 [.ref s1, .ref s2, .int scl, .int us]), (cc_l s1 (K 0) 60 fh), (cc_l s2 (K 0) 800 fc), (cc_O q_85 7 [.null, .null, .int 0, .int 0])] H := hP0
  replace hD := as_D hP hD0 rfl
  replace hS := hS0
  clear hP0 hD0 hS0
  refine W.widen (k := 1) (n := 4) (by omega) (by omega) ?_
  refine lv_dup hx hb dX7_trimmed_3 rfl (lv_aload_n hx hb dX7_trimmed_4 rfl (lv_at hl 0 rfl) (va_get (ci := 7) (v := .ref s1) (C := RX7) (T := TX7) (N := 4) hx hb hts hw7 hown hK hP 0 rfl rfl 0 (by decide +kernel) (hts _ mm_X7_trimmed_223) (fun _ h9 => h9) rfl dX7_trimmed_5 (lv_aload_n hx hb dX7_trimmed_8 rfl (lv_at hl 0 rfl) (va_get (ci := 7) (v := .int scl) (C := RX7) (T := TX7) (N := 4) hx hb hts hw7 hown hK hP 0 rfl rfl 2 (by decide +kernel) (hts _ mm_X7_trimmed_225) (fun _ h9 => h9) rfl dX7_trimmed_9 (lv_iconst (v := 5) hx hb dX7_trimmed_12 (by decide +kernel) (lv_imul hx hb dX7_trimmed_13 (lv_topi (fun x_86 ex_86 => ?_))))))))
  have hx_86 : x_86.toInt = (scl.toInt * 5) := by rw [ex_86]; exact i_mul rfl (show (5 : Int32).toInt = 5 from rfl) (by omega)
  refine kcr (S := Nat × (Nat → Int32)) (B := fun u => [(cc_l s1 (K 0) 60 fh), (u.1, .inl (K 0, x_86.toInt.toNat, .inl u.2))]) (ad := fun u => u.1) (wr := [(cc_O s0 7 [.ref s1, .ref s2, .int scl, .int us]), (cc_l s2 (K 0) 800 fc), (cc_O q_85 7 [.null, .null, .int 0, .int 0])]) (va_runS (As := [.ref s1, .int x_86]) (rest := [.ref q_85, .ref q_85]) ⟨hx, hb, hml, hown, hts⟩ (w_copy_h l D K s1 x_86 fh H.size (by first | omega | decide) zfh) (va_cwS 2 hts gX7_trimmed_J7_copyOf_59c91 rfl rfl rfl (by decide +kernel) ⟨Nat.le_of_ble_eq_true rfl, Nat.le_of_ble_eq_true rfl⟩) (PreC.S (mkS hK hN (hP.sub [1] rfl) (hD.sub [1] (by decide +kernel) rfl)) hC) rfl rfl hl.1 rfl (lv_room (Nat.le_of_ble_eq_true rfl)) dX7_trimmed_14 ⟨Nat.le_of_ble_eq_true rfl, Nat.le_of_ble_eq_true rfl⟩) hP hD hS hA [1] [0, 2, 3] rfl rfl (by decide +kernel) (by decide +kernel) (fun u_88 H locs hw hP0 hD0 hS0 => ?_)
  replace hP : va_P D vwCl [(cc_O s0 7 [.ref s1, .ref s2, .int scl, .int us]), (cc_l s2 (K 0) 800 fc), (cc_O q_85 7 [.null, .null, .int 0, .int 0]), (cc_l s1 (K 0) 60 fh), (u_88.1, .inl (K 0, x_86.toInt.toNat, .inl u_88.2))] H := hP0
  replace hD := as_D hP hD0 rfl
  replace hS := hS0
  clear hP0 hD0 hS0
  refine W.widen (k := 2) (n := 64) (by first | omega | decide) (by first | omega | decide) ?_
  refine W.eq (g2 := F0 m 17 ls (.ref ((fun u => u.1) u_88) :: [.ref q_85, .ref q_85])) rfl ?_
  have k_89 : Rg x_86.toInt.toNat (-1) 1000 u_88.2 := hw.1
  have cu_88 := hw.2
  refine W.eq (g2 := F0 m 17 ls [.ref u_88.1, .ref q_85, .ref q_85]) rfl ?_
  refine lv_aload_n hx hb dX7_trimmed_17 rfl (lv_at hl 0 rfl) (va_get (ci := 7) (v := .ref s2) (C := RX7) (T := TX7) (N := 4) hx hb hts hw7 hown hK hP 0 rfl rfl 1 (by decide +kernel) (hts _ mm_X7_trimmed_224) (fun _ h9 => h9) rfl dX7_trimmed_18 (lv_aload_n hx hb dX7_trimmed_21 rfl (lv_at hl 0 rfl) (va_get (ci := 7) (v := .int us) (C := RX7) (T := TX7) (N := 4) hx hb hts hw7 hown hK hP 0 rfl rfl 3 (by decide +kernel) (hts _ mm_X7_trimmed_226) (fun _ h9 => h9) rfl dX7_trimmed_22 ?_)))
  refine kcr (S := Nat × (Nat → Int32)) (B := fun u => [(cc_l s2 (K 0) 800 fc), (u.1, .inl (K 0, us.toInt.toNat, .inl u.2))]) (ad := fun u => u.1) (wr := [(cc_O s0 7 [.ref s1, .ref s2, .int scl, .int us]), (cc_O q_85 7 [.null, .null, .int 0, .int 0]), (cc_l s1 (K 0) 60 fh), (u_88.1, .inl (K 0, x_86.toInt.toNat, .inl u_88.2))]) (va_runS (As := [.ref s2, .int us]) (rest := [.ref u_88.1, .ref q_85, .ref q_85]) ⟨hx, hb, hml, hown, hts⟩ (w_copy_c l D K s2 us fc H.size (by first | omega | decide) zfc) (va_cwS 2 hts gX7_trimmed_J7_copyOf_59c91 rfl rfl rfl (by decide +kernel) ⟨Nat.le_of_ble_eq_true rfl, Nat.le_of_ble_eq_true rfl⟩) (PreC.S (mkS hK hN (hP.sub [1] rfl) (hD.sub [1] (by decide +kernel) rfl)) hC) rfl rfl hl.1 rfl (lv_room (Nat.le_of_ble_eq_true rfl)) dX7_trimmed_25 ⟨Nat.le_of_ble_eq_true rfl, Nat.le_of_ble_eq_true rfl⟩) hP hD hS hA [1] [0, 2, 3, 4] rfl rfl (by decide +kernel) (by decide +kernel) (fun u_91 H locs hw hP0 hD0 hS0 => ?_)
  replace hP : va_P D vwCl [(cc_O s0 7 [.ref s1, .ref s2, .int scl, .int us]), (cc_O q_85 7 [.null, .null, .int 0, .int 0]), (cc_l s1 (K 0) 60 fh), (u_88.1, .inl (K 0, x_86.toInt.toNat, .inl u_88.2)), (cc_l s2 (K 0) 800 fc), (u_91.1, .inl (K 0, us.toInt.toNat, .inl u_91.2))] H := hP0
  replace hD := as_D hP hD0 rfl
  replace hS := hS0
  clear hP0 hD0 hS0
  refine W.widen (k := 3) (n := 864) (by first | omega | decide) (by first | omega | decide) ?_
  refine W.eq (g2 := F0 m 28 ls (.ref ((fun u => u.1) u_91) :: [.ref u_88.1, .ref q_85, .ref q_85])) rfl ?_
  have k_92 : Rg us.toInt.toNat 0 1000 u_91.2 := hw.1
  have cu_91 := hw.2
  refine W.eq (g2 := F0 m 28 ls [.ref u_91.1, .ref u_88.1, .ref q_85, .ref q_85]) rfl ?_
  refine lv_aload_n hx hb dX7_trimmed_28 rfl (lv_at hl 0 rfl) (va_get (ci := 7) (v := .int scl) (C := RX7) (T := TX7) (N := 4) hx hb hts hw7 hown hK hP 0 rfl rfl 2 (by decide +kernel) (hts _ mm_X7_trimmed_225) (fun _ h9 => h9) rfl dX7_trimmed_29 (kcv (S := Su) (wr := [(cc_O s0 7 [.ref s1, .ref s2, .int scl, .int us]), (cc_l s1 (K 0) 60 fh), (u_88.1, .inl (K 0, x_86.toInt.toNat, .inl u_88.2)), (cc_l s2 (K 0) 800 fc)]) (va_runI (As := [.ref u_88.1, .ref u_91.1, .int scl]) (rest := [.ref q_85]) ⟨hx, hb, hml, hown, hts⟩ (w_sinit l D K q_85 u_88.1 u_91.1 scl us.toInt.toNat u_91.2 H.size (by omega)) (cwI 3 hts gX7_trimmed_X7_init rfl rfl rfl (hts _ mm_X7_trimmed_148) (hts _ mm_X7_trimmed_572) (hts _ mm_X7_trimmed_220) rfl (by decide +kernel) ⟨Nat.le_of_ble_eq_true rfl, Nat.le_of_ble_eq_true rfl⟩) (mkS hK hN (hP.sub [1, 5] rfl) (hD.sub [1, 5] (by decide +kernel) rfl)) rfl rfl hl.1 rfl (lv_room (Nat.le_of_ble_eq_true rfl)) dX7_trimmed_32 ⟨Nat.le_of_ble_eq_true rfl, Nat.le_of_ble_eq_true rfl⟩) hP hD hS hA [1, 5] [0, 2, 3, 4] rfl rfl (by decide +kernel) (by decide +kernel) (fun u_94 H locs hw hP0 hD0 hS0 => ?_)))
  replace hP : va_P D vwCl [(cc_O s0 7 [.ref s1, .ref s2, .int scl, .int us]), (cc_l s1 (K 0) 60 fh), (u_88.1, .inl (K 0, x_86.toInt.toNat, .inl u_88.2)), (cc_l s2 (K 0) 800 fc), (cc_O q_85 7 [.ref u_88.1, .ref u_91.1, .int scl, .int (u_94.2.2.2.1 0)]), (u_91.1, .inl (K 0, us.toInt.toNat, .inl u_91.2))] H := hP0
  replace hD := as_D hP hD0 rfl
  replace hS := hS0
  clear hP0 hD0 hS0
  obtain ⟨k_95, k_96, -⟩ := hw
  rw [← hQ]
  have hP9 := hP.sub (ws' := [(cc_O s0 7 [.ref s1, .ref s2, .int scl, .int us]), (cc_l s1 (K 0) 60 fh), (cc_l s2 (K 0) 800 fc), (cc_O q_85 7 [.ref u_88.1, .ref u_91.1, .int scl, .int (u_94.2.2.2.1 0)]), (u_88.1, .inl (K 0, x_86.toInt.toNat, .inl u_88.2)), (u_91.1, .inl (K 0, us.toInt.toNat, .inl u_91.2))]) [0, 1, 3, 4, 2, 5] rfl
  have hD9 := sub_D hP9 hD [0, 1, 3, 4, 2, 5] (by decide +kernel) rfl
  exact W.aret (v := .ref q_85) hx hb hr (Or.inl ⟨_, rfl⟩) (Or.inr ⟨_, rfl⟩) (fun t ht hW => ⟨⟨((fun i => match i with | 0 => q_85 | 1 => u_88.1 | 2 => u_91.1 | 3 => x_86.toInt.toNat | _ => us.toInt.toNat), u_88.2, u_91.2, scl, (u_94.2.2.2.1 0)), q_85, rfl, ⟨by show x_86.toInt.toNat < 1000000; omega, by show us.toInt.toNat < 1000000; omega, k_89, k_92, ⟨rfl, by show ((x_86.toInt.toNat : Nat) : Int) = 5 * scl.toInt; omega, by show ((us.toInt.toNat : Nat) : Int) = us.toInt; omega, cu_88, cu_91⟩⟩, rfl, by rw [ht]; exact hP9, hD9⟩, hS.F ht⟩) hS.2.2 dX7_trimmed_35
set_option maxRecDepth 100000 in
noncomputable def E_w_enact (lt : Int32) (fl : Nat → Option Nat) : Int32 × Int32 :=
  if lt < 6 then (Lt (lt + 1 : Int32) (fun x_71 => Lt (x_71 - 1 : Int32) (fun x_72 => ((x_72, x_71) : Int32 × Int32)))) else (((0, 0) : Int32 × Int32))
set_option maxHeartbeats 4000000 in
set_option maxRecDepth 100000 in
theorem w_enact (l : Launch) (D : va_G) (K : Nat → ClassId) (g : Nat → Nat) (L : Nat → Prop) (G : Nat → LC) (t0 : Nat) (q0 : Nat) (k_0 : Value) (k_1 : Value) (k_2 : Value) (l0 : Nat) (k_4 : Value) (lt : Int32) (k_6 : Value) (k_7 : Value) (k_8 : Value) (k_9 : Value) (fl : Nat → Option Nat) (s_0 : Value) (s_1 : Value) (s_2 : Value) (s_3 : Value) (sz : Nat) (zlt : 0 ≤ lt.toInt ∧ lt.toInt ≤ 5) (zfl : InL (fun z => L z ∨ z = q0) fl) : Met l yX9_enact wsX9_enact ({ frames := 0, cells := 0, slots := 0, locals := 0 }) (va_Pc [.ref t0, .ref q0] (PreY D K [(cc_O t0 9 [k_0, k_1, k_2, .ref l0, k_4, .int lt, k_6, k_7, k_8, k_9]), (cc_rrrR l0 (K 4) 6 fl), (cc_O q0 7 [s_0, s_1, s_2, s_3])] [] sz g L G (va_A [(cc_O t0 9 [k_0, k_1, k_2, .ref l0, k_4, .int lt, k_6, k_7, k_8, k_9]), (cc_rrrR l0 (K 4) 6 fl), (cc_O q0 7 [s_0, s_1, s_2, s_3])] sz))) (va_Qi (S := Su) (fun (r : Int32) (u : Su) => (0 ≤ r.toInt ∧ r.toInt ≤ 5) ∧ (1 ≤ (u.2.2.2.1 0).toInt ∧ (u.2.2.2.1 0).toInt ≤ 6) ∧ (InL (fun z => L z ∨ z = q0) (u.2.2.2.2.2 0)) ∧ ((u.2.2.2.2.2 0) = va_up fl lt.toNatClampNeg (some q0)) ∧ ((r, (u.2.2.2.1 0)) = E_w_enact lt fl) ∧ True) (fun u t => Wd D (va_A [(cc_O t0 9 [k_0, k_1, k_2, .ref l0, k_4, .int lt, k_6, k_7, k_8, k_9]), (cc_rrrR l0 (K 4) 6 fl), (cc_O q0 7 [s_0, s_1, s_2, s_3])] sz) ((fun u => [(cc_O t0 9 [k_0, k_1, k_2, .ref l0, k_4, .int (u.2.2.2.1 0), k_6, k_7, k_8, k_9]), (cc_rrrR l0 (K 4) 6 (u.2.2.2.2.2 0)), (cc_O q0 7 [s_0, s_1, s_2, s_3])]) u) t) (va_A [(cc_O t0 9 [k_0, k_1, k_2, .ref l0, k_4, .int lt, k_6, k_7, k_8, k_9]), (cc_rrrR l0 (K 4) 6 fl), (cc_O q0 7 [s_0, s_1, s_2, s_3])] sz)) 0 0 (va_A [(cc_O t0 9 [k_0, k_1, k_2, .ref l0, k_4, .int lt, k_6, k_7, k_8, k_9]), (cc_rrrR l0 (K 4) 6 fl), (cc_O q0 7 [s_0, s_1, s_2, s_3])] sz) := by
  refine Met.ofW (cc := cX9_enact) (maxL := 2) (ret := (some .int)) (by decide +kernel) rfl ?_
  intro p e s m args below meth c s₁ B hml hv
  obtain ⟨rfl, ⟨hsz, hP, hK, hD0, hN⟩, hG, hPl, hRo⟩ := hv
  have hx := B.exec
  have hb := B.bytes
  have hr := B.returns
  have hts := atoms_spec (ws := wsX9_enact) B.pre
  have hown : s.vm.findClass RX9 = some m.cls := findClass_of_methodNamed B.named
  have hlocks := B.notSynchronized
  subst hsz
  have hD := hD0.self (sz := s.heap.size)
  generalize hAe : va_A [(cc_O t0 9 [k_0, k_1, k_2, .ref l0, k_4, .int lt, k_6, k_7, k_8, k_9]), (cc_rrrR l0 (K 4) 6 fl), (cc_O q0 7 [s_0, s_1, s_2, s_3])] s.heap.size = A at hD hG hPl hRo ⊢
  have hA : ∀ q : Nat, s.heap.size ≤ q → A q := fun q h => by rw [← hAe]; exact Or.inr h
  clear hAe
  have hS : va_S A s.heap s.heap [] := va_S.rf
  replace hP : va_P D vwCl [(cc_O t0 9 [k_0, k_1, k_2, .ref l0, k_4, .int lt, k_6, k_7, k_8, k_9]), (cc_rrrR l0 (K 4) 6 fl), (cc_O q0 7 [s_0, s_1, s_2, s_3])] s.heap := hP
  have hl := lv_entry [.ref t0, .ref q0] (n := 2) (Nat.le_of_ble_eq_true rfl)
  rw [lg_entry_eq]
  generalize (lg_sl [.ref t0, .ref q0] ++ List.replicate (2 - (lg_sl [.ref t0, .ref q0]).length) Slot.unset).toArray = ls at hl ⊢
  have hl : lv_has ls 2 [(0, .ref t0), (1, .ref q0)] := hl
  have hw9 : ∀ w ∈ wsX90, w ∈ wsX9_enact := fun w h => (List.mem_cons_of_mem _ (List.mem_append_right _ h))
  generalize hQ : MQ below _ _ s _ _ _ = Q
  have hE := E_w_enact.eq_def lt fl
  refine lv_aload_n hx hb dX9_enact_0 rfl (lv_at hl 0 rfl) (va_get (ci := 9) (v := .int lt) (C := RX9) (T := TX9) (N := 10) hx hb hts hw9 hown hK hP 0 rfl rfl 5 (by decide +kernel) (hts _ mm_X9_enact_179) (fun _ h9 => h9) rfl dX9_enact_1 (lv_bipush (v := 6) hx hb dX9_enact_4 (by decide +kernel) (lv_icmp_lt (tgt := 11) hx hb dX9_enact_6 (by decide +kernel) (fun c_69 => ?_) (fun c_69 => ?_))))
  · have c_69i := i_lt (x := lt.toInt) (y := 6) rfl rfl c_69
    replace hE := hE.trans (if_pos c_69)
    refine lv_aload_n hx hb dX9_enact_11 rfl (lv_at hl 0 rfl) (va_get (ci := 9) (v := .ref l0) (C := RX9) (T := TX9) (N := 10) hx hb hts hw9 hown hK hP 0 rfl rfl 3 (by decide +kernel) (hts _ mm_X9_enact_177) (fun _ h9 => h9) rfl dX9_enact_12 (lv_aload_n hx hb dX9_enact_15 rfl (lv_at hl 0 rfl) (va_get (ci := 9) (v := .int lt) (C := RX9) (T := TX9) (N := 10) hx hb hts hw9 hown hK hP 0 rfl rfl 5 (by decide +kernel) (hts _ mm_X9_enact_179) (fun _ h9 => h9) rfl dX9_enact_16 (lv_aload_n hx hb dX9_enact_19 rfl (lv_at hl 1 rfl) (va_astq hx hb hK hP hD hS 1 4 2 7 rfl rfl rfl rfl (i_in rfl (by omega)) dX9_enact_20 (fun H locs hP0 hD0 hS0 => ?_))))))
    replace hP := hP0
    replace hD := hD0
    replace hS := hS0
    clear hP0 hD0 hS0
    generalize hf_70 : (va_up fl (lt : Int32).toNatClampNeg (some q0)) = f_70 at hP hD
    have hf_70_0 : InL (fun z => L z ∨ z = q0) f_70 := by rw [← hf_70]; exact InL.up zfl (Or.inr rfl)
    replace hP : va_P D vwCl [(cc_O t0 9 [k_0, k_1, k_2, .ref l0, k_4, .int lt, k_6, k_7, k_8, k_9]), (cc_rrrR l0 (K 4) 6 f_70), (cc_O q0 7 [s_0, s_1, s_2, s_3])] H := hP
    replace hD := as_D hP hD rfl
    refine lv_aload_n hx hb dX9_enact_21 rfl (lv_at hl 0 rfl) (lv_dup hx hb dX9_enact_22 rfl (va_get (ci := 9) (v := .int lt) (C := RX9) (T := TX9) (N := 10) hx hb hts hw9 hown hK hP 0 rfl rfl 5 (by decide +kernel) (hts _ mm_X9_enact_179) (fun _ h9 => h9) rfl dX9_enact_23 (lv_iconst (v := 1) hx hb dX9_enact_26 (by decide +kernel) (lv_iadd hx hb dX9_enact_27 (lv_topi (fun x_71 ex_71 => ?_))))))
    replace hE := hE.trans (Lt_in ex_71)
    have hx_71 : x_71.toInt = (lt.toInt + 1) := by rw [ex_71]; exact i_add rfl (show (1 : Int32).toInt = 1 from rfl) (by omega)
    refine va_put (ci := 9) (v := .int x_71) (ty := .int) (C := RX9) (T := TX9) (N := 10) hx hb hts hw9 tyX9 tyX9_ok nmX9 hown hK hP hD hS 0 rfl rfl 5 (by decide +kernel) (hts _ mm_X9_enact_179) (fun _ h9 => h9) rfl (by decide +kernel) (by first | rfl | decide) (by first | rfl | decide) (Nat.le_of_ble_eq_true rfl) dX9_enact_28 (fun H locs hP0 hD0 hS0 => ?_)
    replace hP : va_P D vwCl [(cc_O t0 9 [k_0, k_1, k_2, .ref l0, k_4, .int x_71, k_6, k_7, k_8, k_9]), (cc_rrrR l0 (K 4) 6 f_70), (cc_O q0 7 [s_0, s_1, s_2, s_3])] H := hP0
    replace hD := as_D hP hD0 rfl
    replace hS := hS0
    clear hP0 hD0 hS0
    refine lv_aload_n hx hb dX9_enact_31 rfl (lv_at hl 0 rfl) (va_get (ci := 9) (v := .int x_71) (C := RX9) (T := TX9) (N := 10) hx hb hts hw9 hown hK hP 0 rfl rfl 5 (by decide +kernel) (hts _ mm_X9_enact_179) (fun _ h9 => h9) rfl dX9_enact_32 (lv_iconst (v := 1) hx hb dX9_enact_35 (by decide +kernel) (lv_isub hx hb dX9_enact_36 (lv_topi (fun x_72 ex_72 => ?_)))))
    replace hE := hE.trans (Lt_in ex_72)
    have hx_72 : x_72.toInt = ((lt.toInt + 1) - 1) := by rw [ex_72]; exact i_sub hx_71 (show (1 : Int32).toInt = 1 from rfl) (by omega)
    rw [← hQ]
    have hP9 := hP.sub (ws' := [(cc_O t0 9 [k_0, k_1, k_2, .ref l0, k_4, .int x_71, k_6, k_7, k_8, k_9]), (cc_rrrR l0 (K 4) 6 f_70), (cc_O q0 7 [s_0, s_1, s_2, s_3])]) [0, 1, 2] rfl
    have hD9 := sub_D hP9 hD [0, 1, 2] (by decide +kernel) rfl
    exact W.iret (v := x_72) hx hb hr (fun t ht hW => ⟨⟨x_72, ((fun _ => 0, fun _ => fun _ => 0, fun _ => fun _ => 0, fun i => match i with | _ => x_71, fun _ => 0, fun i => match i with | _ => f_70) : Su), rfl, ⟨(show 0 ≤ x_72.toInt ∧ x_72.toInt ≤ 5 by rw [hx_72]; omega), (show 1 ≤ (x_71 : Int32).toInt ∧ (x_71 : Int32).toInt ≤ 6 by rw [hx_71]; omega), hf_70_0, (show f_70 = va_up fl lt.toNatClampNeg (some q0) from hf_70.symm), hE.symm, trivial⟩, (⟨by rw [ht]; exact hP9, hD9⟩ : Wd D A _ t)⟩, hS.F ht⟩) hS.2.2 dX9_enact_37
  · have c_69i := i_nlt (x := lt.toInt) (y := 6) rfl rfl c_69
    exfalso; omega
end
section
theorem BX11_law_0 : bsegs (ByteArray.data cX11_law |>.toList.drop 0) 0 [(0, [42]), (1, [180, 0, 10]), (4, [180, 0, 173]), (7, [16, 6]), (9, [161, 0, 18]), (12, [42]), (13, [180, 0, 38]), (16, [3]), (17, [181, 0, 161]), (20, [42]), (21, [16, 251]), (23, [182, 0, 101]), (26, [172]), (27, [42]), (28, [180, 0, 30]), (31, [4]), (32, [182, 0, 176]), (35, [154, 0, 10]), (38, [42]), (39, [16, 250]), (41, [182, 0, 101]), (44, [172]), (45, [42]), (46, [42])] = true := by decide +kernel
theorem dX11_law_0 : decode cX11_law 0 = .ok (.aload_n 0, 1) := dk_42 (bs_at BX11_law_0 0 rfl)
theorem dX11_law_1 : decode cX11_law 1 = .ok (.getfield 10, 3) := dk_180 0 10 (bs_at BX11_law_0 1 rfl) rfl
theorem dX11_law_4 : decode cX11_law 4 = .ok (.getfield 173, 3) := dk_180 0 173 (bs_at BX11_law_0 2 rfl) rfl
theorem dX11_law_7 : decode cX11_law 7 = .ok (.bipush 6, 2) := dk_16 6 (bs_at BX11_law_0 3 rfl) rfl
theorem dX11_law_9 : decode cX11_law 9 = .ok (.if_icmp .lt 18, 3) := dk_161 0 18 (bs_at BX11_law_0 4 rfl) rfl
theorem dX11_law_12 : decode cX11_law 12 = .ok (.aload_n 0, 1) := dk_42 (bs_at BX11_law_0 5 rfl)
theorem dX11_law_13 : decode cX11_law 13 = .ok (.getfield 38, 3) := dk_180 0 38 (bs_at BX11_law_0 6 rfl) rfl
theorem dX11_law_16 : decode cX11_law 16 = .ok (.iconst 0, 1) := dk_3 (bs_at BX11_law_0 7 rfl)
theorem dX11_law_17 : decode cX11_law 17 = .ok (.putfield 161, 3) := dk_181 0 161 (bs_at BX11_law_0 8 rfl) rfl
theorem dX11_law_20 : decode cX11_law 20 = .ok (.aload_n 0, 1) := dk_42 (bs_at BX11_law_0 9 rfl)
theorem dX11_law_21 : decode cX11_law 21 = .ok (.bipush (-5), 2) := dk_16 251 (bs_at BX11_law_0 10 rfl) rfl
theorem dX11_law_23 : decode cX11_law 23 = .ok (.invokevirtual 101, 3) := dk_182 0 101 (bs_at BX11_law_0 11 rfl) rfl
theorem dX11_law_26 : decode cX11_law 26 = .ok (.ireturn, 1) := dk_172 (bs_at BX11_law_0 12 rfl)
theorem dX11_law_27 : decode cX11_law 27 = .ok (.aload_n 0, 1) := dk_42 (bs_at BX11_law_0 13 rfl)
theorem dX11_law_28 : decode cX11_law 28 = .ok (.getfield 30, 3) := dk_180 0 30 (bs_at BX11_law_0 14 rfl) rfl
theorem dX11_law_31 : decode cX11_law 31 = .ok (.iconst 1, 1) := dk_4 (bs_at BX11_law_0 15 rfl)
theorem dX11_law_32 : decode cX11_law 32 = .ok (.invokevirtual 176, 3) := dk_182 0 176 (bs_at BX11_law_0 16 rfl) rfl
theorem dX11_law_35 : decode cX11_law 35 = .ok (.ifCond .ne 10, 3) := dk_154 0 10 (bs_at BX11_law_0 17 rfl) rfl
theorem dX11_law_38 : decode cX11_law 38 = .ok (.aload_n 0, 1) := dk_42 (bs_at BX11_law_0 18 rfl)
theorem dX11_law_39 : decode cX11_law 39 = .ok (.bipush (-6), 2) := dk_16 250 (bs_at BX11_law_0 19 rfl) rfl
theorem dX11_law_41 : decode cX11_law 41 = .ok (.invokevirtual 101, 3) := dk_182 0 101 (bs_at BX11_law_0 20 rfl) rfl
theorem dX11_law_44 : decode cX11_law 44 = .ok (.ireturn, 1) := dk_172 (bs_at BX11_law_0 21 rfl)
theorem dX11_law_45 : decode cX11_law 45 = .ok (.aload_n 0, 1) := dk_42 (bs_at BX11_law_0 22 rfl)
theorem dX11_law_46 : decode cX11_law 46 = .ok (.aload_n 0, 1) := dk_42 (bs_at BX11_law_0 23 rfl)
theorem BX11_law_47 : bsegs (ByteArray.data cX11_law |>.toList.drop 47) 47 [(47, [180, 0, 10]), (50, [42]), (51, [180, 0, 30]), (54, [180, 0, 180]), (57, [182, 0, 184]), (60, [182, 0, 189]), (63, [182, 0, 118]), (66, [172])] = true := by decide +kernel
theorem dX11_law_47 : decode cX11_law 47 = .ok (.getfield 10, 3) := dk_180 0 10 (bs_at BX11_law_47 0 rfl) rfl
theorem dX11_law_50 : decode cX11_law 50 = .ok (.aload_n 0, 1) := dk_42 (bs_at BX11_law_47 1 rfl)
theorem dX11_law_51 : decode cX11_law 51 = .ok (.getfield 30, 3) := dk_180 0 30 (bs_at BX11_law_47 2 rfl) rfl
theorem dX11_law_54 : decode cX11_law 54 = .ok (.getfield 180, 3) := dk_180 0 180 (bs_at BX11_law_47 3 rfl) rfl
theorem dX11_law_57 : decode cX11_law 57 = .ok (.invokevirtual 184, 3) := dk_182 0 184 (bs_at BX11_law_47 4 rfl) rfl
theorem dX11_law_60 : decode cX11_law 60 = .ok (.invokevirtual 189, 3) := dk_182 0 189 (bs_at BX11_law_47 5 rfl) rfl
theorem dX11_law_63 : decode cX11_law 63 = .ok (.invokevirtual 118, 3) := dk_182 0 118 (bs_at BX11_law_47 6 rfl) rfl
theorem dX11_law_66 : decode cX11_law 66 = .ok (.ireturn, 1) := dk_172 (bs_at BX11_law_47 7 rfl)
theorem ggX11_law_X6_reads : GoodIn wsX11_law wsX6_reads := gi_ch ch_X11_law ch_X6_reads (by decide +kernel)
set_option maxRecDepth 20000 in
theorem gX11_law_X6_reads_n176 : GoodIn wsX11_law (wsX6_reads) := ggX11_law_X6_reads
theorem ggX11_law_X7_trimmed : GoodIn wsX11_law wsX7_trimmed := gi_ch ch_X11_law ch_X7_trimmed (by decide +kernel)
set_option maxRecDepth 20000 in
theorem gX11_law_X7_trimmed_n184 : GoodIn wsX11_law (wsX7_trimmed) := ggX11_law_X7_trimmed
theorem ggX11_law_X9_enact : GoodIn wsX11_law wsX9_enact := gi_ch ch_X11_law ch_X9_enact (by decide +kernel)
set_option maxRecDepth 20000 in
theorem gX11_law_X9_enact_n189 : GoodIn wsX11_law (wsX9_enact) := ggX11_law_X9_enact
theorem ggX11_law_X11_accept : GoodIn wsX11_law wsX11_accept := gi_ch ch_X11_law ch_X11_accept (by decide +kernel)
theorem gX11_law_X11_accept : GoodIn wsX11_law (wsV RX11 118 RX11 yX11_accept wsX11_accept) := gi_ch ch_X11_law (ch_v [390, 391, 6, 144] rfl ch_X11_accept) (by decide +kernel)
theorem ggX11_law_X11_refuse : GoodIn wsX11_law wsX11_refuse := gi_ch ch_X11_law ch_X11_refuse (by decide +kernel)
theorem gX11_law_X11_refuse : GoodIn wsX11_law (wsV RX11 101 RX11 yX11_refuse wsX11_refuse) := gi_ch ch_X11_law (ch_v [375, 376, 0, 144] rfl ch_X11_refuse) (by decide +kernel)
set_option maxRecDepth 100000 in
noncomputable def E_w_law (rb : Int32) (frf : Nat → Int32) (lw : Int32) (pa : Int32) (fl : Int32) (ln : Int32) (tf : Int32) (tt : Int32) (ti : Int32) (tu : Int32) (fb : Nat → Int32) (scl : Int32) (us : Int32) (fh : Nat → Int32) (fc : Nat → Int32) (lt : Int32) (fd : Nat → Option Nat) : Int32 × Int32 × (Nat → Int32) × Int32 × Int32 × Int32 × Int32 × Int32 × Int32 × Int32 × Int32 × Int32 × (Nat → Int32) × (Nat → Int32) × Int32 :=
  if lt < 6 then (Lt2 (E_w_reads 1 lw pa fl ln tf tt ti tu fb scl us fh fc) (fun r_128 q0_r_128 => Lt2 q0_r_128 (fun u_129_2_2_2_1_0 q1_u_129_2_2_2_1_0 => Lt2 q1_u_129_2_2_2_1_0 (fun u_129_2_2_2_1_1 q2_u_129_2_2_2_1_1 => Lt2 q2_u_129_2_2_2_1_1 (fun u_129_2_2_2_1_2 q3_u_129_2_2_2_1_2 => Lt2 q3_u_129_2_2_2_1_2 (fun u_129_2_2_2_1_3 q4_u_129_2_2_2_1_3 => Lt2 q4_u_129_2_2_2_1_3 (fun u_129_2_2_2_1_4 q5_u_129_2_2_2_1_4 => Lt2 q5_u_129_2_2_2_1_4 (fun u_129_2_2_2_1_5 q6_u_129_2_2_2_1_5 => Lt2 q6_u_129_2_2_2_1_5 (fun u_129_2_2_2_1_6 q7_u_129_2_2_2_1_6 => Lt2 q7_u_129_2_2_2_1_6 (fun u_129_2_2_2_1_7 q8_u_129_2_2_2_1_7 => Lt2 q8_u_129_2_2_2_1_7 (fun u_129_2_1_0 u_129_2_1_1 => if r_128 = 0 then (Lt2 (E_w_refuse (-6) rb frf) (fun r_154 u_155_2_1_0 => ((r_154, (-6), u_155_2_1_0, 1, u_129_2_2_2_1_0, u_129_2_2_2_1_1, u_129_2_2_2_1_2, u_129_2_2_2_1_3, u_129_2_2_2_1_4, u_129_2_2_2_1_5, u_129_2_2_2_1_6, u_129_2_2_2_1_7, u_129_2_1_0, u_129_2_1_1, lt) : Int32 × Int32 × (Nat → Int32) × Int32 × Int32 × Int32 × Int32 × Int32 × Int32 × Int32 × Int32 × Int32 × (Nat → Int32) × (Nat → Int32) × Int32))) else (Lt2 (E_w_enact lt fd) (fun r_144 u_145_2_2_2_1_0 => Lt (E_w_accept r_144 rb) (fun r_151 => ((r_151, 0, frf, 1, u_129_2_2_2_1_0, u_129_2_2_2_1_1, u_129_2_2_2_1_2, u_129_2_2_2_1_3, u_129_2_2_2_1_4, u_129_2_2_2_1_5, u_129_2_2_2_1_6, u_129_2_2_2_1_7, u_129_2_1_0, u_129_2_1_1, u_145_2_2_2_1_0) : Int32 × Int32 × (Nat → Int32) × Int32 × Int32 × Int32 × Int32 × Int32 × Int32 × Int32 × Int32 × Int32 × (Nat → Int32) × (Nat → Int32) × Int32))))))))))))))) else (Lt2 (E_w_refuse (-5) rb frf) (fun r_157 u_158_2_1_0 => ((r_157, (-5), u_158_2_1_0, lw, pa, fl, tf, tt, ti, tu, scl, us, fh, fc, lt) : Int32 × Int32 × (Nat → Int32) × Int32 × Int32 × Int32 × Int32 × Int32 × Int32 × Int32 × Int32 × Int32 × (Nat → Int32) × (Nat → Int32) × Int32)))
set_option maxHeartbeats 4000000 in
set_option maxRecDepth 100000 in
theorem w_law (l : Launch) (D : va_G) (K : Nat → ClassId) (g : Nat → Nat) (L : Nat → Prop) (G : Nat → LC) (o0 : Nat) (t0 : Nat) (o_1 : Value) (o_2 : Value) (o_3 : Value) (b0 : Nat) (p0 : Nat) (o_6 : Value) (o_7 : Value) (o_8 : Value) (o_9 : Value) (o_10 : Value) (o_11 : Value) (rf : Nat) (rb : Int32) (o_14 : Value) (o_15 : Value) (o_16 : Value) (frf : Nat → Int32) (s0 : Nat) (lw : Int32) (pa : Int32) (fl : Int32) (p1 : Nat) (ln : Int32) (tf : Int32) (tt : Int32) (ti : Int32) (tu : Int32) (fb : Nat → Int32) (s1 : Nat) (s2 : Nat) (scl : Int32) (us : Int32) (fh : Nat → Int32) (fc : Nat → Int32) (k_0 : Value) (k_1 : Value) (k_2 : Value) (l0 : Nat) (k_4 : Value) (lt : Int32) (k_6 : Value) (k_7 : Value) (k_8 : Value) (k_9 : Value) (fd : Nat → Option Nat) (sz : Nat) (zln : 0 ≤ ln.toInt ∧ ln.toInt ≤ 400) (ztf : 0 ≤ tf.toInt ∧ tf.toInt ≤ 400) (ztt : 0 ≤ tt.toInt ∧ tt.toInt ≤ 400) (ztu : (-1) ≤ tu.toInt ∧ tu.toInt ≤ 1000000) (zlw : 0 ≤ lw.toInt ∧ lw.toInt ≤ 1) (zpa : 0 ≤ pa.toInt ∧ pa.toInt ≤ 50) (zus : 0 ≤ us.toInt ∧ us.toInt ≤ 800) (zscl : 0 ≤ scl.toInt ∧ scl.toInt ≤ 12) (zlt : 0 ≤ lt.toInt ∧ lt.toInt ≤ 6) (zfh : Rg 60 (-1) 1000 fh) (zfc : Rg 800 0 1000 fc) (zfd : InL L fd) : Met l yX11_law wsX11_law ({ frames := 336, cells := 3, slots := 864, locals := 7442 }) (va_Pc [.ref o0] (PreC (PreY D K [(cc_O o0 11 [.ref t0, o_1, o_2, o_3, .ref b0, .ref p0, o_6, o_7, o_8, o_9, o_10, o_11, .ref rf, .int rb, o_14, o_15, o_16]), (cc_l rf (K 0) 5 frf), (cc_O b0 6 [.ref p0, .ref s0, .int lw, .int pa, .int fl]), (cc_O p0 8 [.ref p1, .int ln, .int tf, .int tt, .int ti, .int tu]), (cc_l p1 (K 0) 400 fb), (cc_O s0 7 [.ref s1, .ref s2, .int scl, .int us]), (cc_l s1 (K 0) 60 fh), (cc_l s2 (K 0) 800 fc), (cc_O t0 9 [k_0, k_1, k_2, .ref l0, k_4, .int lt, k_6, k_7, k_8, k_9]), (cc_rrrR l0 (K 4) 6 fd)] [] sz g L G (va_A [(cc_O o0 11 [.ref t0, o_1, o_2, o_3, .ref b0, .ref p0, o_6, o_7, o_8, o_9, o_10, o_11, .ref rf, .int rb, o_14, o_15, o_16]), (cc_l rf (K 0) 5 frf), (cc_O b0 6 [.ref p0, .ref s0, .int lw, .int pa, .int fl]), (cc_O p0 8 [.ref p1, .int ln, .int tf, .int tt, .int ti, .int tu]), (cc_l p1 (K 0) 400 fb), (cc_O s0 7 [.ref s1, .ref s2, .int scl, .int us]), (cc_l s1 (K 0) 60 fh), (cc_l s2 (K 0) 800 fc), (cc_O t0 9 [k_0, k_1, k_2, .ref l0, k_4, .int lt, k_6, k_7, k_8, k_9]), (cc_rrrR l0 (K 4) 6 fd)] sz)))) (va_Qi (S := Su × va_W × (Nat → Prop) × (Nat → LC)) (fun (r : Int32) v => (fun (r : Int32) (u : Su) => ((-6) ≤ (u.2.2.2.1 0).toInt ∧ (u.2.2.2.1 0).toInt ≤ 0) ∧ (0 ≤ (u.2.2.2.1 1).toInt ∧ (u.2.2.2.1 1).toInt ≤ 1) ∧ (0 ≤ (u.2.2.2.1 2).toInt ∧ (u.2.2.2.1 2).toInt ≤ 50) ∧ (0 ≤ (u.2.2.2.1 4).toInt ∧ (u.2.2.2.1 4).toInt ≤ 400) ∧ (0 ≤ (u.2.2.2.1 5).toInt ∧ (u.2.2.2.1 5).toInt ≤ 400) ∧ ((-1) ≤ (u.2.2.2.1 7).toInt ∧ (u.2.2.2.1 7).toInt ≤ 1000000) ∧ (0 ≤ (u.2.2.2.1 8).toInt ∧ (u.2.2.2.1 8).toInt ≤ 12) ∧ (0 ≤ (u.2.2.2.1 9).toInt ∧ (u.2.2.2.1 9).toInt ≤ 800) ∧ (Rg 60 (-1) 1000 (u.2.1 1)) ∧ (Rg 800 0 1000 (u.2.1 2)) ∧ (0 ≤ (u.2.2.2.1 10).toInt ∧ (u.2.2.2.1 10).toInt ≤ 6) ∧ ((r, (u.2.2.2.1 0), (u.2.1 0), (u.2.2.2.1 1), (u.2.2.2.1 2), (u.2.2.2.1 3), (u.2.2.2.1 4), (u.2.2.2.1 5), (u.2.2.2.1 6), (u.2.2.2.1 7), (u.2.2.2.1 8), (u.2.2.2.1 9), (u.2.1 1), (u.2.1 2), (u.2.2.2.1 10)) = E_w_law rb frf lw pa fl ln tf tt ti tu fb scl us fh fc lt fd) ∧ True) r v.1 ∧ InL v.2.2.1 ((fun u : Su => (u.2.2.2.2.2 0)) v.1) ∧ NewLaw K L v.2.2.1 G v.2.2.2 ((fun (r : Int32) (u : Su) => (u.2.2.2.2.2 0) = fd ∧ (u.2.2.2.1 0).toInt < 0) r v.1) ((fun (r : Int32) (u : Su) q x => (u.2.2.2.2.2 0) = va_up fd lt.toNatClampNeg (some q) ∧ TrX (u.2.2.2.1 8) (u.2.2.2.1 9) (u.2.1 1) (u.2.1 2) x) r v.1) v.2.1) (fun v t => Wd D (va_A [(cc_O o0 11 [.ref t0, o_1, o_2, o_3, .ref b0, .ref p0, o_6, o_7, o_8, o_9, o_10, o_11, .ref rf, .int rb, o_14, o_15, o_16]), (cc_l rf (K 0) 5 frf), (cc_O b0 6 [.ref p0, .ref s0, .int lw, .int pa, .int fl]), (cc_O p0 8 [.ref p1, .int ln, .int tf, .int tt, .int ti, .int tu]), (cc_l p1 (K 0) 400 fb), (cc_O s0 7 [.ref s1, .ref s2, .int scl, .int us]), (cc_l s1 (K 0) 60 fh), (cc_l s2 (K 0) 800 fc), (cc_O t0 9 [k_0, k_1, k_2, .ref l0, k_4, .int lt, k_6, k_7, k_8, k_9]), (cc_rrrR l0 (K 4) 6 fd)] sz) ((fun u : Su => [(cc_O o0 11 [.ref t0, o_1, o_2, o_3, .ref b0, .ref p0, o_6, o_7, o_8, o_9, o_10, o_11, .ref rf, .int (u.2.2.2.1 0), o_14, o_15, o_16]), (cc_l rf (K 0) 5 (u.2.1 0)), (cc_O b0 6 [.ref p0, .ref s0, .int (u.2.2.2.1 1), .int (u.2.2.2.1 2), .int (u.2.2.2.1 3)]), (cc_O p0 8 [.ref p1, .int 0, .int (u.2.2.2.1 4), .int (u.2.2.2.1 5), .int (u.2.2.2.1 6), .int (u.2.2.2.1 7)]), (cc_l p1 (K 0) 400 fb), (cc_O s0 7 [.ref s1, .ref s2, .int (u.2.2.2.1 8), .int (u.2.2.2.1 9)]), (cc_l s1 (K 0) 60 (u.2.1 1)), (cc_l s2 (K 0) 800 (u.2.1 2)), (cc_O t0 9 [k_0, k_1, k_2, .ref l0, k_4, .int (u.2.2.2.1 10), k_6, k_7, k_8, k_9]), (cc_rrrR l0 (K 4) 6 (u.2.2.2.2.2 0))]) v.1 ++ v.2.1) t) (va_A [(cc_O o0 11 [.ref t0, o_1, o_2, o_3, .ref b0, .ref p0, o_6, o_7, o_8, o_9, o_10, o_11, .ref rf, .int rb, o_14, o_15, o_16]), (cc_l rf (K 0) 5 frf), (cc_O b0 6 [.ref p0, .ref s0, .int lw, .int pa, .int fl]), (cc_O p0 8 [.ref p1, .int ln, .int tf, .int tt, .int ti, .int tu]), (cc_l p1 (K 0) 400 fb), (cc_O s0 7 [.ref s1, .ref s2, .int scl, .int us]), (cc_l s1 (K 0) 60 fh), (cc_l s2 (K 0) 800 fc), (cc_O t0 9 [k_0, k_1, k_2, .ref l0, k_4, .int lt, k_6, k_7, k_8, k_9]), (cc_rrrR l0 (K 4) 6 fd)] sz)) 3 864 (va_A [(cc_O o0 11 [.ref t0, o_1, o_2, o_3, .ref b0, .ref p0, o_6, o_7, o_8, o_9, o_10, o_11, .ref rf, .int rb, o_14, o_15, o_16]), (cc_l rf (K 0) 5 frf), (cc_O b0 6 [.ref p0, .ref s0, .int lw, .int pa, .int fl]), (cc_O p0 8 [.ref p1, .int ln, .int tf, .int tt, .int ti, .int tu]), (cc_l p1 (K 0) 400 fb), (cc_O s0 7 [.ref s1, .ref s2, .int scl, .int us]), (cc_l s1 (K 0) 60 fh), (cc_l s2 (K 0) 800 fc), (cc_O t0 9 [k_0, k_1, k_2, .ref l0, k_4, .int lt, k_6, k_7, k_8, k_9]), (cc_rrrR l0 (K 4) 6 fd)] sz) := by
  refine Met.ofW (cc := cX11_law) (maxL := 1) (ret := (some .int)) (by decide +kernel) rfl ?_
  intro p e s m args below meth c s₁ B hml hv
  obtain ⟨rfl, ⟨⟨hsz, hP, hK, hD0, hN⟩, hG, hPl, hRo⟩, hC⟩ := hv
  have hx := B.exec
  have hb := B.bytes
  have hr := B.returns
  have hts := atoms_spec (ws := wsX11_law) B.pre
  have hown : s.vm.findClass RX11 = some m.cls := findClass_of_methodNamed B.named
  have hlocks := B.notSynchronized
  subst hsz
  have hD := hD0.self (sz := s.heap.size)
  generalize hAe : va_A [(cc_O o0 11 [.ref t0, o_1, o_2, o_3, .ref b0, .ref p0, o_6, o_7, o_8, o_9, o_10, o_11, .ref rf, .int rb, o_14, o_15, o_16]), (cc_l rf (K 0) 5 frf), (cc_O b0 6 [.ref p0, .ref s0, .int lw, .int pa, .int fl]), (cc_O p0 8 [.ref p1, .int ln, .int tf, .int tt, .int ti, .int tu]), (cc_l p1 (K 0) 400 fb), (cc_O s0 7 [.ref s1, .ref s2, .int scl, .int us]), (cc_l s1 (K 0) 60 fh), (cc_l s2 (K 0) 800 fc), (cc_O t0 9 [k_0, k_1, k_2, .ref l0, k_4, .int lt, k_6, k_7, k_8, k_9]), (cc_rrrR l0 (K 4) 6 fd)] s.heap.size = A at hD hG hPl hRo ⊢
  have hA : ∀ q : Nat, s.heap.size ≤ q → A q := fun q h => by rw [← hAe]; exact Or.inr h
  clear hAe
  have hS : va_S A s.heap s.heap [] := va_S.rf
  replace hP : va_P D vwCl [(cc_O o0 11 [.ref t0, o_1, o_2, o_3, .ref b0, .ref p0, o_6, o_7, o_8, o_9, o_10, o_11, .ref rf, .int rb, o_14, o_15, o_16]), (cc_l rf (K 0) 5 frf), (cc_O b0 6 [.ref p0, .ref s0, .int lw, .int pa, .int fl]), (cc_O p0 8 [.ref p1, .int ln, .int tf, .int tt, .int ti, .int tu]), (cc_l p1 (K 0) 400 fb), (cc_O s0 7 [.ref s1, .ref s2, .int scl, .int us]), (cc_l s1 (K 0) 60 fh), (cc_l s2 (K 0) 800 fc), (cc_O t0 9 [k_0, k_1, k_2, .ref l0, k_4, .int lt, k_6, k_7, k_8, k_9]), (cc_rrrR l0 (K 4) 6 fd)] s.heap := hP
  have hl := lv_entry [.ref o0] (n := 1) (Nat.le_of_ble_eq_true rfl)
  rw [lg_entry_eq]
  generalize (lg_sl [.ref o0] ++ List.replicate (1 - (lg_sl [.ref o0]).length) Slot.unset).toArray = ls at hl ⊢
  have hl : lv_has ls 1 [(0, .ref o0)] := hl
  have hw6 : ∀ w ∈ wsX60, w ∈ wsX11_law := fun w h => (List.mem_cons_of_mem _ (List.mem_append_left _ (List.mem_append_right _ h)))
  have hw7 : ∀ w ∈ wsX70, w ∈ wsX11_law := fun w h => (List.mem_cons_of_mem _ (List.mem_append_right _ h))
  have hw8 : ∀ w ∈ wsX80, w ∈ wsX11_law := fun w h => (List.mem_cons_of_mem _ (List.mem_append_left _ (List.mem_append_left _ (List.mem_append_right _ h))))
  have hw9 : ∀ w ∈ wsX90, w ∈ wsX11_law := fun w h => (List.mem_cons_of_mem _ (List.mem_append_left _ (List.mem_append_left _ (List.mem_append_left _ (List.mem_append_right _ h)))))
  have hw11 : ∀ w ∈ wsX110, w ∈ wsX11_law := fun w h => (List.mem_cons_of_mem _ (List.mem_append_left _ (List.mem_append_left _ (List.mem_append_left _ (List.mem_append_left _ (List.mem_append_right _ h))))))
  generalize hQ : MQ below _ _ s _ _ _ = Q
  have hE := E_w_law.eq_def rb frf lw pa fl ln tf tt ti tu fb scl us fh fc lt fd
  refine lv_aload_n hx hb dX11_law_0 rfl (lv_at hl 0 rfl) (va_get (ci := 11) (v := .ref t0) (C := RX11) (T := TX11) (N := 17) hx hb hts hw11 hown hK hP 0 rfl rfl 0 (by decide +kernel) (hts _ mm_X11_law_334) (fun _ h9 => h9) rfl dX11_law_1 (va_getN (ci := 9) (v := .int lt) (C := RX9) (T := TX9) (N := 10) hx hb hts hw9 hown hK hP 8 rfl rfl 5 (by decide +kernel) (nst_use hN 110 rfl) (fun _ h9 => h9) rfl dX11_law_4 (lv_bipush (v := 6) hx hb dX11_law_7 (by decide +kernel) (lv_icmp_lt (tgt := 27) hx hb dX11_law_9 (by decide +kernel) (fun c_127 => ?_) (fun c_127 => ?_)))))
  · have c_127i := i_lt (x := lt.toInt) (y := 6) rfl rfl c_127
    replace hE := hE.trans (if_pos c_127)
    refine lv_aload_n hx hb dX11_law_27 rfl (lv_at hl 0 rfl) (va_get (ci := 11) (v := .ref b0) (C := RX11) (T := TX11) (N := 17) hx hb hts hw11 hown hK hP 0 rfl rfl 4 (by decide +kernel) (hts _ mm_X11_law_338) (fun _ h9 => h9) rfl dX11_law_28 (lv_iconst (v := 1) hx hb dX11_law_31 (by decide +kernel) (kci (S := Su) (wr := [(cc_O o0 11 [.ref t0, o_1, o_2, o_3, .ref b0, .ref p0, o_6, o_7, o_8, o_9, o_10, o_11, .ref rf, .int rb, o_14, o_15, o_16]), (cc_l rf (K 0) 5 frf), (cc_O t0 9 [k_0, k_1, k_2, .ref l0, k_4, .int lt, k_6, k_7, k_8, k_9]), (cc_rrrR l0 (K 4) 6 fd)]) (va_runVN (As := [.int 1]) (rest := []) ⟨hx, hb, hml, hown, hts⟩ (w_reads l D K g L G b0 1 p0 s0 lw pa fl p1 ln tf tt ti tu fb s1 s2 scl us fh fc s.heap.size (by first | omega | decide) (by first | omega | decide) (by first | omega | decide) (by first | omega | decide) (by first | omega | decide) (by first | omega | decide) (by first | omega | decide) (by first | omega | decide) (by first | omega | decide) zfh zfc) ⟨va_cnB 1 hts gX11_law_X6_reads_n176 rfl rfl rfl (nst_at hN 31 rfl) (hts _ mm_X11_law_146) (by decide +kernel) ⟨Nat.le_of_ble_eq_true rfl, Nat.le_of_ble_eq_true rfl⟩, (hts _ mm_X11_law_469), (hts _ mm_X11_law_20)⟩ (mkVY hK hN (hP.sub [2, 3, 4, 5, 6, 7] rfl) (hD.sub [2, 3, 4, 5, 6, 7] (by decide +kernel) rfl) (ci := 6) (q0 := 0) rfl rfl (fun U hU hW => ⟨Gl.at hG hS hW hU (fun q h => va_free hD hS hA [2, 3, 4, 5, 6, 7] rfl q h), Pool.at hPl hS hU (fun q h => va_free hD hS hA [2, 3, 4, 5, 6, 7] rfl q h), Ro.heap hU (Ro.nil)⟩)) rfl rfl hl.1 rfl (lv_room (Nat.le_of_ble_eq_true rfl)) dX11_law_32 ⟨Nat.le_of_ble_eq_true rfl, Nat.le_of_ble_eq_true rfl⟩) hP hD hS hA [2, 3, 4, 5, 6, 7] [0, 1, 8, 9] rfl rfl (by decide +kernel) (by decide +kernel) (fun r_128 u_129 H locs hw hP0 hD0 hS0 => ?_))))
    replace hP : va_P D vwCl [(cc_O o0 11 [.ref t0, o_1, o_2, o_3, .ref b0, .ref p0, o_6, o_7, o_8, o_9, o_10, o_11, .ref rf, .int rb, o_14, o_15, o_16]), (cc_l rf (K 0) 5 frf), (cc_O t0 9 [k_0, k_1, k_2, .ref l0, k_4, .int lt, k_6, k_7, k_8, k_9]), (cc_rrrR l0 (K 4) 6 fd), (cc_O b0 6 [.ref p0, .ref s0, .int 1, .int (u_129.2.2.2.1 0), .int (u_129.2.2.2.1 1)]), (cc_O p0 8 [.ref p1, .int 0, .int (u_129.2.2.2.1 2), .int (u_129.2.2.2.1 3), .int (u_129.2.2.2.1 4), .int (u_129.2.2.2.1 5)]), (cc_l p1 (K 0) 400 fb), (cc_O s0 7 [.ref s1, .ref s2, .int (u_129.2.2.2.1 6), .int (u_129.2.2.2.1 7)]), (cc_l s1 (K 0) 60 (u_129.2.1 0)), (cc_l s2 (K 0) 800 (u_129.2.1 1))] H := hP0
    replace hD := as_D hP hD0 rfl
    replace hS := hS0
    clear hP0 hD0 hS0
    obtain ⟨h_140, k_130, k_131, k_132, k_133, k_134, k_135, k_136, k_137, k_138, k_139, -⟩ := hw
    replace hE := (((((((((hE.trans (Lt2_in k_139)).trans (Lt2_in rfl)).trans (Lt2_in rfl)).trans (Lt2_in rfl)).trans (Lt2_in rfl)).trans (Lt2_in rfl)).trans (Lt2_in rfl)).trans (Lt2_in rfl)).trans (Lt2_in rfl)).trans (Lt2_in rfl)
    refine lv_if_ne (tgt := 45) hx hb dX11_law_35 (by decide +kernel) (fun c_141 => ?_) (fun c_141 => ?_)
    · have c_141i := i_ne (x := r_128.toInt) (y := 0) rfl rfl c_141
      replace hE := hE.trans (if_neg c_141)
      refine lv_aload_n hx hb dX11_law_45 rfl (lv_at hl 0 rfl) (lv_aload_n hx hb dX11_law_46 rfl (lv_at hl 0 rfl) (va_get (ci := 11) (v := .ref t0) (C := RX11) (T := TX11) (N := 17) hx hb hts hw11 hown hK hP 0 rfl rfl 0 (by decide +kernel) (hts _ mm_X11_law_334) (fun _ h9 => h9) rfl dX11_law_47 (lv_aload_n hx hb dX11_law_50 rfl (lv_at hl 0 rfl) (va_get (ci := 11) (v := .ref b0) (C := RX11) (T := TX11) (N := 17) hx hb hts hw11 hown hK hP 0 rfl rfl 4 (by decide +kernel) (hts _ mm_X11_law_338) (fun _ h9 => h9) rfl dX11_law_51 (va_getN (ci := 6) (v := .ref s0) (C := RX6) (T := TX6) (N := 5) hx hb hts hw6 hown hK hP 4 rfl rfl 1 (by decide +kernel) (nst_use hN 132 rfl) (fun _ h9 => h9) rfl dX11_law_54 ?_)))))
      refine kcr (S := (Nat → Nat) × (Nat → Int32) × (Nat → Int32) × Int32 × Int32) (B := fun u => [(cc_O s0 7 [.ref s1, .ref s2, .int (u_129.2.2.2.1 6), .int (u_129.2.2.2.1 7)]), (cc_l s1 (K 0) 60 (u_129.2.1 0)), (cc_l s2 (K 0) 800 (u_129.2.1 1))] ++ Scr K (u.1 0) (u.1 1) (u.1 2) (u.1 3) (u.1 4) u.2.1 u.2.2.1 u.2.2.2.1 u.2.2.2.2) (ad := fun u => u.1 0) (wr := [(cc_O o0 11 [.ref t0, o_1, o_2, o_3, .ref b0, .ref p0, o_6, o_7, o_8, o_9, o_10, o_11, .ref rf, .int rb, o_14, o_15, o_16]), (cc_l rf (K 0) 5 frf), (cc_O t0 9 [k_0, k_1, k_2, .ref l0, k_4, .int lt, k_6, k_7, k_8, k_9]), (cc_rrrR l0 (K 4) 6 fd), (cc_O b0 6 [.ref p0, .ref s0, .int 1, .int (u_129.2.2.2.1 0), .int (u_129.2.2.2.1 1)]), (cc_O p0 8 [.ref p1, .int 0, .int (u_129.2.2.2.1 2), .int (u_129.2.2.2.1 3), .int (u_129.2.2.2.1 4), .int (u_129.2.2.2.1 5)]), (cc_l p1 (K 0) 400 fb)]) (va_runVN (As := []) (rest := [.ref t0, .ref o0]) ⟨hx, hb, hml, hown, hts⟩ (w_trimmed l D K s0 s1 s2 (u_129.2.2.2.1 6) (u_129.2.2.2.1 7) (u_129.2.1 0) (u_129.2.1 1) H.size (by first | omega | decide) (by first | omega | decide) k_137 k_138) ⟨va_cnB 0 hts gX11_law_X7_trimmed_n184 rfl rfl rfl (nst_at hN 38 rfl) (hts _ mm_X11_law_148) (by decide +kernel) ⟨Nat.le_of_ble_eq_true rfl, Nat.le_of_ble_eq_true rfl⟩, (hts _ mm_X11_law_556), (hts _ mm_X11_law_34)⟩ (PreC.V (mkV hK hN (hP.sub [7, 8, 9] rfl) (hD.sub [7, 8, 9] (by decide +kernel) rfl) (ci := 7) (q0 := 0) rfl rfl) hC) rfl rfl hl.1 rfl (lv_room (Nat.le_of_ble_eq_true rfl)) dX11_law_57 ⟨Nat.le_of_ble_eq_true rfl, Nat.le_of_ble_eq_true rfl⟩) hP hD hS hA [7, 8, 9] [0, 1, 2, 3, 4, 5, 6] rfl rfl (by decide +kernel) (by decide +kernel) (fun u_143 H locs hw hP0 hD0 hS0 => ?_)
      replace hP : va_P D vwCl [(cc_O o0 11 [.ref t0, o_1, o_2, o_3, .ref b0, .ref p0, o_6, o_7, o_8, o_9, o_10, o_11, .ref rf, .int rb, o_14, o_15, o_16]), (cc_l rf (K 0) 5 frf), (cc_O t0 9 [k_0, k_1, k_2, .ref l0, k_4, .int lt, k_6, k_7, k_8, k_9]), (cc_rrrR l0 (K 4) 6 fd), (cc_O b0 6 [.ref p0, .ref s0, .int 1, .int (u_129.2.2.2.1 0), .int (u_129.2.2.2.1 1)]), (cc_O p0 8 [.ref p1, .int 0, .int (u_129.2.2.2.1 2), .int (u_129.2.2.2.1 3), .int (u_129.2.2.2.1 4), .int (u_129.2.2.2.1 5)]), (cc_l p1 (K 0) 400 fb), (cc_O s0 7 [.ref s1, .ref s2, .int (u_129.2.2.2.1 6), .int (u_129.2.2.2.1 7)]), (cc_l s1 (K 0) 60 (u_129.2.1 0)), (cc_l s2 (K 0) 800 (u_129.2.1 1)), ((u_143.1 0), .inr (7, [.ref (u_143.1 1), .ref (u_143.1 2), .int u_143.2.2.2.1, .int u_143.2.2.2.2])), ((u_143.1 1), .inl (K 0, (u_143.1 3), .inl u_143.2.1)), ((u_143.1 2), .inl (K 0, (u_143.1 4), .inl u_143.2.2.1))] H := hP0
      replace hD := as_D hP hD0 rfl
      replace hS := hS0
      clear hP0 hD0 hS0
      refine W.widen (k := 3) (n := 864) (by first | omega | decide) (by first | omega | decide) ?_
      refine W.eq (g2 := F0 m 60 ls (.ref ((fun u => u.1 0) u_143) :: [.ref t0, .ref o0])) rfl ?_
      obtain ⟨k1_u_143, k2_u_143, k3_u_143, k4_u_143, k5_u_143⟩ := hw
      refine W.eq (g2 := F0 m 60 ls [.ref (u_143.1 0), .ref t0, .ref o0]) rfl ?_
      refine kci (S := Su) (wr := [(cc_O o0 11 [.ref t0, o_1, o_2, o_3, .ref b0, .ref p0, o_6, o_7, o_8, o_9, o_10, o_11, .ref rf, .int rb, o_14, o_15, o_16]), (cc_l rf (K 0) 5 frf), (cc_O b0 6 [.ref p0, .ref s0, .int 1, .int (u_129.2.2.2.1 0), .int (u_129.2.2.2.1 1)]), (cc_O p0 8 [.ref p1, .int 0, .int (u_129.2.2.2.1 2), .int (u_129.2.2.2.1 3), .int (u_129.2.2.2.1 4), .int (u_129.2.2.2.1 5)]), (cc_l p1 (K 0) 400 fb), (cc_O s0 7 [.ref s1, .ref s2, .int (u_129.2.2.2.1 6), .int (u_129.2.2.2.1 7)]), (cc_l s1 (K 0) 60 (u_129.2.1 0)), (cc_l s2 (K 0) 800 (u_129.2.1 1)), ((u_143.1 1), .inl (K 0, (u_143.1 3), .inl u_143.2.1)), ((u_143.1 2), .inl (K 0, (u_143.1 4), .inl u_143.2.2.1))]) (va_runVN (As := [.ref (u_143.1 0)]) (rest := [.ref o0]) ⟨hx, hb, hml, hown, hts⟩ (w_enact l D K g L G t0 (u_143.1 0) k_0 k_1 k_2 l0 k_4 lt k_6 k_7 k_8 k_9 fd (.ref (u_143.1 1)) (.ref (u_143.1 2)) (.int u_143.2.2.2.1) (.int u_143.2.2.2.2) H.size (by first | omega | decide) (InL.mono zfd (fun _ h9 => Or.inl h9))) ⟨va_cnB 1 hts gX11_law_X9_enact_n189 rfl rfl rfl (nst_at hN 39 rfl) (hts _ mm_X11_law_145) (by decide +kernel) ⟨Nat.le_of_ble_eq_true rfl, Nat.le_of_ble_eq_true rfl⟩, (hts _ mm_X11_law_573), (hts _ mm_X11_law_35)⟩ (mkVY hK hN (hP.sub [2, 3, 10] rfl) (hD.sub [2, 3, 10] (by decide +kernel) rfl) (ci := 9) (q0 := 0) rfl rfl (fun U hU hW => ⟨Gl.at hG hS hW hU (fun q h => va_free hD hS hA [2, 3, 10] rfl q h), Pool.at hPl hS hU (fun q h => va_free hD hS hA [2, 3, 10] rfl q h), Ro.heap hU (Ro.nil)⟩)) rfl rfl hl.1 rfl (lv_room (Nat.le_of_ble_eq_true rfl)) dX11_law_60 ⟨Nat.le_of_ble_eq_true rfl, Nat.le_of_ble_eq_true rfl⟩) hP hD hS hA [2, 3, 10] [0, 1, 4, 5, 6, 7, 8, 9, 11, 12] rfl rfl (by decide +kernel) (by decide +kernel) (fun r_144 u_145 H locs hw hP0 hD0 hS0 => ?_)
      replace hP : va_P D vwCl [(cc_O o0 11 [.ref t0, o_1, o_2, o_3, .ref b0, .ref p0, o_6, o_7, o_8, o_9, o_10, o_11, .ref rf, .int rb, o_14, o_15, o_16]), (cc_l rf (K 0) 5 frf), (cc_O b0 6 [.ref p0, .ref s0, .int 1, .int (u_129.2.2.2.1 0), .int (u_129.2.2.2.1 1)]), (cc_O p0 8 [.ref p1, .int 0, .int (u_129.2.2.2.1 2), .int (u_129.2.2.2.1 3), .int (u_129.2.2.2.1 4), .int (u_129.2.2.2.1 5)]), (cc_l p1 (K 0) 400 fb), (cc_O s0 7 [.ref s1, .ref s2, .int (u_129.2.2.2.1 6), .int (u_129.2.2.2.1 7)]), (cc_l s1 (K 0) 60 (u_129.2.1 0)), (cc_l s2 (K 0) 800 (u_129.2.1 1)), ((u_143.1 1), .inl (K 0, (u_143.1 3), .inl u_143.2.1)), ((u_143.1 2), .inl (K 0, (u_143.1 4), .inl u_143.2.2.1)), (cc_O t0 9 [k_0, k_1, k_2, .ref l0, k_4, .int (u_145.2.2.2.1 0), k_6, k_7, k_8, k_9]), (cc_rrrR l0 (K 4) 6 (u_145.2.2.2.2.2 0)), ((u_143.1 0), .inr (7, [.ref (u_143.1 1), .ref (u_143.1 2), .int u_143.2.2.2.1, .int u_143.2.2.2.2]))] H := hP0
      replace hD := as_D hP hD0 rfl
      replace hS := hS0
      clear hP0 hD0 hS0
      obtain ⟨h_150, k_146, k_147, k_148, k_149, -⟩ := hw
      replace hE := hE.trans (Lt2_in k_149)
      refine kci (S := Su) (wr := [(cc_l rf (K 0) 5 frf), (cc_O b0 6 [.ref p0, .ref s0, .int 1, .int (u_129.2.2.2.1 0), .int (u_129.2.2.2.1 1)]), (cc_O p0 8 [.ref p1, .int 0, .int (u_129.2.2.2.1 2), .int (u_129.2.2.2.1 3), .int (u_129.2.2.2.1 4), .int (u_129.2.2.2.1 5)]), (cc_l p1 (K 0) 400 fb), (cc_O s0 7 [.ref s1, .ref s2, .int (u_129.2.2.2.1 6), .int (u_129.2.2.2.1 7)]), (cc_l s1 (K 0) 60 (u_129.2.1 0)), (cc_l s2 (K 0) 800 (u_129.2.1 1)), ((u_143.1 1), .inl (K 0, (u_143.1 3), .inl u_143.2.1)), ((u_143.1 2), .inl (K 0, (u_143.1 4), .inl u_143.2.2.1)), (cc_O t0 9 [k_0, k_1, k_2, .ref l0, k_4, .int (u_145.2.2.2.1 0), k_6, k_7, k_8, k_9]), (cc_rrrR l0 (K 4) 6 (u_145.2.2.2.2.2 0)), ((u_143.1 0), .inr (7, [.ref (u_143.1 1), .ref (u_143.1 2), .int u_143.2.2.2.1, .int u_143.2.2.2.2]))]) (va_runV (As := [.int r_144]) (rest := []) ⟨hx, hb, hml, hown, hts⟩ (w_accept l D K o0 r_144 (.ref t0) o_1 o_2 o_3 (.ref b0) (.ref p0) o_6 o_7 o_8 o_9 o_10 o_11 (.ref rf) rb o_14 o_15 o_16 H.size) (cwV 1 hts gX11_law_X11_accept rfl rfl rfl (by decide +kernel) ⟨Nat.le_of_ble_eq_true rfl, Nat.le_of_ble_eq_true rfl⟩) (mkV hK hN (hP.sub [0] rfl) (hD.sub [0] (by decide +kernel) rfl) (ci := 11) (q0 := 0) rfl rfl) rfl rfl hl.1 rfl (lv_room (Nat.le_of_ble_eq_true rfl)) dX11_law_63 ⟨Nat.le_of_ble_eq_true rfl, Nat.le_of_ble_eq_true rfl⟩) hP hD hS hA [0] [1, 2, 3, 4, 5, 6, 7, 8, 9, 10, 11, 12] rfl rfl (by decide +kernel) (by decide +kernel) (fun r_151 u_152 H locs hw hP0 hD0 hS0 => ?_)
      replace hP : va_P D vwCl [(cc_l rf (K 0) 5 frf), (cc_O b0 6 [.ref p0, .ref s0, .int 1, .int (u_129.2.2.2.1 0), .int (u_129.2.2.2.1 1)]), (cc_O p0 8 [.ref p1, .int 0, .int (u_129.2.2.2.1 2), .int (u_129.2.2.2.1 3), .int (u_129.2.2.2.1 4), .int (u_129.2.2.2.1 5)]), (cc_l p1 (K 0) 400 fb), (cc_O s0 7 [.ref s1, .ref s2, .int (u_129.2.2.2.1 6), .int (u_129.2.2.2.1 7)]), (cc_l s1 (K 0) 60 (u_129.2.1 0)), (cc_l s2 (K 0) 800 (u_129.2.1 1)), ((u_143.1 1), .inl (K 0, (u_143.1 3), .inl u_143.2.1)), ((u_143.1 2), .inl (K 0, (u_143.1 4), .inl u_143.2.2.1)), (cc_O t0 9 [k_0, k_1, k_2, .ref l0, k_4, .int (u_145.2.2.2.1 0), k_6, k_7, k_8, k_9]), (cc_rrrR l0 (K 4) 6 (u_145.2.2.2.2.2 0)), ((u_143.1 0), .inr (7, [.ref (u_143.1 1), .ref (u_143.1 2), .int u_143.2.2.2.1, .int u_143.2.2.2.2])), (cc_O o0 11 [.ref t0, o_1, o_2, o_3, .ref b0, .ref p0, o_6, o_7, o_8, o_9, o_10, o_11, .ref rf, .int 0, o_14, o_15, o_16])] H := hP0
      replace hD := as_D hP hD0 rfl
      replace hS := hS0
      clear hP0 hD0 hS0
      obtain ⟨hw, k_153, -⟩ := hw
      replace hE := hE.trans (Lt_in k_153)
      have er_r_151 := hw
      have hr_r_151 : r_151.toInt = r_144.toInt := (congrArg Int32.toInt er_r_151).trans rfl
      rw [← hQ]
      have hP9 := hP.sub (ws' := [(cc_O o0 11 [.ref t0, o_1, o_2, o_3, .ref b0, .ref p0, o_6, o_7, o_8, o_9, o_10, o_11, .ref rf, .int 0, o_14, o_15, o_16]), (cc_l rf (K 0) 5 frf), (cc_O b0 6 [.ref p0, .ref s0, .int 1, .int (u_129.2.2.2.1 0), .int (u_129.2.2.2.1 1)]), (cc_O p0 8 [.ref p1, .int 0, .int (u_129.2.2.2.1 2), .int (u_129.2.2.2.1 3), .int (u_129.2.2.2.1 4), .int (u_129.2.2.2.1 5)]), (cc_l p1 (K 0) 400 fb), (cc_O s0 7 [.ref s1, .ref s2, .int (u_129.2.2.2.1 6), .int (u_129.2.2.2.1 7)]), (cc_l s1 (K 0) 60 (u_129.2.1 0)), (cc_l s2 (K 0) 800 (u_129.2.1 1)), (cc_O t0 9 [k_0, k_1, k_2, .ref l0, k_4, .int (u_145.2.2.2.1 0), k_6, k_7, k_8, k_9]), (cc_rrrR l0 (K 4) 6 (u_145.2.2.2.2.2 0)), ((u_143.1 0), .inr (7, [.ref (u_143.1 1), .ref (u_143.1 2), .int u_143.2.2.2.1, .int u_143.2.2.2.2])), ((u_143.1 1), .inl (K 0, (u_143.1 3), .inl u_143.2.1)), ((u_143.1 2), .inl (K 0, (u_143.1 4), .inl u_143.2.2.1))]) [12, 0, 1, 2, 3, 4, 5, 6, 9, 10, 11, 7, 8] rfl
      have hD9 := sub_D hP9 hD [12, 0, 1, 2, 3, 4, 5, 6, 9, 10, 11, 7, 8] (by decide +kernel) rfl
      exact W.iret (v := r_151) hx hb hr (fun t ht hW => ⟨⟨r_151, (((fun _ => 0, fun i => match i with | 0 => frf | 1 => (u_129.2.1 0) | _ => (u_129.2.1 1), fun _ => fun _ => 0, fun i => ([0, 1, (u_129.2.2.2.1 0), (u_129.2.2.2.1 1), (u_129.2.2.2.1 2), (u_129.2.2.2.1 3), (u_129.2.2.2.1 4), (u_129.2.2.2.1 5), (u_129.2.2.2.1 6), (u_129.2.2.2.1 7), (u_145.2.2.2.1 0)] : List _).getD i (0), fun _ => 0, fun i => match i with | _ => (u_145.2.2.2.2.2 0)) : Su), Scr K (u_143.1 0) (u_143.1 1) (u_143.1 2) (u_143.1 3) (u_143.1 4) u_143.2.1 u_143.2.2.1 u_143.2.2.2.1 u_143.2.2.2.2, fun z => L z ∨ z = (u_143.1 0), fun z => if z = (u_143.1 0) then ((u_143.1 3), (u_143.1 4), u_143.2.1, u_143.2.2.1, u_143.2.2.2.1, u_143.2.2.2.2) else G z), rfl, ⟨⟨(show (-6) ≤ (0 : Int32).toInt ∧ (0 : Int32).toInt ≤ 0 by decide), (show 0 ≤ (1 : Int32).toInt ∧ (1 : Int32).toInt ≤ 1 by decide), (show 0 ≤ ((u_129.2.2.2.1 0) : Int32).toInt ∧ ((u_129.2.2.2.1 0) : Int32).toInt ≤ 50 by omega), (show 0 ≤ ((u_129.2.2.2.1 2) : Int32).toInt ∧ ((u_129.2.2.2.1 2) : Int32).toInt ≤ 400 by omega), (show 0 ≤ ((u_129.2.2.2.1 3) : Int32).toInt ∧ ((u_129.2.2.2.1 3) : Int32).toInt ≤ 400 by omega), (show (-1) ≤ ((u_129.2.2.2.1 5) : Int32).toInt ∧ ((u_129.2.2.2.1 5) : Int32).toInt ≤ 1000000 by omega), (show 0 ≤ ((u_129.2.2.2.1 6) : Int32).toInt ∧ ((u_129.2.2.2.1 6) : Int32).toInt ≤ 12 by omega), (show 0 ≤ ((u_129.2.2.2.1 7) : Int32).toInt ∧ ((u_129.2.2.2.1 7) : Int32).toInt ≤ 800 by omega), k_137, k_138, (show 0 ≤ ((u_145.2.2.2.1 0) : Int32).toInt ∧ ((u_145.2.2.2.1 0) : Int32).toInt ≤ 6 by omega), hE.symm, trivial⟩, k_147, Or.inr ⟨_, _, _, _, _, _, _, _, _, rfl, k1_u_143, k2_u_143, ⟨k3_u_143, k4_u_143⟩, rfl, rfl, ⟨k_148, k5_u_143⟩⟩⟩, (⟨by rw [ht]; exact hP9, hD9⟩ : Wd D A _ t)⟩, hS.F ht⟩) hS.2.2 dX11_law_66
    · have c_141i := i_eq (x := r_128.toInt) (y := 0) rfl rfl c_141
      replace hE := hE.trans (if_pos c_141)
      refine lv_aload_n hx hb dX11_law_38 rfl (lv_at hl 0 rfl) (lv_bipush (v := (-6)) hx hb dX11_law_39 (by decide +kernel) (kci (S := Su) (wr := [(cc_O t0 9 [k_0, k_1, k_2, .ref l0, k_4, .int lt, k_6, k_7, k_8, k_9]), (cc_rrrR l0 (K 4) 6 fd), (cc_O b0 6 [.ref p0, .ref s0, .int 1, .int (u_129.2.2.2.1 0), .int (u_129.2.2.2.1 1)]), (cc_O p0 8 [.ref p1, .int 0, .int (u_129.2.2.2.1 2), .int (u_129.2.2.2.1 3), .int (u_129.2.2.2.1 4), .int (u_129.2.2.2.1 5)]), (cc_l p1 (K 0) 400 fb), (cc_O s0 7 [.ref s1, .ref s2, .int (u_129.2.2.2.1 6), .int (u_129.2.2.2.1 7)]), (cc_l s1 (K 0) 60 (u_129.2.1 0)), (cc_l s2 (K 0) 800 (u_129.2.1 1))]) (va_runV (As := [.int (-6)]) (rest := []) ⟨hx, hb, hml, hown, hts⟩ (w_refuse l D K o0 (-6) (.ref t0) o_1 o_2 o_3 (.ref b0) (.ref p0) o_6 o_7 o_8 o_9 o_10 o_11 rf rb o_14 o_15 o_16 frf H.size) (cwV 1 hts gX11_law_X11_refuse rfl rfl rfl (by decide +kernel) ⟨Nat.le_of_ble_eq_true rfl, Nat.le_of_ble_eq_true rfl⟩) (mkV hK hN (hP.sub [0, 1] rfl) (hD.sub [0, 1] (by decide +kernel) rfl) (ci := 11) (q0 := 0) rfl rfl) rfl rfl hl.1 rfl (lv_room (Nat.le_of_ble_eq_true rfl)) dX11_law_41 ⟨Nat.le_of_ble_eq_true rfl, Nat.le_of_ble_eq_true rfl⟩) hP hD hS hA [0, 1] [2, 3, 4, 5, 6, 7, 8, 9] rfl rfl (by decide +kernel) (by decide +kernel) (fun r_154 u_155 H locs hw hP0 hD0 hS0 => ?_)))
      replace hP : va_P D vwCl [(cc_O t0 9 [k_0, k_1, k_2, .ref l0, k_4, .int lt, k_6, k_7, k_8, k_9]), (cc_rrrR l0 (K 4) 6 fd), (cc_O b0 6 [.ref p0, .ref s0, .int 1, .int (u_129.2.2.2.1 0), .int (u_129.2.2.2.1 1)]), (cc_O p0 8 [.ref p1, .int 0, .int (u_129.2.2.2.1 2), .int (u_129.2.2.2.1 3), .int (u_129.2.2.2.1 4), .int (u_129.2.2.2.1 5)]), (cc_l p1 (K 0) 400 fb), (cc_O s0 7 [.ref s1, .ref s2, .int (u_129.2.2.2.1 6), .int (u_129.2.2.2.1 7)]), (cc_l s1 (K 0) 60 (u_129.2.1 0)), (cc_l s2 (K 0) 800 (u_129.2.1 1)), (cc_O o0 11 [.ref t0, o_1, o_2, o_3, .ref b0, .ref p0, o_6, o_7, o_8, o_9, o_10, o_11, .ref rf, .int (-6), o_14, o_15, o_16]), (cc_l rf (K 0) 5 (u_155.2.1 0))] H := hP0
      replace hD := as_D hP hD0 rfl
      replace hS := hS0
      clear hP0 hD0 hS0
      obtain ⟨k_156, -⟩ := hw
      replace hE := hE.trans (Lt2_in k_156)
      rw [← hQ]
      have hP9 := hP.sub (ws' := [(cc_O o0 11 [.ref t0, o_1, o_2, o_3, .ref b0, .ref p0, o_6, o_7, o_8, o_9, o_10, o_11, .ref rf, .int (-6), o_14, o_15, o_16]), (cc_l rf (K 0) 5 (u_155.2.1 0)), (cc_O b0 6 [.ref p0, .ref s0, .int 1, .int (u_129.2.2.2.1 0), .int (u_129.2.2.2.1 1)]), (cc_O p0 8 [.ref p1, .int 0, .int (u_129.2.2.2.1 2), .int (u_129.2.2.2.1 3), .int (u_129.2.2.2.1 4), .int (u_129.2.2.2.1 5)]), (cc_l p1 (K 0) 400 fb), (cc_O s0 7 [.ref s1, .ref s2, .int (u_129.2.2.2.1 6), .int (u_129.2.2.2.1 7)]), (cc_l s1 (K 0) 60 (u_129.2.1 0)), (cc_l s2 (K 0) 800 (u_129.2.1 1)), (cc_O t0 9 [k_0, k_1, k_2, .ref l0, k_4, .int lt, k_6, k_7, k_8, k_9]), (cc_rrrR l0 (K 4) 6 fd)]) [8, 9, 2, 3, 4, 5, 6, 7, 0, 1] rfl
      have hD9 := sub_D hP9 hD [8, 9, 2, 3, 4, 5, 6, 7, 0, 1] (by decide +kernel) rfl
      refine W.widen (k := 3) (n := 864) (by omega) (by omega) ?_
      exact W.iret (v := r_154) hx hb hr (fun t ht hW => ⟨⟨r_154, (((fun _ => 0, fun i => match i with | 0 => (u_155.2.1 0) | 1 => (u_129.2.1 0) | _ => (u_129.2.1 1), fun _ => fun _ => 0, fun i => ([(-6), 1, (u_129.2.2.2.1 0), (u_129.2.2.2.1 1), (u_129.2.2.2.1 2), (u_129.2.2.2.1 3), (u_129.2.2.2.1 4), (u_129.2.2.2.1 5), (u_129.2.2.2.1 6), (u_129.2.2.2.1 7), lt] : List _).getD i (0), fun _ => 0, fun i => match i with | _ => fd) : Su), [], L, G), rfl, ⟨⟨(show (-6) ≤ ((-6) : Int32).toInt ∧ ((-6) : Int32).toInt ≤ 0 by decide), (show 0 ≤ (1 : Int32).toInt ∧ (1 : Int32).toInt ≤ 1 by decide), (show 0 ≤ ((u_129.2.2.2.1 0) : Int32).toInt ∧ ((u_129.2.2.2.1 0) : Int32).toInt ≤ 50 by omega), (show 0 ≤ ((u_129.2.2.2.1 2) : Int32).toInt ∧ ((u_129.2.2.2.1 2) : Int32).toInt ≤ 400 by omega), (show 0 ≤ ((u_129.2.2.2.1 3) : Int32).toInt ∧ ((u_129.2.2.2.1 3) : Int32).toInt ≤ 400 by omega), (show (-1) ≤ ((u_129.2.2.2.1 5) : Int32).toInt ∧ ((u_129.2.2.2.1 5) : Int32).toInt ≤ 1000000 by omega), (show 0 ≤ ((u_129.2.2.2.1 6) : Int32).toInt ∧ ((u_129.2.2.2.1 6) : Int32).toInt ≤ 12 by omega), (show 0 ≤ ((u_129.2.2.2.1 7) : Int32).toInt ∧ ((u_129.2.2.2.1 7) : Int32).toInt ≤ 800 by omega), k_137, k_138, (show 0 ≤ (lt : Int32).toInt ∧ (lt : Int32).toInt ≤ 6 by omega), hE.symm, trivial⟩, zfd, Or.inl ⟨rfl, rfl, rfl, rfl, (show ((-6) : Int32).toInt < 0 by decide)⟩⟩, (⟨by rw [ht]; exact hP9, hD9⟩ : Wd D A _ t)⟩, hS.F ht⟩) hS.2.2 dX11_law_44
  · have c_127i := i_nlt (x := lt.toInt) (y := 6) rfl rfl c_127
    replace hE := hE.trans (if_neg c_127)
    refine lv_aload_n hx hb dX11_law_12 rfl (lv_at hl 0 rfl) (va_get (ci := 11) (v := .ref p0) (C := RX11) (T := TX11) (N := 17) hx hb hts hw11 hown hK hP 0 rfl rfl 5 (by decide +kernel) (hts _ mm_X11_law_339) (fun _ h9 => h9) rfl dX11_law_13 (lv_iconst (v := 0) hx hb dX11_law_16 (by decide +kernel) (va_putN (ci := 8) (v := .int 0) (ty := .int) (C := RX8) (T := TX8) (N := 6) hx hb hts hw8 tyX8 tyX8_ok nmX8 hown hK hP hD hS 3 rfl rfl 1 (by decide +kernel) (nst_use hN 120 rfl) (fun _ h9 => h9) rfl (by decide +kernel) (by first | rfl | decide) (by first | rfl | decide) (Nat.le_of_ble_eq_true rfl) dX11_law_17 (fun H locs hP0 hD0 hS0 => ?_))))
    replace hP : va_P D vwCl [(cc_O o0 11 [.ref t0, o_1, o_2, o_3, .ref b0, .ref p0, o_6, o_7, o_8, o_9, o_10, o_11, .ref rf, .int rb, o_14, o_15, o_16]), (cc_l rf (K 0) 5 frf), (cc_O b0 6 [.ref p0, .ref s0, .int lw, .int pa, .int fl]), (cc_O p0 8 [.ref p1, .int 0, .int tf, .int tt, .int ti, .int tu]), (cc_l p1 (K 0) 400 fb), (cc_O s0 7 [.ref s1, .ref s2, .int scl, .int us]), (cc_l s1 (K 0) 60 fh), (cc_l s2 (K 0) 800 fc), (cc_O t0 9 [k_0, k_1, k_2, .ref l0, k_4, .int lt, k_6, k_7, k_8, k_9]), (cc_rrrR l0 (K 4) 6 fd)] H := hP0
    replace hD := as_D hP hD0 rfl
    replace hS := hS0
    clear hP0 hD0 hS0
    refine lv_aload_n hx hb dX11_law_20 rfl (lv_at hl 0 rfl) (lv_bipush (v := (-5)) hx hb dX11_law_21 (by decide +kernel) (kci (S := Su) (wr := [(cc_O b0 6 [.ref p0, .ref s0, .int lw, .int pa, .int fl]), (cc_O p0 8 [.ref p1, .int 0, .int tf, .int tt, .int ti, .int tu]), (cc_l p1 (K 0) 400 fb), (cc_O s0 7 [.ref s1, .ref s2, .int scl, .int us]), (cc_l s1 (K 0) 60 fh), (cc_l s2 (K 0) 800 fc), (cc_O t0 9 [k_0, k_1, k_2, .ref l0, k_4, .int lt, k_6, k_7, k_8, k_9]), (cc_rrrR l0 (K 4) 6 fd)]) (va_runV (As := [.int (-5)]) (rest := []) ⟨hx, hb, hml, hown, hts⟩ (w_refuse l D K o0 (-5) (.ref t0) o_1 o_2 o_3 (.ref b0) (.ref p0) o_6 o_7 o_8 o_9 o_10 o_11 rf rb o_14 o_15 o_16 frf H.size) (cwV 1 hts gX11_law_X11_refuse rfl rfl rfl (by decide +kernel) ⟨Nat.le_of_ble_eq_true rfl, Nat.le_of_ble_eq_true rfl⟩) (mkV hK hN (hP.sub [0, 1] rfl) (hD.sub [0, 1] (by decide +kernel) rfl) (ci := 11) (q0 := 0) rfl rfl) rfl rfl hl.1 rfl (lv_room (Nat.le_of_ble_eq_true rfl)) dX11_law_23 ⟨Nat.le_of_ble_eq_true rfl, Nat.le_of_ble_eq_true rfl⟩) hP hD hS hA [0, 1] [2, 3, 4, 5, 6, 7, 8, 9] rfl rfl (by decide +kernel) (by decide +kernel) (fun r_157 u_158 H locs hw hP0 hD0 hS0 => ?_)))
    replace hP : va_P D vwCl [(cc_O b0 6 [.ref p0, .ref s0, .int lw, .int pa, .int fl]), (cc_O p0 8 [.ref p1, .int 0, .int tf, .int tt, .int ti, .int tu]), (cc_l p1 (K 0) 400 fb), (cc_O s0 7 [.ref s1, .ref s2, .int scl, .int us]), (cc_l s1 (K 0) 60 fh), (cc_l s2 (K 0) 800 fc), (cc_O t0 9 [k_0, k_1, k_2, .ref l0, k_4, .int lt, k_6, k_7, k_8, k_9]), (cc_rrrR l0 (K 4) 6 fd), (cc_O o0 11 [.ref t0, o_1, o_2, o_3, .ref b0, .ref p0, o_6, o_7, o_8, o_9, o_10, o_11, .ref rf, .int (-5), o_14, o_15, o_16]), (cc_l rf (K 0) 5 (u_158.2.1 0))] H := hP0
    replace hD := as_D hP hD0 rfl
    replace hS := hS0
    clear hP0 hD0 hS0
    obtain ⟨k_159, -⟩ := hw
    replace hE := hE.trans (Lt2_in k_159)
    rw [← hQ]
    have hP9 := hP.sub (ws' := [(cc_O o0 11 [.ref t0, o_1, o_2, o_3, .ref b0, .ref p0, o_6, o_7, o_8, o_9, o_10, o_11, .ref rf, .int (-5), o_14, o_15, o_16]), (cc_l rf (K 0) 5 (u_158.2.1 0)), (cc_O b0 6 [.ref p0, .ref s0, .int lw, .int pa, .int fl]), (cc_O p0 8 [.ref p1, .int 0, .int tf, .int tt, .int ti, .int tu]), (cc_l p1 (K 0) 400 fb), (cc_O s0 7 [.ref s1, .ref s2, .int scl, .int us]), (cc_l s1 (K 0) 60 fh), (cc_l s2 (K 0) 800 fc), (cc_O t0 9 [k_0, k_1, k_2, .ref l0, k_4, .int lt, k_6, k_7, k_8, k_9]), (cc_rrrR l0 (K 4) 6 fd)]) [8, 9, 0, 1, 2, 3, 4, 5, 6, 7] rfl
    have hD9 := sub_D hP9 hD [8, 9, 0, 1, 2, 3, 4, 5, 6, 7] (by decide +kernel) rfl
    refine W.widen (k := 3) (n := 864) (by omega) (by omega) ?_
    exact W.iret (v := r_157) hx hb hr (fun t ht hW => ⟨⟨r_157, (((fun _ => 0, fun i => match i with | 0 => (u_158.2.1 0) | 1 => fh | _ => fc, fun _ => fun _ => 0, fun i => ([(-5), lw, pa, fl, tf, tt, ti, tu, scl, us, lt] : List _).getD i (0), fun _ => 0, fun i => match i with | _ => fd) : Su), [], L, G), rfl, ⟨⟨(show (-6) ≤ ((-5) : Int32).toInt ∧ ((-5) : Int32).toInt ≤ 0 by decide), (show 0 ≤ (lw : Int32).toInt ∧ (lw : Int32).toInt ≤ 1 by omega), (show 0 ≤ (pa : Int32).toInt ∧ (pa : Int32).toInt ≤ 50 by omega), (show 0 ≤ (tf : Int32).toInt ∧ (tf : Int32).toInt ≤ 400 by omega), (show 0 ≤ (tt : Int32).toInt ∧ (tt : Int32).toInt ≤ 400 by omega), (show (-1) ≤ (tu : Int32).toInt ∧ (tu : Int32).toInt ≤ 1000000 by omega), (show 0 ≤ (scl : Int32).toInt ∧ (scl : Int32).toInt ≤ 12 by omega), (show 0 ≤ (us : Int32).toInt ∧ (us : Int32).toInt ≤ 800 by omega), zfh, zfc, (show 0 ≤ (lt : Int32).toInt ∧ (lt : Int32).toInt ≤ 6 by omega), hE.symm, trivial⟩, zfd, Or.inl ⟨rfl, rfl, rfl, rfl, (show ((-5) : Int32).toInt < 0 by decide)⟩⟩, (⟨by rw [ht]; exact hP9, hD9⟩ : Wd D A _ t)⟩, hS.F ht⟩) hS.2.2 dX11_law_26
end
