theorem BJ7_copyOf_59c91_0 : bsegs (ByteArray.data cJ7_copyOf_59c91 |>.toList.drop 0) 0 [(0, [27]), (1, [42]), (2, [190]), (3, [160, 0, 11]), (6, [42]), (7, [182, 1, 60]), (10, [192, 1, 61]), (13, [176]), (14, [27]), (15, [188, 10]), (17, [77]), (18, [42]), (19, [3]), (20, [44]), (21, [3]), (22, [42]), (23, [190]), (24, [27]), (25, [184, 1, 48]), (28, [184, 0, 150]), (31, [44]), (32, [176])] = true := by decide +kernel
theorem dJ7_copyOf_59c91_0 : decode cJ7_copyOf_59c91 0 = .ok (.iload_n 1, 1) := dk_27 (bs_at BJ7_copyOf_59c91_0 0 rfl)
theorem dJ7_copyOf_59c91_1 : decode cJ7_copyOf_59c91 1 = .ok (.aload_n 0, 1) := dk_42 (bs_at BJ7_copyOf_59c91_0 1 rfl)
theorem dJ7_copyOf_59c91_2 : decode cJ7_copyOf_59c91 2 = .ok (.arraylength, 1) := dk_190 (bs_at BJ7_copyOf_59c91_0 2 rfl)
theorem dJ7_copyOf_59c91_3 : decode cJ7_copyOf_59c91 3 = .ok (.if_icmp .ne 11, 3) := dk_160 0 11 (bs_at BJ7_copyOf_59c91_0 3 rfl) rfl
theorem dJ7_copyOf_59c91_6 : decode cJ7_copyOf_59c91 6 = .ok (.aload_n 0, 1) := dk_42 (bs_at BJ7_copyOf_59c91_0 4 rfl)
theorem dJ7_copyOf_59c91_7 : decode cJ7_copyOf_59c91 7 = .ok (.invokevirtual 316, 3) := dk_182 1 60 (bs_at BJ7_copyOf_59c91_0 5 rfl) rfl
theorem dJ7_copyOf_59c91_10 : decode cJ7_copyOf_59c91 10 = .ok (.checkcast 317, 3) := dk_192 1 61 (bs_at BJ7_copyOf_59c91_0 6 rfl) rfl
theorem dJ7_copyOf_59c91_13 : decode cJ7_copyOf_59c91 13 = .ok (.areturn, 1) := dk_176 (bs_at BJ7_copyOf_59c91_0 7 rfl)
theorem dJ7_copyOf_59c91_14 : decode cJ7_copyOf_59c91 14 = .ok (.iload_n 1, 1) := dk_27 (bs_at BJ7_copyOf_59c91_0 8 rfl)
theorem dJ7_copyOf_59c91_15 : decode cJ7_copyOf_59c91 15 = .ok (.newarray .int, 2) := dk_188_10 (bs_at BJ7_copyOf_59c91_0 9 rfl)
theorem dJ7_copyOf_59c91_17 : decode cJ7_copyOf_59c91 17 = .ok (.astore_n 2, 1) := dk_77 (bs_at BJ7_copyOf_59c91_0 10 rfl)
theorem dJ7_copyOf_59c91_18 : decode cJ7_copyOf_59c91 18 = .ok (.aload_n 0, 1) := dk_42 (bs_at BJ7_copyOf_59c91_0 11 rfl)
theorem dJ7_copyOf_59c91_19 : decode cJ7_copyOf_59c91 19 = .ok (.iconst 0, 1) := dk_3 (bs_at BJ7_copyOf_59c91_0 12 rfl)
theorem dJ7_copyOf_59c91_20 : decode cJ7_copyOf_59c91 20 = .ok (.aload_n 2, 1) := dk_44 (bs_at BJ7_copyOf_59c91_0 13 rfl)
theorem dJ7_copyOf_59c91_21 : decode cJ7_copyOf_59c91 21 = .ok (.iconst 0, 1) := dk_3 (bs_at BJ7_copyOf_59c91_0 14 rfl)
theorem dJ7_copyOf_59c91_22 : decode cJ7_copyOf_59c91 22 = .ok (.aload_n 0, 1) := dk_42 (bs_at BJ7_copyOf_59c91_0 15 rfl)
theorem dJ7_copyOf_59c91_23 : decode cJ7_copyOf_59c91 23 = .ok (.arraylength, 1) := dk_190 (bs_at BJ7_copyOf_59c91_0 16 rfl)
theorem dJ7_copyOf_59c91_24 : decode cJ7_copyOf_59c91 24 = .ok (.iload_n 1, 1) := dk_27 (bs_at BJ7_copyOf_59c91_0 17 rfl)
theorem dJ7_copyOf_59c91_25 : decode cJ7_copyOf_59c91 25 = .ok (.invokestatic 304, 3) := dk_184 1 48 (bs_at BJ7_copyOf_59c91_0 18 rfl) rfl
theorem dJ7_copyOf_59c91_28 : decode cJ7_copyOf_59c91 28 = .ok (.invokestatic 150, 3) := dk_184 0 150 (bs_at BJ7_copyOf_59c91_0 19 rfl) rfl
theorem dJ7_copyOf_59c91_31 : decode cJ7_copyOf_59c91 31 = .ok (.aload_n 2, 1) := dk_44 (bs_at BJ7_copyOf_59c91_0 20 rfl)
theorem dJ7_copyOf_59c91_32 : decode cJ7_copyOf_59c91 32 = .ok (.areturn, 1) := dk_176 (bs_at BJ7_copyOf_59c91_0 21 rfl)
theorem fit_int {cA : ClassId} {n : Nat} {f : Nat → Int32} : ∀ (i : Nat) (v : Value), (vp_cell cA (n, .inl f)).slots[i]? = some v → fits .int v = true := fun i v hv => by
  rw [vp_cell_i] at hv
  exact va_fit (fun _ _ => rfl) i v hv
noncomputable abbrev CST : Cond := .castable "[I" "java/lang/Cloneable"
noncomputable def PreC (P : State → Prop) (U : State) : Prop := P U ∧ va_Nw CST U
theorem PreC.bl {P : State → Prop} {av : List Value} (h : FrameBlind (va_Pc av P)) : FrameBlind (va_Pc av (PreC P)) := fun a U gf mk q => by
  obtain ⟨q0, q1, q2⟩ := q
  have := h a U gf mk ⟨q0, q1⟩
  exact ⟨this.1, this.2, va_tabs (by rfl) (rfl : U.vm = (U.calling gf mk a).vm) q2⟩
theorem cst_warm {s U : State} (hW : s.WarmedH U.vm) (h : va_Nw CST s) : va_Nw CST U := va_Nw.warmC hW h
theorem PreC.S {s : State} {H : Heap} {P : State → Prop} {av As : List Value} (h : PreS s H (va_Pc av P) As) (hc : va_Nw CST s) : PreS s H (va_Pc av (PreC P)) As :=
  ⟨PreC.bl h.1, fun U hU hW => ⟨(h.2 U hU hW).1, (h.2 U hU hW).2, cst_warm hW hc⟩⟩
theorem PreC.V {s : State} {H : Heap} {C : String} {b : Addr} {P : State → Prop} {av As : List Value} (h : PreV s H C b (va_Pc av P) As) (hc : va_Nw CST s) : PreV s H C b (va_Pc av (PreC P)) As :=
  ⟨PreC.bl h.1, h.2.1, fun U hU hW => ⟨(h.2.2 U hU hW).1, (h.2.2 U hU hW).2, cst_warm hW hc⟩⟩
theorem InL.mono {L M : Nat → Prop} {f : Nat → Option Nat} (h : InL L f) (hm : ∀ q, L q → M q) : InL M f := fun j => by
  have := h j
  unfold InLo at this ⊢
  cases e : f j with
  | none => trivial
  | some q => rw [e] at this; exact hm q this
noncomputable def NewLaw (K : Nat → ClassId) (L M : Nat → Prop) (G G2 : Nat → LC) (X0 : Prop) (X : Nat → LC → Prop) (w : va_W) : Prop := (w = [] ∧ M = L ∧ G2 = G ∧ X0) ∨ ∃ (q h c nh nc : Nat) (fh fc : Nat → Int32) (cl us : Int32), w = Scr K q h c nh nc fh fc cl us ∧ nh < 1000000 ∧ nc < 1000000 ∧ (Rg nh (-1) 1000 fh ∧ Rg nc 0 1000 fc) ∧ M = (fun z => L z ∨ z = q) ∧ G2 = (fun z => if z = q then (nh, nc, fh, fc, cl, us) else G z) ∧ X q (nh, nc, fh, fc, cl, us)
section MYR
variable {p : Program} {l : Launch} {e : Env} {R : Room} {s : State} {m : MethodId} {args : Array Value} {below : List Frame} {meth : Method} {c : Code} {H : Heap} {locs : List Loc} {cells slots : Nat} {Q : State → Prop}
variable {pc : Nat} {ls : Array Slot} {rest st0 : List Value} {a : Array Value} {A0 : Nat → Prop} {H0 : Heap} {mc ms : Nat} {D : va_G} {ws wc wr : va_W}
theorem kcr {S : Type} {post : S → Prop} {B : S → va_W} {ad : S → Nat} (hr : va_Run p l e R s m args below meth c H locs cells slots mc ms (F0 m pc ls st0) rest (va_Qr post (fun u x t => x = ad u ∧ Wd D (va_A wc H.size) (B u) t) (va_A wc H.size) a) (va_A wc H.size))
    (hP : va_P D vwCl ws H) (hD : va_D A0 ws) (hS : va_S A0 H0 H locs) (hA : ∀ q, H0.size ≤ q → A0 q) (isC isR : List Nat) (hC : isC.map (fun i => ws[i]?) = wc.map some) (hR : isR.map (fun i => ws[i]?) = wr.map some) (hn : va_nd isR = true) (hdis : ∀ i ∈ isR, i ∉ isC)
    (kk : ∀ (u : S) (H1 : Heap) (locs1 : List Loc), post u → va_P D vwCl (wr ++ B u) H1 → va_D A0 (wr ++ B u) → va_S A0 H0 H1 locs1 → W p l e R s m args below meth c H1 locs1 (cells + mc) (slots + ms) Q (F0 m (pc + 3) ls (.ref (ad u) :: rest))) : W p l e R s m args below meth c H locs cells slots Q (F0 m pc ls st0) := by
  have hFc := va_free (wc := wc) hD hS hA isC hC
  refine va_callr hr hS (fun q _ h => hFc q h) hFc (fun u ra t H1 locs1 ht hvm hw hB hz1 hk1 hS1 => ?_)
  obtain ⟨rfl, hP1, hD1⟩ := hB
  rw [ht] at hP1
  obtain ⟨hP2, hD2⟩ := va_join (wr := wr) (w1 := B u) hP hD isC isR hC hR hn hdis hk1 hFc hP1 hD1
  exact kk u H1 locs1 hw hP2 hD2 hS1
end MYR
theorem cpy_in {f g : Nat → Int32} {n : Int32} {j : Nat} (h : j < n.toInt.toNat) : va_cpy (α := Int32) f g (0 : Int32).toNatClampNeg (0 : Int32).toNatClampNeg n.toNatClampNeg j = f j := by
  show (if 0 ≤ j ∧ j < 0 + n.toInt.toNat then f (0 + (j - 0)) else g j) = f j
  rw [if_pos (by omega), Nat.zero_add, Nat.sub_zero]
/-- what trimmed() makes of a text -/
noncomputable def TrX (cl us : Int32) (fh fc : Nat → Int32) (x : LC) : Prop := x.2.2.2.2.1 = cl ∧ (x.1 : Int) = 5 * cl.toInt ∧ (x.2.1 : Int) = us.toInt ∧ (∀ j, j < x.1 → x.2.2.1 j = fh j) ∧ ∀ j, j < x.2.1 → x.2.2.2.1 j = fc j
set_option maxHeartbeats 4000000 in
set_option maxRecDepth 100000 in
theorem w_copy_h (l : Launch) (D : va_G) (K : Nat → ClassId) (a0 : Nat) (n : Int32) (f : Nat → Int32) (sz : Nat) (zn : 0 ≤ n.toInt ∧ n.toInt ≤ 60) (zf : Rg 60 (-1) 1000 f) : Met l yJ7_copyOf_59c91 wsJ7_copyOf_59c91 ({ frames := 1, cells := 1, slots := 60, locals := 40 }) (va_Pc [.ref a0, .int n] (PreC (Pre D K [(a0, .inl (K 0, 60, .inl f))] sz))) (va_Qr (S := Nat × (Nat → Int32)) (fun u => Rg n.toInt.toNat (-1) 1000 u.2 ∧ ∀ j, j < n.toInt.toNat → u.2 j = f j) (fun u x t => x = (fun u => u.1) u ∧ Wd D (va_A [(a0, .inl (K 0, 60, .inl f))] sz) ((fun u => [(a0, .inl (K 0, 60, .inl f)), (u.1, .inl (K 0, n.toInt.toNat, .inl u.2))]) u) t) (va_A [(a0, .inl (K 0, 60, .inl f))] sz)) 1 60 (va_A [(a0, .inl (K 0, 60, .inl f))] sz) := by
  refine Met.ofW (cc := cJ7_copyOf_59c91) (maxL := 3) (ret := (some (.array .int))) (by decide +kernel) rfl ?_
  intro p e s m args below meth c s₁ B hml hv
  obtain ⟨rfl, ⟨hsz, hP, hK, hD0, hN⟩, hC⟩ := hv
  have hx := B.exec
  have hb := B.bytes
  have hr := B.returns
  have hts := atoms_spec (ws := wsJ7_copyOf_59c91) B.pre
  have hown : s.vm.findClass RJ7 = some m.cls := findClass_of_methodNamed B.named
  have hlocks := B.notSynchronized
  subst hsz
  have hD := hD0.self (sz := s.heap.size)
  generalize hAe : va_A [(a0, .inl (K 0, 60, .inl f))] s.heap.size = A at hD ⊢
  have hA : ∀ q : Nat, s.heap.size ≤ q → A q := fun q h => by rw [← hAe]; exact Or.inr h
  clear hAe
  have hS : va_S A s.heap s.heap [] := va_S.rf
  replace hP : va_P D vwCl [(a0, .inl (K 0, 60, .inl f))] s.heap := hP
  have hl := lv_entry [.ref a0, .int n] (n := 3) (Nat.le_of_ble_eq_true rfl)
  rw [lg_entry_eq]
  generalize (lg_sl [.ref a0, .int n] ++ List.replicate (3 - (lg_sl [.ref a0, .int n]).length) Slot.unset).toArray = ls at hl ⊢
  have hl : lv_has ls 3 [(0, .ref a0), (1, .int n)] := hl
  generalize hQ : MQ below _ _ s _ _ _ = Q
  refine lv_iload_n hx hb dJ7_copyOf_59c91_0 rfl (lv_at hl 1 rfl) (lv_aload_n hx hb dJ7_copyOf_59c91_1 rfl (lv_at hl 0 rfl) (va_alen (v := 60) hx hb hK hP 0 0 rfl rfl rfl dJ7_copyOf_59c91_2 (lv_icmp_ne (tgt := 14) hx hb dJ7_copyOf_59c91_3 (by decide +kernel) (fun c_71 => ?_) (fun c_71 => ?_))))
  · have c_71i := i_ne (x := n.toInt) (y := 60) rfl rfl c_71
    refine lv_iload_n hx hb dJ7_copyOf_59c91_14 rfl (lv_at hl 1 rfl) ?_
    refine k_newa (atype := .int) (ty := .int) (cA := K 0) (a0 := ((n.toInt).toNat, .inl (fun _ => 0))) (N' := (n.toInt).toNat) hx hb (hts _ mm_J7_copyOf_59c91_194) rfl hK 0 rfl hP hD hS hA (fun _ => rfl) (fun h9 => by have h8 := i_lt (x := n.toInt) (y := 0) rfl rfl h9; omega) (i_clamp rfl) (by show _ * 4 ≤ _; omega) (Nat.le_of_ble_eq_true rfl) (by show _ ≤ (60 : Nat); omega) dJ7_copyOf_59c91_15 (fun q_72 H hP0 hD0 hS0 => ?_)
    replace hP : va_P D vwCl [(a0, .inl (K 0, 60, .inl f)), (q_72, .inl (K 0, n.toInt.toNat, .inl (fun _ => 0)))] H := hP0
    replace hD : va_D A [(a0, .inl (K 0, 60, .inl f)), (q_72, .inl (K 0, n.toInt.toNat, .inl (fun _ => 0)))] := hD0
    replace hS := hS0
    clear hP0 hD0 hS0
    refine W.widen (k := 1) (n := 59) (by omega) (by omega) ?_
    refine lv_astore_n (lv' := [(2, .ref q_72), (0, .ref a0), (1, .int n)]) hx hb dJ7_copyOf_59c91_17 rfl hl (by decide +kernel) rfl (fun ls hl => ?_)
    refine lv_aload_n hx hb dJ7_copyOf_59c91_18 rfl (lv_at hl 1 rfl) (lv_iconst (v := 0) hx hb dJ7_copyOf_59c91_19 (by decide +kernel) (lv_aload_n hx hb dJ7_copyOf_59c91_20 rfl (lv_at hl 0 rfl) (lv_iconst (v := 0) hx hb dJ7_copyOf_59c91_21 (by decide +kernel) (lv_aload_n hx hb dJ7_copyOf_59c91_22 rfl (lv_at hl 1 rfl) (va_alen (v := 60) hx hb hK hP 0 0 rfl rfl rfl dJ7_copyOf_59c91_23 (lv_iload_n hx hb dJ7_copyOf_59c91_24 rfl (lv_at hl 2 rfl) (va_mmin hx hb (hml.trans hl.1.symm) hown (hts _ mm_J7_copyOf_59c91_568) (hts _ mm_J7_copyOf_59c91_426) (hts _ mm_J7_copyOf_59c91_157) (hts _ mm_J7_copyOf_59c91_427) (Nat.le_of_ble_eq_true rfl) (Nat.le_of_ble_eq_true rfl) (Nat.le_of_ble_eq_true rfl) (Nat.le_of_ble_eq_true rfl) dJ7_copyOf_59c91_25 (lv_topi (fun x_73 ex_73 => ?_)))))))))
    have hx_73 : (60 ≤ n.toInt ∧ x_73.toInt = 60) ∨ (n.toInt < 60 ∧ x_73.toInt = n.toInt) := by rw [ex_73]; exact i_min (show (60 : Int32).toInt = 60 from rfl) rfl
    replace hx_73 : x_73.toInt ≤ n.toInt ∧ 0 ≤ x_73.toInt ∧ x_73.toInt ≤ 59 := by omega
    refine va_copyi hx hb (hml.trans hl.1.symm) hown (hts _ mm_J7_copyOf_59c91_569) (hts _ mm_J7_copyOf_59c91_571) (hts _ mm_J7_copyOf_59c91_570) (hts _ mm_J7_copyOf_59c91_163) hK hP hD hS 0 1 0 0 rfl rfl rfl rfl rfl (by decide +kernel) (by decide +kernel) (fun h9 => by have h8 := i_lt (x := x_73.toInt) (y := 0) rfl rfl h9; omega) (by rw [i_clamp (show (0 : Int32).toInt = 0 from rfl), i_clamp rfl]; omega) (by rw [i_clamp (show (0 : Int32).toInt = 0 from rfl), i_clamp rfl]; omega) (fun _ _ => rfl) (Nat.le_of_ble_eq_true rfl) (by decide +kernel) dJ7_copyOf_59c91_28 (fun H locs hP0 hD0 hS0 => ?_)
    replace hP := hP0
    replace hD := hD0
    replace hS := hS0
    clear hP0 hD0 hS0
    generalize hf_74 : (va_cpy (α := Int32) f (fun _ => 0) (0 : Int32).toNatClampNeg (0 : Int32).toNatClampNeg (x_73 : Int32).toNatClampNeg) = f_74 at hP hD
    have hf_74_0 : Rg n.toInt.toNat (-1) 1000 f_74 := by rw [← hf_74]; exact (Rg.cpy (lo := (-1)) (hi := 1000) zf (Rg.zero (by decide +kernel)) (by rw [i_clamp (show (0 : Int32).toInt = 0 from rfl), i_clamp rfl]; omega))
    have hnz_75 : x_73 = n := by rw [ex_73]; exact if_pos (Int32.lt_iff_toInt_lt.mpr (show n.toInt < 60 by omega))
    have hz_75 : ∀ j, j < n.toInt.toNat → f_74 j = f j := fun j hj => by rw [← hf_74, hnz_75]; exact cpy_in hj
    replace hP : va_P D vwCl [(a0, .inl (K 0, 60, .inl f)), (q_72, .inl (K 0, n.toInt.toNat, .inl f_74))] H := hP
    replace hD : va_D A [(a0, .inl (K 0, 60, .inl f)), (q_72, .inl (K 0, n.toInt.toNat, .inl f_74))] := hD
    refine lv_aload_n hx hb dJ7_copyOf_59c91_31 rfl (lv_at hl 0 rfl) ?_
    rw [← hQ]
    refine W.widen (k := 1) (n := 60) (by omega) (by omega) ?_
    have hP9 := hP.sub (ws' := [(a0, .inl (K 0, 60, .inl f)), (q_72, .inl (K 0, n.toInt.toNat, .inl f_74))]) [0, 1] rfl
    have hD9 := hD.sub (ws' := [(a0, .inl (K 0, 60, .inl f)), (q_72, .inl (K 0, n.toInt.toNat, .inl f_74))]) [0, 1] (by decide +kernel) rfl
    exact W.aret (v := .ref q_72) hx hb hr (Or.inr ⟨_, rfl⟩) (Or.inr ⟨_, rfl⟩) (fun t ht hW => ⟨⟨(q_72, f_74), q_72, rfl, ⟨hf_74_0, hz_75⟩, rfl, by rw [ht]; exact hP9, hD9⟩, hS.F ht⟩) hS.2.2 dJ7_copyOf_59c91_32
  · have c_71i := i_eq (x := n.toInt) (y := 60) rfl rfl c_71
    refine lv_aload_n hx hb dJ7_copyOf_59c91_6 rfl (lv_at hl 0 rfl) ?_
    have hAn : s.vm.findClass "[I" = some (K 0) := (hK.2 0 _ rfl).2
    refine va_clone (ty := .int) hx hb (hml.trans hl.1.symm) hown (hts _ mm_J7_copyOf_59c91_562) (hts _ mm_J7_copyOf_59c91_563) (hts _ mm_J7_copyOf_59c91_564) (hts _ mm_J7_copyOf_59c91_565) (hts _ mm_J7_copyOf_59c91_566) hC hK hP hD hS hA 0 0 rfl rfl hAn (fit_int (f := f)) (Nat.le_of_ble_eq_true rfl) (Nat.le_of_ble_eq_true rfl) (Nat.le_of_ble_eq_true rfl) (Nat.le_of_ble_eq_true rfl) dJ7_copyOf_59c91_7 (fun q_9 H _ hP0 hD0 hS0 => ?_)
    replace hP := hP0
    replace hD := hD0
    replace hS := hS0
    clear hP0 hD0 hS0
    refine va_castA (nm := "[I") hx hb hown (hts _ mm_J7_copyOf_59c91_567) hP 1 rfl hAn dJ7_copyOf_59c91_10 ?_
    have e_9 : n.toInt.toNat = 60 := by omega
    have hP : va_P D vwCl [(a0, .inl (K 0, 60, .inl f)), (q_9, .inl (K 0, n.toInt.toNat, .inl f))] H := by rw [e_9]; exact hP
    have hD : va_D A [(a0, .inl (K 0, 60, .inl f)), (q_9, .inl (K 0, n.toInt.toNat, .inl f))] := by rw [e_9]; exact hD
    refine W.widen (k := 1) (n := 60) (by omega) (by omega) ?_
    rw [← hQ]
    have hP9 := hP.sub (ws' := [(a0, .inl (K 0, 60, .inl f)), (q_9, .inl (K 0, n.toInt.toNat, .inl f))]) [0, 1] rfl
    have hD9 := hD.sub (ws' := [(a0, .inl (K 0, 60, .inl f)), (q_9, .inl (K 0, n.toInt.toNat, .inl f))]) [0, 1] (by decide +kernel) rfl
    exact W.aret (v := .ref q_9) hx hb hr (Or.inr ⟨_, rfl⟩) (Or.inr ⟨_, rfl⟩) (fun t ht hW => ⟨⟨(q_9, f), q_9, rfl, ⟨(e_9.symm ▸ zf), fun _ _ => rfl⟩, rfl, by rw [ht]; exact hP9, hD9⟩, hS.F ht⟩) hS.2.2 dJ7_copyOf_59c91_13
set_option maxHeartbeats 4000000 in
set_option maxRecDepth 100000 in
theorem w_copy_c (l : Launch) (D : va_G) (K : Nat → ClassId) (a0 : Nat) (n : Int32) (f : Nat → Int32) (sz : Nat) (zn : 0 ≤ n.toInt ∧ n.toInt ≤ 800) (zf : Rg 800 0 1000 f) : Met l yJ7_copyOf_59c91 wsJ7_copyOf_59c91 ({ frames := 1, cells := 1, slots := 800, locals := 40 }) (va_Pc [.ref a0, .int n] (PreC (Pre D K [(a0, .inl (K 0, 800, .inl f))] sz))) (va_Qr (S := Nat × (Nat → Int32)) (fun u => Rg n.toInt.toNat 0 1000 u.2 ∧ ∀ j, j < n.toInt.toNat → u.2 j = f j) (fun u x t => x = (fun u => u.1) u ∧ Wd D (va_A [(a0, .inl (K 0, 800, .inl f))] sz) ((fun u => [(a0, .inl (K 0, 800, .inl f)), (u.1, .inl (K 0, n.toInt.toNat, .inl u.2))]) u) t) (va_A [(a0, .inl (K 0, 800, .inl f))] sz)) 1 800 (va_A [(a0, .inl (K 0, 800, .inl f))] sz) := by
  refine Met.ofW (cc := cJ7_copyOf_59c91) (maxL := 3) (ret := (some (.array .int))) (by decide +kernel) rfl ?_
  intro p e s m args below meth c s₁ B hml hv
  obtain ⟨rfl, ⟨hsz, hP, hK, hD0, hN⟩, hC⟩ := hv
  have hx := B.exec
  have hb := B.bytes
  have hr := B.returns
  have hts := atoms_spec (ws := wsJ7_copyOf_59c91) B.pre
  have hown : s.vm.findClass RJ7 = some m.cls := findClass_of_methodNamed B.named
  have hlocks := B.notSynchronized
  subst hsz
  have hD := hD0.self (sz := s.heap.size)
  generalize hAe : va_A [(a0, .inl (K 0, 800, .inl f))] s.heap.size = A at hD ⊢
  have hA : ∀ q : Nat, s.heap.size ≤ q → A q := fun q h => by rw [← hAe]; exact Or.inr h
  clear hAe
  have hS : va_S A s.heap s.heap [] := va_S.rf
  replace hP : va_P D vwCl [(a0, .inl (K 0, 800, .inl f))] s.heap := hP
  have hl := lv_entry [.ref a0, .int n] (n := 3) (Nat.le_of_ble_eq_true rfl)
  rw [lg_entry_eq]
  generalize (lg_sl [.ref a0, .int n] ++ List.replicate (3 - (lg_sl [.ref a0, .int n]).length) Slot.unset).toArray = ls at hl ⊢
  have hl : lv_has ls 3 [(0, .ref a0), (1, .int n)] := hl
  generalize hQ : MQ below _ _ s _ _ _ = Q
  refine lv_iload_n hx hb dJ7_copyOf_59c91_0 rfl (lv_at hl 1 rfl) (lv_aload_n hx hb dJ7_copyOf_59c91_1 rfl (lv_at hl 0 rfl) (va_alen (v := 800) hx hb hK hP 0 0 rfl rfl rfl dJ7_copyOf_59c91_2 (lv_icmp_ne (tgt := 14) hx hb dJ7_copyOf_59c91_3 (by decide +kernel) (fun c_71 => ?_) (fun c_71 => ?_))))
  · have c_71i := i_ne (x := n.toInt) (y := 800) rfl rfl c_71
    refine lv_iload_n hx hb dJ7_copyOf_59c91_14 rfl (lv_at hl 1 rfl) ?_
    refine k_newa (atype := .int) (ty := .int) (cA := K 0) (a0 := ((n.toInt).toNat, .inl (fun _ => 0))) (N' := (n.toInt).toNat) hx hb (hts _ mm_J7_copyOf_59c91_194) rfl hK 0 rfl hP hD hS hA (fun _ => rfl) (fun h9 => by have h8 := i_lt (x := n.toInt) (y := 0) rfl rfl h9; omega) (i_clamp rfl) (by show _ * 4 ≤ _; omega) (Nat.le_of_ble_eq_true rfl) (by show _ ≤ (800 : Nat); omega) dJ7_copyOf_59c91_15 (fun q_72 H hP0 hD0 hS0 => ?_)
    replace hP : va_P D vwCl [(a0, .inl (K 0, 800, .inl f)), (q_72, .inl (K 0, n.toInt.toNat, .inl (fun _ => 0)))] H := hP0
    replace hD : va_D A [(a0, .inl (K 0, 800, .inl f)), (q_72, .inl (K 0, n.toInt.toNat, .inl (fun _ => 0)))] := hD0
    replace hS := hS0
    clear hP0 hD0 hS0
    refine W.widen (k := 1) (n := 799) (by omega) (by omega) ?_
    refine lv_astore_n (lv' := [(2, .ref q_72), (0, .ref a0), (1, .int n)]) hx hb dJ7_copyOf_59c91_17 rfl hl (by decide +kernel) rfl (fun ls hl => ?_)
    refine lv_aload_n hx hb dJ7_copyOf_59c91_18 rfl (lv_at hl 1 rfl) (lv_iconst (v := 0) hx hb dJ7_copyOf_59c91_19 (by decide +kernel) (lv_aload_n hx hb dJ7_copyOf_59c91_20 rfl (lv_at hl 0 rfl) (lv_iconst (v := 0) hx hb dJ7_copyOf_59c91_21 (by decide +kernel) (lv_aload_n hx hb dJ7_copyOf_59c91_22 rfl (lv_at hl 1 rfl) (va_alen (v := 800) hx hb hK hP 0 0 rfl rfl rfl dJ7_copyOf_59c91_23 (lv_iload_n hx hb dJ7_copyOf_59c91_24 rfl (lv_at hl 2 rfl) (va_mmin hx hb (hml.trans hl.1.symm) hown (hts _ mm_J7_copyOf_59c91_568) (hts _ mm_J7_copyOf_59c91_426) (hts _ mm_J7_copyOf_59c91_157) (hts _ mm_J7_copyOf_59c91_427) (Nat.le_of_ble_eq_true rfl) (Nat.le_of_ble_eq_true rfl) (Nat.le_of_ble_eq_true rfl) (Nat.le_of_ble_eq_true rfl) dJ7_copyOf_59c91_25 (lv_topi (fun x_73 ex_73 => ?_)))))))))
    have hx_73 : (800 ≤ n.toInt ∧ x_73.toInt = 800) ∨ (n.toInt < 800 ∧ x_73.toInt = n.toInt) := by rw [ex_73]; exact i_min (show (800 : Int32).toInt = 800 from rfl) rfl
    replace hx_73 : x_73.toInt ≤ n.toInt ∧ 0 ≤ x_73.toInt ∧ x_73.toInt ≤ 799 := by omega
    refine va_copyi hx hb (hml.trans hl.1.symm) hown (hts _ mm_J7_copyOf_59c91_569) (hts _ mm_J7_copyOf_59c91_571) (hts _ mm_J7_copyOf_59c91_570) (hts _ mm_J7_copyOf_59c91_163) hK hP hD hS 0 1 0 0 rfl rfl rfl rfl rfl (by decide +kernel) (by decide +kernel) (fun h9 => by have h8 := i_lt (x := x_73.toInt) (y := 0) rfl rfl h9; omega) (by rw [i_clamp (show (0 : Int32).toInt = 0 from rfl), i_clamp rfl]; omega) (by rw [i_clamp (show (0 : Int32).toInt = 0 from rfl), i_clamp rfl]; omega) (fun _ _ => rfl) (Nat.le_of_ble_eq_true rfl) (by decide +kernel) dJ7_copyOf_59c91_28 (fun H locs hP0 hD0 hS0 => ?_)
    replace hP := hP0
    replace hD := hD0
    replace hS := hS0
    clear hP0 hD0 hS0
    generalize hf_74 : (va_cpy (α := Int32) f (fun _ => 0) (0 : Int32).toNatClampNeg (0 : Int32).toNatClampNeg (x_73 : Int32).toNatClampNeg) = f_74 at hP hD
    have hf_74_0 : Rg n.toInt.toNat 0 1000 f_74 := by rw [← hf_74]; exact (Rg.cpy (lo := 0) (hi := 1000) zf (Rg.zero (by decide +kernel)) (by rw [i_clamp (show (0 : Int32).toInt = 0 from rfl), i_clamp rfl]; omega))
    have hnz_75 : x_73 = n := by rw [ex_73]; exact if_pos (Int32.lt_iff_toInt_lt.mpr (show n.toInt < 800 by omega))
    have hz_75 : ∀ j, j < n.toInt.toNat → f_74 j = f j := fun j hj => by rw [← hf_74, hnz_75]; exact cpy_in hj
    replace hP : va_P D vwCl [(a0, .inl (K 0, 800, .inl f)), (q_72, .inl (K 0, n.toInt.toNat, .inl f_74))] H := hP
    replace hD : va_D A [(a0, .inl (K 0, 800, .inl f)), (q_72, .inl (K 0, n.toInt.toNat, .inl f_74))] := hD
    refine lv_aload_n hx hb dJ7_copyOf_59c91_31 rfl (lv_at hl 0 rfl) ?_
    rw [← hQ]
    refine W.widen (k := 1) (n := 800) (by omega) (by omega) ?_
    have hP9 := hP.sub (ws' := [(a0, .inl (K 0, 800, .inl f)), (q_72, .inl (K 0, n.toInt.toNat, .inl f_74))]) [0, 1] rfl
    have hD9 := hD.sub (ws' := [(a0, .inl (K 0, 800, .inl f)), (q_72, .inl (K 0, n.toInt.toNat, .inl f_74))]) [0, 1] (by decide +kernel) rfl
    exact W.aret (v := .ref q_72) hx hb hr (Or.inr ⟨_, rfl⟩) (Or.inr ⟨_, rfl⟩) (fun t ht hW => ⟨⟨(q_72, f_74), q_72, rfl, ⟨hf_74_0, hz_75⟩, rfl, by rw [ht]; exact hP9, hD9⟩, hS.F ht⟩) hS.2.2 dJ7_copyOf_59c91_32
  · have c_71i := i_eq (x := n.toInt) (y := 800) rfl rfl c_71
    refine lv_aload_n hx hb dJ7_copyOf_59c91_6 rfl (lv_at hl 0 rfl) ?_
    have hAn : s.vm.findClass "[I" = some (K 0) := (hK.2 0 _ rfl).2
    refine va_clone (ty := .int) hx hb (hml.trans hl.1.symm) hown (hts _ mm_J7_copyOf_59c91_562) (hts _ mm_J7_copyOf_59c91_563) (hts _ mm_J7_copyOf_59c91_564) (hts _ mm_J7_copyOf_59c91_565) (hts _ mm_J7_copyOf_59c91_566) hC hK hP hD hS hA 0 0 rfl rfl hAn (fit_int (f := f)) (Nat.le_of_ble_eq_true rfl) (Nat.le_of_ble_eq_true rfl) (Nat.le_of_ble_eq_true rfl) (Nat.le_of_ble_eq_true rfl) dJ7_copyOf_59c91_7 (fun q_9 H _ hP0 hD0 hS0 => ?_)
    replace hP := hP0
    replace hD := hD0
    replace hS := hS0
    clear hP0 hD0 hS0
    refine va_castA (nm := "[I") hx hb hown (hts _ mm_J7_copyOf_59c91_567) hP 1 rfl hAn dJ7_copyOf_59c91_10 ?_
    have e_9 : n.toInt.toNat = 800 := by omega
    have hP : va_P D vwCl [(a0, .inl (K 0, 800, .inl f)), (q_9, .inl (K 0, n.toInt.toNat, .inl f))] H := by rw [e_9]; exact hP
    have hD : va_D A [(a0, .inl (K 0, 800, .inl f)), (q_9, .inl (K 0, n.toInt.toNat, .inl f))] := by rw [e_9]; exact hD
    refine W.widen (k := 1) (n := 800) (by omega) (by omega) ?_
    rw [← hQ]
    have hP9 := hP.sub (ws' := [(a0, .inl (K 0, 800, .inl f)), (q_9, .inl (K 0, n.toInt.toNat, .inl f))]) [0, 1] rfl
    have hD9 := hD.sub (ws' := [(a0, .inl (K 0, 800, .inl f)), (q_9, .inl (K 0, n.toInt.toNat, .inl f))]) [0, 1] (by decide +kernel) rfl
    exact W.aret (v := .ref q_9) hx hb hr (Or.inr ⟨_, rfl⟩) (Or.inr ⟨_, rfl⟩) (fun t ht hW => ⟨⟨(q_9, f), q_9, rfl, ⟨(e_9.symm ▸ zf), fun _ _ => rfl⟩, rfl, by rw [ht]; exact hP9, hD9⟩, hS.F ht⟩) hS.2.2 dJ7_copyOf_59c91_13
