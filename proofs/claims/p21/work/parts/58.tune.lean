theorem BX12_apart_0 : bsegs (ByteArray.data cX12_apart |>.toList.drop 0) 0 [(0, [26]), (1, [27]), (2, [164, 0, 9]), (5, [26]), (6, [27]), (7, [100]), (8, [167, 0, 6]), (11, [27]), (12, [26]), (13, [100]), (14, [172])] = true := by decide +kernel
theorem dX12_apart_0 : decode cX12_apart 0 = .ok (.iload_n 0, 1) := dk_26 (bs_at BX12_apart_0 0 rfl)
theorem dX12_apart_1 : decode cX12_apart 1 = .ok (.iload_n 1, 1) := dk_27 (bs_at BX12_apart_0 1 rfl)
theorem dX12_apart_2 : decode cX12_apart 2 = .ok (.if_icmp .le 9, 3) := dk_164 0 9 (bs_at BX12_apart_0 2 rfl) rfl
theorem dX12_apart_5 : decode cX12_apart 5 = .ok (.iload_n 0, 1) := dk_26 (bs_at BX12_apart_0 3 rfl)
theorem dX12_apart_6 : decode cX12_apart 6 = .ok (.iload_n 1, 1) := dk_27 (bs_at BX12_apart_0 4 rfl)
theorem dX12_apart_7 : decode cX12_apart 7 = .ok (.isub, 1) := dk_100 (bs_at BX12_apart_0 5 rfl)
theorem dX12_apart_8 : decode cX12_apart 8 = .ok (.goto 6, 3) := dk_167 0 6 (bs_at BX12_apart_0 6 rfl) rfl
theorem dX12_apart_11 : decode cX12_apart 11 = .ok (.iload_n 1, 1) := dk_27 (bs_at BX12_apart_0 7 rfl)
theorem dX12_apart_12 : decode cX12_apart 12 = .ok (.iload_n 0, 1) := dk_26 (bs_at BX12_apart_0 8 rfl)
theorem dX12_apart_13 : decode cX12_apart 13 = .ok (.isub, 1) := dk_100 (bs_at BX12_apart_0 9 rfl)
theorem dX12_apart_14 : decode cX12_apart 14 = .ok (.ireturn, 1) := dk_172 (bs_at BX12_apart_0 10 rfl)
theorem BX12_around_0 : bsegs (ByteArray.data cX12_around |>.toList.drop 0) 0 [(0, [26]), (1, [27]), (2, [184, 1, 238]), (5, [61]), (6, [28]), (7, [6]), (8, [164, 0, 10]), (11, [16, 7]), (13, [28]), (14, [100]), (15, [167, 0, 4]), (18, [28]), (19, [172])] = true := by decide +kernel
theorem dX12_around_0 : decode cX12_around 0 = .ok (.iload_n 0, 1) := dk_26 (bs_at BX12_around_0 0 rfl)
theorem dX12_around_1 : decode cX12_around 1 = .ok (.iload_n 1, 1) := dk_27 (bs_at BX12_around_0 1 rfl)
theorem dX12_around_2 : decode cX12_around 2 = .ok (.invokestatic 494, 3) := dk_184 1 238 (bs_at BX12_around_0 2 rfl) rfl
theorem dX12_around_5 : decode cX12_around 5 = .ok (.istore_n 2, 1) := dk_61 (bs_at BX12_around_0 3 rfl)
theorem dX12_around_6 : decode cX12_around 6 = .ok (.iload_n 2, 1) := dk_28 (bs_at BX12_around_0 4 rfl)
theorem dX12_around_7 : decode cX12_around 7 = .ok (.iconst 3, 1) := dk_6 (bs_at BX12_around_0 5 rfl)
theorem dX12_around_8 : decode cX12_around 8 = .ok (.if_icmp .le 10, 3) := dk_164 0 10 (bs_at BX12_around_0 6 rfl) rfl
theorem dX12_around_11 : decode cX12_around 11 = .ok (.bipush 7, 2) := dk_16 7 (bs_at BX12_around_0 7 rfl) rfl
theorem dX12_around_13 : decode cX12_around 13 = .ok (.iload_n 2, 1) := dk_28 (bs_at BX12_around_0 8 rfl)
theorem dX12_around_14 : decode cX12_around 14 = .ok (.isub, 1) := dk_100 (bs_at BX12_around_0 9 rfl)
theorem dX12_around_15 : decode cX12_around 15 = .ok (.goto 4, 3) := dk_167 0 4 (bs_at BX12_around_0 10 rfl) rfl
theorem dX12_around_18 : decode cX12_around 18 = .ok (.iload_n 2, 1) := dk_28 (bs_at BX12_around_0 11 rfl)
theorem dX12_around_19 : decode cX12_around 19 = .ok (.ireturn, 1) := dk_172 (bs_at BX12_around_0 12 rfl)
theorem BX12_agrees_0 : bsegs (ByteArray.data cX12_agrees |>.toList.drop 0) 0 [(0, [26]), (1, [27]), (2, [4]), (3, [96]), (4, [16, 7]), (6, [112]), (7, [184, 1, 180]), (10, [154, 0, 21]), (13, [26]), (14, [27]), (15, [16, 6]), (17, [96]), (18, [16, 7]), (20, [112]), (21, [184, 1, 180]), (24, [154, 0, 7]), (27, [4]), (28, [167, 0, 4]), (31, [3]), (32, [172])] = true := by decide +kernel
theorem dX12_agrees_0 : decode cX12_agrees 0 = .ok (.iload_n 0, 1) := dk_26 (bs_at BX12_agrees_0 0 rfl)
theorem dX12_agrees_1 : decode cX12_agrees 1 = .ok (.iload_n 1, 1) := dk_27 (bs_at BX12_agrees_0 1 rfl)
theorem dX12_agrees_2 : decode cX12_agrees 2 = .ok (.iconst 1, 1) := dk_4 (bs_at BX12_agrees_0 2 rfl)
theorem dX12_agrees_3 : decode cX12_agrees 3 = .ok (.iadd, 1) := dk_96 (bs_at BX12_agrees_0 3 rfl)
theorem dX12_agrees_4 : decode cX12_agrees 4 = .ok (.bipush 7, 2) := dk_16 7 (bs_at BX12_agrees_0 4 rfl) rfl
theorem dX12_agrees_6 : decode cX12_agrees 6 = .ok (.irem, 1) := dk_112 (bs_at BX12_agrees_0 5 rfl)
theorem dX12_agrees_7 : decode cX12_agrees 7 = .ok (.invokestatic 436, 3) := dk_184 1 180 (bs_at BX12_agrees_0 6 rfl) rfl
theorem dX12_agrees_10 : decode cX12_agrees 10 = .ok (.ifCond .ne 21, 3) := dk_154 0 21 (bs_at BX12_agrees_0 7 rfl) rfl
theorem dX12_agrees_13 : decode cX12_agrees 13 = .ok (.iload_n 0, 1) := dk_26 (bs_at BX12_agrees_0 8 rfl)
theorem dX12_agrees_14 : decode cX12_agrees 14 = .ok (.iload_n 1, 1) := dk_27 (bs_at BX12_agrees_0 9 rfl)
theorem dX12_agrees_15 : decode cX12_agrees 15 = .ok (.bipush 6, 2) := dk_16 6 (bs_at BX12_agrees_0 10 rfl) rfl
theorem dX12_agrees_17 : decode cX12_agrees 17 = .ok (.iadd, 1) := dk_96 (bs_at BX12_agrees_0 11 rfl)
theorem dX12_agrees_18 : decode cX12_agrees 18 = .ok (.bipush 7, 2) := dk_16 7 (bs_at BX12_agrees_0 12 rfl) rfl
theorem dX12_agrees_20 : decode cX12_agrees 20 = .ok (.irem, 1) := dk_112 (bs_at BX12_agrees_0 13 rfl)
theorem dX12_agrees_21 : decode cX12_agrees 21 = .ok (.invokestatic 436, 3) := dk_184 1 180 (bs_at BX12_agrees_0 14 rfl) rfl
theorem dX12_agrees_24 : decode cX12_agrees 24 = .ok (.ifCond .ne 7, 3) := dk_154 0 7 (bs_at BX12_agrees_0 15 rfl) rfl
theorem dX12_agrees_27 : decode cX12_agrees 27 = .ok (.iconst 1, 1) := dk_4 (bs_at BX12_agrees_0 16 rfl)
theorem dX12_agrees_28 : decode cX12_agrees 28 = .ok (.goto 4, 3) := dk_167 0 4 (bs_at BX12_agrees_0 17 rfl) rfl
theorem dX12_agrees_31 : decode cX12_agrees 31 = .ok (.iconst 0, 1) := dk_3 (bs_at BX12_agrees_0 18 rfl)
theorem dX12_agrees_32 : decode cX12_agrees 32 = .ok (.ireturn, 1) := dk_172 (bs_at BX12_agrees_0 19 rfl)
theorem BX12_movedBy_0 : bsegs (ByteArray.data cX12_movedBy |>.toList.drop 0) 0 [(0, [28]), (1, [29]), (2, [184, 1, 247]), (5, [154, 0, 9]), (8, [19, 1, 220]), (11, [167, 0, 40]), (14, [42]), (15, [180, 0, 13]), (18, [16, 35]), (20, [42]), (21, [180, 0, 129]), (24, [27]), (25, [46]), (26, [96]), (27, [46]), (28, [29]), (29, [184, 1, 250]), (32, [42]), (33, [180, 0, 126]), (36, [17, 0, 128]), (39, [27]), (40, [4]), (41, [96]), (42, [104])] = true := by decide +kernel
theorem dX12_movedBy_0 : decode cX12_movedBy 0 = .ok (.iload_n 2, 1) := dk_28 (bs_at BX12_movedBy_0 0 rfl)
theorem dX12_movedBy_1 : decode cX12_movedBy 1 = .ok (.iload_n 3, 1) := dk_29 (bs_at BX12_movedBy_0 1 rfl)
theorem dX12_movedBy_2 : decode cX12_movedBy 2 = .ok (.invokestatic 503, 3) := dk_184 1 247 (bs_at BX12_movedBy_0 2 rfl) rfl
theorem dX12_movedBy_5 : decode cX12_movedBy 5 = .ok (.ifCond .ne 9, 3) := dk_154 0 9 (bs_at BX12_movedBy_0 3 rfl) rfl
theorem dX12_movedBy_8 : decode cX12_movedBy 8 = .ok (.ldc_w 476, 3) := dk_19 1 220 (bs_at BX12_movedBy_0 4 rfl) rfl
theorem dX12_movedBy_11 : decode cX12_movedBy 11 = .ok (.goto 40, 3) := dk_167 0 40 (bs_at BX12_movedBy_0 5 rfl) rfl
theorem dX12_movedBy_14 : decode cX12_movedBy 14 = .ok (.aload_n 0, 1) := dk_42 (bs_at BX12_movedBy_0 6 rfl)
theorem dX12_movedBy_15 : decode cX12_movedBy 15 = .ok (.getfield 13, 3) := dk_180 0 13 (bs_at BX12_movedBy_0 7 rfl) rfl
theorem dX12_movedBy_18 : decode cX12_movedBy 18 = .ok (.bipush 35, 2) := dk_16 35 (bs_at BX12_movedBy_0 8 rfl) rfl
theorem dX12_movedBy_20 : decode cX12_movedBy 20 = .ok (.aload_n 0, 1) := dk_42 (bs_at BX12_movedBy_0 9 rfl)
theorem dX12_movedBy_21 : decode cX12_movedBy 21 = .ok (.getfield 129, 3) := dk_180 0 129 (bs_at BX12_movedBy_0 10 rfl) rfl
theorem dX12_movedBy_24 : decode cX12_movedBy 24 = .ok (.iload_n 1, 1) := dk_27 (bs_at BX12_movedBy_0 11 rfl)
theorem dX12_movedBy_25 : decode cX12_movedBy 25 = .ok (.iaload, 1) := dk_46 (bs_at BX12_movedBy_0 12 rfl)
theorem dX12_movedBy_26 : decode cX12_movedBy 26 = .ok (.iadd, 1) := dk_96 (bs_at BX12_movedBy_0 13 rfl)
theorem dX12_movedBy_27 : decode cX12_movedBy 27 = .ok (.iaload, 1) := dk_46 (bs_at BX12_movedBy_0 14 rfl)
theorem dX12_movedBy_28 : decode cX12_movedBy 28 = .ok (.iload_n 3, 1) := dk_29 (bs_at BX12_movedBy_0 15 rfl)
theorem dX12_movedBy_29 : decode cX12_movedBy 29 = .ok (.invokestatic 506, 3) := dk_184 1 250 (bs_at BX12_movedBy_0 16 rfl) rfl
theorem dX12_movedBy_32 : decode cX12_movedBy 32 = .ok (.aload_n 0, 1) := dk_42 (bs_at BX12_movedBy_0 17 rfl)
theorem dX12_movedBy_33 : decode cX12_movedBy 33 = .ok (.getfield 126, 3) := dk_180 0 126 (bs_at BX12_movedBy_0 18 rfl) rfl
theorem dX12_movedBy_36 : decode cX12_movedBy 36 = .ok (.sipush 128, 3) := dk_17 0 128 (bs_at BX12_movedBy_0 19 rfl) rfl
theorem dX12_movedBy_39 : decode cX12_movedBy 39 = .ok (.iload_n 1, 1) := dk_27 (bs_at BX12_movedBy_0 20 rfl)
theorem dX12_movedBy_40 : decode cX12_movedBy 40 = .ok (.iconst 1, 1) := dk_4 (bs_at BX12_movedBy_0 21 rfl)
theorem dX12_movedBy_41 : decode cX12_movedBy 41 = .ok (.iadd, 1) := dk_96 (bs_at BX12_movedBy_0 22 rfl)
theorem dX12_movedBy_42 : decode cX12_movedBy 42 = .ok (.imul, 1) := dk_104 (bs_at BX12_movedBy_0 23 rfl)
theorem BX12_movedBy_43 : bsegs (ByteArray.data cX12_movedBy |>.toList.drop 43) 43 [(43, [28]), (44, [4]), (45, [29]), (46, [120]), (47, [128]), (48, [96]), (49, [46]), (50, [96]), (51, [172])] = true := by decide +kernel
theorem dX12_movedBy_43 : decode cX12_movedBy 43 = .ok (.iload_n 2, 1) := dk_28 (bs_at BX12_movedBy_43 0 rfl)
theorem dX12_movedBy_44 : decode cX12_movedBy 44 = .ok (.iconst 1, 1) := dk_4 (bs_at BX12_movedBy_43 1 rfl)
theorem dX12_movedBy_45 : decode cX12_movedBy 45 = .ok (.iload_n 3, 1) := dk_29 (bs_at BX12_movedBy_43 2 rfl)
theorem dX12_movedBy_46 : decode cX12_movedBy 46 = .ok (.ishl, 1) := dk_120 (bs_at BX12_movedBy_43 3 rfl)
theorem dX12_movedBy_47 : decode cX12_movedBy 47 = .ok (.ior, 1) := dk_128 (bs_at BX12_movedBy_43 4 rfl)
theorem dX12_movedBy_48 : decode cX12_movedBy 48 = .ok (.iadd, 1) := dk_96 (bs_at BX12_movedBy_43 5 rfl)
theorem dX12_movedBy_49 : decode cX12_movedBy 49 = .ok (.iaload, 1) := dk_46 (bs_at BX12_movedBy_43 6 rfl)
theorem dX12_movedBy_50 : decode cX12_movedBy 50 = .ok (.iadd, 1) := dk_96 (bs_at BX12_movedBy_43 7 rfl)
theorem dX12_movedBy_51 : decode cX12_movedBy 51 = .ok (.ireturn, 1) := dk_172 (bs_at BX12_movedBy_43 8 rfl)
theorem ggX12_around_X12_apart : GoodIn wsX12_around wsX12_apart := gi_ch ch_X12_around ch_X12_apart (by decide +kernel)
theorem gX12_around_X12_apart : GoodIn wsX12_around (va_wsS RX12 494 yX12_apart wsX12_apart) := gi_ch ch_X12_around (ch_s [1276, 1277, 156] rfl ch_X12_apart) (by decide +kernel)
theorem ggX12_agrees_X12_is : GoodIn wsX12_agrees wsX12_is := gi_ch ch_X12_agrees ch_X12_is (by decide +kernel)
theorem gX12_agrees_X12_is : GoodIn wsX12_agrees (va_wsS RX12 436 yX12_is wsX12_is) := gi_ch ch_X12_agrees (ch_s [1189, 1190, 156] rfl ch_X12_is) (by decide +kernel)
theorem ggX12_movedBy_X12_agrees : GoodIn wsX12_movedBy wsX12_agrees := gi_ch ch_X12_movedBy ch_X12_agrees (by decide +kernel)
theorem gX12_movedBy_X12_agrees : GoodIn wsX12_movedBy (va_wsS RX12 503 yX12_agrees wsX12_agrees) := gi_ch ch_X12_movedBy (ch_s [1289, 1290, 156] rfl ch_X12_agrees) (by decide +kernel)
theorem ggX12_movedBy_X12_around : GoodIn wsX12_movedBy wsX12_around := gi_ch ch_X12_movedBy ch_X12_around (by decide +kernel)
theorem gX12_movedBy_X12_around : GoodIn wsX12_movedBy (va_wsS RX12 506 yX12_around wsX12_around) := gi_ch ch_X12_movedBy (ch_s [1292, 1293, 156] rfl ch_X12_around) (by decide +kernel)
noncomputable def apv (a b : Int) : Int := if b < a then a - b else b - a
noncomputable def arv (a b : Int) : Int := if 3 < apv a b then 7 - apv a b else apv a b
theorem arv_rng {a b : Int} (ha : 0 ≤ a ∧ a ≤ 6) (hb : 0 ≤ b ∧ b ≤ 6) : 0 ≤ arv a b ∧ arv a b ≤ 3 := by
  unfold arv apv
  (repeat' split) <;> omega
noncomputable abbrev Isb (x y : Int32) : Prop := ((x >>> (y &&& 31)) &&& 1).toInt = 1
noncomputable abbrev Agr (u n : Int) : Prop := ¬ Isb (nI u.toNat) (nI ((n + 1) % 7).toNat) ∧ ¬ Isb (nI u.toNat) (nI ((n + 6) % 7).toNat)
theorem agr_0 : ∀ n : Nat, n < 7 → Agr 0 n := by decide +kernel
theorem agr_1 : Agr 1 0 := by decide +kernel
theorem agr_not : ∀ u : Nat, u < 128 → 1 ≤ u → ∃ n : Nat, n < 7 ∧ ¬ Agr u n := by decide +kernel
noncomputable def orb (u n : Int) : Int := (nI u.toNat ||| ((1 : Int32) <<< (nI n.toNat &&& 31))).toInt
theorem orb_0 : orb 0 0 = 1 := by decide +kernel
theorem orb_1 : orb 1 0 = 1 := by decide +kernel
theorem orb_rng : ∀ u : Nat, u < 128 → ∀ n : Nat, n < 7 → 0 ≤ orb u n ∧ orb u n < 128 := by decide +kernel
noncomputable def mbv (fw fp fm : Nat → Int32) (k u n : Int) : Int := if Agr u n then arv (fw (35 + (fp k.toNat).toInt).toNat).toInt n + (fm (128 * (k + 1) + orb u n).toNat).toInt else 100000000
noncomputable def MnT (fw fp fm : Nat → Int32) (k u m v : Int) : Prop := (v = 100000000 ∨ ∃ m', 0 ≤ m' ∧ m' < m ∧ v = mbv fw fp fm k u m') ∧ ∀ m', 0 ≤ m' → m' < m → v ≤ mbv fw fp fm k u m'
theorem MnT.base {fw fp fm : Nat → Int32} {k u : Int} : MnT fw fp fm k u 0 100000000 := ⟨Or.inl rfl, fun m' h1 h2 => absurd h2 (by omega)⟩
theorem MnT.lt {fw fp fm : Nat → Int32} {k u m v r : Int} (h : MnT fw fp fm k u m v) (hm : 0 ≤ m) (hr : r = mbv fw fp fm k u m) (hl : r < v) : MnT fw fp fm k u (m + 1) r := by
  refine ⟨Or.inr ⟨m, hm, by omega, hr⟩, fun m' h1 h2 => ?_⟩
  by_cases e : m' = m
  · subst e; omega
  · have := h.2 m' h1 (by omega)
    omega
theorem MnT.ge {fw fp fm : Nat → Int32} {k u m v r : Int} (h : MnT fw fp fm k u m v) (hr : r = mbv fw fp fm k u m) (hl : v ≤ r) : MnT fw fp fm k u (m + 1) v := by
  refine ⟨?_, fun m' h1 h2 => ?_⟩
  · rcases h.1 with e | ⟨m', h1, h2, h3⟩
    · exact Or.inl e
    · exact Or.inr ⟨m', h1, by omega, h3⟩
  · by_cases e : m' = m
    · subst e; omega
    · exact h.2 m' h1 (by omega)
noncomputable def Zr (fm : Nat → Int32) (n s : Int) : Prop := ∀ j : Int, 0 ≤ j → j < s → (fm (128 * n + j).toNat).toInt = 0
theorem Zr.base {fm : Nat → Int32} {n : Int} : Zr fm n 0 := fun j h1 h2 => absurd h2 (by omega)
theorem Zr.put {fm : Nat → Int32} {n s : Int} (h : Zr fm n s) (hn : 0 ≤ n ∧ 0 ≤ s) : Zr (upd fm (128 * n + s).toNat 0) n (s + 1) := fun j h1 h2 => by
  by_cases e : j = s
  · subst e; rw [pk_us]; rfl
  · rw [pk_un (by omega)]; exact h j h1 (by omega)
noncomputable def TOK (fw fp fm : Nat → Int32) (k0 s0 n : Int) : Prop := Zr fm n 128 ∧ ∀ k u : Int, 0 ≤ k → k < n → 0 ≤ u → u < 128 → (k0 < k ∨ (k = k0 ∧ u < s0)) → (∃ m : Int, 0 ≤ m ∧ m ≤ 6 ∧ (fm (128 * k + u).toNat).toInt = mbv fw fp fm k u m) ∧ (u = 1 → (fm (128 * k + u).toNat).toInt ≤ 3 * (n - k))
theorem TOK.base {fw fp fm : Nat → Int32} {k0 n : Int} (h : Zr fm n 128) (hk : k0 + 1 = n) : TOK fw fp fm k0 0 n := ⟨h, fun k u h1 h2 h3 h4 h5 => absurd h5 (by omega)⟩
theorem TOK.down {fw fp fm : Nat → Int32} {k0 s0 n : Int} (h : TOK fw fp fm k0 s0 n) (hf : 127 < s0) : TOK fw fp fm (k0 - 1) 0 n := ⟨h.1, fun k u h1 h2 h3 h4 h5 => h.2 k u h1 h2 h3 h4 (by omega)⟩
theorem TOK.put {fw fp fm : Nat → Int32} {k0 s0 n : Int} {v : Int32} (h : TOK fw fp fm k0 s0 n) (hk : 0 ≤ k0 ∧ k0 < n ∧ n ≤ 8) (hs : 0 ≤ s0 ∧ s0 < 128) (hw : RwOK fw) (hp : Rg 8 0 7 fp) (hv : MnT fw fp fm k0 s0 7 v.toInt) : TOK fw fp (upd fm (128 * k0 + s0).toNat v) k0 (s0 + 1) n := by
  have same : ∀ k u m, k0 ≤ k → 0 ≤ u → u < 128 → 0 ≤ m → m ≤ 6 → mbv fw fp (upd fm (128 * k0 + s0).toNat v) k u m = mbv fw fp fm k u m := by
    intro k u m h1 h2 h3 h4 h5
    unfold mbv
    have ho := orb_rng u.toNat (by omega) m.toNat (by omega)
    rw [show ((u.toNat : Nat) : Int) = u by omega, show ((m.toNat : Nat) : Int) = m by omega] at ho
    rw [pk_un (show ¬ (128 * (k + 1) + orb u m).toNat = (128 * k0 + s0).toNat by omega)]
  have note : ∀ m, 0 ≤ m → m ≤ 6 → 0 ≤ arv (fw (35 + (fp k0.toNat).toInt).toNat).toInt m ∧ arv (fw (35 + (fp k0.toNat).toInt).toNat).toInt m ≤ 3 := by
    intro m m1 m2
    have h7 := hp k0.toNat (by omega)
    have h6 := PR.r_35 (hw.1 (35 + (fp k0.toNat).toInt).toNat (by omega)) (by omega)
    exact arv_rng h6 (by omega)
  have one : (fm (128 * (k0 + 1) + 1).toNat).toInt ≤ 3 * (n - k0 - 1) := by
    by_cases e : k0 + 1 = n
    · have := h.1 1 (by omega) (by omega)
      rw [e, this]; omega
    · have := (h.2 (k0 + 1) 1 (by omega) (by omega) (by omega) (by omega) (by omega)).2 rfl
      omega
  have le1 : ∀ u, (u = 0 ∨ u = 1) → u = s0 → v.toInt ≤ 3 * (n - k0) := by
    intro u hu e
    subst e
    have h0 := hv.2 0 (by omega) (by omega)
    have hn := note 0 (by omega) (by omega)
    unfold mbv at h0
    have ha : Agr u 0 := by
      rcases hu with rfl | rfl
      · exact agr_0 0 (by decide)
      · exact agr_1
    have hob : orb u 0 = 1 := by
      rcases hu with rfl | rfl
      · exact orb_0
      · exact orb_1
    rw [if_pos ha, hob] at h0
    omega
  refine ⟨fun j h1 h2 => by rw [pk_un (by omega)]; exact h.1 j h1 h2, fun k u h1 h2 h3 h4 h5 => ?_⟩
  by_cases e : k = k0 ∧ u = s0
  · obtain ⟨rfl, rfl⟩ := e
    refine ⟨?_, fun hu => by rw [pk_us]; exact le1 u (Or.inr hu) rfl⟩
    rcases hv.1 with ef | ⟨m', m1, m2, m3⟩
    · by_cases hu : u = 0
      · have := le1 u (Or.inl hu) rfl
        omega
      · obtain ⟨m, m1, m2⟩ := agr_not u.toNat (by omega) (by omega)
        rw [show ((u.toNat : Nat) : Int) = u by omega] at m2
        refine ⟨m, by omega, by omega, ?_⟩
        rw [pk_us, same k u m (by omega) h3 h4 (by omega) (by omega), ef]
        unfold mbv
        rw [if_neg m2]
    · exact ⟨m', m1, by omega, by rw [pk_us, same k u m' (by omega) h3 h4 m1 (by omega)]; exact m3⟩
  · obtain ⟨⟨m, m1, m2, m3⟩, h9⟩ := h.2 k u h1 h2 h3 h4 (by omega)
    refine ⟨⟨m, m1, m2, ?_⟩, fun hu => ?_⟩
    · rw [pk_un (show ¬ (128 * k + u).toNat = (128 * k0 + s0).toNat by omega), same k u m (by omega) h3 h4 m1 m2]; exact m3
    · rw [pk_un (show ¬ (128 * k + u).toNat = (128 * k0 + s0).toNat by omega)]; exact h9 hu
noncomputable def WTu (fw fp fm : Nat → Int32) (k u i : Int) : Prop := ∃ m, i ≤ m ∧ 0 ≤ i ∧ m ≤ 6 ∧ (fm (128 * k + u).toNat).toInt = mbv fw fp fm k u m
theorem WTu.base {fw fp fm : Nat → Int32} {k u n : Int} (h : TOK fw fp fm (-1) 0 n) (hk : 0 ≤ k ∧ k < n) (hu : 0 ≤ u ∧ u < 128) : WTu fw fp fm k u 0 := by
  obtain ⟨⟨m, m1, m2, m3⟩, -⟩ := h.2 k u hk.1 hk.2 hu.1 hu.2 (by omega)
  exact ⟨m, m1, by omega, m2, m3⟩
theorem WTu.next {fw fp fm : Nat → Int32} {k u i r x : Int} (h : WTu fw fp fm k u i) (hr : r = mbv fw fp fm k u i) (hx : x = (fm (128 * k + u).toNat).toInt) (hn : r ≠ x) : i + 1 ≤ 6 ∧ WTu fw fp fm k u (i + 1) := by
  obtain ⟨m, m1, m0, m2, m3⟩ := h
  have : i ≠ m := fun e => hn (by rw [hr, hx, m3, e])
  exact ⟨by omega, m, by omega, by omega, m2, m3⟩
set_option maxRecDepth 100000 in
noncomputable def E_v_apart (x : Int32) (y : Int32) : Int32 :=
  if x ≤ y then (Lt (y - x : Int32) (fun x_65 => (x_65 : Int32))) else (Lt (x - y : Int32) (fun x_66 => (x_66 : Int32)))
set_option maxHeartbeats 4000000 in
set_option maxRecDepth 100000 in
theorem v_apart (l : Launch) (D : va_G) (K : Nat → ClassId) (x : Int32) (y : Int32) (sz : Nat) (zx : 0 ≤ x.toInt ∧ x.toInt ≤ 6) (zy : 0 ≤ y.toInt ∧ y.toInt ≤ 6) : Met l yX12_apart wsX12_apart ({ frames := 0, cells := 0, slots := 0, locals := 0 }) (va_Pc [.int x, .int y] (Pre D K [] sz)) (vp_Si (fun r : Int32 => (r.toInt = apv x.toInt y.toInt ∧ True) ∧ r = E_v_apart x y)) 0 0 (fun _ => False) := by
  refine Met.ofW (cc := cX12_apart) (maxL := 2) (ret := (some .int)) (by decide +kernel) rfl ?_
  intro p e s m args below meth c s₁ B hml hv
  obtain ⟨rfl, hsz, hP, hK, hD0, hN⟩ := hv
  have hx := B.exec
  have hb := B.bytes
  have hr := B.returns
  have hts := atoms_spec (ws := wsX12_apart) B.pre
  have hown : s.vm.findClass RX12 = some m.cls := findClass_of_methodNamed B.named
  have hlocks := B.notSynchronized
  subst hsz
  have hD := hD0
  replace hP : va_P D vwCl [] s.heap := hP
  have hl := lv_entry [.int x, .int y] (n := 2) (Nat.le_of_ble_eq_true rfl)
  rw [lg_entry_eq]
  generalize (lg_sl [.int x, .int y] ++ List.replicate (2 - (lg_sl [.int x, .int y]).length) Slot.unset).toArray = ls at hl ⊢
  have hl : lv_has ls 2 [(0, .int x), (1, .int y)] := hl
  generalize hQ : MQ below _ _ s _ _ _ = Q
  have hE := E_v_apart.eq_def x y
  refine lv_iload_n hx hb dX12_apart_0 rfl (lv_at hl 0 rfl) (lv_iload_n hx hb dX12_apart_1 rfl (lv_at hl 1 rfl) (lv_icmp_le (tgt := 11) hx hb dX12_apart_2 (by decide +kernel) (fun c_64 => ?_) (fun c_64 => ?_)))
  · have c_64i := i_le (x := x.toInt) (y := y.toInt) rfl rfl c_64
    replace hE := hE.trans (if_pos c_64)
    refine lv_iload_n hx hb dX12_apart_11 rfl (lv_at hl 1 rfl) (lv_iload_n hx hb dX12_apart_12 rfl (lv_at hl 0 rfl) (lv_isub hx hb dX12_apart_13 (lv_topi (fun x_65 ex_65 => ?_))))
    replace hE := hE.trans (Lt_in ex_65)
    have hx_65 : x_65.toInt = (y.toInt - x.toInt) := by rw [ex_65]; exact i_sub rfl rfl (by omega)
    rw [← hQ]
    exact W.iret (v := x_65) hx hb hr (fun t ht hW => ⟨_, rfl, ⟨⟨(by show x_65.toInt = apv x.toInt y.toInt; rw [hx_65]; unfold apv; (repeat' split) <;> omega), trivial⟩, hE.symm⟩, ht⟩) (fun q hq => by cases hq) dX12_apart_14
  · have c_64i := i_nle (x := x.toInt) (y := y.toInt) rfl rfl c_64
    replace hE := hE.trans (if_neg c_64)
    refine lv_iload_n hx hb dX12_apart_5 rfl (lv_at hl 0 rfl) (lv_iload_n hx hb dX12_apart_6 rfl (lv_at hl 1 rfl) (lv_isub hx hb dX12_apart_7 (lv_topi (fun x_66 ex_66 => ?_))))
    replace hE := hE.trans (Lt_in ex_66)
    have hx_66 : x_66.toInt = (x.toInt - y.toInt) := by rw [ex_66]; exact i_sub rfl rfl (by omega)
    refine lv_goto (tgt := 14) hx hb dX12_apart_8 (by decide +kernel) ?_
    rw [← hQ]
    exact W.iret (v := x_66) hx hb hr (fun t ht hW => ⟨_, rfl, ⟨⟨(by show x_66.toInt = apv x.toInt y.toInt; rw [hx_66]; unfold apv; (repeat' split) <;> omega), trivial⟩, hE.symm⟩, ht⟩) (fun q hq => by cases hq) dX12_apart_14
set_option maxRecDepth 100000 in
noncomputable def E_v_around (x : Int32) (y : Int32) : Int32 :=
  Lt (E_v_apart x y) (fun r_69 => if r_69 ≤ 3 then ((r_69 : Int32)) else (Lt (7 - r_69 : Int32) (fun x_72 => (x_72 : Int32))))
set_option maxHeartbeats 4000000 in
set_option maxRecDepth 100000 in
theorem v_around (l : Launch) (D : va_G) (K : Nat → ClassId) (x : Int32) (y : Int32) (sz : Nat) (zx : 0 ≤ x.toInt ∧ x.toInt ≤ 6) (zy : 0 ≤ y.toInt ∧ y.toInt ≤ 6) : Met l yX12_around wsX12_around ({ frames := 1, cells := 0, slots := 0, locals := 21 }) (va_Pc [.int x, .int y] (Pre D K [] sz)) (vp_Si (fun r : Int32 => (r.toInt = arv x.toInt y.toInt ∧ True) ∧ r = E_v_around x y)) 0 0 (fun _ => False) := by
  refine Met.ofW (cc := cX12_around) (maxL := 3) (ret := (some .int)) (by decide +kernel) rfl ?_
  intro p e s m args below meth c s₁ B hml hv
  obtain ⟨rfl, hsz, hP, hK, hD0, hN⟩ := hv
  have hx := B.exec
  have hb := B.bytes
  have hr := B.returns
  have hts := atoms_spec (ws := wsX12_around) B.pre
  have hown : s.vm.findClass RX12 = some m.cls := findClass_of_methodNamed B.named
  have hlocks := B.notSynchronized
  subst hsz
  have hD := hD0
  replace hP : va_P D vwCl [] s.heap := hP
  have hl := lv_entry [.int x, .int y] (n := 3) (Nat.le_of_ble_eq_true rfl)
  rw [lg_entry_eq]
  generalize (lg_sl [.int x, .int y] ++ List.replicate (3 - (lg_sl [.int x, .int y]).length) Slot.unset).toArray = ls at hl ⊢
  have hl : lv_has ls 3 [(0, .int x), (1, .int y)] := hl
  generalize hQ : MQ below _ _ s _ _ _ = Q
  have hE := E_v_around.eq_def x y
  refine lv_iload_n hx hb dX12_around_0 rfl (lv_at hl 0 rfl) (lv_iload_n hx hb dX12_around_1 rfl (lv_at hl 1 rfl) (pci (va_runS (As := [.int x, .int y]) (rest := []) ⟨hx, hb, hml, hown, hts⟩ (v_apart l D K x y s.heap.size (by first | omega | decide) (by first | omega | decide)) (va_cwS 2 hts gX12_around_X12_apart rfl rfl rfl (by decide +kernel) ⟨Nat.le_of_ble_eq_true rfl, Nat.le_of_ble_eq_true rfl⟩) (mkS hK hN (va_P.nil) (va_D.nil (A := fun _ => True))) rfl rfl hl.1 rfl (lv_room (Nat.le_of_ble_eq_true rfl)) dX12_around_2 ⟨Nat.le_of_ble_eq_true rfl, Nat.le_of_ble_eq_true rfl⟩) (fun r_69 hw => ?_)))
  obtain ⟨hw, k_70⟩ := hw
  replace hE := hE.trans (Lt_in k_70)
  obtain ⟨hapv_r_69, -⟩ := hw
  have hb_r_69 : 0 ≤ r_69.toInt ∧ r_69.toInt ≤ 6 := by rw [hapv_r_69]; unfold apv; (repeat' split) <;> omega
  refine lv_istore_n (lv' := [(2, .int r_69), (0, .int x), (1, .int y)]) hx hb dX12_around_5 rfl hl (by decide +kernel) rfl (fun ls hl => ?_)
  refine lv_iload_n hx hb dX12_around_6 rfl (lv_at hl 0 rfl) (lv_iconst (v := 3) hx hb dX12_around_7 (by decide +kernel) (lv_icmp_le (tgt := 18) hx hb dX12_around_8 (by decide +kernel) (fun c_71 => ?_) (fun c_71 => ?_)))
  · have c_71i := i_le (x := r_69.toInt) (y := 3) rfl rfl c_71
    replace hE := hE.trans (if_pos c_71)
    refine lv_iload_n hx hb dX12_around_18 rfl (lv_at hl 0 rfl) ?_
    rw [← hQ]
    exact W.iret (v := r_69) hx hb hr (fun t ht hW => ⟨_, rfl, ⟨⟨(by show r_69.toInt = arv x.toInt y.toInt; unfold arv; rw [← hapv_r_69]; split <;> omega), trivial⟩, hE.symm⟩, ht⟩) (fun q hq => by cases hq) dX12_around_19
  · have c_71i := i_nle (x := r_69.toInt) (y := 3) rfl rfl c_71
    replace hE := hE.trans (if_neg c_71)
    refine lv_bipush (v := 7) hx hb dX12_around_11 (by decide +kernel) (lv_iload_n hx hb dX12_around_13 rfl (lv_at hl 0 rfl) (lv_isub hx hb dX12_around_14 (lv_topi (fun x_72 ex_72 => ?_))))
    replace hE := hE.trans (Lt_in ex_72)
    have hx_72 : x_72.toInt = (7 - r_69.toInt) := by rw [ex_72]; exact i_sub (show (7 : Int32).toInt = 7 from rfl) rfl (by omega)
    refine lv_goto (tgt := 19) hx hb dX12_around_15 (by decide +kernel) ?_
    rw [← hQ]
    exact W.iret (v := x_72) hx hb hr (fun t ht hW => ⟨_, rfl, ⟨⟨(by show x_72.toInt = arv x.toInt y.toInt; rw [hx_72]; unfold arv; rw [← hapv_r_69]; split <;> omega), trivial⟩, hE.symm⟩, ht⟩) (fun q hq => by cases hq) dX12_around_19
set_option maxRecDepth 100000 in
noncomputable def E_v_isX (x : Int32) (y : Int32) : Int32 :=
  Lt (x >>> (y &&& 31) : Int32) (fun x_64 => Lt (x_64 &&& 1 : Int32) (fun x_65 => if x_65 = 1 then ((1 : Int32)) else ((0 : Int32))))
set_option maxHeartbeats 4000000 in
set_option maxRecDepth 100000 in
theorem v_isX (l : Launch) (D : va_G) (K : Nat → ClassId) (x : Int32) (y : Int32) (sz : Nat) : Met l yX12_is wsX12_is ({ frames := 0, cells := 0, slots := 0, locals := 0 }) (va_Pc [.int x, .int y] (Pre D K [] sz)) (vp_Si (fun r : Int32 => (((r = 1 ∧ Isb x y) ∨ (r = 0 ∧ ¬ Isb x y)) ∧ True) ∧ r = E_v_isX x y)) 0 0 (fun _ => False) := by
  refine Met.ofW (cc := cX12_is) (maxL := 2) (ret := (some .boolean)) (by decide +kernel) rfl ?_
  intro p e s m args below meth c s₁ B hml hv
  obtain ⟨rfl, hsz, hP, hK, hD0, hN⟩ := hv
  have hx := B.exec
  have hb := B.bytes
  have hr := B.returns
  have hts := atoms_spec (ws := wsX12_is) B.pre
  have hown : s.vm.findClass RX12 = some m.cls := findClass_of_methodNamed B.named
  have hlocks := B.notSynchronized
  subst hsz
  have hD := hD0
  replace hP : va_P D vwCl [] s.heap := hP
  have hl := lv_entry [.int x, .int y] (n := 2) (Nat.le_of_ble_eq_true rfl)
  rw [lg_entry_eq]
  generalize (lg_sl [.int x, .int y] ++ List.replicate (2 - (lg_sl [.int x, .int y]).length) Slot.unset).toArray = ls at hl ⊢
  have hl : lv_has ls 2 [(0, .int x), (1, .int y)] := hl
  generalize hQ : MQ below _ _ s _ _ _ = Q
  have hE := E_v_isX.eq_def x y
  refine lv_iload_n hx hb dX12_is_0 rfl (lv_at hl 0 rfl) (lv_iload_n hx hb dX12_is_1 rfl (lv_at hl 1 rfl) (lv_ishr hx hb dX12_is_2 (lv_topi (fun x_64 ex_64 => ?_))))
  replace hE := hE.trans (Lt_in ex_64)
  refine lv_iconst (v := 1) hx hb dX12_is_3 (by decide +kernel) (lv_iand hx hb dX12_is_4 (lv_topi (fun x_65 ex_65 => ?_)))
  replace hE := hE.trans (Lt_in ex_65)
  have hx_65 : 0 ≤ x_65.toInt ∧ x_65.toInt ≤ 1 := by rw [ex_65]; exact i_mask x_64 1 rfl (by decide +kernel)
  refine lv_iconst (v := 1) hx hb dX12_is_5 (by decide +kernel) (lv_icmp_ne (tgt := 13) hx hb dX12_is_6 (by decide +kernel) (fun c_66 => ?_) (fun c_66 => ?_))
  · have c_66i := i_ne (x := x_65.toInt) (y := 1) rfl rfl c_66
    replace hE := hE.trans (if_neg c_66)
    refine lv_iconst (v := 0) hx hb dX12_is_13 (by decide +kernel) ?_
    rw [← hQ]
    exact W.zret (v := 0) hx hb hr (by decide +kernel) (fun t ht hW => ⟨_, rfl, ⟨⟨(by first | exact Or.inl ⟨rfl, by show ((x >>> (y &&& 31)) &&& 1).toInt = 1; rw [← ex_64, ← ex_65]; omega⟩ | exact Or.inr ⟨rfl, by show ¬ ((x >>> (y &&& 31)) &&& 1).toInt = 1; rw [← ex_64, ← ex_65]; omega⟩), trivial⟩, hE.symm⟩, ht⟩) (fun q hq => by cases hq) dX12_is_14
  · have c_66i := i_eq (x := x_65.toInt) (y := 1) rfl rfl c_66
    replace hE := hE.trans (if_pos c_66)
    refine lv_iconst (v := 1) hx hb dX12_is_9 (by decide +kernel) (lv_goto (tgt := 14) hx hb dX12_is_10 (by decide +kernel) ?_)
    rw [← hQ]
    exact W.zret (v := 1) hx hb hr (by decide +kernel) (fun t ht hW => ⟨_, rfl, ⟨⟨(by first | exact Or.inl ⟨rfl, by show ((x >>> (y &&& 31)) &&& 1).toInt = 1; rw [← ex_64, ← ex_65]; omega⟩ | exact Or.inr ⟨rfl, by show ¬ ((x >>> (y &&& 31)) &&& 1).toInt = 1; rw [← ex_64, ← ex_65]; omega⟩), trivial⟩, hE.symm⟩, ht⟩) (fun q hq => by cases hq) dX12_is_14
set_option maxRecDepth 100000 in
noncomputable def E_v_agrees (x : Int32) (y : Int32) : Int32 :=
  Lt (y + 1 : Int32) (fun x_93 => Lt (x_93 - x_93 / 7 * 7 : Int32) (fun x_94 => Lt (E_v_isX x x_94) (fun r_95 => if r_95 = 1 then ((0 : Int32)) else (Lt (y + 6 : Int32) (fun x_101 => Lt (x_101 - x_101 / 7 * 7 : Int32) (fun x_102 => Lt (E_v_isX x x_102) (fun r_103 => if r_103 = 1 then ((0 : Int32)) else ((1 : Int32)))))))))
set_option maxHeartbeats 4000000 in
set_option maxRecDepth 100000 in
theorem v_agrees (l : Launch) (D : va_G) (K : Nat → ClassId) (x : Int32) (y : Int32) (sz : Nat) (zx : 0 ≤ x.toInt ∧ x.toInt ≤ 127) (zy : 0 ≤ y.toInt ∧ y.toInt ≤ 6) : Met l yX12_agrees wsX12_agrees ({ frames := 1, cells := 0, slots := 0, locals := 21 }) (va_Pc [.int x, .int y] (Pre D K [] sz)) (vp_Si (fun r : Int32 => (((r = 1 ∧ Agr x.toInt y.toInt) ∨ (r = 0 ∧ ¬ Agr x.toInt y.toInt)) ∧ True) ∧ r = E_v_agrees x y)) 0 0 (fun _ => False) := by
  refine Met.ofW (cc := cX12_agrees) (maxL := 2) (ret := (some .boolean)) (by decide +kernel) rfl ?_
  intro p e s m args below meth c s₁ B hml hv
  obtain ⟨rfl, hsz, hP, hK, hD0, hN⟩ := hv
  have hx := B.exec
  have hb := B.bytes
  have hr := B.returns
  have hts := atoms_spec (ws := wsX12_agrees) B.pre
  have hown : s.vm.findClass RX12 = some m.cls := findClass_of_methodNamed B.named
  have hlocks := B.notSynchronized
  subst hsz
  have hD := hD0
  replace hP : va_P D vwCl [] s.heap := hP
  have hl := lv_entry [.int x, .int y] (n := 2) (Nat.le_of_ble_eq_true rfl)
  rw [lg_entry_eq]
  generalize (lg_sl [.int x, .int y] ++ List.replicate (2 - (lg_sl [.int x, .int y]).length) Slot.unset).toArray = ls at hl ⊢
  have hl : lv_has ls 2 [(0, .int x), (1, .int y)] := hl
  generalize hQ : MQ below _ _ s _ _ _ = Q
  have hE := E_v_agrees.eq_def x y
  have zyn : x = nI x.toInt.toNat := i_ofN rfl (by omega)
  refine lv_iload_n hx hb dX12_agrees_0 rfl (lv_at hl 0 rfl) (lv_iload_n hx hb dX12_agrees_1 rfl (lv_at hl 1 rfl) (lv_iconst (v := 1) hx hb dX12_agrees_2 (by decide +kernel) (lv_iadd hx hb dX12_agrees_3 (lv_topi (fun x_93 ex_93 => ?_)))))
  replace hE := hE.trans (Lt_in ex_93)
  have hx_93 : x_93.toInt = (y.toInt + 1) := by rw [ex_93]; exact i_add rfl (show (1 : Int32).toInt = 1 from rfl) (by omega)
  refine lv_bipush (v := 7) hx hb dX12_agrees_4 (by decide +kernel) (lv_irem hx hb dX12_agrees_6 (by decide +kernel) (lv_topi (fun x_94 ex_94 => ?_)))
  replace hE := hE.trans (Lt_in ex_94)
  have hx_94 : x_94.toInt = ((y.toInt + 1) % 7) := by rw [ex_94]; exact i_rem hx_93 (show (7 : Int32).toInt = 7 from rfl) (by omega) (by omega)
  have hn0 : x_94 = nI (((y.toInt + 1) % 7)).toNat := by have q := i_ofN (a := x_94) rfl (by omega); rwa [hx_94] at q
  refine pci (va_runS (As := [.int x, .int x_94]) (rest := []) ⟨hx, hb, hml, hown, hts⟩ (v_isX l D K x x_94 s.heap.size) (va_cwS 2 hts gX12_agrees_X12_is rfl rfl rfl (by decide +kernel) ⟨Nat.le_of_ble_eq_true rfl, Nat.le_of_ble_eq_true rfl⟩) (mkS hK hN (va_P.nil) (va_D.nil (A := fun _ => True))) rfl rfl hl.1 rfl (lv_room (Nat.le_of_ble_eq_true rfl)) dX12_agrees_7 ⟨Nat.le_of_ble_eq_true rfl, Nat.le_of_ble_eq_true rfl⟩) (fun r_95 hw => ?_)
  obtain ⟨⟨hw, -⟩, k_96⟩ := hw
  replace hE := hE.trans (Lt_in k_96)
  rcases hw with ⟨rfl, h_97⟩ | ⟨rfl, h_98⟩
  · replace hE := (hE).trans (if_pos rfl)
    refine lv_if_ne (tgt := 31) hx hb dX12_agrees_10 (by decide +kernel) (fun c_99 => ?_) (fun c_99 => absurd c_99 (by decide +kernel))
    refine lv_iconst (v := 0) hx hb dX12_agrees_31 (by decide +kernel) ?_
    rw [← hQ]
    exact W.zret (v := 0) hx hb hr (by decide +kernel) (fun t ht hW => ⟨_, rfl, ⟨⟨Or.inr ⟨rfl, (by intro q; unfold Agr at q; rw [← zyn] at q; first | exact q.1 (by rw [← hn0]; assumption) | exact q.2 (by rw [← hn1]; assumption))⟩, trivial⟩, hE.symm⟩, ht⟩) (fun q hq => by cases hq) dX12_agrees_32
  · replace hE := (hE).trans (if_neg (by first | decide | (intro h9; have h8 := congrArg Int32.toInt h9; omega)))
    refine lv_if_ne (tgt := 31) hx hb dX12_agrees_10 (by decide +kernel) (fun c_100 => absurd (by decide +kernel) c_100) (fun c_100 => ?_)
    refine lv_iload_n hx hb dX12_agrees_13 rfl (lv_at hl 0 rfl) (lv_iload_n hx hb dX12_agrees_14 rfl (lv_at hl 1 rfl) (lv_bipush (v := 6) hx hb dX12_agrees_15 (by decide +kernel) (lv_iadd hx hb dX12_agrees_17 (lv_topi (fun x_101 ex_101 => ?_)))))
    replace hE := hE.trans (Lt_in ex_101)
    have hx_101 : x_101.toInt = (y.toInt + 6) := by rw [ex_101]; exact i_add rfl (show (6 : Int32).toInt = 6 from rfl) (by omega)
    refine lv_bipush (v := 7) hx hb dX12_agrees_18 (by decide +kernel) (lv_irem hx hb dX12_agrees_20 (by decide +kernel) (lv_topi (fun x_102 ex_102 => ?_)))
    replace hE := hE.trans (Lt_in ex_102)
    have hx_102 : x_102.toInt = ((y.toInt + 6) % 7) := by rw [ex_102]; exact i_rem hx_101 (show (7 : Int32).toInt = 7 from rfl) (by omega) (by omega)
    have hn1 : x_102 = nI (((y.toInt + 6) % 7)).toNat := by have q := i_ofN (a := x_102) rfl (by omega); rwa [hx_102] at q
    refine pci (va_runS (As := [.int x, .int x_102]) (rest := []) ⟨hx, hb, hml, hown, hts⟩ (v_isX l D K x x_102 s.heap.size) (va_cwS 2 hts gX12_agrees_X12_is rfl rfl rfl (by decide +kernel) ⟨Nat.le_of_ble_eq_true rfl, Nat.le_of_ble_eq_true rfl⟩) (mkS hK hN (va_P.nil) (va_D.nil (A := fun _ => True))) rfl rfl hl.1 rfl (lv_room (Nat.le_of_ble_eq_true rfl)) dX12_agrees_21 ⟨Nat.le_of_ble_eq_true rfl, Nat.le_of_ble_eq_true rfl⟩) (fun r_103 hw => ?_)
    obtain ⟨⟨hw, -⟩, k_104⟩ := hw
    replace hE := hE.trans (Lt_in k_104)
    rcases hw with ⟨rfl, h_105⟩ | ⟨rfl, h_106⟩
    · replace hE := (hE).trans (if_pos rfl)
      refine lv_if_ne (tgt := 31) hx hb dX12_agrees_24 (by decide +kernel) (fun c_107 => ?_) (fun c_107 => absurd c_107 (by decide +kernel))
      refine lv_iconst (v := 0) hx hb dX12_agrees_31 (by decide +kernel) ?_
      rw [← hQ]
      exact W.zret (v := 0) hx hb hr (by decide +kernel) (fun t ht hW => ⟨_, rfl, ⟨⟨Or.inr ⟨rfl, (by intro q; unfold Agr at q; rw [← zyn] at q; first | exact q.1 (by rw [← hn0]; assumption) | exact q.2 (by rw [← hn1]; assumption))⟩, trivial⟩, hE.symm⟩, ht⟩) (fun q hq => by cases hq) dX12_agrees_32
    · replace hE := (hE).trans (if_neg (by first | decide | (intro h9; have h8 := congrArg Int32.toInt h9; omega)))
      refine lv_if_ne (tgt := 31) hx hb dX12_agrees_24 (by decide +kernel) (fun c_108 => absurd (by decide +kernel) c_108) (fun c_108 => ?_)
      refine lv_iconst (v := 1) hx hb dX12_agrees_27 (by decide +kernel) (lv_goto (tgt := 32) hx hb dX12_agrees_28 (by decide +kernel) ?_)
      rw [← hQ]
      exact W.zret (v := 1) hx hb hr (by decide +kernel) (fun t ht hW => ⟨_, rfl, ⟨⟨Or.inl ⟨rfl, (by refine ⟨?_, ?_⟩ <;> rw [← zyn] <;> first | (rw [← hn0]; assumption) | (rw [← hn1]; assumption))⟩, trivial⟩, hE.symm⟩, ht⟩) (fun q hq => by cases hq) dX12_agrees_32
set_option maxRecDepth 100000 in
noncomputable def E_v_movedBy (x : Int32) (y : Int32) (z : Int32) (fw : Nat → Int32) (fp : Nat → Int32) (fm : Nat → Int32) : Int32 :=
  Lt (E_v_agrees y z) (fun r_97 => if r_97 = 1 then (Lt (fp (x : Int32).toNatClampNeg : Int32) (fun x_102 => Lt (35 + x_102 : Int32) (fun x_103 => Lt (fw (x_103 : Int32).toNatClampNeg : Int32) (fun x_104 => Lt (E_v_around x_104 z) (fun r_105 => Lt (x + 1 : Int32) (fun x_107 => Lt (128 * x_107 : Int32) (fun x_108 => Lt (1 <<< (z &&& 31) : Int32) (fun x_109 => Lt (y ||| x_109 : Int32) (fun x_110 => Lt (x_108 + x_110 : Int32) (fun x_111 => Lt (fm (x_111 : Int32).toNatClampNeg : Int32) (fun x_112 => Lt (r_105 + x_112 : Int32) (fun x_113 => (x_113 : Int32))))))))))))) else ((100000000 : Int32)))
set_option maxHeartbeats 4000000 in
set_option maxRecDepth 100000 in
theorem v_movedBy (l : Launch) (D : va_G) (K : Nat → ClassId) (m0 : Nat) (x : Int32) (y : Int32) (z : Int32) (m_0 : Value) (m_1 : Value) (m_2 : Value) (w0 : Nat) (m_4 : Value) (m_5 : Value) (m_6 : Value) (m_7 : Value) (m_8 : Value) (m_9 : Value) (m_10 : Value) (m_11 : Value) (m_12 : Value) (m_13 : Value) (m_14 : Value) (m_15 : Value) (m_16 : Value) (m_17 : Value) (m_18 : Value) (m_19 : Value) (m_20 : Value) (m_21 : Value) (m_22 : Value) (m_23 : Value) (m_24 : Value) (m_25 : Value) (m_26 : Value) (m_27 : Value) (m_28 : Value) (m_29 : Value) (m_30 : Value) (m_31 : Value) (m_32 : Value) (m_33 : Value) (m_34 : Value) (m_35 : Value) (m_36 : Value) (m_37 : Value) (m_38 : Value) (m_39 : Value) (m_40 : Value) (m_41 : Value) (m_42 : Value) (m_43 : Value) (m_44 : Value) (m_45 : Value) (m_46 : Value) (mo : Nat) (pl : Nat) (m_49 : Value) (m_50 : Value) (m_51 : Value) (m_52 : Value) (m_53 : Value) (m_54 : Value) (m_55 : Value) (m_56 : Value) (m_57 : Value) (m_58 : Value) (m_59 : Value) (fw : Nat → Int32) (fp : Nat → Int32) (fm : Nat → Int32) (sz : Nat) (zx : 0 ≤ x.toInt ∧ x.toInt ≤ 7) (zy : 0 ≤ y.toInt ∧ y.toInt ≤ 127) (zz : 0 ≤ z.toInt ∧ z.toInt ≤ 6) (zfw : RwOK fw) (zfp : Rg 8 0 7 fp) (zfm : Rg 1152 0 100000000 fm) : Met l yX12_movedBy wsX12_movedBy ({ frames := 2, cells := 0, slots := 0, locals := 43 }) (va_Pc [.ref m0, .int x, .int y, .int z] (Pre D K [(cc_O m0 12 [m_0, m_1, m_2, .ref w0, m_4, m_5, m_6, m_7, m_8, m_9, m_10, m_11, m_12, m_13, m_14, m_15, m_16, m_17, m_18, m_19, m_20, m_21, m_22, m_23, m_24, m_25, m_26, m_27, m_28, m_29, m_30, m_31, m_32, m_33, m_34, m_35, m_36, m_37, m_38, m_39, m_40, m_41, m_42, m_43, m_44, m_45, m_46, .ref mo, .ref pl, m_49, m_50, m_51, m_52, m_53, m_54, m_55, m_56, m_57, m_58, m_59]), (cc_l w0 (K 0) 5500 fw), (cc_l pl (K 0) 8 fp), (cc_l mo (K 0) 1152 fm)] sz)) (vp_Si (fun r : Int32 => ((r.toInt = mbv fw fp fm x.toInt y.toInt z.toInt ∧ 0 ≤ r.toInt ∧ r.toInt ≤ 100000003) ∧ True) ∧ r = E_v_movedBy x y z fw fp fm)) 0 0 (fun _ => False) := by
  refine Met.ofW (cc := cX12_movedBy) (maxL := 4) (ret := (some .int)) (by decide +kernel) rfl ?_
  intro p e s m args below meth c s₁ B hml hv
  obtain ⟨rfl, hsz, hP, hK, hD0, hN⟩ := hv
  have hx := B.exec
  have hb := B.bytes
  have hr := B.returns
  have hts := atoms_spec (ws := wsX12_movedBy) B.pre
  have hown : s.vm.findClass RX12 = some m.cls := findClass_of_methodNamed B.named
  have hlocks := B.notSynchronized
  subst hsz
  have hD := hD0
  replace hP : va_P D vwCl [(cc_O m0 12 [m_0, m_1, m_2, .ref w0, m_4, m_5, m_6, m_7, m_8, m_9, m_10, m_11, m_12, m_13, m_14, m_15, m_16, m_17, m_18, m_19, m_20, m_21, m_22, m_23, m_24, m_25, m_26, m_27, m_28, m_29, m_30, m_31, m_32, m_33, m_34, m_35, m_36, m_37, m_38, m_39, m_40, m_41, m_42, m_43, m_44, m_45, m_46, .ref mo, .ref pl, m_49, m_50, m_51, m_52, m_53, m_54, m_55, m_56, m_57, m_58, m_59]), (cc_l w0 (K 0) 5500 fw), (cc_l pl (K 0) 8 fp), (cc_l mo (K 0) 1152 fm)] s.heap := hP
  have hl := lv_entry [.ref m0, .int x, .int y, .int z] (n := 4) (Nat.le_of_ble_eq_true rfl)
  rw [lg_entry_eq]
  generalize (lg_sl [.ref m0, .int x, .int y, .int z] ++ List.replicate (4 - (lg_sl [.ref m0, .int x, .int y, .int z]).length) Slot.unset).toArray = ls at hl ⊢
  have hl : lv_has ls 4 [(0, .ref m0), (1, .int x), (2, .int y), (3, .int z)] := hl
  have hw12 : ∀ w ∈ wsX120, w ∈ wsX12_movedBy := fun w h => (List.mem_cons_of_mem _ (List.mem_append_right _ h))
  generalize hQ : MQ below _ _ s _ _ _ = Q
  have hE := E_v_movedBy.eq_def x y z fw fp fm
  refine lv_iload_n hx hb dX12_movedBy_0 rfl (lv_at hl 2 rfl) (lv_iload_n hx hb dX12_movedBy_1 rfl (lv_at hl 3 rfl) (pci (va_runS (As := [.int y, .int z]) (rest := []) ⟨hx, hb, hml, hown, hts⟩ (v_agrees l D K y z s.heap.size (by first | omega | decide) (by first | omega | decide)) (va_cwS 2 hts gX12_movedBy_X12_agrees rfl rfl rfl (by decide +kernel) ⟨Nat.le_of_ble_eq_true rfl, Nat.le_of_ble_eq_true rfl⟩) (mkS hK hN (va_P.nil) (va_D.nil (A := fun _ => True))) rfl rfl hl.1 rfl (lv_room (Nat.le_of_ble_eq_true rfl)) dX12_movedBy_2 ⟨Nat.le_of_ble_eq_true rfl, Nat.le_of_ble_eq_true rfl⟩) (fun r_97 hw => ?_)))
  obtain ⟨⟨hw, -⟩, k_98⟩ := hw
  replace hE := hE.trans (Lt_in k_98)
  rcases hw with ⟨rfl, h_99⟩ | ⟨rfl, h_100⟩
  · replace hE := (hE).trans (if_pos rfl)
    refine lv_if_ne (tgt := 14) hx hb dX12_movedBy_5 (by decide +kernel) (fun c_101 => ?_) (fun c_101 => absurd c_101 (by decide +kernel))
    refine lv_aload_n hx hb dX12_movedBy_14 rfl (lv_at hl 0 rfl) (va_get (ci := 12) (v := .ref w0) (C := RX12) (T := TX12) (N := 60) hx hb hts hw12 hown hK hP 0 rfl rfl 3 (by decide +kernel) (hts _ mm_X12_movedBy_833) (fun _ h9 => h9) rfl dX12_movedBy_15 (lv_bipush (v := 35) hx hb dX12_movedBy_18 (by decide +kernel) (lv_aload_n hx hb dX12_movedBy_20 rfl (lv_at hl 0 rfl) (va_get (ci := 12) (v := .ref pl) (C := RX12) (T := TX12) (N := 60) hx hb hts hw12 hown hK hP 0 rfl rfl 48 (by decide +kernel) (hts _ mm_X12_movedBy_878) (fun _ h9 => h9) rfl dX12_movedBy_21 (lv_iload_n hx hb dX12_movedBy_24 rfl (lv_at hl 1 rfl) (va_iald hx hb hK hP 2 0 rfl rfl (i_in rfl (by omega)) dX12_movedBy_25 (lv_topi (fun x_102 ex_102 => ?_))))))))
    replace hE := hE.trans (Lt_in ex_102)
    have hx_102 := Rg.at zfp rfl (show 0 ≤ x.toInt ∧ x.toInt < _ by omega)
    rw [← ex_102] at hx_102
    refine lv_iadd hx hb dX12_movedBy_26 (lv_topi (fun x_103 ex_103 => ?_))
    replace hE := hE.trans (Lt_in ex_103)
    have hx_103 : x_103.toInt = (35 + x_102.toInt) := by rw [ex_103]; exact i_add (show (35 : Int32).toInt = 35 from rfl) rfl (by omega)
    refine va_iald hx hb hK hP 1 0 rfl rfl (i_in hx_103 (by omega)) dX12_movedBy_27 (lv_topi (fun x_104 ex_104 => ?_))
    replace hE := hE.trans (Lt_in ex_104)
    have px_104 := RwOK.at zfw hx_103 (show 0 ≤ (35 + x_102.toInt) ∧ (35 + x_102.toInt) < 100 by omega)
    rw [← ex_104] at px_104
    have hx_104 := PR.r_35 px_104 (by omega)
    refine lv_iload_n hx hb dX12_movedBy_28 rfl (lv_at hl 3 rfl) (pci (va_runS (As := [.int x_104, .int z]) (rest := []) ⟨hx, hb, hml, hown, hts⟩ (v_around l D K x_104 z s.heap.size (by first | omega | decide) (by first | omega | decide)) (va_cwS 2 hts gX12_movedBy_X12_around rfl rfl rfl (by decide +kernel) ⟨Nat.le_of_ble_eq_true rfl, Nat.le_of_ble_eq_true rfl⟩) (mkS hK hN (va_P.nil) (va_D.nil (A := fun _ => True))) rfl rfl hl.1 rfl (lv_room (Nat.le_of_ble_eq_true rfl)) dX12_movedBy_29 ⟨Nat.le_of_ble_eq_true rfl, Nat.le_of_ble_eq_true rfl⟩) (fun r_105 hw => ?_))
    obtain ⟨hw, k_106⟩ := hw
    replace hE := hE.trans (Lt_in k_106)
    obtain ⟨harv_r_105, -⟩ := hw
    have hb_r_105 := arv_rng (a := x_104.toInt) (b := z.toInt) (by omega) (by omega)
    rw [← harv_r_105] at hb_r_105
    refine lv_aload_n hx hb dX12_movedBy_32 rfl (lv_at hl 0 rfl) (va_get (ci := 12) (v := .ref mo) (C := RX12) (T := TX12) (N := 60) hx hb hts hw12 hown hK hP 0 rfl rfl 47 (by decide +kernel) (hts _ mm_X12_movedBy_877) (fun _ h9 => h9) rfl dX12_movedBy_33 (lv_sipush (v := 128) hx hb dX12_movedBy_36 (by decide +kernel) (lv_iload_n hx hb dX12_movedBy_39 rfl (lv_at hl 1 rfl) (lv_iconst (v := 1) hx hb dX12_movedBy_40 (by decide +kernel) (lv_iadd hx hb dX12_movedBy_41 (lv_topi (fun x_107 ex_107 => ?_)))))))
    replace hE := hE.trans (Lt_in ex_107)
    have hx_107 : x_107.toInt = (x.toInt + 1) := by rw [ex_107]; exact i_add rfl (show (1 : Int32).toInt = 1 from rfl) (by omega)
    refine lv_imul hx hb dX12_movedBy_42 (lv_topi (fun x_108 ex_108 => ?_))
    replace hE := hE.trans (Lt_in ex_108)
    have hx_108 : x_108.toInt = (128 * (x.toInt + 1)) := by rw [ex_108]; exact i_mul (show (128 : Int32).toInt = 128 from rfl) hx_107 (by omega)
    refine lv_iload_n hx hb dX12_movedBy_43 rfl (lv_at hl 2 rfl) (lv_iconst (v := 1) hx hb dX12_movedBy_44 (by decide +kernel) (lv_iload_n hx hb dX12_movedBy_45 rfl (lv_at hl 3 rfl) (lv_ishl hx hb dX12_movedBy_46 (lv_topi (fun x_109 ex_109 => ?_)))))
    replace hE := hE.trans (Lt_in ex_109)
    have hx_109 : 1 ≤ x_109.toInt ∧ x_109.toInt ≤ 64 := by rw [ex_109]; exact i_shl1 rfl (n := 6) (by decide +kernel) (by omega)
    refine lv_ior hx hb dX12_movedBy_47 (lv_topi (fun x_110 ex_110 => ?_))
    replace hE := hE.trans (Lt_in ex_110)
    have hx_110 : 0 ≤ x_110.toInt ∧ x_110.toInt < 128 := by rw [ex_110]; exact i_or (k := 7) rfl rfl (by decide +kernel) (by omega) (by omega)
    refine lv_iadd hx hb dX12_movedBy_48 (lv_topi (fun x_111 ex_111 => ?_))
    replace hE := hE.trans (Lt_in ex_111)
    have hx_111 : x_111.toInt = ((128 * (x.toInt + 1)) + x_110.toInt) := by rw [ex_111]; exact i_add hx_108 rfl (by omega)
    refine va_iald hx hb hK hP 3 0 rfl rfl (i_in hx_111 (by omega)) dX12_movedBy_49 (lv_topi (fun x_112 ex_112 => ?_))
    replace hE := hE.trans (Lt_in ex_112)
    have hx_112 := Rg.at zfm hx_111 (show 0 ≤ ((128 * (x.toInt + 1)) + x_110.toInt) ∧ ((128 * (x.toInt + 1)) + x_110.toInt) < _ by omega)
    rw [← ex_112] at hx_112
    refine lv_iadd hx hb dX12_movedBy_50 (lv_topi (fun x_113 ex_113 => ?_))
    replace hE := hE.trans (Lt_in ex_113)
    have hx_113 : x_113.toInt = (r_105.toInt + x_112.toInt) := by rw [ex_113]; exact i_add rfl rfl (by omega)
    rw [← hQ]
    have q1 : x_102 = fp x.toInt.toNat := by rw [ex_102, i_clamp rfl]
    have q2 : x_104 = fw (35 + (fp x.toInt.toNat).toInt).toNat := by rw [ex_104, i_clamp hx_103, ← q1]
    have q3 : x_110.toInt = orb y.toInt z.toInt := by unfold orb; rw [ex_110, ex_109, ← i_ofN (a := y) rfl (by omega), ← i_ofN (a := z) rfl (by omega)]
    have q4 : x_112 = fm (128 * (x.toInt + 1) + orb y.toInt z.toInt).toNat := by rw [ex_112, i_clamp hx_111, ← q3]
    have q5 : x_113.toInt = mbv fw fp fm x.toInt y.toInt z.toInt := by
      unfold mbv
      rw [if_pos (by assumption), ← q4, ← q2, ← harv_r_105, hx_113]
    exact W.iret (v := x_113) hx hb hr (fun t ht hW => ⟨_, rfl, ⟨⟨⟨q5, by omega, by omega⟩, trivial⟩, hE.symm⟩, ht⟩) (fun q hq => by cases hq) dX12_movedBy_51
  · replace hE := (hE).trans (if_neg (by first | decide | (intro h9; have h8 := congrArg Int32.toInt h9; omega)))
    refine lv_if_ne (tgt := 14) hx hb dX12_movedBy_5 (by decide +kernel) (fun c_114 => absurd (by decide +kernel) c_114) (fun c_114 => ?_)
    refine lv_ldcw (v := 100000000) hx hb hown (hts _ mm_X12_movedBy_1262) dX12_movedBy_8 (lv_goto (tgt := 51) hx hb dX12_movedBy_11 (by decide +kernel) ?_)
    rw [← hQ]
    exact W.iret (v := 100000000) hx hb hr (fun t ht hW => ⟨_, rfl, ⟨⟨(show (100000000 : Int) = mbv fw fp fm x.toInt y.toInt z.toInt ∧ (0 : Int) ≤ 100000000 ∧ (100000000 : Int) ≤ 100000003 from ⟨by unfold mbv; rw [if_neg (by assumption)], by decide, by decide⟩), trivial⟩, hE.symm⟩, ht⟩) (fun q hq => by cases hq) dX12_movedBy_51
