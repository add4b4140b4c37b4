theorem dJ7_copyOf_59c91_0 : decode cJ7_copyOf_59c91 0 = .ok (.iload_n 1, 1) := by decide +kernel
theorem dJ7_copyOf_59c91_1 : decode cJ7_copyOf_59c91 1 = .ok (.aload_n 0, 1) := by decide +kernel
theorem dJ7_copyOf_59c91_2 : decode cJ7_copyOf_59c91 2 = .ok (.arraylength, 1) := by decide +kernel
theorem dJ7_copyOf_59c91_3 : decode cJ7_copyOf_59c91 3 = .ok (.if_icmp .ne 11, 3) := by decide +kernel
theorem dJ7_copyOf_59c91_14 : decode cJ7_copyOf_59c91 14 = .ok (.iload_n 1, 1) := by decide +kernel
theorem dJ7_copyOf_59c91_15 : decode cJ7_copyOf_59c91 15 = .ok (.newarray .int, 2) := by decide +kernel
theorem dJ7_copyOf_59c91_17 : decode cJ7_copyOf_59c91 17 = .ok (.astore_n 2, 1) := by decide +kernel
theorem dJ7_copyOf_59c91_18 : decode cJ7_copyOf_59c91 18 = .ok (.aload_n 0, 1) := by decide +kernel
theorem dJ7_copyOf_59c91_19 : decode cJ7_copyOf_59c91 19 = .ok (.iconst 0, 1) := by decide +kernel
theorem dJ7_copyOf_59c91_20 : decode cJ7_copyOf_59c91 20 = .ok (.aload_n 2, 1) := by decide +kernel
theorem dJ7_copyOf_59c91_21 : decode cJ7_copyOf_59c91 21 = .ok (.iconst 0, 1) := by decide +kernel
theorem dJ7_copyOf_59c91_22 : decode cJ7_copyOf_59c91 22 = .ok (.aload_n 0, 1) := by decide +kernel
theorem dJ7_copyOf_59c91_23 : decode cJ7_copyOf_59c91 23 = .ok (.arraylength, 1) := by decide +kernel
theorem dJ7_copyOf_59c91_24 : decode cJ7_copyOf_59c91 24 = .ok (.iload_n 1, 1) := by decide +kernel
theorem dJ7_copyOf_59c91_25 : decode cJ7_copyOf_59c91 25 = .ok (.invokestatic 304, 3) := by decide +kernel
theorem dJ7_copyOf_59c91_28 : decode cJ7_copyOf_59c91 28 = .ok (.invokestatic 150, 3) := by decide +kernel
theorem dJ7_copyOf_59c91_31 : decode cJ7_copyOf_59c91 31 = .ok (.aload_n 2, 1) := by decide +kernel
theorem dJ7_copyOf_59c91_32 : decode cJ7_copyOf_59c91 32 = .ok (.areturn, 1) := by decide +kernel
theorem dJ7_copyOf_59c91_6 : decode cJ7_copyOf_59c91 6 = .ok (.aload_n 0, 1) := by decide +kernel
theorem dJ7_copyOf_59c91_7 : decode cJ7_copyOf_59c91 7 = .ok (.invokevirtual 316, 3) := by decide +kernel
theorem dJ7_copyOf_59c91_10 : decode cJ7_copyOf_59c91 10 = .ok (.checkcast 317, 3) := by decide +kernel
theorem dJ7_copyOf_59c91_13 : decode cJ7_copyOf_59c91 13 = .ok (.areturn, 1) := by decide +kernel
theorem dX7_init_0 : decode cX7_init 0 = .ok (.aload_n 0, 1) := by decide +kernel
theorem dX7_init_1 : decode cX7_init 1 = .ok (.invokespecial 3, 3) := by decide +kernel
theorem dX7_init_4 : decode cX7_init 4 = .ok (.aload_n 0, 1) := by decide +kernel
theorem dX7_init_5 : decode cX7_init 5 = .ok (.aload_n 1, 1) := by decide +kernel
theorem dX7_init_6 : decode cX7_init 6 = .ok (.putfield 9, 3) := by decide +kernel
theorem dX7_init_9 : decode cX7_init 9 = .ok (.aload_n 0, 1) := by decide +kernel
theorem dX7_init_10 : decode cX7_init 10 = .ok (.aload_n 2, 1) := by decide +kernel
theorem dX7_init_11 : decode cX7_init 11 = .ok (.putfield 15, 3) := by decide +kernel
theorem dX7_init_14 : decode cX7_init 14 = .ok (.aload_n 0, 1) := by decide +kernel
theorem dX7_init_15 : decode cX7_init 15 = .ok (.iload_n 3, 1) := by decide +kernel
theorem dX7_init_16 : decode cX7_init 16 = .ok (.putfield 18, 3) := by decide +kernel
theorem dX7_init_19 : decode cX7_init 19 = .ok (.aload_n 0, 1) := by decide +kernel
theorem dX7_init_20 : decode cX7_init 20 = .ok (.aload_n 2, 1) := by decide +kernel
theorem dX7_init_21 : decode cX7_init 21 = .ok (.arraylength, 1) := by decide +kernel
theorem dX7_init_22 : decode cX7_init 22 = .ok (.putfield 22, 3) := by decide +kernel
theorem dX7_init_25 : decode cX7_init 25 = .ok (.return_, 1) := by decide +kernel
theorem dX7_trimmed_0 : decode cX7_trimmed 0 = .ok (.new 10, 3) := by decide +kernel
theorem dX7_trimmed_3 : decode cX7_trimmed 3 = .ok (.dup, 1) := by decide +kernel
theorem dX7_trimmed_4 : decode cX7_trimmed 4 = .ok (.aload_n 0, 1) := by decide +kernel
theorem dX7_trimmed_5 : decode cX7_trimmed 5 = .ok (.getfield 9, 3) := by decide +kernel
theorem dX7_trimmed_8 : decode cX7_trimmed 8 = .ok (.aload_n 0, 1) := by decide +kernel
theorem dX7_trimmed_9 : decode cX7_trimmed 9 = .ok (.getfield 18, 3) := by decide +kernel
theorem dX7_trimmed_12 : decode cX7_trimmed 12 = .ok (.iconst 5, 1) := by decide +kernel
theorem dX7_trimmed_13 : decode cX7_trimmed 13 = .ok (.imul, 1) := by decide +kernel
theorem dX7_trimmed_14 : decode cX7_trimmed 14 = .ok (.invokestatic 25, 3) := by decide +kernel
theorem dX7_trimmed_17 : decode cX7_trimmed 17 = .ok (.aload_n 0, 1) := by decide +kernel
theorem dX7_trimmed_18 : decode cX7_trimmed 18 = .ok (.getfield 15, 3) := by decide +kernel
theorem dX7_trimmed_21 : decode cX7_trimmed 21 = .ok (.aload_n 0, 1) := by decide +kernel
theorem dX7_trimmed_22 : decode cX7_trimmed 22 = .ok (.getfield 22, 3) := by decide +kernel
theorem dX7_trimmed_25 : decode cX7_trimmed 25 = .ok (.invokestatic 25, 3) := by decide +kernel
theorem dX7_trimmed_28 : decode cX7_trimmed 28 = .ok (.aload_n 0, 1) := by decide +kernel
theorem dX7_trimmed_29 : decode cX7_trimmed 29 = .ok (.getfield 18, 3) := by decide +kernel
theorem dX7_trimmed_32 : decode cX7_trimmed 32 = .ok (.invokespecial 31, 3) := by decide +kernel
theorem dX7_trimmed_35 : decode cX7_trimmed 35 = .ok (.areturn, 1) := by decide +kernel
theorem dX9_enact_0 : decode cX9_enact 0 = .ok (.aload_n 0, 1) := by decide +kernel
theorem dX9_enact_1 : decode cX9_enact 1 = .ok (.getfield 31, 3) := by decide +kernel
theorem dX9_enact_4 : decode cX9_enact 4 = .ok (.bipush 6, 2) := by decide +kernel
theorem dX9_enact_6 : decode cX9_enact 6 = .ok (.if_icmp .lt 5, 3) := by decide +kernel
theorem dX9_enact_11 : decode cX9_enact 11 = .ok (.aload_n 0, 1) := by decide +kernel
theorem dX9_enact_12 : decode cX9_enact 12 = .ok (.getfield 23, 3) := by decide +kernel
theorem dX9_enact_15 : decode cX9_enact 15 = .ok (.aload_n 0, 1) := by decide +kernel
theorem dX9_enact_16 : decode cX9_enact 16 = .ok (.getfield 31, 3) := by decide +kernel
theorem dX9_enact_19 : decode cX9_enact 19 = .ok (.aload_n 1, 1) := by decide +kernel
theorem dX9_enact_20 : decode cX9_enact 20 = .ok (.aastore, 1) := by decide +kernel
theorem dX9_enact_21 : decode cX9_enact 21 = .ok (.aload_n 0, 1) := by decide +kernel
theorem dX9_enact_22 : decode cX9_enact 22 = .ok (.dup, 1) := by decide +kernel
theorem dX9_enact_23 : decode cX9_enact 23 = .ok (.getfield 31, 3) := by decide +kernel
theorem dX9_enact_26 : decode cX9_enact 26 = .ok (.iconst 1, 1) := by decide +kernel
theorem dX9_enact_27 : decode cX9_enact 27 = .ok (.iadd, 1) := by decide +kernel
theorem dX9_enact_28 : decode cX9_enact 28 = .ok (.putfield 31, 3) := by decide +kernel
theorem dX9_enact_31 : decode cX9_enact 31 = .ok (.aload_n 0, 1) := by decide +kernel
theorem dX9_enact_32 : decode cX9_enact 32 = .ok (.getfield 31, 3) := by decide +kernel
theorem dX9_enact_35 : decode cX9_enact 35 = .ok (.iconst 1, 1) := by decide +kernel
theorem dX9_enact_36 : decode cX9_enact 36 = .ok (.isub, 1) := by decide +kernel
theorem dX9_enact_37 : decode cX9_enact 37 = .ok (.ireturn, 1) := by decide +kernel
theorem dX9_enact_9 : decode cX9_enact 9 = .ok (.iconst (-1), 1) := by decide +kernel
theorem dX9_enact_10 : decode cX9_enact 10 = .ok (.ireturn, 1) := by decide +kernel
theorem dX11_law_0 : decode cX11_law 0 = .ok (.aload_n 0, 1) := by decide +kernel
theorem dX11_law_1 : decode cX11_law 1 = .ok (.getfield 10, 3) := by decide +kernel
theorem dX11_law_4 : decode cX11_law 4 = .ok (.getfield 173, 3) := by decide +kernel
theorem dX11_law_7 : decode cX11_law 7 = .ok (.bipush 6, 2) := by decide +kernel
theorem dX11_law_9 : decode cX11_law 9 = .ok (.if_icmp .lt 18, 3) := by decide +kernel
theorem dX11_law_27 : decode cX11_law 27 = .ok (.aload_n 0, 1) := by decide +kernel
theorem dX11_law_28 : decode cX11_law 28 = .ok (.getfield 30, 3) := by decide +kernel
theorem dX11_law_31 : decode cX11_law 31 = .ok (.iconst 1, 1) := by decide +kernel
theorem dX11_law_32 : decode cX11_law 32 = .ok (.invokevirtual 176, 3) := by decide +kernel
theorem dX11_law_35 : decode cX11_law 35 = .ok (.ifCond .ne 10, 3) := by decide +kernel
theorem dX11_law_45 : decode cX11_law 45 = .ok (.aload_n 0, 1) := by decide +kernel
theorem dX11_law_46 : decode cX11_law 46 = .ok (.aload_n 0, 1) := by decide +kernel
theorem dX11_law_47 : decode cX11_law 47 = .ok (.getfield 10, 3) := by decide +kernel
theorem dX11_law_50 : decode cX11_law 50 = .ok (.aload_n 0, 1) := by decide +kernel
theorem dX11_law_51 : decode cX11_law 51 = .ok (.getfield 30, 3) := by decide +kernel
theorem dX11_law_54 : decode cX11_law 54 = .ok (.getfield 180, 3) := by decide +kernel
theorem dX11_law_57 : decode cX11_law 57 = .ok (.invokevirtual 184, 3) := by decide +kernel
theorem dX11_law_60 : decode cX11_law 60 = .ok (.invokevirtual 189, 3) := by decide +kernel
theorem dX11_law_63 : decode cX11_law 63 = .ok (.invokevirtual 118, 3) := by decide +kernel
theorem dX11_law_66 : decode cX11_law 66 = .ok (.ireturn, 1) := by decide +kernel
theorem dX11_law_38 : decode cX11_law 38 = .ok (.aload_n 0, 1) := by decide +kernel
theorem dX11_law_39 : decode cX11_law 39 = .ok (.bipush (-6), 2) := by decide +kernel
theorem dX11_law_41 : decode cX11_law 41 = .ok (.invokevirtual 101, 3) := by decide +kernel
theorem dX11_law_44 : decode cX11_law 44 = .ok (.ireturn, 1) := by decide +kernel
theorem dX11_law_12 : decode cX11_law 12 = .ok (.aload_n 0, 1) := by decide +kernel
theorem dX11_law_13 : decode cX11_law 13 = .ok (.getfield 38, 3) := by decide +kernel
theorem dX11_law_16 : decode cX11_law 16 = .ok (.iconst 0, 1) := by decide +kernel
theorem dX11_law_17 : decode cX11_law 17 = .ok (.putfield 161, 3) := by decide +kernel
theorem dX11_law_20 : decode cX11_law 20 = .ok (.aload_n 0, 1) := by decide +kernel
theorem dX11_law_21 : decode cX11_law 21 = .ok (.bipush (-5), 2) := by decide +kernel
theorem dX11_law_23 : decode cX11_law 23 = .ok (.invokevirtual 101, 3) := by decide +kernel
theorem dX11_law_26 : decode cX11_law 26 = .ok (.ireturn, 1) := by decide +kernel
set_option maxRecDepth 20000 in
theorem ggX7_trimmed_J7_copyOf_59c91 : GoodIn wsX7_trimmed wsJ7_copyOf_59c91 := goodIn_r _ [11, 12, 13, 14, 15, 16, 17, 18, 19, 20, 21, 22, 23, 24, 25, 26] (by decide +kernel) (by decide +kernel)
set_option maxRecDepth 20000 in
theorem gX7_trimmed_J7_copyOf_59c91 : GoodIn wsX7_trimmed (va_wsS RX7 25 yJ7_copyOf_59c91 wsJ7_copyOf_59c91) := goodIn_app (goodIn_of _ (by decide +kernel)) ggX7_trimmed_J7_copyOf_59c91
set_option maxRecDepth 20000 in
theorem ggX7_trimmed_X7_init : GoodIn wsX7_trimmed wsX7_init := goodIn_r _ [29, 30, 31, 32, 4, 6, 5, 7, 33, 34, 35, 36] (by decide +kernel) (by decide +kernel)
set_option maxRecDepth 20000 in
theorem gX7_trimmed_X7_init : GoodIn wsX7_trimmed (wsX7_init) := ggX7_trimmed_X7_init
set_option maxRecDepth 100000 in
set_option maxHeartbeats 4000000 in
theorem ggX11_law_X6_reads : GoodIn wsX11_law wsX6_reads := goodIn_q _ [17, 26, 36, 41, 46, 51, 56, 62, 66, 70, 73, 78, 82, 85, 88, 92, 99, 103, 108, 112, 118, 124, 127, 133, 139, 140] [18, 19, 20, 21, 22, 23, 24, 25, 27, 28, 29, 30, 31, 32, 33, 34, 35, 37, 38, 39, 40, 15, 42, 43, 44, 45, 47, 48, 49, 50, 52, 53, 54, 55, 57, 58, 59, 60, 61, 63, 64, 65, 67, 68, 69, 71, 72, 74, 75, 76, 77, 79, 80, 81, 83, 84, 86, 87, 89, 90, 91, 93, 94, 95, 96, 97, 98, 100, 101, 102, 104, 105, 106, 107, 109, 110, 111, 113, 114, 115, 116, 117, 119, 120, 121, 122, 123, 125, 126, 128, 129, 130, 131, 132, 134, 135, 136, 137, 138, 212, 213, 214, 215, 216, 217, 218, 219, 220, 206, 207, 208, 209, 210, 211] rfl (by decide +kernel) (by decide +kernel)
set_option maxRecDepth 20000 in
theorem gX11_law_X6_reads_n176 : GoodIn wsX11_law (wsX6_reads) := ggX11_law_X6_reads
set_option maxRecDepth 100000 in
set_option maxHeartbeats 4000000 in
theorem ggX11_law_X7_trimmed : GoodIn wsX11_law wsX7_trimmed := goodIn_q _ [143, 150, 36, 165, 168] [144, 145, 97, 104, 146, 120, 119, 147, 148, 149, 151, 152, 153, 154, 155, 156, 157, 158, 34, 35, 159, 160, 161, 162, 163, 164, 166, 167, 217, 218, 219, 220] rfl (by decide +kernel) (by decide +kernel)
set_option maxRecDepth 20000 in
theorem gX11_law_X7_trimmed_n184 : GoodIn wsX11_law (wsX7_trimmed) := ggX11_law_X7_trimmed
set_option maxRecDepth 20000 in
theorem ggX11_law_X9_enact : GoodIn wsX11_law wsX9_enact := goodIn_r _ [172, 173, 174, 196, 197, 198, 199, 200, 201, 202, 203, 204, 205] (by decide +kernel) (by decide +kernel)
set_option maxRecDepth 20000 in
theorem gX11_law_X9_enact_n189 : GoodIn wsX11_law (wsX9_enact) := ggX11_law_X9_enact
set_option maxRecDepth 20000 in
theorem ggX11_law_X11_accept : GoodIn wsX11_law wsX11_accept := goodIn_r _ [178, 10, 179, 180, 181, 182, 183, 184, 185, 186, 187, 188, 189, 190, 191, 192, 193, 194, 195] (by decide +kernel) (by decide +kernel)
set_option maxRecDepth 20000 in
theorem gX11_law_X11_accept : GoodIn wsX11_law (wsV RX11 118 RX11 yX11_accept wsX11_accept) := goodIn_app (goodIn_of _ (by decide +kernel)) ggX11_law_X11_accept
set_option maxRecDepth 20000 in
theorem ggX11_law_X11_refuse : GoodIn wsX11_law wsX11_refuse := goodIn_r _ [8, 9, 10, 11, 12, 7, 13, 179, 180, 181, 182, 183, 184, 185, 186, 187, 188, 189, 190, 191, 192, 193, 194, 195] (by decide +kernel) (by decide +kernel)
set_option maxRecDepth 20000 in
theorem gX11_law_X11_refuse : GoodIn wsX11_law (wsV RX11 101 RX11 yX11_refuse wsX11_refuse) := goodIn_app (goodIn_of _ (by decide +kernel)) ggX11_law_X11_refuse
abbrev CST : Cond := .castable "[I" "java/lang/Cloneable"
def PreC (P : State → Prop) (U : State) : Prop := P U ∧ va_Nw CST U
theorem PreC.bl {P : State → Prop} {av : List Value} (h : FrameBlind (va_Pc av P)) : FrameBlind (va_Pc av (PreC P)) := fun a U gf mk q => by
  obtain ⟨q0, q1, q2⟩ := q
  have := h a U gf mk ⟨q0, q1⟩
  exact ⟨this.1, this.2, va_tabs (by rfl) (rfl : U.vm = (U.calling gf mk a).vm) q2⟩
theorem cst_warm {s U : State} (hW : s.WarmedH U.vm) (h : va_Nw CST s) : va_Nw CST U := word_at (s := s) (U := U) hW (Or.inl (by first | rfl | simp [Cond.onTables, Cond.keeps, Cond.steady])) h
theorem PreC.S {s : State} {H : Heap} {P : State → Prop} {av As : List Value} (h : PreS s H (va_Pc av P) As) (hc : va_Nw CST s) : PreS s H (va_Pc av (PreC P)) As :=
  ⟨PreC.bl h.1, fun U hU hW => ⟨(h.2 U hU hW).1, (h.2 U hU hW).2, cst_warm hW hc⟩⟩
theorem PreC.V {s : State} {H : Heap} {C : String} {b : Addr} {P : State → Prop} {av As : List Value} (h : PreV s H C b (va_Pc av P) As) (hc : va_Nw CST s) : PreV s H C b (va_Pc av (PreC P)) As :=
  ⟨PreC.bl h.1, h.2.1, fun U hU hW => ⟨(h.2.2 U hU hW).1, (h.2.2 U hU hW).2, cst_warm hW hc⟩⟩
theorem InL.mono {L M : Nat → Prop} {f : Nat → Option Nat} (h : InL L f) (hm : ∀ q, L q → M q) : InL M f := fun j => by
  have := h j
  unfold InLo at this ⊢
  cases e : f j with
  | none => trivial
  | some q => rw [e] at this; exact hm q this
def NewLaw (K : Nat → ClassId) (L M : Nat → Prop) (w : va_W) : Prop := (w = [] ∧ M = L) ∨ ∃ (q h c nh nc : Nat) (fh fc : Nat → Int32) (cl us : Int32), w = Scr K q h c nh nc fh fc cl us ∧ nh < 1000000 ∧ nc < 1000000 ∧ (Rg nh (-1) 1000 fh ∧ Rg nc 0 1000 fc) ∧ M = fun z => L z ∨ z = q
section MYR
variable {p : Program} {l : Launch} {e : Env} {R : Room} {s : State} {m : MethodId} {args : Array Value} {below : List Frame} {meth : Method} {c : Code} {H : Heap} {locs : List Loc} {cells slots : Nat} {Q : State → Prop}
variable {pc : Nat} {ls : Array Slot} {rest st0 : List Value} {a : Array Value} {A0 : Nat → Prop} {H0 : Heap} {mc ms : Nat} {D : va_G} {ws wc wr : va_W}
theorem kcr {S : Type} {post : S → Prop} {B : S → va_W} {ad : S → Nat} (hr : va_Run p l e R s m args below meth c H locs cells slots mc ms (F0 m pc ls st0) rest (va_Qr post (fun u x t => x = ad u ∧ Wd D (va_A wc H.size) (B u) t) (va_A wc H.size) a) (va_A wc H.size))
    (hP : va_P D vwCl ws H) (hD : va_D A0 ws) (hS : va_S A0 H0 H locs) (hA : ∀ q, H0.size ≤ q → A0 q) (isC isR : List Nat) (hC : isC.map (fun i => ws[i]?) = wc.map some) (hR : isR.map (fun i => ws[i]?) = wr.map some) (hn : va_nd isR = true) (hdis : ∀ i ∈ isR, i ∉ isC)
    (kk : ∀ (u : S) (H1 : Heap) (locs1 : List Loc), post u → va_P D vwCl (wr ++ B u) H1 → va_D A0 (wr ++ B u) → va_S A0 H0 H1 locs1 → W p l e R s m args below meth c H1 locs1 (cells + mc) (slots + ms) Q (F0 m (pc + 3) ls (.ref (ad u) :: rest))) : W p l e R s m args below meth c H locs cells slots Q (F0 m pc ls st0) := by
  have hFc := va_free (wc := wc) hD hS hA isC hC
  refine va_callr hr hS (fun q _ h => hFc q h) hFc (fun u ra t H1 locs1 ht hvm hw hB hz1 hk1 hS1 => ?_)
  obtain ⟨rfl, hP1, hD1⟩ := hB
  rw [ht] at hP1
  obtain ⟨hP2, hD2⟩ := va_join (wr := wr) (w1 := B u) hP hD isC isR hC hR hn hdis hk1 hFc hP1 hD1
  exact kk u H1 locs1 hw hP2 hD2 hS1
end MYR
set_option maxHeartbeats 4000000 in
set_option maxRecDepth 100000 in
theorem w_copy_h (l : Launch) (D : va_G) (K : Nat → ClassId) (a0 : Nat) (n : Int32) (f : Nat → Int32) (sz : Nat) (zn : 0 ≤ n.toInt ∧ n.toInt ≤ 60) (zf : Rg 60 (-1) 1000 f) : Met l yJ7_copyOf_59c91 wsJ7_copyOf_59c91 ({ frames := 1, cells := 1, slots := 60, locals := 40 }) (va_Pc [.ref a0, .int n] (PreC (Pre D K [(a0, .inl (K 0, 60, .inl f))] sz))) (va_Qr (S := Nat × (Nat → Int32)) (fun u => Rg n.toInt.toNat (-1) 1000 u.2) (fun u x t => x = (fun u => u.1) u ∧ Wd D (va_A [(a0, .inl (K 0, 60, .inl f))] sz) ((fun u => [(a0, .inl (K 0, 60, .inl f)), (u.1, .inl (K 0, n.toInt.toNat, .inl u.2))]) u) t) (va_A [(a0, .inl (K 0, 60, .inl f))] sz)) 1 60 (va_A [(a0, .inl (K 0, 60, .inl f))] sz) := by
  refine Met.ofW (cc := cJ7_copyOf_59c91) (maxL := 3) (ret := (some (.array .int))) (by decide) rfl ?_
  intro p e s m args below meth c s₁ B hml hv
  obtain ⟨rfl, ⟨hsz, hP, hK, hD0, hN⟩, hC⟩ := hv
  have hx := B.exec
  have hb := B.bytes
  have hr := B.returns
  have hts := atoms_spec (ws := wsJ7_copyOf_59c91) B.pre
  have hown : s.vm.findClass RJ7 = some m.cls := findClass_of_methodNamed B.named
  have hlocks := B.notSynchronized
  subst hsz
  have hD := hD0.self (sz := s.heap.size)
  generalize hAe : va_A [(a0, .inl (K 0, 60, .inl f))] s.heap.size = A at hD ⊢
  have hA : ∀ q : Nat, s.heap.size ≤ q → A q := fun q h => by rw [← hAe]; exact Or.inr h
  have hS : va_S A s.heap s.heap [] := va_S.rf
  have hP : va_P D vwCl [(a0, .inl (K 0, 60, .inl f))] s.heap := hP
  have hl := lv_entry [.ref a0, .int n] (n := 3) (Nat.le_of_ble_eq_true rfl)
  rw [lg_entry_eq]
  generalize (lg_sl [.ref a0, .int n] ++ List.replicate (3 - (lg_sl [.ref a0, .int n]).length) Slot.unset).toArray = ls at hl ⊢
  have hl : lv_has ls 3 [(0, .ref a0), (1, .int n)] := hl
  generalize hQ : MQ below _ _ s _ _ _ = Q
  refine lv_iload_n hx hb dJ7_copyOf_59c91_0 rfl (lv_at hl 1 rfl) ?_
  refine lv_aload_n hx hb dJ7_copyOf_59c91_1 rfl (lv_at hl 0 rfl) ?_
  refine va_alen (v := 60) hx hb hK hP 0 0 rfl rfl rfl dJ7_copyOf_59c91_2 ?_
  refine lv_icmp_ne (tgt := 14) hx hb dJ7_copyOf_59c91_3 (by decide) (fun c_69 => ?_) (fun c_69 => ?_)
  · have c_69i := i_ne (x := n.toInt) (y := 60) rfl rfl c_69
    refine lv_iload_n hx hb dJ7_copyOf_59c91_14 rfl (lv_at hl 1 rfl) ?_
    refine k_newa (atype := .int) (ty := .int) (cA := K 0) (a0 := ((n.toInt).toNat, .inl (fun _ => 0))) (N' := (n.toInt).toNat) hx hb (hts (.arrayClass .int) (List.mem_cons_of_mem _ (List.mem_of_getElem? (i := 6) rfl))) rfl hK 0 rfl hP hD hS hA (fun _ => rfl) (fun h9 => by have h8 := i_lt (x := n.toInt) (y := 0) rfl rfl h9; omega) (i_clamp rfl) (by show _ * 4 ≤ _; omega) (Nat.le_of_ble_eq_true rfl) (by show _ ≤ (60 : Nat); omega) dJ7_copyOf_59c91_15 (fun q_70 H hP hD hS => ?_)
    have hP : va_P D vwCl [(a0, .inl (K 0, 60, .inl f)), (q_70, .inl (K 0, n.toInt.toNat, .inl (fun _ => 0)))] H := hP
    have hD : va_D A [(a0, .inl (K 0, 60, .inl f)), (q_70, .inl (K 0, n.toInt.toNat, .inl (fun _ => 0)))] := hD
    refine W.widen (k := 1) (n := 59) (by omega) (by omega) ?_
    refine lv_astore_n (lv' := [(2, .ref q_70), (0, .ref a0), (1, .int n)]) hx hb dJ7_copyOf_59c91_17 rfl hl (by decide) rfl (fun ls hl => ?_)
    refine lv_aload_n hx hb dJ7_copyOf_59c91_18 rfl (lv_at hl 1 rfl) ?_
    refine lv_iconst (v := 0) hx hb dJ7_copyOf_59c91_19 (by decide) ?_
    refine lv_aload_n hx hb dJ7_copyOf_59c91_20 rfl (lv_at hl 0 rfl) ?_
    refine lv_iconst (v := 0) hx hb dJ7_copyOf_59c91_21 (by decide) ?_
    refine lv_aload_n hx hb dJ7_copyOf_59c91_22 rfl (lv_at hl 1 rfl) ?_
    refine va_alen (v := 60) hx hb hK hP 0 0 rfl rfl rfl dJ7_copyOf_59c91_23 ?_
    refine lv_iload_n hx hb dJ7_copyOf_59c91_24 rfl (lv_at hl 2 rfl) ?_
    refine va_mmin hx hb (hml.trans hl.1.symm) hown (hts (.methodLink RJ7 304 Lib.Math.min.name) (List.mem_cons_of_mem _ (List.mem_of_getElem? (i := 7) rfl))) (hts (.static Lib.Math.min.name) (List.mem_cons_of_mem _ (List.mem_of_getElem? (i := 8) rfl))) (hts (.initialized "java/lang/Math") (List.mem_cons_of_mem _ (List.mem_of_getElem? (i := 9) rfl))) (hts (.code Lib.Math.min.name Lib.Math.min.code 2 (some .int)) (List.mem_cons_of_mem _ (List.mem_of_getElem? (i := 10) rfl))) (Nat.le_of_ble_eq_true rfl) (Nat.le_of_ble_eq_true rfl) (Nat.le_of_ble_eq_true rfl) (Nat.le_of_ble_eq_true rfl) dJ7_copyOf_59c91_25 ?_
    refine lv_topi (fun x_71 ex_71 => ?_)
    have hx_71 : (60 ≤ n.toInt ∧ x_71.toInt = 60) ∨ (n.toInt < 60 ∧ x_71.toInt = n.toInt) := by rw [ex_71]; exact i_min (show (60 : Int32).toInt = 60 from rfl) rfl
    replace hx_71 : x_71.toInt ≤ n.toInt ∧ 0 ≤ x_71.toInt ∧ x_71.toInt ≤ 59 := by omega
    refine va_copyi hx hb (hml.trans hl.1.symm) hown (hts (.methodLink RJ7 150 arraycopyName) (List.mem_cons_of_mem _ (List.mem_of_getElem? (i := 11) rfl))) (hts (.native arraycopyName) (List.mem_cons_of_mem _ (List.mem_of_getElem? (i := 12) rfl))) (hts (.static arraycopyName) (List.mem_cons_of_mem _ (List.mem_of_getElem? (i := 13) rfl))) (hts (.initialized "java/lang/System") (List.mem_cons_of_mem _ (List.mem_of_getElem? (i := 14) rfl))) hK hP hD hS 0 1 0 0 rfl rfl rfl rfl rfl (by decide) (by decide) (fun h9 => by have h8 := i_lt (x := x_71.toInt) (y := 0) rfl rfl h9; omega) (by rw [i_clamp (show (0 : Int32).toInt = 0 from rfl), i_clamp rfl]; omega) (by rw [i_clamp (show (0 : Int32).toInt = 0 from rfl), i_clamp rfl]; omega) (fun _ _ => rfl) (Nat.le_of_ble_eq_true rfl) (by decide +kernel) dJ7_copyOf_59c91_28 (fun H locs hP hD hS => ?_)
    generalize hf_72 : (va_cpy (α := Int32) f (fun _ => 0) (0 : Int32).toNatClampNeg (0 : Int32).toNatClampNeg (x_71 : Int32).toNatClampNeg) = f_72 at hP hD
    have hf_72_0 : Rg n.toInt.toNat (-1) 1000 f_72 := by rw [← hf_72]; exact (Rg.cpy (lo := (-1)) (hi := 1000) zf (Rg.zero (by decide)) (by rw [i_clamp (show (0 : Int32).toInt = 0 from rfl), i_clamp rfl]; omega))
    have hP : va_P D vwCl [(a0, .inl (K 0, 60, .inl f)), (q_70, .inl (K 0, n.toInt.toNat, .inl f_72))] H := hP
    have hD : va_D A [(a0, .inl (K 0, 60, .inl f)), (q_70, .inl (K 0, n.toInt.toNat, .inl f_72))] := hD
    refine lv_aload_n hx hb dJ7_copyOf_59c91_31 rfl (lv_at hl 0 rfl) ?_
    subst hQ
    refine W.widen (k := 1) (n := 60) (by omega) (by omega) ?_
    have hP9 := hP.sub (ws' := [(a0, .inl (K 0, 60, .inl f)), (q_70, .inl (K 0, n.toInt.toNat, .inl f_72))]) [0, 1] rfl
    have hD9 := hD.sub (ws' := [(a0, .inl (K 0, 60, .inl f)), (q_70, .inl (K 0, n.toInt.toNat, .inl f_72))]) [0, 1] (by decide) rfl
    exact W.aret (v := .ref q_70) hx hb hr (Or.inr ⟨_, rfl⟩) (Or.inr ⟨_, rfl⟩) (fun t ht hW => ⟨⟨(q_70, f_72), q_70, rfl, hf_72_0, rfl, by rw [ht]; exact hP9, hD9⟩, hS.F ht⟩) hS.2.2 dJ7_copyOf_59c91_32
  · have c_69i := i_eq (x := n.toInt) (y := 60) rfl rfl c_69
    refine lv_aload_n hx hb dJ7_copyOf_59c91_6 rfl (lv_at hl 0 rfl) ?_
    have hAn : s.vm.findClass "[I" = some (K 0) := (hK.2 0 _ rfl).2
    refine va_clone (ty := .int) hx hb (hml.trans hl.1.symm) hown (hts (.methodLink RJ7 316 ⟨"[I", "clone", "()Ljava/lang/Object;"⟩) (List.mem_cons_of_mem _ (List.mem_of_getElem? (i := 0) rfl))) (hts (.sameMethod "[I" "java/lang/Object" "clone" "()Ljava/lang/Object;") (List.mem_cons_of_mem _ (List.mem_of_getElem? (i := 1) rfl))) (hts (.native ⟨"java/lang/Object", "clone", "()Ljava/lang/Object;"⟩) (List.mem_cons_of_mem _ (List.mem_of_getElem? (i := 2) rfl))) (hts (.instanceMethod ⟨"java/lang/Object", "clone", "()Ljava/lang/Object;"⟩) (List.mem_cons_of_mem _ (List.mem_of_getElem? (i := 3) rfl))) (hts (.selects "[I" ⟨"[I", "clone", "()Ljava/lang/Object;"⟩ ⟨"java/lang/Object", "clone", "()Ljava/lang/Object;"⟩) (List.mem_cons_of_mem _ (List.mem_of_getElem? (i := 4) rfl))) hC hK hP hD hS hA 0 0 rfl rfl hAn (fun i v hv => va_fit (fun _ _ => rfl) i v hv) (Nat.le_of_ble_eq_true rfl) (Nat.le_of_ble_eq_true rfl) (Nat.le_of_ble_eq_true rfl) (Nat.le_of_ble_eq_true rfl) dJ7_copyOf_59c91_7 (fun q_9 H _ hP hD hS => ?_)
    refine va_castA (nm := "[I") hx hb hown (hts (.classLink RJ7 317 "[I") (List.mem_cons_of_mem _ (List.mem_of_getElem? (i := 5) rfl))) hP 1 rfl hAn dJ7_copyOf_59c91_10 ?_
    have e_9 : n.toInt.toNat = 60 := by omega
    have hP : va_P D vwCl [(a0, .inl (K 0, 60, .inl f)), (q_9, .inl (K 0, n.toInt.toNat, .inl f))] H := by rw [e_9]; exact hP
    have hD : va_D A [(a0, .inl (K 0, 60, .inl f)), (q_9, .inl (K 0, n.toInt.toNat, .inl f))] := by rw [e_9]; exact hD
    refine W.widen (k := 1) (n := 60) (by omega) (by omega) ?_
    subst hQ
    have hP9 := hP.sub (ws' := [(a0, .inl (K 0, 60, .inl f)), (q_9, .inl (K 0, n.toInt.toNat, .inl f))]) [0, 1] rfl
    have hD9 := hD.sub (ws' := [(a0, .inl (K 0, 60, .inl f)), (q_9, .inl (K 0, n.toInt.toNat, .inl f))]) [0, 1] (by decide) rfl
    exact W.aret (v := .ref q_9) hx hb hr (Or.inr ⟨_, rfl⟩) (Or.inr ⟨_, rfl⟩) (fun t ht hW => ⟨⟨(q_9, f), q_9, rfl, (e_9.symm ▸ zf), rfl, by rw [ht]; exact hP9, hD9⟩, hS.F ht⟩) hS.2.2 dJ7_copyOf_59c91_13
set_option maxHeartbeats 4000000 in
set_option maxRecDepth 100000 in
theorem w_copy_c (l : Launch) (D : va_G) (K : Nat → ClassId) (a0 : Nat) (n : Int32) (f : Nat → Int32) (sz : Nat) (zn : 0 ≤ n.toInt ∧ n.toInt ≤ 800) (zf : Rg 800 0 1000 f) : Met l yJ7_copyOf_59c91 wsJ7_copyOf_59c91 ({ frames := 1, cells := 1, slots := 800, locals := 40 }) (va_Pc [.ref a0, .int n] (PreC (Pre D K [(a0, .inl (K 0, 800, .inl f))] sz))) (va_Qr (S := Nat × (Nat → Int32)) (fun u => Rg n.toInt.toNat 0 1000 u.2) (fun u x t => x = (fun u => u.1) u ∧ Wd D (va_A [(a0, .inl (K 0, 800, .inl f))] sz) ((fun u => [(a0, .inl (K 0, 800, .inl f)), (u.1, .inl (K 0, n.toInt.toNat, .inl u.2))]) u) t) (va_A [(a0, .inl (K 0, 800, .inl f))] sz)) 1 800 (va_A [(a0, .inl (K 0, 800, .inl f))] sz) := by
  refine Met.ofW (cc := cJ7_copyOf_59c91) (maxL := 3) (ret := (some (.array .int))) (by decide) rfl ?_
  intro p e s m args below meth c s₁ B hml hv
  obtain ⟨rfl, ⟨hsz, hP, hK, hD0, hN⟩, hC⟩ := hv
  have hx := B.exec
  have hb := B.bytes
  have hr := B.returns
  have hts := atoms_spec (ws := wsJ7_copyOf_59c91) B.pre
  have hown : s.vm.findClass RJ7 = some m.cls := findClass_of_methodNamed B.named
  have hlocks := B.notSynchronized
  subst hsz
  have hD := hD0.self (sz := s.heap.size)
  generalize hAe : va_A [(a0, .inl (K 0, 800, .inl f))] s.heap.size = A at hD ⊢
  have hA : ∀ q : Nat, s.heap.size ≤ q → A q := fun q h => by rw [← hAe]; exact Or.inr h
  have hS : va_S A s.heap s.heap [] := va_S.rf
  have hP : va_P D vwCl [(a0, .inl (K 0, 800, .inl f))] s.heap := hP
  have hl := lv_entry [.ref a0, .int n] (n := 3) (Nat.le_of_ble_eq_true rfl)
  rw [lg_entry_eq]
  generalize (lg_sl [.ref a0, .int n] ++ List.replicate (3 - (lg_sl [.ref a0, .int n]).length) Slot.unset).toArray = ls at hl ⊢
  have hl : lv_has ls 3 [(0, .ref a0), (1, .int n)] := hl
  generalize hQ : MQ below _ _ s _ _ _ = Q
  refine lv_iload_n hx hb dJ7_copyOf_59c91_0 rfl (lv_at hl 1 rfl) ?_
  refine lv_aload_n hx hb dJ7_copyOf_59c91_1 rfl (lv_at hl 0 rfl) ?_
  refine va_alen (v := 800) hx hb hK hP 0 0 rfl rfl rfl dJ7_copyOf_59c91_2 ?_
  refine lv_icmp_ne (tgt := 14) hx hb dJ7_copyOf_59c91_3 (by decide) (fun c_69 => ?_) (fun c_69 => ?_)
  · have c_69i := i_ne (x := n.toInt) (y := 800) rfl rfl c_69
    refine lv_iload_n hx hb dJ7_copyOf_59c91_14 rfl (lv_at hl 1 rfl) ?_
    refine k_newa (atype := .int) (ty := .int) (cA := K 0) (a0 := ((n.toInt).toNat, .inl (fun _ => 0))) (N' := (n.toInt).toNat) hx hb (hts (.arrayClass .int) (List.mem_cons_of_mem _ (List.mem_of_getElem? (i := 6) rfl))) rfl hK 0 rfl hP hD hS hA (fun _ => rfl) (fun h9 => by have h8 := i_lt (x := n.toInt) (y := 0) rfl rfl h9; omega) (i_clamp rfl) (by show _ * 4 ≤ _; omega) (Nat.le_of_ble_eq_true rfl) (by show _ ≤ (800 : Nat); omega) dJ7_copyOf_59c91_15 (fun q_70 H hP hD hS => ?_)
    have hP : va_P D vwCl [(a0, .inl (K 0, 800, .inl f)), (q_70, .inl (K 0, n.toInt.toNat, .inl (fun _ => 0)))] H := hP
    have hD : va_D A [(a0, .inl (K 0, 800, .inl f)), (q_70, .inl (K 0, n.toInt.toNat, .inl (fun _ => 0)))] := hD
    refine W.widen (k := 1) (n := 799) (by omega) (by omega) ?_
    refine lv_astore_n (lv' := [(2, .ref q_70), (0, .ref a0), (1, .int n)]) hx hb dJ7_copyOf_59c91_17 rfl hl (by decide) rfl (fun ls hl => ?_)
    refine lv_aload_n hx hb dJ7_copyOf_59c91_18 rfl (lv_at hl 1 rfl) ?_
    refine lv_iconst (v := 0) hx hb dJ7_copyOf_59c91_19 (by decide) ?_
    refine lv_aload_n hx hb dJ7_copyOf_59c91_20 rfl (lv_at hl 0 rfl) ?_
    refine lv_iconst (v := 0) hx hb dJ7_copyOf_59c91_21 (by decide) ?_
    refine lv_aload_n hx hb dJ7_copyOf_59c91_22 rfl (lv_at hl 1 rfl) ?_
    refine va_alen (v := 800) hx hb hK hP 0 0 rfl rfl rfl dJ7_copyOf_59c91_23 ?_
    refine lv_iload_n hx hb dJ7_copyOf_59c91_24 rfl (lv_at hl 2 rfl) ?_
    refine va_mmin hx hb (hml.trans hl.1.symm) hown (hts (.methodLink RJ7 304 Lib.Math.min.name) (List.mem_cons_of_mem _ (List.mem_of_getElem? (i := 7) rfl))) (hts (.static Lib.Math.min.name) (List.mem_cons_of_mem _ (List.mem_of_getElem? (i := 8) rfl))) (hts (.initialized "java/lang/Math") (List.mem_cons_of_mem _ (List.mem_of_getElem? (i := 9) rfl))) (hts (.code Lib.Math.min.name Lib.Math.min.code 2 (some .int)) (List.mem_cons_of_mem _ (List.mem_of_getElem? (i := 10) rfl))) (Nat.le_of_ble_eq_true rfl) (Nat.le_of_ble_eq_true rfl) (Nat.le_of_ble_eq_true rfl) (Nat.le_of_ble_eq_true rfl) dJ7_copyOf_59c91_25 ?_
    refine lv_topi (fun x_71 ex_71 => ?_)
    have hx_71 : (800 ≤ n.toInt ∧ x_71.toInt = 800) ∨ (n.toInt < 800 ∧ x_71.toInt = n.toInt) := by rw [ex_71]; exact i_min (show (800 : Int32).toInt = 800 from rfl) rfl
    replace hx_71 : x_71.toInt ≤ n.toInt ∧ 0 ≤ x_71.toInt ∧ x_71.toInt ≤ 799 := by omega
    refine va_copyi hx hb (hml.trans hl.1.symm) hown (hts (.methodLink RJ7 150 arraycopyName) (List.mem_cons_of_mem _ (List.mem_of_getElem? (i := 11) rfl))) (hts (.native arraycopyName) (List.mem_cons_of_mem _ (List.mem_of_getElem? (i := 12) rfl))) (hts (.static arraycopyName) (List.mem_cons_of_mem _ (List.mem_of_getElem? (i := 13) rfl))) (hts (.initialized "java/lang/System") (List.mem_cons_of_mem _ (List.mem_of_getElem? (i := 14) rfl))) hK hP hD hS 0 1 0 0 rfl rfl rfl rfl rfl (by decide) (by decide) (fun h9 => by have h8 := i_lt (x := x_71.toInt) (y := 0) rfl rfl h9; omega) (by rw [i_clamp (show (0 : Int32).toInt = 0 from rfl), i_clamp rfl]; omega) (by rw [i_clamp (show (0 : Int32).toInt = 0 from rfl), i_clamp rfl]; omega) (fun _ _ => rfl) (Nat.le_of_ble_eq_true rfl) (by decide +kernel) dJ7_copyOf_59c91_28 (fun H locs hP hD hS => ?_)
    generalize hf_72 : (va_cpy (α := Int32) f (fun _ => 0) (0 : Int32).toNatClampNeg (0 : Int32).toNatClampNeg (x_71 : Int32).toNatClampNeg) = f_72 at hP hD
    have hf_72_0 : Rg n.toInt.toNat 0 1000 f_72 := by rw [← hf_72]; exact (Rg.cpy (lo := 0) (hi := 1000) zf (Rg.zero (by decide)) (by rw [i_clamp (show (0 : Int32).toInt = 0 from rfl), i_clamp rfl]; omega))
    have hP : va_P D vwCl [(a0, .inl (K 0, 800, .inl f)), (q_70, .inl (K 0, n.toInt.toNat, .inl f_72))] H := hP
    have hD : va_D A [(a0, .inl (K 0, 800, .inl f)), (q_70, .inl (K 0, n.toInt.toNat, .inl f_72))] := hD
    refine lv_aload_n hx hb dJ7_copyOf_59c91_31 rfl (lv_at hl 0 rfl) ?_
    subst hQ
    refine W.widen (k := 1) (n := 800) (by omega) (by omega) ?_
    have hP9 := hP.sub (ws' := [(a0, .inl (K 0, 800, .inl f)), (q_70, .inl (K 0, n.toInt.toNat, .inl f_72))]) [0, 1] rfl
    have hD9 := hD.sub (ws' := [(a0, .inl (K 0, 800, .inl f)), (q_70, .inl (K 0, n.toInt.toNat, .inl f_72))]) [0, 1] (by decide) rfl
    exact W.aret (v := .ref q_70) hx hb hr (Or.inr ⟨_, rfl⟩) (Or.inr ⟨_, rfl⟩) (fun t ht hW => ⟨⟨(q_70, f_72), q_70, rfl, hf_72_0, rfl, by rw [ht]; exact hP9, hD9⟩, hS.F ht⟩) hS.2.2 dJ7_copyOf_59c91_32
  · have c_69i := i_eq (x := n.toInt) (y := 800) rfl rfl c_69
    refine lv_aload_n hx hb dJ7_copyOf_59c91_6 rfl (lv_at hl 0 rfl) ?_
    have hAn : s.vm.findClass "[I" = some (K 0) := (hK.2 0 _ rfl).2
    refine va_clone (ty := .int) hx hb (hml.trans hl.1.symm) hown (hts (.methodLink RJ7 316 ⟨"[I", "clone", "()Ljava/lang/Object;"⟩) (List.mem_cons_of_mem _ (List.mem_of_getElem? (i := 0) rfl))) (hts (.sameMethod "[I" "java/lang/Object" "clone" "()Ljava/lang/Object;") (List.mem_cons_of_mem _ (List.mem_of_getElem? (i := 1) rfl))) (hts (.native ⟨"java/lang/Object", "clone", "()Ljava/lang/Object;"⟩) (List.mem_cons_of_mem _ (List.mem_of_getElem? (i := 2) rfl))) (hts (.instanceMethod ⟨"java/lang/Object", "clone", "()Ljava/lang/Object;"⟩) (List.mem_cons_of_mem _ (List.mem_of_getElem? (i := 3) rfl))) (hts (.selects "[I" ⟨"[I", "clone", "()Ljava/lang/Object;"⟩ ⟨"java/lang/Object", "clone", "()Ljava/lang/Object;"⟩) (List.mem_cons_of_mem _ (List.mem_of_getElem? (i := 4) rfl))) hC hK hP hD hS hA 0 0 rfl rfl hAn (fun i v hv => va_fit (fun _ _ => rfl) i v hv) (Nat.le_of_ble_eq_true rfl) (Nat.le_of_ble_eq_true rfl) (Nat.le_of_ble_eq_true rfl) (Nat.le_of_ble_eq_true rfl) dJ7_copyOf_59c91_7 (fun q_9 H _ hP hD hS => ?_)
    refine va_castA (nm := "[I") hx hb hown (hts (.classLink RJ7 317 "[I") (List.mem_cons_of_mem _ (List.mem_of_getElem? (i := 5) rfl))) hP 1 rfl hAn dJ7_copyOf_59c91_10 ?_
    have e_9 : n.toInt.toNat = 800 := by omega
    have hP : va_P D vwCl [(a0, .inl (K 0, 800, .inl f)), (q_9, .inl (K 0, n.toInt.toNat, .inl f))] H := by rw [e_9]; exact hP
    have hD : va_D A [(a0, .inl (K 0, 800, .inl f)), (q_9, .inl (K 0, n.toInt.toNat, .inl f))] := by rw [e_9]; exact hD
    refine W.widen (k := 1) (n := 800) (by omega) (by omega) ?_
    subst hQ
    have hP9 := hP.sub (ws' := [(a0, .inl (K 0, 800, .inl f)), (q_9, .inl (K 0, n.toInt.toNat, .inl f))]) [0, 1] rfl
    have hD9 := hD.sub (ws' := [(a0, .inl (K 0, 800, .inl f)), (q_9, .inl (K 0, n.toInt.toNat, .inl f))]) [0, 1] (by decide) rfl
    exact W.aret (v := .ref q_9) hx hb hr (Or.inr ⟨_, rfl⟩) (Or.inr ⟨_, rfl⟩) (fun t ht hW => ⟨⟨(q_9, f), q_9, rfl, (e_9.symm ▸ zf), rfl, by rw [ht]; exact hP9, hD9⟩, hS.F ht⟩) hS.2.2 dJ7_copyOf_59c91_13
set_option maxHeartbeats 4000000 in
set_option maxRecDepth 100000 in
theorem w_sinit (l : Launch) (D : va_G) (K : Nat → ClassId) (q0 : Nat) (h0 : Nat) (c0 : Nat) (cl : Int32) (nc : Nat) (fc : Nat → Int32) (sz : Nat) : Met l yX7_init wsX7_init ({ frames := 1, cells := 0, slots := 0, locals := 12 }) (va_Pc [.ref q0, .ref h0, .ref c0, .int cl] (Pre D K [(q0, .inr (7, [.null, .null, .int 0, .int 0])), (c0, .inl (K 0, nc, .inl fc))] sz)) (va_Qv (S := Su) (fun (u : Su) => (0 ≤ (u.2.2.2.1 1).toInt) ∧ True) (fun u t => Wd D (va_A [(q0, .inr (7, [.null, .null, .int 0, .int 0])), (c0, .inl (K 0, nc, .inl fc))] sz) ((fun u => [(q0, .inr (7, [.ref h0, .ref c0, .int (u.2.2.2.1 0), .int (u.2.2.2.1 1)])), (c0, .inl (K 0, nc, .inl fc))]) u) t) (va_A [(q0, .inr (7, [.null, .null, .int 0, .int 0])), (c0, .inl (K 0, nc, .inl fc))] sz)) 0 0 (va_A [(q0, .inr (7, [.null, .null, .int 0, .int 0])), (c0, .inl (K 0, nc, .inl fc))] sz) := by
  refine Met.ofW (cc := cX7_init) (maxL := 4) (ret := none) (by decide) rfl ?_
  intro p e s m args below meth c s₁ B hml hv
  obtain ⟨rfl, hsz, hP, hK, hD0, hN⟩ := hv
  have hx := B.exec
  have hb := B.bytes
  have hr := B.returns
  have hts := atoms_spec (ws := wsX7_init) B.pre
  have hown : s.vm.findClass RX7 = some m.cls := findClass_of_methodNamed B.named
  have hlocks := B.notSynchronized
  have hin : meth.name = "<init>" := (name_of_methodNamed B.named B.method).1
  subst hsz
  have hD := hD0.self (sz := s.heap.size)
  generalize hAe : va_A [(q0, .inr (7, [.null, .null, .int 0, .int 0])), (c0, .inl (K 0, nc, .inl fc))] s.heap.size = A at hD ⊢
  have hA : ∀ q : Nat, s.heap.size ≤ q → A q := fun q h => by rw [← hAe]; exact Or.inr h
  have hS : va_S A s.heap s.heap [] := va_S.rf
  have hP : va_P D vwCl [(q0, .inr (7, [.null, .null, .int 0, .int 0])), (c0, .inl (K 0, nc, .inl fc))] s.heap := hP
  have hl := lv_entry [.ref q0, .ref h0, .ref c0, .int cl] (n := 4) (Nat.le_of_ble_eq_true rfl)
  rw [lg_entry_eq]
  generalize (lg_sl [.ref q0, .ref h0, .ref c0, .int cl] ++ List.replicate (4 - (lg_sl [.ref q0, .ref h0, .ref c0, .int cl]).length) Slot.unset).toArray = ls at hl ⊢
  have hl : lv_has ls 4 [(0, .ref q0), (1, .ref h0), (2, .ref c0), (3, .int cl)] := hl
  have hw7 : ∀ w ∈ wsX70, w ∈ wsX7_init := fun w h => (List.mem_cons_of_mem _ (List.mem_append_right _ h))
  generalize hQ : MQ below _ _ s _ _ _ = Q
  refine lv_aload_n hx hb dX7_init_0 rfl (lv_at hl 0 rfl) ?_
  refine W.objInit hx hb hown (hts (.methodLink RX7 3 objectInit) (List.mem_cons_of_mem _ (List.mem_append_left _ (List.mem_of_getElem? (i := 0) rfl)))) (hts (.instanceMethod objectInit) (List.mem_cons_of_mem _ (List.mem_append_left _ (List.mem_of_getElem? (i := 1) rfl)))) (hts _ (List.mem_cons_of_mem _ (List.mem_append_left _ (List.mem_of_getElem? (i := 2) rfl)))) rfl (by rw [hml]; exact hl.1) rfl dX7_init_1 (Nat.le_of_ble_eq_true rfl) (Nat.le_of_ble_eq_true rfl) ?_
  refine W.eq (g2 := F0 m 4 ls []) rfl ?_
  refine lv_aload_n hx hb dX7_init_4 rfl (lv_at hl 0 rfl) ?_
  refine lv_aload_n hx hb dX7_init_5 rfl (lv_at hl 1 rfl) ?_
  refine va_putF (ci := 7) (v := .ref h0) (ty := .array .int) (C := RX7) (T := TX7) (N := 4) hx hb hts hw7 tyX7 tyX7_ok nmX7 hown hK hP hD hS 0 rfl rfl 0 (by decide) (hts (.fieldLink RX7 9 "SmokeTune$Script" "heads" "[I") (List.mem_cons_of_mem _ (List.mem_append_left _ (List.mem_of_getElem? (i := 3) rfl)))) (fun _ h9 => h9) rfl hin rfl (by decide +kernel) (by first | rfl | decide) (by first | rfl | decide) (Nat.le_of_ble_eq_true rfl) dX7_init_6 (fun H locs hP hD hS => ?_)
  have hP : va_P D vwCl [(q0, .inr (7, [.ref h0, .null, .int 0, .int 0])), (c0, .inl (K 0, nc, .inl fc))] H := hP
  have hD : va_D A [(q0, .inr (7, [.ref h0, .null, .int 0, .int 0])), (c0, .inl (K 0, nc, .inl fc))] := hD
  refine lv_aload_n hx hb dX7_init_9 rfl (lv_at hl 0 rfl) ?_
  refine lv_aload_n hx hb dX7_init_10 rfl (lv_at hl 2 rfl) ?_
  refine va_putF (ci := 7) (v := .ref c0) (ty := .array .int) (C := RX7) (T := TX7) (N := 4) hx hb hts hw7 tyX7 tyX7_ok nmX7 hown hK hP hD hS 0 rfl rfl 1 (by decide) (hts (.fieldLink RX7 15 "SmokeTune$Script" "code" "[I") (List.mem_cons_of_mem _ (List.mem_append_left _ (List.mem_of_getElem? (i := 4) rfl)))) (fun _ h9 => h9) rfl hin rfl (by decide +kernel) (by first | rfl | decide) (by first | rfl | decide) (Nat.le_of_ble_eq_true rfl) dX7_init_11 (fun H locs hP hD hS => ?_)
  have hP : va_P D vwCl [(q0, .inr (7, [.ref h0, .ref c0, .int 0, .int 0])), (c0, .inl (K 0, nc, .inl fc))] H := hP
  have hD : va_D A [(q0, .inr (7, [.ref h0, .ref c0, .int 0, .int 0])), (c0, .inl (K 0, nc, .inl fc))] := hD
  refine lv_aload_n hx hb dX7_init_14 rfl (lv_at hl 0 rfl) ?_
  refine lv_iload_n hx hb dX7_init_15 rfl (lv_at hl 3 rfl) ?_
  refine va_put (ci := 7) (v := .int cl) (ty := .int) (C := RX7) (T := TX7) (N := 4) hx hb hts hw7 tyX7 tyX7_ok nmX7 hown hK hP hD hS 0 rfl rfl 2 (by decide) (hts (.fieldLink RX7 18 "SmokeTune$Script" "clauses" "I") (List.mem_cons_of_mem _ (List.mem_append_left _ (List.mem_of_getElem? (i := 5) rfl)))) (fun _ h9 => h9) rfl (by decide +kernel) (by first | rfl | decide) (by first | rfl | decide) (Nat.le_of_ble_eq_true rfl) dX7_init_16 (fun H locs hP hD hS => ?_)
  have hP : va_P D vwCl [(q0, .inr (7, [.ref h0, .ref c0, .int cl, .int 0])), (c0, .inl (K 0, nc, .inl fc))] H := hP
  have hD : va_D A [(q0, .inr (7, [.ref h0, .ref c0, .int cl, .int 0])), (c0, .inl (K 0, nc, .inl fc))] := hD
  refine lv_aload_n hx hb dX7_init_19 rfl (lv_at hl 0 rfl) ?_
  refine lv_aload_n hx hb dX7_init_20 rfl (lv_at hl 2 rfl) ?_
  refine va_alen (v := (nI nc)) hx hb hK hP 1 0 rfl rfl rfl dX7_init_21 ?_
  refine va_put (ci := 7) (v := .int (nI nc)) (ty := .int) (C := RX7) (T := TX7) (N := 4) hx hb hts hw7 tyX7 tyX7_ok nmX7 hown hK hP hD hS 0 rfl rfl 3 (by decide) (hts (.fieldLink RX7 22 "SmokeTune$Script" "used" "I") (List.mem_cons_of_mem _ (List.mem_append_left _ (List.mem_of_getElem? (i := 6) rfl)))) (fun _ h9 => h9) rfl (by decide +kernel) (by first | rfl | decide) (by first | rfl | decide) (Nat.le_of_ble_eq_true rfl) dX7_init_22 (fun H locs hP hD hS => ?_)
  have hP : va_P D vwCl [(q0, .inr (7, [.ref h0, .ref c0, .int cl, .int (nI nc)])), (c0, .inl (K 0, nc, .inl fc))] H := hP
  have hD : va_D A [(q0, .inr (7, [.ref h0, .ref c0, .int cl, .int (nI nc)])), (c0, .inl (K 0, nc, .inl fc))] := hD
  subst hQ
  have hP9 := hP.sub (ws' := [(q0, .inr (7, [.ref h0, .ref c0, .int cl, .int (nI nc)])), (c0, .inl (K 0, nc, .inl fc))]) [0, 1] rfl
  have hD9 := hD.sub (ws' := [(q0, .inr (7, [.ref h0, .ref c0, .int cl, .int (nI nc)])), (c0, .inl (K 0, nc, .inl fc))]) [0, 1] (by decide) rfl
  exact W.vret hx hb hr (fun t ht hW => ⟨⟨((fun _ => 0, fun _ => fun _ => 0, fun _ => fun _ => 0, fun i => match i with | 0 => cl | _ => (nI nc), fun _ => 0, fun _ => fun _ => none) : Su), rfl, ⟨(show 0 ≤ ((nI nc) : Int32).toInt by rw [(nI_toInt (by omega))]; omega), trivial⟩, (⟨by rw [ht]; exact hP9, hD9⟩ : Wd D A _ t)⟩, hS.F ht⟩) hS.2.2 dX7_init_25
set_option maxHeartbeats 4000000 in
set_option maxRecDepth 100000 in
theorem w_trimmed (l : Launch) (D : va_G) (K : Nat → ClassId) (s0 : Nat) (s1 : Nat) (s2 : Nat) (scl : Int32) (us : Int32) (fh : Nat → Int32) (fc : Nat → Int32) (sz : Nat) (zscl : 0 ≤ scl.toInt ∧ scl.toInt ≤ 12) (zus : 0 ≤ us.toInt ∧ us.toInt ≤ 800) (zfh : Rg 60 (-1) 1000 fh) (zfc : Rg 800 0 1000 fc) : Met l yX7_trimmed wsX7_trimmed ({ frames := 2, cells := 3, slots := 864, locals := 62 }) (va_Pc [.ref s0] (PreC (Pre D K [(s0, .inr (7, [.ref s1, .ref s2, .int scl, .int us])), (s1, .inl (K 0, 60, .inl fh)), (s2, .inl (K 0, 800, .inl fc))] sz))) (va_Qr (S := (Nat → Nat) × (Nat → Int32) × (Nat → Int32) × Int32) (fun u => u.1 3 < 1000000 ∧ u.1 4 < 1000000 ∧ Rg (u.1 3) (-1) 1000 u.2.1 ∧ Rg (u.1 4) 0 1000 u.2.2.1) (fun u x t => x = (fun u => u.1 0) u ∧ Wd D (va_A [(s0, .inr (7, [.ref s1, .ref s2, .int scl, .int us])), (s1, .inl (K 0, 60, .inl fh)), (s2, .inl (K 0, 800, .inl fc))] sz) ((fun u => [(s0, .inr (7, [.ref s1, .ref s2, .int scl, .int us])), (s1, .inl (K 0, 60, .inl fh)), (s2, .inl (K 0, 800, .inl fc))] ++ Scr K (u.1 0) (u.1 1) (u.1 2) (u.1 3) (u.1 4) u.2.1 u.2.2.1 scl u.2.2.2) u) t) (va_A [(s0, .inr (7, [.ref s1, .ref s2, .int scl, .int us])), (s1, .inl (K 0, 60, .inl fh)), (s2, .inl (K 0, 800, .inl fc))] sz)) 3 864 (va_A [(s0, .inr (7, [.ref s1, .ref s2, .int scl, .int us])), (s1, .inl (K 0, 60, .inl fh)), (s2, .inl (K 0, 800, .inl fc))] sz) := by
  refine Met.ofW (cc := cX7_trimmed) (maxL := 1) (ret := (some (.object "SmokeTune$Script"))) (by decide) rfl ?_
  intro p e s m args below meth c s₁ B hml hv
  obtain ⟨rfl, ⟨hsz, hP, hK, hD0, hN⟩, hC⟩ := hv
  have hx := B.exec
  have hb := B.bytes
  have hr := B.returns
  have hts := atoms_spec (ws := wsX7_trimmed) B.pre
  have hown : s.vm.findClass RX7 = some m.cls := findClass_of_methodNamed B.named
  have hlocks := B.notSynchronized
  subst hsz
  have hD := hD0.self (sz := s.heap.size)
  generalize hAe : va_A [(s0, .inr (7, [.ref s1, .ref s2, .int scl, .int us])), (s1, .inl (K 0, 60, .inl fh)), (s2, .inl (K 0, 800, .inl fc))] s.heap.size = A at hD ⊢
  have hA : ∀ q : Nat, s.heap.size ≤ q → A q := fun q h => by rw [← hAe]; exact Or.inr h
  have hS : va_S A s.heap s.heap [] := va_S.rf
  have hP : va_P D vwCl [(s0, .inr (7, [.ref s1, .ref s2, .int scl, .int us])), (s1, .inl (K 0, 60, .inl fh)), (s2, .inl (K 0, 800, .inl fc))] s.heap := hP
  have hl := lv_entry [.ref s0] (n := 1) (Nat.le_of_ble_eq_true rfl)
  rw [lg_entry_eq]
  generalize (lg_sl [.ref s0] ++ List.replicate (1 - (lg_sl [.ref s0]).length) Slot.unset).toArray = ls at hl ⊢
  have hl : lv_has ls 1 [(0, .ref s0)] := hl
  have hw7 : ∀ w ∈ wsX70, w ∈ wsX7_trimmed := fun w h => (List.mem_cons_of_mem _ (List.mem_append_right _ h))
  generalize hQ : MQ below _ _ s _ _ _ = Q
  refine va_new (ci := 7) (fs := [.null, .null, .int 0, .int 0]) (C := RX7) (T := TX7) (N := 4) hx hb hts hw7 tyX7 tyX7_ok hown (hts (.classLink RX7 10 RX7) (List.mem_cons_of_mem _ (List.mem_append_left _ (List.mem_append_left _ (List.mem_of_getElem? (i := 0) rfl))))) (hts (.instantiable RX7 4) (List.mem_cons_of_mem _ (List.mem_append_left _ (List.mem_append_left _ (List.mem_of_getElem? (i := 1) rfl))))) (hts (.initialized RX7) (List.mem_cons_of_mem _ (List.mem_append_left _ (List.mem_append_left _ (List.mem_of_getElem? (i := 2) rfl))))) hK hP hD hS hA rfl dfv_X7 (Nat.le_of_ble_eq_true rfl) (Nat.le_of_ble_eq_true rfl) dX7_trimmed_0 (fun q_83 H hP hD hS => ?_)
  have hP : va_P D vwCl [(s0, .inr (7, [.ref s1, .ref s2, .int scl, .int us])), (s1, .inl (K 0, 60, .inl fh)), (s2, .inl (K 0, 800, .inl fc)), (q_83, .inr (7, [.null, .null, .int 0, .int 0]))] H := hP
  have hD : va_D A [(s0, .inr (7, [.ref s1, .ref s2, .int scl, .int us])), (s1, .inl (K 0, 60, .inl fh)), (s2, .inl (K 0, 800, .inl fc)), (q_83, .inr (7, [.null, .null, .int 0, .int 0]))] := hD
  refine W.widen (k := 1) (n := 4) (by omega) (by omega) ?_
  refine lv_dup hx hb dX7_trimmed_3 rfl ?_
  refine lv_aload_n hx hb dX7_trimmed_4 rfl (lv_at hl 0 rfl) ?_
  refine va_get (ci := 7) (v := .ref s1) (C := RX7) (T := TX7) (N := 4) hx hb hts hw7 hown hK hP 0 rfl rfl 0 (by decide) (hts (.fieldLink RX7 9 "SmokeTune$Script" "heads" "[I") (List.mem_cons_of_mem _ (List.mem_append_left _ (List.mem_append_left _ (List.mem_of_getElem? (i := 3) rfl))))) (fun _ h9 => h9) rfl dX7_trimmed_5 ?_
  refine lv_aload_n hx hb dX7_trimmed_8 rfl (lv_at hl 0 rfl) ?_
  refine va_get (ci := 7) (v := .int scl) (C := RX7) (T := TX7) (N := 4) hx hb hts hw7 hown hK hP 0 rfl rfl 2 (by decide) (hts (.fieldLink RX7 18 "SmokeTune$Script" "clauses" "I") (List.mem_cons_of_mem _ (List.mem_append_left _ (List.mem_append_left _ (List.mem_of_getElem? (i := 4) rfl))))) (fun _ h9 => h9) rfl dX7_trimmed_9 ?_
  refine lv_iconst (v := 5) hx hb dX7_trimmed_12 (by decide) ?_
  refine lv_imul hx hb dX7_trimmed_13 ?_
  refine lv_topi (fun x_84 ex_84 => ?_)
  have hx_84 : x_84.toInt = (scl.toInt * 5) := by rw [ex_84]; exact i_mul rfl (show (5 : Int32).toInt = 5 from rfl) (by omega)
  refine kcr (S := Nat × (Nat → Int32)) (B := fun u => [(s1, .inl (K 0, 60, .inl fh)), (u.1, .inl (K 0, x_84.toInt.toNat, .inl u.2))]) (ad := fun u => u.1) (wr := [(s0, .inr (7, [.ref s1, .ref s2, .int scl, .int us])), (s2, .inl (K 0, 800, .inl fc)), (q_83, .inr (7, [.null, .null, .int 0, .int 0]))]) (va_runS (As := [.ref s1, .int x_84]) (rest := [.ref q_83, .ref q_83]) ⟨hx, hb, hml, hown, hts⟩ (w_copy_h l D K s1 x_84 fh H.size (by first | omega | decide) zfh) (va_cwS 2 hts gX7_trimmed_J7_copyOf_59c91 rfl rfl rfl (by decide +kernel) ⟨Nat.le_of_ble_eq_true rfl, Nat.le_of_ble_eq_true rfl⟩) (PreC.S (mkS hK hN (hP.sub [1] rfl) (hD.sub [1] (by decide) rfl)) hC) rfl rfl hl.1 rfl (lv_room (Nat.le_of_ble_eq_true rfl)) dX7_trimmed_14 ⟨Nat.le_of_ble_eq_true rfl, Nat.le_of_ble_eq_true rfl⟩) hP hD hS hA [1] [0, 2, 3] rfl rfl (by decide) (by decide) (fun u_86 H locs hw hP hD hS => ?_)
  have hP : va_P D vwCl [(s0, .inr (7, [.ref s1, .ref s2, .int scl, .int us])), (s2, .inl (K 0, 800, .inl fc)), (q_83, .inr (7, [.null, .null, .int 0, .int 0])), (s1, .inl (K 0, 60, .inl fh)), (u_86.1, .inl (K 0, x_84.toInt.toNat, .inl u_86.2))] H := hP
  have hD : va_D A [(s0, .inr (7, [.ref s1, .ref s2, .int scl, .int us])), (s2, .inl (K 0, 800, .inl fc)), (q_83, .inr (7, [.null, .null, .int 0, .int 0])), (s1, .inl (K 0, 60, .inl fh)), (u_86.1, .inl (K 0, x_84.toInt.toNat, .inl u_86.2))] := hD
  refine W.widen (k := 2) (n := 64) (by omega) (by omega) ?_
  refine W.eq (g2 := F0 m 17 ls (.ref ((fun u => u.1) u_86) :: [.ref q_83, .ref q_83])) rfl ?_
  have k_87 : Rg x_84.toInt.toNat (-1) 1000 u_86.2 := hw
  refine W.eq (g2 := F0 m 17 ls [.ref u_86.1, .ref q_83, .ref q_83]) rfl ?_
  refine lv_aload_n hx hb dX7_trimmed_17 rfl (lv_at hl 0 rfl) ?_
  refine va_get (ci := 7) (v := .ref s2) (C := RX7) (T := TX7) (N := 4) hx hb hts hw7 hown hK hP 0 rfl rfl 1 (by decide) (hts (.fieldLink RX7 15 "SmokeTune$Script" "code" "[I") (List.mem_cons_of_mem _ (List.mem_append_left _ (List.mem_append_left _ (List.mem_of_getElem? (i := 5) rfl))))) (fun _ h9 => h9) rfl dX7_trimmed_18 ?_
  refine lv_aload_n hx hb dX7_trimmed_21 rfl (lv_at hl 0 rfl) ?_
  refine va_get (ci := 7) (v := .int us) (C := RX7) (T := TX7) (N := 4) hx hb hts hw7 hown hK hP 0 rfl rfl 3 (by decide) (hts (.fieldLink RX7 22 "SmokeTune$Script" "used" "I") (List.mem_cons_of_mem _ (List.mem_append_left _ (List.mem_append_left _ (List.mem_of_getElem? (i := 6) rfl))))) (fun _ h9 => h9) rfl dX7_trimmed_22 ?_
  refine kcr (S := Nat × (Nat → Int32)) (B := fun u => [(s2, .inl (K 0, 800, .inl fc)), (u.1, .inl (K 0, us.toInt.toNat, .inl u.2))]) (ad := fun u => u.1) (wr := [(s0, .inr (7, [.ref s1, .ref s2, .int scl, .int us])), (q_83, .inr (7, [.null, .null, .int 0, .int 0])), (s1, .inl (K 0, 60, .inl fh)), (u_86.1, .inl (K 0, x_84.toInt.toNat, .inl u_86.2))]) (va_runS (As := [.ref s2, .int us]) (rest := [.ref u_86.1, .ref q_83, .ref q_83]) ⟨hx, hb, hml, hown, hts⟩ (w_copy_c l D K s2 us fc H.size (by first | omega | decide) zfc) (va_cwS 2 hts gX7_trimmed_J7_copyOf_59c91 rfl rfl rfl (by decide +kernel) ⟨Nat.le_of_ble_eq_true rfl, Nat.le_of_ble_eq_true rfl⟩) (PreC.S (mkS hK hN (hP.sub [1] rfl) (hD.sub [1] (by decide) rfl)) hC) rfl rfl hl.1 rfl (lv_room (Nat.le_of_ble_eq_true rfl)) dX7_trimmed_25 ⟨Nat.le_of_ble_eq_true rfl, Nat.le_of_ble_eq_true rfl⟩) hP hD hS hA [1] [0, 2, 3, 4] rfl rfl (by decide) (by decide) (fun u_89 H locs hw hP hD hS => ?_)
  have hP : va_P D vwCl [(s0, .inr (7, [.ref s1, .ref s2, .int scl, .int us])), (q_83, .inr (7, [.null, .null, .int 0, .int 0])), (s1, .inl (K 0, 60, .inl fh)), (u_86.1, .inl (K 0, x_84.toInt.toNat, .inl u_86.2)), (s2, .inl (K 0, 800, .inl fc)), (u_89.1, .inl (K 0, us.toInt.toNat, .inl u_89.2))] H := hP
  have hD : va_D A [(s0, .inr (7, [.ref s1, .ref s2, .int scl, .int us])), (q_83, .inr (7, [.null, .null, .int 0, .int 0])), (s1, .inl (K 0, 60, .inl fh)), (u_86.1, .inl (K 0, x_84.toInt.toNat, .inl u_86.2)), (s2, .inl (K 0, 800, .inl fc)), (u_89.1, .inl (K 0, us.toInt.toNat, .inl u_89.2))] := hD
  refine W.widen (k := 3) (n := 864) (by omega) (by omega) ?_
  refine W.eq (g2 := F0 m 28 ls (.ref ((fun u => u.1) u_89) :: [.ref u_86.1, .ref q_83, .ref q_83])) rfl ?_
  have k_90 : Rg us.toInt.toNat 0 1000 u_89.2 := hw
  refine W.eq (g2 := F0 m 28 ls [.ref u_89.1, .ref u_86.1, .ref q_83, .ref q_83]) rfl ?_
  refine lv_aload_n hx hb dX7_trimmed_28 rfl (lv_at hl 0 rfl) ?_
  refine va_get (ci := 7) (v := .int scl) (C := RX7) (T := TX7) (N := 4) hx hb hts hw7 hown hK hP 0 rfl rfl 2 (by decide) (hts (.fieldLink RX7 18 "SmokeTune$Script" "clauses" "I") (List.mem_cons_of_mem _ (List.mem_append_left _ (List.mem_append_left _ (List.mem_of_getElem? (i := 4) rfl))))) (fun _ h9 => h9) rfl dX7_trimmed_29 ?_
  refine kcv (S := Su) (wr := [(s0, .inr (7, [.ref s1, .ref s2, .int scl, .int us])), (s1, .inl (K 0, 60, .inl fh)), (u_86.1, .inl (K 0, x_84.toInt.toNat, .inl u_86.2)), (s2, .inl (K 0, 800, .inl fc))]) (va_runI (As := [.ref u_86.1, .ref u_89.1, .int scl]) (rest := [.ref q_83]) ⟨hx, hb, hml, hown, hts⟩ (w_sinit l D K q_83 u_86.1 u_89.1 scl us.toInt.toNat u_89.2 H.size) (cwI 3 hts gX7_trimmed_X7_init rfl rfl rfl (hts (.initialized RX7) (List.mem_cons_of_mem _ (List.mem_append_left _ (List.mem_append_left _ (List.mem_of_getElem? (i := 2) rfl))))) (hts (.methodLink RX7 31 yX7_init) (List.mem_cons_of_mem _ (List.mem_append_left _ (List.mem_append_right _ (List.mem_of_getElem? (i := 2) rfl))))) (hts (.instanceMethod yX7_init) (List.mem_cons_of_mem _ (List.mem_append_left _ (List.mem_append_right _ (List.mem_of_getElem? (i := 3) rfl))))) rfl (by decide +kernel) ⟨Nat.le_of_ble_eq_true rfl, Nat.le_of_ble_eq_true rfl⟩) (mkS hK hN (hP.sub [1, 5] rfl) (hD.sub [1, 5] (by decide) rfl)) rfl rfl hl.1 rfl (lv_room (Nat.le_of_ble_eq_true rfl)) dX7_trimmed_32 ⟨Nat.le_of_ble_eq_true rfl, Nat.le_of_ble_eq_true rfl⟩) hP hD hS hA [1, 5] [0, 2, 3, 4] rfl rfl (by decide) (by decide) (fun u_92 H locs hw hP hD hS => ?_)
  have hP : va_P D vwCl [(s0, .inr (7, [.ref s1, .ref s2, .int scl, .int us])), (s1, .inl (K 0, 60, .inl fh)), (u_86.1, .inl (K 0, x_84.toInt.toNat, .inl u_86.2)), (s2, .inl (K 0, 800, .inl fc)), (q_83, .inr (7, [.ref u_86.1, .ref u_89.1, .int (u_92.2.2.2.1 0), .int (u_92.2.2.2.1 1)])), (u_89.1, .inl (K 0, us.toInt.toNat, .inl u_89.2))] H := hP
  have hD : va_D A [(s0, .inr (7, [.ref s1, .ref s2, .int scl, .int us])), (s1, .inl (K 0, 60, .inl fh)), (u_86.1, .inl (K 0, x_84.toInt.toNat, .inl u_86.2)), (s2, .inl (K 0, 800, .inl fc)), (q_83, .inr (7, [.ref u_86.1, .ref u_89.1, .int (u_92.2.2.2.1 0), .int (u_92.2.2.2.1 1)])), (u_89.1, .inl (K 0, us.toInt.toNat, .inl u_89.2))] := hD
  obtain ⟨k_93, -⟩ := hw
  subst hQ
  have hP9 := hP.sub (ws' := [(s0, .inr (7, [.ref s1, .ref s2, .int scl, .int us])), (s1, .inl (K 0, 60, .inl fh)), (s2, .inl (K 0, 800, .inl fc)), (q_83, .inr (7, [.ref u_86.1, .ref u_89.1, .int (u_92.2.2.2.1 0), .int (u_92.2.2.2.1 1)])), (u_86.1, .inl (K 0, x_84.toInt.toNat, .inl u_86.2)), (u_89.1, .inl (K 0, us.toInt.toNat, .inl u_89.2))]) [0, 1, 3, 4, 2, 5] rfl
  have hD9 := hD.sub (ws' := [(s0, .inr (7, [.ref s1, .ref s2, .int scl, .int us])), (s1, .inl (K 0, 60, .inl fh)), (s2, .inl (K 0, 800, .inl fc)), (q_83, .inr (7, [.ref u_86.1, .ref u_89.1, .int (u_92.2.2.2.1 0), .int (u_92.2.2.2.1 1)])), (u_86.1, .inl (K 0, x_84.toInt.toNat, .inl u_86.2)), (u_89.1, .inl (K 0, us.toInt.toNat, .inl u_89.2))]) [0, 1, 3, 4, 2, 5] (by decide) rfl
  exact W.aret (v := .ref q_83) hx hb hr (Or.inl ⟨_, rfl⟩) (Or.inr ⟨_, rfl⟩) (fun t ht hW => ⟨⟨((fun i => match i with | 0 => q_83 | 1 => u_86.1 | 2 => u_89.1 | 3 => x_84.toInt.toNat | _ => us.toInt.toNat), u_86.2, u_89.2, (u_92.2.2.2.1 1)), q_83, rfl, ⟨by show x_84.toInt.toNat < 1000000; omega, by show us.toInt.toNat < 1000000; omega, k_87, k_90⟩, rfl, by rw [ht]; exact hP9, hD9⟩, hS.F ht⟩) hS.2.2 dX7_trimmed_35
set_option maxHeartbeats 4000000 in
set_option maxRecDepth 100000 in
theorem w_enact (l : Launch) (D : va_G) (K : Nat → ClassId) (g : Nat → Nat) (L : Nat → Prop) (t0 : Nat) (q0 : Nat) (k_0 : Value) (k_1 : Value) (k_2 : Value) (l0 : Nat) (k_4 : Value) (lt : Int32) (k_6 : Value) (k_7 : Value) (k_8 : Value) (k_9 : Value) (fl : Nat → Option Nat) (s_0 : Value) (s_1 : Value) (s_2 : Value) (s_3 : Value) (sz : Nat) (zlt : 0 ≤ lt.toInt ∧ lt.toInt ≤ 6) (zfl : InL (fun z => L z ∨ z = q0) fl) : Met l yX9_enact wsX9_enact ({ frames := 0, cells := 0, slots := 0, locals := 0 }) (va_Pc [.ref t0, .ref q0] (PreY D K [(t0, .inr (9, [k_0, k_1, k_2, .ref l0, k_4, .int lt, k_6, k_7, k_8, k_9])), (l0, .inl (K 4, 6, .inr (.inr (.inr (.inr fl))))), (q0, .inr (7, [s_0, s_1, s_2, s_3]))] [] sz g L (va_A [(t0, .inr (9, [k_0, k_1, k_2, .ref l0, k_4, .int lt, k_6, k_7, k_8, k_9])), (l0, .inl (K 4, 6, .inr (.inr (.inr (.inr fl))))), (q0, .inr (7, [s_0, s_1, s_2, s_3]))] sz))) (va_Qi (S := Su) (fun (r : Int32) (u : Su) => ((-1) ≤ r.toInt ∧ r.toInt ≤ 5) ∧ (1 ≤ (u.2.2.2.1 0).toInt ∧ (u.2.2.2.1 0).toInt ≤ 6) ∧ (InL (fun z => L z ∨ z = q0) (u.2.2.2.2.2 0)) ∧ True) (fun u t => Wd D (va_A [(t0, .inr (9, [k_0, k_1, k_2, .ref l0, k_4, .int lt, k_6, k_7, k_8, k_9])), (l0, .inl (K 4, 6, .inr (.inr (.inr (.inr fl))))), (q0, .inr (7, [s_0, s_1, s_2, s_3]))] sz) ((fun u => [(t0, .inr (9, [k_0, k_1, k_2, .ref l0, k_4, .int (u.2.2.2.1 0), k_6, k_7, k_8, k_9])), (l0, .inl (K 4, 6, .inr (.inr (.inr (.inr (u.2.2.2.2.2 0)))))), (q0, .inr (7, [s_0, s_1, s_2, s_3]))]) u) t) (va_A [(t0, .inr (9, [k_0, k_1, k_2, .ref l0, k_4, .int lt, k_6, k_7, k_8, k_9])), (l0, .inl (K 4, 6, .inr (.inr (.inr (.inr fl))))), (q0, .inr (7, [s_0, s_1, s_2, s_3]))] sz)) 0 0 (va_A [(t0, .inr (9, [k_0, k_1, k_2, .ref l0, k_4, .int lt, k_6, k_7, k_8, k_9])), (l0, .inl (K 4, 6, .inr (.inr (.inr (.inr fl))))), (q0, .inr (7, [s_0, s_1, s_2, s_3]))] sz) := by
  refine Met.ofW (cc := cX9_enact) (maxL := 2) (ret := (some .int)) (by decide) rfl ?_
  intro p e s m args below meth c s₁ B hml hv
  obtain ⟨rfl, ⟨hsz, hP, hK, hD0, hN⟩, hG, hPl, hRo⟩ := hv
  have hx := B.exec
  have hb := B.bytes
  have hr := B.returns
  have hts := atoms_spec (ws := wsX9_enact) B.pre
  have hown : s.vm.findClass RX9 = some m.cls := findClass_of_methodNamed B.named
  have hlocks := B.notSynchronized
  subst hsz
  have hD := hD0.self (sz := s.heap.size)
  generalize hAe : va_A [(t0, .inr (9, [k_0, k_1, k_2, .ref l0, k_4, .int lt, k_6, k_7, k_8, k_9])), (l0, .inl (K 4, 6, .inr (.inr (.inr (.inr fl))))), (q0, .inr (7, [s_0, s_1, s_2, s_3]))] s.heap.size = A at hD hG hPl hRo ⊢
  have hA : ∀ q : Nat, s.heap.size ≤ q → A q := fun q h => by rw [← hAe]; exact Or.inr h
  have hS : va_S A s.heap s.heap [] := va_S.rf
  have hP : va_P D vwCl [(t0, .inr (9, [k_0, k_1, k_2, .ref l0, k_4, .int lt, k_6, k_7, k_8, k_9])), (l0, .inl (K 4, 6, .inr (.inr (.inr (.inr fl))))), (q0, .inr (7, [s_0, s_1, s_2, s_3]))] s.heap := hP
  have hl := lv_entry [.ref t0, .ref q0] (n := 2) (Nat.le_of_ble_eq_true rfl)
  rw [lg_entry_eq]
  generalize (lg_sl [.ref t0, .ref q0] ++ List.replicate (2 - (lg_sl [.ref t0, .ref q0]).length) Slot.unset).toArray = ls at hl ⊢
  have hl : lv_has ls 2 [(0, .ref t0), (1, .ref q0)] := hl
  have hw9 : ∀ w ∈ wsX90, w ∈ wsX9_enact := fun w h => (List.mem_cons_of_mem _ (List.mem_append_right _ h))
  generalize hQ : MQ below _ _ s _ _ _ = Q
  refine lv_aload_n hx hb dX9_enact_0 rfl (lv_at hl 0 rfl) ?_
  refine va_get (ci := 9) (v := .int lt) (C := RX9) (T := TX9) (N := 10) hx hb hts hw9 hown hK hP 0 rfl rfl 5 (by decide) (hts (.fieldLink RX9 31 "SmokeTune$Town" "lawTotal" "I") (List.mem_cons_of_mem _ (List.mem_append_left _ (List.mem_of_getElem? (i := 0) rfl)))) (fun _ h9 => h9) rfl dX9_enact_1 ?_
  refine lv_bipush (v := 6) hx hb dX9_enact_4 (by decide) ?_
  refine lv_icmp_lt (tgt := 11) hx hb dX9_enact_6 (by decide) (fun c_69 => ?_) (fun c_69 => ?_)
  · have c_69i := i_lt (x := lt.toInt) (y := 6) rfl rfl c_69
    refine lv_aload_n hx hb dX9_enact_11 rfl (lv_at hl 0 rfl) ?_
    refine va_get (ci := 9) (v := .ref l0) (C := RX9) (T := TX9) (N := 10) hx hb hts hw9 hown hK hP 0 rfl rfl 3 (by decide) (hts (.fieldLink RX9 23 "SmokeTune$Town" "laws" "[LSmokeTune$Script;") (List.mem_cons_of_mem _ (List.mem_append_left _ (List.mem_of_getElem? (i := 1) rfl)))) (fun _ h9 => h9) rfl dX9_enact_12 ?_
    refine lv_aload_n hx hb dX9_enact_15 rfl (lv_at hl 0 rfl) ?_
    refine va_get (ci := 9) (v := .int lt) (C := RX9) (T := TX9) (N := 10) hx hb hts hw9 hown hK hP 0 rfl rfl 5 (by decide) (hts (.fieldLink RX9 31 "SmokeTune$Town" "lawTotal" "I") (List.mem_cons_of_mem _ (List.mem_append_left _ (List.mem_of_getElem? (i := 0) rfl)))) (fun _ h9 => h9) rfl dX9_enact_16 ?_
    refine lv_aload_n hx hb dX9_enact_19 rfl (lv_at hl 1 rfl) ?_
    refine va_astq hx hb hK hP hD hS 1 4 2 7 rfl rfl rfl rfl (i_in rfl (by omega)) dX9_enact_20 (fun H locs hP hD hS => ?_)
    generalize hf_70 : (va_up fl (lt : Int32).toNatClampNeg (some q0)) = f_70 at hP hD
    have hf_70_0 : InL (fun z => L z ∨ z = q0) f_70 := by rw [← hf_70]; exact InL.up zfl (Or.inr rfl)
    have hP : va_P D vwCl [(t0, .inr (9, [k_0, k_1, k_2, .ref l0, k_4, .int lt, k_6, k_7, k_8, k_9])), (l0, .inl (K 4, 6, .inr (.inr (.inr (.inr f_70))))), (q0, .inr (7, [s_0, s_1, s_2, s_3]))] H := hP
    have hD : va_D A [(t0, .inr (9, [k_0, k_1, k_2, .ref l0, k_4, .int lt, k_6, k_7, k_8, k_9])), (l0, .inl (K 4, 6, .inr (.inr (.inr (.inr f_70))))), (q0, .inr (7, [s_0, s_1, s_2, s_3]))] := hD
    refine lv_aload_n hx hb dX9_enact_21 rfl (lv_at hl 0 rfl) ?_
    refine lv_dup hx hb dX9_enact_22 rfl ?_
    refine va_get (ci := 9) (v := .int lt) (C := RX9) (T := TX9) (N := 10) hx hb hts hw9 hown hK hP 0 rfl rfl 5 (by decide) (hts (.fieldLink RX9 31 "SmokeTune$Town" "lawTotal" "I") (List.mem_cons_of_mem _ (List.mem_append_left _ (List.mem_of_getElem? (i := 0) rfl)))) (fun _ h9 => h9) rfl dX9_enact_23 ?_
    refine lv_iconst (v := 1) hx hb dX9_enact_26 (by decide) ?_
    refine lv_iadd hx hb dX9_enact_27 ?_
    refine lv_topi (fun x_71 ex_71 => ?_)
    have hx_71 : x_71.toInt = (lt.toInt + 1) := by rw [ex_71]; exact i_add rfl (show (1 : Int32).toInt = 1 from rfl) (by omega)
    refine va_put (ci := 9) (v := .int x_71) (ty := .int) (C := RX9) (T := TX9) (N := 10) hx hb hts hw9 tyX9 tyX9_ok nmX9 hown hK hP hD hS 0 rfl rfl 5 (by decide) (hts (.fieldLink RX9 31 "SmokeTune$Town" "lawTotal" "I") (List.mem_cons_of_mem _ (List.mem_append_left _ (List.mem_of_getElem? (i := 0) rfl)))) (fun _ h9 => h9) rfl (by decide +kernel) (by first | rfl | decide) (by first | rfl | decide) (Nat.le_of_ble_eq_true rfl) dX9_enact_28 (fun H locs hP hD hS => ?_)
    have hP : va_P D vwCl [(t0, .inr (9, [k_0, k_1, k_2, .ref l0, k_4, .int x_71, k_6, k_7, k_8, k_9])), (l0, .inl (K 4, 6, .inr (.inr (.inr (.inr f_70))))), (q0, .inr (7, [s_0, s_1, s_2, s_3]))] H := hP
    have hD : va_D A [(t0, .inr (9, [k_0, k_1, k_2, .ref l0, k_4, .int x_71, k_6, k_7, k_8, k_9])), (l0, .inl (K 4, 6, .inr (.inr (.inr (.inr f_70))))), (q0, .inr (7, [s_0, s_1, s_2, s_3]))] := hD
    refine lv_aload_n hx hb dX9_enact_31 rfl (lv_at hl 0 rfl) ?_
    refine va_get (ci := 9) (v := .int x_71) (C := RX9) (T := TX9) (N := 10) hx hb hts hw9 hown hK hP 0 rfl rfl 5 (by decide) (hts (.fieldLink RX9 31 "SmokeTune$Town" "lawTotal" "I") (List.mem_cons_of_mem _ (List.mem_append_left _ (List.mem_of_getElem? (i := 0) rfl)))) (fun _ h9 => h9) rfl dX9_enact_32 ?_
    refine lv_iconst (v := 1) hx hb dX9_enact_35 (by decide) ?_
    refine lv_isub hx hb dX9_enact_36 ?_
    refine lv_topi (fun x_72 ex_72 => ?_)
    have hx_72 : x_72.toInt = ((lt.toInt + 1) - 1) := by rw [ex_72]; exact i_sub hx_71 (show (1 : Int32).toInt = 1 from rfl) (by omega)
    subst hQ
    have hP9 := hP.sub (ws' := [(t0, .inr (9, [k_0, k_1, k_2, .ref l0, k_4, .int x_71, k_6, k_7, k_8, k_9])), (l0, .inl (K 4, 6, .inr (.inr (.inr (.inr f_70))))), (q0, .inr (7, [s_0, s_1, s_2, s_3]))]) [0, 1, 2] rfl
    have hD9 := hD.sub (ws' := [(t0, .inr (9, [k_0, k_1, k_2, .ref l0, k_4, .int x_71, k_6, k_7, k_8, k_9])), (l0, .inl (K 4, 6, .inr (.inr (.inr (.inr f_70))))), (q0, .inr (7, [s_0, s_1, s_2, s_3]))]) [0, 1, 2] (by decide) rfl
    exact W.iret (v := x_72) hx hb hr (fun t ht hW => ⟨⟨x_72, ((fun _ => 0, fun _ => fun _ => 0, fun _ => fun _ => 0, fun i => match i with | _ => x_71, fun _ => 0, fun i => match i with | _ => f_70) : Su), rfl, ⟨(show (-1) ≤ x_72.toInt ∧ x_72.toInt ≤ 5 by rw [hx_72]; omega), (show 1 ≤ (x_71 : Int32).toInt ∧ (x_71 : Int32).toInt ≤ 6 by rw [hx_71]; omega), hf_70_0, trivial⟩, (⟨by rw [ht]; exact hP9, hD9⟩ : Wd D A _ t)⟩, hS.F ht⟩) hS.2.2 dX9_enact_37
  · have c_69i := i_nlt (x := lt.toInt) (y := 6) rfl rfl c_69
    refine lv_iconst (v := (-1)) hx hb dX9_enact_9 (by decide) ?_
    subst hQ
    have hP9 := hP.sub (ws' := [(t0, .inr (9, [k_0, k_1, k_2, .ref l0, k_4, .int lt, k_6, k_7, k_8, k_9])), (l0, .inl (K 4, 6, .inr (.inr (.inr (.inr fl))))), (q0, .inr (7, [s_0, s_1, s_2, s_3]))]) [0, 1, 2] rfl
    have hD9 := hD.sub (ws' := [(t0, .inr (9, [k_0, k_1, k_2, .ref l0, k_4, .int lt, k_6, k_7, k_8, k_9])), (l0, .inl (K 4, 6, .inr (.inr (.inr (.inr fl))))), (q0, .inr (7, [s_0, s_1, s_2, s_3]))]) [0, 1, 2] (by decide) rfl
    exact W.iret (v := (-1)) hx hb hr (fun t ht hW => ⟨⟨(-1), ((fun _ => 0, fun _ => fun _ => 0, fun _ => fun _ => 0, fun i => match i with | _ => lt, fun _ => 0, fun i => match i with | _ => fl) : Su), rfl, ⟨(show (-1) ≤ ((-1) : Int32).toInt ∧ ((-1) : Int32).toInt ≤ 5 by decide), (show 1 ≤ (lt : Int32).toInt ∧ (lt : Int32).toInt ≤ 6 by omega), zfl, trivial⟩, (⟨by rw [ht]; exact hP9, hD9⟩ : Wd D A _ t)⟩, hS.F ht⟩) hS.2.2 dX9_enact_10
set_option maxHeartbeats 4000000 in
set_option maxRecDepth 100000 in
theorem w_law (l : Launch) (D : va_G) (K : Nat → ClassId) (g : Nat → Nat) (L : Nat → Prop) (o0 : Nat) (t0 : Nat) (o_1 : Value) (o_2 : Value) (o_3 : Value) (b0 : Nat) (p0 : Nat) (o_6 : Value) (o_7 : Value) (o_8 : Value) (o_9 : Value) (o_10 : Value) (o_11 : Value) (rf : Nat) (rb : Int32) (o_14 : Value) (o_15 : Value) (o_16 : Value) (frf : Nat → Int32) (s0 : Nat) (lw : Int32) (pa : Int32) (fl : Int32) (p1 : Nat) (ln : Int32) (tf : Int32) (tt : Int32) (ti : Int32) (tu : Int32) (fb : Nat → Int32) (s1 : Nat) (s2 : Nat) (scl : Int32) (us : Int32) (fh : Nat → Int32) (fc : Nat → Int32) (k_0 : Value) (k_1 : Value) (k_2 : Value) (l0 : Nat) (k_4 : Value) (lt : Int32) (k_6 : Value) (k_7 : Value) (k_8 : Value) (k_9 : Value) (fd : Nat → Option Nat) (sz : Nat) (zln : 0 ≤ ln.toInt ∧ ln.toInt ≤ 400) (ztf : 0 ≤ tf.toInt ∧ tf.toInt ≤ 400) (ztt : 0 ≤ tt.toInt ∧ tt.toInt ≤ 400) (ztu : (-1) ≤ tu.toInt ∧ tu.toInt ≤ 1000000) (zlw : 0 ≤ lw.toInt ∧ lw.toInt ≤ 1) (zpa : 0 ≤ pa.toInt ∧ pa.toInt ≤ 50) (zus : 0 ≤ us.toInt ∧ us.toInt ≤ 800) (zscl : 0 ≤ scl.toInt ∧ scl.toInt ≤ 12) (zlt : 0 ≤ lt.toInt ∧ lt.toInt ≤ 6) (zfh : Rg 60 (-1) 1000 fh) (zfc : Rg 800 0 1000 fc) (zfd : InL L fd) : Met l yX11_law wsX11_law ({ frames := 336, cells := 3, slots := 864, locals := 7442 }) (va_Pc [.ref o0] (PreC (PreY D K [(o0, .inr (11, [.ref t0, o_1, o_2, o_3, .ref b0, .ref p0, o_6, o_7, o_8, o_9, o_10, o_11, .ref rf, .int rb, o_14, o_15, o_16])), (rf, .inl (K 0, 5, .inl frf)), (b0, .inr (6, [.ref p0, .ref s0, .int lw, .int pa, .int fl])), (p0, .inr (8, [.ref p1, .int ln, .int tf, .int tt, .int ti, .int tu])), (p1, .inl (K 0, 400, .inl fb)), (s0, .inr (7, [.ref s1, .ref s2, .int scl, .int us])), (s1, .inl (K 0, 60, .inl fh)), (s2, .inl (K 0, 800, .inl fc)), (t0, .inr (9, [k_0, k_1, k_2, .ref l0, k_4, .int lt, k_6, k_7, k_8, k_9])), (l0, .inl (K 4, 6, .inr (.inr (.inr (.inr fd)))))] [] sz g L (va_A [(o0, .inr (11, [.ref t0, o_1, o_2, o_3, .ref b0, .ref p0, o_6, o_7, o_8, o_9, o_10, o_11, .ref rf, .int rb, o_14, o_15, o_16])), (rf, .inl (K 0, 5, .inl frf)), (b0, .inr (6, [.ref p0, .ref s0, .int lw, .int pa, .int fl])), (p0, .inr (8, [.ref p1, .int ln, .int tf, .int tt, .int ti, .int tu])), (p1, .inl (K 0, 400, .inl fb)), (s0, .inr (7, [.ref s1, .ref s2, .int scl, .int us])), (s1, .inl (K 0, 60, .inl fh)), (s2, .inl (K 0, 800, .inl fc)), (t0, .inr (9, [k_0, k_1, k_2, .ref l0, k_4, .int lt, k_6, k_7, k_8, k_9])), (l0, .inl (K 4, 6, .inr (.inr (.inr (.inr fd)))))] sz)))) (va_Qi (S := Su × va_W × (Nat → Prop)) (fun (r : Int32) v => (fun (r : Int32) (u : Su) => (0 ≤ (u.2.2.2.1 1).toInt ∧ (u.2.2.2.1 1).toInt ≤ 1) ∧ (0 ≤ (u.2.2.2.1 2).toInt ∧ (u.2.2.2.1 2).toInt ≤ 50) ∧ (0 ≤ (u.2.2.2.1 4).toInt ∧ (u.2.2.2.1 4).toInt ≤ 400) ∧ (0 ≤ (u.2.2.2.1 5).toInt ∧ (u.2.2.2.1 5).toInt ≤ 400) ∧ ((-1) ≤ (u.2.2.2.1 7).toInt ∧ (u.2.2.2.1 7).toInt ≤ 1000000) ∧ (0 ≤ (u.2.2.2.1 8).toInt ∧ (u.2.2.2.1 8).toInt ≤ 12) ∧ (0 ≤ (u.2.2.2.1 9).toInt ∧ (u.2.2.2.1 9).toInt ≤ 800) ∧ (Rg 60 (-1) 1000 (u.2.1 1)) ∧ (Rg 800 0 1000 (u.2.1 2)) ∧ (0 ≤ (u.2.2.2.1 10).toInt ∧ (u.2.2.2.1 10).toInt ≤ 6) ∧ True) r v.1 ∧ InL v.2.2 ((fun u : Su => (u.2.2.2.2.2 0)) v.1) ∧ NewLaw K L v.2.2 v.2.1) (fun v t => Wd D (va_A [(o0, .inr (11, [.ref t0, o_1, o_2, o_3, .ref b0, .ref p0, o_6, o_7, o_8, o_9, o_10, o_11, .ref rf, .int rb, o_14, o_15, o_16])), (rf, .inl (K 0, 5, .inl frf)), (b0, .inr (6, [.ref p0, .ref s0, .int lw, .int pa, .int fl])), (p0, .inr (8, [.ref p1, .int ln, .int tf, .int tt, .int ti, .int tu])), (p1, .inl (K 0, 400, .inl fb)), (s0, .inr (7, [.ref s1, .ref s2, .int scl, .int us])), (s1, .inl (K 0, 60, .inl fh)), (s2, .inl (K 0, 800, .inl fc)), (t0, .inr (9, [k_0, k_1, k_2, .ref l0, k_4, .int lt, k_6, k_7, k_8, k_9])), (l0, .inl (K 4, 6, .inr (.inr (.inr (.inr fd)))))] sz) ((fun u : Su => [(o0, .inr (11, [.ref t0, o_1, o_2, o_3, .ref b0, .ref p0, o_6, o_7, o_8, o_9, o_10, o_11, .ref rf, .int (u.2.2.2.1 0), o_14, o_15, o_16])), (rf, .inl (K 0, 5, .inl (u.2.1 0))), (b0, .inr (6, [.ref p0, .ref s0, .int (u.2.2.2.1 1), .int (u.2.2.2.1 2), .int (u.2.2.2.1 3)])), (p0, .inr (8, [.ref p1, .int 0, .int (u.2.2.2.1 4), .int (u.2.2.2.1 5), .int (u.2.2.2.1 6), .int (u.2.2.2.1 7)])), (p1, .inl (K 0, 400, .inl fb)), (s0, .inr (7, [.ref s1, .ref s2, .int (u.2.2.2.1 8), .int (u.2.2.2.1 9)])), (s1, .inl (K 0, 60, .inl (u.2.1 1))), (s2, .inl (K 0, 800, .inl (u.2.1 2))), (t0, .inr (9, [k_0, k_1, k_2, .ref l0, k_4, .int (u.2.2.2.1 10), k_6, k_7, k_8, k_9])), (l0, .inl (K 4, 6, .inr (.inr (.inr (.inr (u.2.2.2.2.2 0))))))]) v.1 ++ v.2.1) t) (va_A [(o0, .inr (11, [.ref t0, o_1, o_2, o_3, .ref b0, .ref p0, o_6, o_7, o_8, o_9, o_10, o_11, .ref rf, .int rb, o_14, o_15, o_16])), (rf, .inl (K 0, 5, .inl frf)), (b0, .inr (6, [.ref p0, .ref s0, .int lw, .int pa, .int fl])), (p0, .inr (8, [.ref p1, .int ln, .int tf, .int tt, .int ti, .int tu])), (p1, .inl (K 0, 400, .inl fb)), (s0, .inr (7, [.ref s1, .ref s2, .int scl, .int us])), (s1, .inl (K 0, 60, .inl fh)), (s2, .inl (K 0, 800, .inl fc)), (t0, .inr (9, [k_0, k_1, k_2, .ref l0, k_4, .int lt, k_6, k_7, k_8, k_9])), (l0, .inl (K 4, 6, .inr (.inr (.inr (.inr fd)))))] sz)) 3 864 (va_A [(o0, .inr (11, [.ref t0, o_1, o_2, o_3, .ref b0, .ref p0, o_6, o_7, o_8, o_9, o_10, o_11, .ref rf, .int rb, o_14, o_15, o_16])), (rf, .inl (K 0, 5, .inl frf)), (b0, .inr (6, [.ref p0, .ref s0, .int lw, .int pa, .int fl])), (p0, .inr (8, [.ref p1, .int ln, .int tf, .int tt, .int ti, .int tu])), (p1, .inl (K 0, 400, .inl fb)), (s0, .inr (7, [.ref s1, .ref s2, .int scl, .int us])), (s1, .inl (K 0, 60, .inl fh)), (s2, .inl (K 0, 800, .inl fc)), (t0, .inr (9, [k_0, k_1, k_2, .ref l0, k_4, .int lt, k_6, k_7, k_8, k_9])), (l0, .inl (K 4, 6, .inr (.inr (.inr (.inr fd)))))] sz) := by
  refine Met.ofW (cc := cX11_law) (maxL := 1) (ret := (some .int)) (by decide) rfl ?_
  intro p e s m args below meth c s₁ B hml hv
  obtain ⟨rfl, ⟨⟨hsz, hP, hK, hD0, hN⟩, hG, hPl, hRo⟩, hC⟩ := hv
  have hx := B.exec
  have hb := B.bytes
  have hr := B.returns
  have hts := atoms_spec (ws := wsX11_law) B.pre
  have hown : s.vm.findClass RX11 = some m.cls := findClass_of_methodNamed B.named
  have hlocks := B.notSynchronized
  subst hsz
  have hD := hD0.self (sz := s.heap.size)
  generalize hAe : va_A [(o0, .inr (11, [.ref t0, o_1, o_2, o_3, .ref b0, .ref p0, o_6, o_7, o_8, o_9, o_10, o_11, .ref rf, .int rb, o_14, o_15, o_16])), (rf, .inl (K 0, 5, .inl frf)), (b0, .inr (6, [.ref p0, .ref s0, .int lw, .int pa, .int fl])), (p0, .inr (8, [.ref p1, .int ln, .int tf, .int tt, .int ti, .int tu])), (p1, .inl (K 0, 400, .inl fb)), (s0, .inr (7, [.ref s1, .ref s2, .int scl, .int us])), (s1, .inl (K 0, 60, .inl fh)), (s2, .inl (K 0, 800, .inl fc)), (t0, .inr (9, [k_0, k_1, k_2, .ref l0, k_4, .int lt, k_6, k_7, k_8, k_9])), (l0, .inl (K 4, 6, .inr (.inr (.inr (.inr fd)))))] s.heap.size = A at hD hG hPl hRo ⊢
  have hA : ∀ q : Nat, s.heap.size ≤ q → A q := fun q h => by rw [← hAe]; exact Or.inr h
  have hS : va_S A s.heap s.heap [] := va_S.rf
  have hP : va_P D vwCl [(o0, .inr (11, [.ref t0, o_1, o_2, o_3, .ref b0, .ref p0, o_6, o_7, o_8, o_9, o_10, o_11, .ref rf, .int rb, o_14, o_15, o_16])), (rf, .inl (K 0, 5, .inl frf)), (b0, .inr (6, [.ref p0, .ref s0, .int lw, .int pa, .int fl])), (p0, .inr (8, [.ref p1, .int ln, .int tf, .int tt, .int ti, .int tu])), (p1, .inl (K 0, 400, .inl fb)), (s0, .inr (7, [.ref s1, .ref s2, .int scl, .int us])), (s1, .inl (K 0, 60, .inl fh)), (s2, .inl (K 0, 800, .inl fc)), (t0, .inr (9, [k_0, k_1, k_2, .ref l0, k_4, .int lt, k_6, k_7, k_8, k_9])), (l0, .inl (K 4, 6, .inr (.inr (.inr (.inr fd)))))] s.heap := hP
  have hl := lv_entry [.ref o0] (n := 1) (Nat.le_of_ble_eq_true rfl)
  rw [lg_entry_eq]
  generalize (lg_sl [.ref o0] ++ List.replicate (1 - (lg_sl [.ref o0]).length) Slot.unset).toArray = ls at hl ⊢
  have hl : lv_has ls 1 [(0, .ref o0)] := hl
  have hw6 : ∀ w ∈ wsX60, w ∈ wsX11_law := fun w h => (List.mem_cons_of_mem _ (List.mem_append_left _ (List.mem_append_right _ h)))
  have hw7 : ∀ w ∈ wsX70, w ∈ wsX11_law := fun w h => (List.mem_cons_of_mem _ (List.mem_append_right _ h))
  have hw8 : ∀ w ∈ wsX80, w ∈ wsX11_law := fun w h => (List.mem_cons_of_mem _ (List.mem_append_left _ (List.mem_append_left _ (List.mem_append_right _ h))))
  have hw9 : ∀ w ∈ wsX90, w ∈ wsX11_law := fun w h => (List.mem_cons_of_mem _ (List.mem_append_left _ (List.mem_append_left _ (List.mem_append_left _ (List.mem_append_right _ h)))))
  have hw11 : ∀ w ∈ wsX110, w ∈ wsX11_law := fun w h => (List.mem_cons_of_mem _ (List.mem_append_left _ (List.mem_append_left _ (List.mem_append_left _ (List.mem_append_left _ (List.mem_append_right _ h))))))
  generalize hQ : MQ below _ _ s _ _ _ = Q
  refine lv_aload_n hx hb dX11_law_0 rfl (lv_at hl 0 rfl) ?_
  refine va_get (ci := 11) (v := .ref t0) (C := RX11) (T := TX11) (N := 17) hx hb hts hw11 hown hK hP 0 rfl rfl 0 (by decide) (hts (.fieldLink RX11 10 "SmokeTune" "town" "LSmokeTune$Town;") (List.mem_cons_of_mem _ (List.mem_append_left _ (List.mem_append_left _ (List.mem_append_left _ (List.mem_append_left _ (List.mem_append_left _ (List.mem_append_left _ (List.mem_of_getElem? (i := 0) rfl))))))))) (fun _ h9 => h9) rfl dX11_law_1 ?_
  refine va_getN (ci := 9) (v := .int lt) (C := RX9) (T := TX9) (N := 10) hx hb hts hw9 hown hK hP 8 rfl rfl 5 (by decide) (nst_use hN 110 rfl) (fun _ h9 => h9) rfl dX11_law_4 ?_
  refine lv_bipush (v := 6) hx hb dX11_law_7 (by decide) ?_
  refine lv_icmp_lt (tgt := 27) hx hb dX11_law_9 (by decide) (fun c_117 => ?_) (fun c_117 => ?_)
  · have c_117i := i_lt (x := lt.toInt) (y := 6) rfl rfl c_117
    refine lv_aload_n hx hb dX11_law_27 rfl (lv_at hl 0 rfl) ?_
    refine va_get (ci := 11) (v := .ref b0) (C := RX11) (T := TX11) (N := 17) hx hb hts hw11 hown hK hP 0 rfl rfl 4 (by decide) (hts (.fieldLink RX11 30 "SmokeTune" "reader" "LSmokeTune$Reader;") (List.mem_cons_of_mem _ (List.mem_append_left _ (List.mem_append_left _ (List.mem_append_left _ (List.mem_append_left _ (List.mem_append_left _ (List.mem_append_left _ (List.mem_of_getElem? (i := 2) rfl))))))))) (fun _ h9 => h9) rfl dX11_law_28 ?_
    refine lv_iconst (v := 1) hx hb dX11_law_31 (by decide) ?_
    refine kci (S := Su) (wr := [(o0, .inr (11, [.ref t0, o_1, o_2, o_3, .ref b0, .ref p0, o_6, o_7, o_8, o_9, o_10, o_11, .ref rf, .int rb, o_14, o_15, o_16])), (rf, .inl (K 0, 5, .inl frf)), (t0, .inr (9, [k_0, k_1, k_2, .ref l0, k_4, .int lt, k_6, k_7, k_8, k_9])), (l0, .inl (K 4, 6, .inr (.inr (.inr (.inr fd)))))]) (va_runVN (As := [.int 1]) (rest := []) ⟨hx, hb, hml, hown, hts⟩ (w_reads l D K g L b0 1 p0 s0 lw pa fl p1 ln tf tt ti tu fb s1 s2 scl us fh fc s.heap.size (by first | omega | decide) (by first | omega | decide) (by first | omega | decide) (by first | omega | decide) (by first | omega | decide) (by first | omega | decide) (by first | omega | decide) (by first | omega | decide) (by first | omega | decide) zfh zfc) ⟨va_cnB 1 hts gX11_law_X6_reads_n176 rfl rfl rfl (nst_at hN 31 rfl) (hts (.initialized RX6) (List.mem_cons_of_mem _ (List.mem_append_left _ (List.mem_append_left _ (List.mem_append_left _ (List.mem_append_left _ (List.mem_append_left _ (List.mem_append_left _ (List.mem_of_getElem? (i := 14) rfl))))))))) (by decide +kernel) ⟨Nat.le_of_ble_eq_true rfl, Nat.le_of_ble_eq_true rfl⟩, (hts (.instanceMethod yX6_reads) (List.mem_cons_of_mem _ (List.mem_append_left _ (List.mem_append_left _ (List.mem_append_left _ (List.mem_append_left _ (List.mem_append_left _ (List.mem_append_left _ (List.mem_of_getElem? (i := 13) rfl))))))))), (hts (.selects RX6 yX6_reads yX6_reads) (List.mem_cons_of_mem _ (List.mem_append_left _ (List.mem_append_left _ (List.mem_append_left _ (List.mem_append_left _ (List.mem_append_left _ (List.mem_append_left _ (List.mem_of_getElem? (i := 15) rfl)))))))))⟩ (mkVY hK hN (hP.sub [2, 3, 4, 5, 6, 7] rfl) (hD.sub [2, 3, 4, 5, 6, 7] (by decide) rfl) (ci := 6) (q0 := 0) rfl rfl (fun U hU hW => ⟨Gl.at hG hS hW hU (fun q h => va_free hD hS hA [2, 3, 4, 5, 6, 7] rfl q h), Pool.at hPl hS hU (fun q h => va_free hD hS hA [2, 3, 4, 5, 6, 7] rfl q h), Ro.heap hU (Ro.nil)⟩)) rfl rfl hl.1 rfl (lv_room (Nat.le_of_ble_eq_true rfl)) dX11_law_32 ⟨Nat.le_of_ble_eq_true rfl, Nat.le_of_ble_eq_true rfl⟩) hP hD hS hA [2, 3, 4, 5, 6, 7] [0, 1, 8, 9] rfl rfl (by decide) (by decide) (fun r_118 u_119 H locs hw hP hD hS => ?_)
    have hP : va_P D vwCl [(o0, .inr (11, [.ref t0, o_1, o_2, o_3, .ref b0, .ref p0, o_6, o_7, o_8, o_9, o_10, o_11, .ref rf, .int rb, o_14, o_15, o_16])), (rf, .inl (K 0, 5, .inl frf)), (t0, .inr (9, [k_0, k_1, k_2, .ref l0, k_4, .int lt, k_6, k_7, k_8, k_9])), (l0, .inl (K 4, 6, .inr (.inr (.inr (.inr fd))))), (b0, .inr (6, [.ref p0, .ref s0, .int (u_119.2.2.2.1 0), .int (u_119.2.2.2.1 1), .int (u_119.2.2.2.1 2)])), (p0, .inr (8, [.ref p1, .int 0, .int (u_119.2.2.2.1 3), .int (u_119.2.2.2.1 4), .int (u_119.2.2.2.1 5), .int (u_119.2.2.2.1 6)])), (p1, .inl (K 0, 400, .inl fb)), (s0, .inr (7, [.ref s1, .ref s2, .int (u_119.2.2.2.1 7), .int (u_119.2.2.2.1 8)])), (s1, .inl (K 0, 60, .inl (u_119.2.1 0))), (s2, .inl (K 0, 800, .inl (u_119.2.1 1)))] H := hP
    have hD : va_D A [(o0, .inr (11, [.ref t0, o_1, o_2, o_3, .ref b0, .ref p0, o_6, o_7, o_8, o_9, o_10, o_11, .ref rf, .int rb, o_14, o_15, o_16])), (rf, .inl (K 0, 5, .inl frf)), (t0, .inr (9, [k_0, k_1, k_2, .ref l0, k_4, .int lt, k_6, k_7, k_8, k_9])), (l0, .inl (K 4, 6, .inr (.inr (.inr (.inr fd))))), (b0, .inr (6, [.ref p0, .ref s0, .int (u_119.2.2.2.1 0), .int (u_119.2.2.2.1 1), .int (u_119.2.2.2.1 2)])), (p0, .inr (8, [.ref p1, .int 0, .int (u_119.2.2.2.1 3), .int (u_119.2.2.2.1 4), .int (u_119.2.2.2.1 5), .int (u_119.2.2.2.1 6)])), (p1, .inl (K 0, 400, .inl fb)), (s0, .inr (7, [.ref s1, .ref s2, .int (u_119.2.2.2.1 7), .int (u_119.2.2.2.1 8)])), (s1, .inl (K 0, 60, .inl (u_119.2.1 0))), (s2, .inl (K 0, 800, .inl (u_119.2.1 1)))] := hD
    obtain ⟨h_130, k_120, k_121, k_122, k_123, k_124, k_125, k_126, k_127, k_128, k_129, -⟩ := hw
    refine lv_if_ne (tgt := 45) hx hb dX11_law_35 (by decide) (fun c_131 => ?_) (fun c_131 => ?_)
    · have c_131i := i_ne (x := r_118.toInt) (y := 0) rfl rfl c_131
      refine lv_aload_n hx hb dX11_law_45 rfl (lv_at hl 0 rfl) ?_
      refine lv_aload_n hx hb dX11_law_46 rfl (lv_at hl 0 rfl) ?_
      refine va_get (ci := 11) (v := .ref t0) (C := RX11) (T := TX11) (N := 17) hx hb hts hw11 hown hK hP 0 rfl rfl 0 (by decide) (hts (.fieldLink RX11 10 "SmokeTune" "town" "LSmokeTune$Town;") (List.mem_cons_of_mem _ (List.mem_append_left _ (List.mem_append_left _ (List.mem_append_left _ (List.mem_append_left _ (List.mem_append_left _ (List.mem_append_left _ (List.mem_of_getElem? (i := 0) rfl))))))))) (fun _ h9 => h9) rfl dX11_law_47 ?_
      refine lv_aload_n hx hb dX11_law_50 rfl (lv_at hl 0 rfl) ?_
      refine va_get (ci := 11) (v := .ref b0) (C := RX11) (T := TX11) (N := 17) hx hb hts hw11 hown hK hP 0 rfl rfl 4 (by decide) (hts (.fieldLink RX11 30 "SmokeTune" "reader" "LSmokeTune$Reader;") (List.mem_cons_of_mem _ (List.mem_append_left _ (List.mem_append_left _ (List.mem_append_left _ (List.mem_append_left _ (List.mem_append_left _ (List.mem_append_left _ (List.mem_of_getElem? (i := 2) rfl))))))))) (fun _ h9 => h9) rfl dX11_law_51 ?_
      refine va_getN (ci := 6) (v := .ref s0) (C := RX6) (T := TX6) (N := 5) hx hb hts hw6 hown hK hP 4 rfl rfl 1 (by decide) (nst_use hN 132 rfl) (fun _ h9 => h9) rfl dX11_law_54 ?_
      refine kcr (S := (Nat → Nat) × (Nat → Int32) × (Nat → Int32) × Int32) (B := fun u => [(s0, .inr (7, [.ref s1, .ref s2, .int (u_119.2.2.2.1 7), .int (u_119.2.2.2.1 8)])), (s1, .inl (K 0, 60, .inl (u_119.2.1 0))), (s2, .inl (K 0, 800, .inl (u_119.2.1 1)))] ++ Scr K (u.1 0) (u.1 1) (u.1 2) (u.1 3) (u.1 4) u.2.1 u.2.2.1 (u_119.2.2.2.1 7) u.2.2.2) (ad := fun u => u.1 0) (wr := [(o0, .inr (11, [.ref t0, o_1, o_2, o_3, .ref b0, .ref p0, o_6, o_7, o_8, o_9, o_10, o_11, .ref rf, .int rb, o_14, o_15, o_16])), (rf, .inl (K 0, 5, .inl frf)), (t0, .inr (9, [k_0, k_1, k_2, .ref l0, k_4, .int lt, k_6, k_7, k_8, k_9])), (l0, .inl (K 4, 6, .inr (.inr (.inr (.inr fd))))), (b0, .inr (6, [.ref p0, .ref s0, .int (u_119.2.2.2.1 0), .int (u_119.2.2.2.1 1), .int (u_119.2.2.2.1 2)])), (p0, .inr (8, [.ref p1, .int 0, .int (u_119.2.2.2.1 3), .int (u_119.2.2.2.1 4), .int (u_119.2.2.2.1 5), .int (u_119.2.2.2.1 6)])), (p1, .inl (K 0, 400, .inl fb))]) (va_runVN (As := []) (rest := [.ref t0, .ref o0]) ⟨hx, hb, hml, hown, hts⟩ (w_trimmed l D K s0 s1 s2 (u_119.2.2.2.1 7) (u_119.2.2.2.1 8) (u_119.2.1 0) (u_119.2.1 1) H.size (by first | omega | decide) (by first | omega | decide) k_128 k_129) ⟨va_cnB 0 hts gX11_law_X7_trimmed_n184 rfl rfl rfl (nst_at hN 38 rfl) (hts (.initialized RX7) (List.mem_cons_of_mem _ (List.mem_append_left _ (List.mem_append_left _ (List.mem_append_left _ (List.mem_append_left _ (List.mem_append_left _ (List.mem_append_right _ (List.mem_append_right _ (List.mem_append_right _ (List.mem_append_right _ (List.mem_append_left _ (List.mem_of_getElem? (i := 0) rfl))))))))))))) (by decide +kernel) ⟨Nat.le_of_ble_eq_true rfl, Nat.le_of_ble_eq_true rfl⟩, (hts (.instanceMethod yX7_trimmed) (List.mem_cons_of_mem _ (List.mem_append_left _ (List.mem_append_left _ (List.mem_append_left _ (List.mem_append_left _ (List.mem_append_left _ (List.mem_append_right _ (List.mem_append_right _ (List.mem_append_right _ (List.mem_append_right _ (List.mem_append_right _ (List.mem_append_left _ (List.mem_of_getElem? (i := 20) rfl)))))))))))))), (hts (.selects RX7 yX7_trimmed yX7_trimmed) (List.mem_cons_of_mem _ (List.mem_append_left _ (List.mem_append_left _ (List.mem_append_left _ (List.mem_append_left _ (List.mem_append_left _ (List.mem_append_right _ (List.mem_append_right _ (List.mem_append_right _ (List.mem_append_right _ (List.mem_append_right _ (List.mem_append_left _ (List.mem_of_getElem? (i := 21) rfl))))))))))))))⟩ (PreC.V (mkV hK hN (hP.sub [7, 8, 9] rfl) (hD.sub [7, 8, 9] (by decide) rfl) (ci := 7) (q0 := 0) rfl rfl) hC) rfl rfl hl.1 rfl (lv_room (Nat.le_of_ble_eq_true rfl)) dX11_law_57 ⟨Nat.le_of_ble_eq_true rfl, Nat.le_of_ble_eq_true rfl⟩) hP hD hS hA [7, 8, 9] [0, 1, 2, 3, 4, 5, 6] rfl rfl (by decide) (by decide) (fun u_133 H locs hw hP hD hS => ?_)
      have hP : va_P D vwCl [(o0, .inr (11, [.ref t0, o_1, o_2, o_3, .ref b0, .ref p0, o_6, o_7, o_8, o_9, o_10, o_11, .ref rf, .int rb, o_14, o_15, o_16])), (rf, .inl (K 0, 5, .inl frf)), (t0, .inr (9, [k_0, k_1, k_2, .ref l0, k_4, .int lt, k_6, k_7, k_8, k_9])), (l0, .inl (K 4, 6, .inr (.inr (.inr (.inr fd))))), (b0, .inr (6, [.ref p0, .ref s0, .int (u_119.2.2.2.1 0), .int (u_119.2.2.2.1 1), .int (u_119.2.2.2.1 2)])), (p0, .inr (8, [.ref p1, .int 0, .int (u_119.2.2.2.1 3), .int (u_119.2.2.2.1 4), .int (u_119.2.2.2.1 5), .int (u_119.2.2.2.1 6)])), (p1, .inl (K 0, 400, .inl fb)), (s0, .inr (7, [.ref s1, .ref s2, .int (u_119.2.2.2.1 7), .int (u_119.2.2.2.1 8)])), (s1, .inl (K 0, 60, .inl (u_119.2.1 0))), (s2, .inl (K 0, 800, .inl (u_119.2.1 1))), ((u_133.1 0), .inr (7, [.ref (u_133.1 1), .ref (u_133.1 2), .int (u_119.2.2.2.1 7), .int u_133.2.2.2])), ((u_133.1 1), .inl (K 0, (u_133.1 3), .inl u_133.2.1)), ((u_133.1 2), .inl (K 0, (u_133.1 4), .inl u_133.2.2.1))] H := hP
      have hD : va_D A [(o0, .inr (11, [.ref t0, o_1, o_2, o_3, .ref b0, .ref p0, o_6, o_7, o_8, o_9, o_10, o_11, .ref rf, .int rb, o_14, o_15, o_16])), (rf, .inl (K 0, 5, .inl frf)), (t0, .inr (9, [k_0, k_1, k_2, .ref l0, k_4, .int lt, k_6, k_7, k_8, k_9])), (l0, .inl (K 4, 6, .inr (.inr (.inr (.inr fd))))), (b0, .inr (6, [.ref p0, .ref s0, .int (u_119.2.2.2.1 0), .int (u_119.2.2.2.1 1), .int (u_119.2.2.2.1 2)])), (p0, .inr (8, [.ref p1, .int 0, .int (u_119.2.2.2.1 3), .int (u_119.2.2.2.1 4), .int (u_119.2.2.2.1 5), .int (u_119.2.2.2.1 6)])), (p1, .inl (K 0, 400, .inl fb)), (s0, .inr (7, [.ref s1, .ref s2, .int (u_119.2.2.2.1 7), .int (u_119.2.2.2.1 8)])), (s1, .inl (K 0, 60, .inl (u_119.2.1 0))), (s2, .inl (K 0, 800, .inl (u_119.2.1 1))), ((u_133.1 0), .inr (7, [.ref (u_133.1 1), .ref (u_133.1 2), .int (u_119.2.2.2.1 7), .int u_133.2.2.2])), ((u_133.1 1), .inl (K 0, (u_133.1 3), .inl u_133.2.1)), ((u_133.1 2), .inl (K 0, (u_133.1 4), .inl u_133.2.2.1))] := hD
      refine W.widen (k := 3) (n := 864) (by omega) (by omega) ?_
      refine W.eq (g2 := F0 m 60 ls (.ref ((fun u => u.1 0) u_133) :: [.ref t0, .ref o0])) rfl ?_
      obtain ⟨k1_u_133, k2_u_133, k3_u_133, k4_u_133⟩ := hw
      refine W.eq (g2 := F0 m 60 ls [.ref (u_133.1 0), .ref t0, .ref o0]) rfl ?_
      refine kci (S := Su) (wr := [(o0, .inr (11, [.ref t0, o_1, o_2, o_3, .ref b0, .ref p0, o_6, o_7, o_8, o_9, o_10, o_11, .ref rf, .int rb, o_14, o_15, o_16])), (rf, .inl (K 0, 5, .inl frf)), (b0, .inr (6, [.ref p0, .ref s0, .int (u_119.2.2.2.1 0), .int (u_119.2.2.2.1 1), .int (u_119.2.2.2.1 2)])), (p0, .inr (8, [.ref p1, .int 0, .int (u_119.2.2.2.1 3), .int (u_119.2.2.2.1 4), .int (u_119.2.2.2.1 5), .int (u_119.2.2.2.1 6)])), (p1, .inl (K 0, 400, .inl fb)), (s0, .inr (7, [.ref s1, .ref s2, .int (u_119.2.2.2.1 7), .int (u_119.2.2.2.1 8)])), (s1, .inl (K 0, 60, .inl (u_119.2.1 0))), (s2, .inl (K 0, 800, .inl (u_119.2.1 1))), ((u_133.1 1), .inl (K 0, (u_133.1 3), .inl u_133.2.1)), ((u_133.1 2), .inl (K 0, (u_133.1 4), .inl u_133.2.2.1))]) (va_runVN (As := [.ref (u_133.1 0)]) (rest := [.ref o0]) ⟨hx, hb, hml, hown, hts⟩ (w_enact l D K g L t0 (u_133.1 0) k_0 k_1 k_2 l0 k_4 lt k_6 k_7 k_8 k_9 fd (.ref (u_133.1 1)) (.ref (u_133.1 2)) (.int (u_119.2.2.2.1 7)) (.int u_133.2.2.2) H.size (by first | omega | decide) (InL.mono zfd (fun _ h9 => Or.inl h9))) ⟨va_cnB 1 hts gX11_law_X9_enact_n189 rfl rfl rfl (nst_at hN 39 rfl) (hts (.initialized RX9) (List.mem_cons_of_mem _ (List.mem_append_left _ (List.mem_append_left _ (List.mem_append_left _ (List.mem_append_left _ (List.mem_append_left _ (List.mem_append_right _ (List.mem_append_right _ (List.mem_append_right _ (List.mem_append_right _ (List.mem_append_right _ (List.mem_append_right _ (List.mem_append_right _ (List.mem_of_getElem? (i := 1) rfl))))))))))))))) (by decide +kernel) ⟨Nat.le_of_ble_eq_true rfl, Nat.le_of_ble_eq_true rfl⟩, (hts (.instanceMethod yX9_enact) (List.mem_cons_of_mem _ (List.mem_append_left _ (List.mem_append_left _ (List.mem_append_left _ (List.mem_append_left _ (List.mem_append_left _ (List.mem_append_right _ (List.mem_append_right _ (List.mem_append_right _ (List.mem_append_right _ (List.mem_append_right _ (List.mem_append_right _ (List.mem_append_right _ (List.mem_of_getElem? (i := 0) rfl))))))))))))))), (hts (.selects RX9 yX9_enact yX9_enact) (List.mem_cons_of_mem _ (List.mem_append_left _ (List.mem_append_left _ (List.mem_append_left _ (List.mem_append_left _ (List.mem_append_left _ (List.mem_append_right _ (List.mem_append_right _ (List.mem_append_right _ (List.mem_append_right _ (List.mem_append_right _ (List.mem_append_right _ (List.mem_append_right _ (List.mem_of_getElem? (i := 2) rfl)))))))))))))))⟩ (mkVY hK hN (hP.sub [2, 3, 10] rfl) (hD.sub [2, 3, 10] (by decide) rfl) (ci := 9) (q0 := 0) rfl rfl (fun U hU hW => ⟨Gl.at hG hS hW hU (fun q h => va_free hD hS hA [2, 3, 10] rfl q h), Pool.at hPl hS hU (fun q h => va_free hD hS hA [2, 3, 10] rfl q h), Ro.heap hU (Ro.nil)⟩)) rfl rfl hl.1 rfl (lv_room (Nat.le_of_ble_eq_true rfl)) dX11_law_60 ⟨Nat.le_of_ble_eq_true rfl, Nat.le_of_ble_eq_true rfl⟩) hP hD hS hA [2, 3, 10] [0, 1, 4, 5, 6, 7, 8, 9, 11, 12] rfl rfl (by decide) (by decide) (fun r_134 u_135 H locs hw hP hD hS => ?_)
      have hP : va_P D vwCl [(o0, .inr (11, [.ref t0, o_1, o_2, o_3, .ref b0, .ref p0, o_6, o_7, o_8, o_9, o_10, o_11, .ref rf, .int rb, o_14, o_15, o_16])), (rf, .inl (K 0, 5, .inl frf)), (b0, .inr (6, [.ref p0, .ref s0, .int (u_119.2.2.2.1 0), .int (u_119.2.2.2.1 1), .int (u_119.2.2.2.1 2)])), (p0, .inr (8, [.ref p1, .int 0, .int (u_119.2.2.2.1 3), .int (u_119.2.2.2.1 4), .int (u_119.2.2.2.1 5), .int (u_119.2.2.2.1 6)])), (p1, .inl (K 0, 400, .inl fb)), (s0, .inr (7, [.ref s1, .ref s2, .int (u_119.2.2.2.1 7), .int (u_119.2.2.2.1 8)])), (s1, .inl (K 0, 60, .inl (u_119.2.1 0))), (s2, .inl (K 0, 800, .inl (u_119.2.1 1))), ((u_133.1 1), .inl (K 0, (u_133.1 3), .inl u_133.2.1)), ((u_133.1 2), .inl (K 0, (u_133.1 4), .inl u_133.2.2.1)), (t0, .inr (9, [k_0, k_1, k_2, .ref l0, k_4, .int (u_135.2.2.2.1 0), k_6, k_7, k_8, k_9])), (l0, .inl (K 4, 6, .inr (.inr (.inr (.inr (u_135.2.2.2.2.2 0)))))), ((u_133.1 0), .inr (7, [.ref (u_133.1 1), .ref (u_133.1 2), .int (u_119.2.2.2.1 7), .int u_133.2.2.2]))] H := hP
      have hD : va_D A [(o0, .inr (11, [.ref t0, o_1, o_2, o_3, .ref b0, .ref p0, o_6, o_7, o_8, o_9, o_10, o_11, .ref rf, .int rb, o_14, o_15, o_16])), (rf, .inl (K 0, 5, .inl frf)), (b0, .inr (6, [.ref p0, .ref s0, .int (u_119.2.2.2.1 0), .int (u_119.2.2.2.1 1), .int (u_119.2.2.2.1 2)])), (p0, .inr (8, [.ref p1, .int 0, .int (u_119.2.2.2.1 3), .int (u_119.2.2.2.1 4), .int (u_119.2.2.2.1 5), .int (u_119.2.2.2.1 6)])), (p1, .inl (K 0, 400, .inl fb)), (s0, .inr (7, [.ref s1, .ref s2, .int (u_119.2.2.2.1 7), .int (u_119.2.2.2.1 8)])), (s1, .inl (K 0, 60, .inl (u_119.2.1 0))), (s2, .inl (K 0, 800, .inl (u_119.2.1 1))), ((u_133.1 1), .inl (K 0, (u_133.1 3), .inl u_133.2.1)), ((u_133.1 2), .inl (K 0, (u_133.1 4), .inl u_133.2.2.1)), (t0, .inr (9, [k_0, k_1, k_2, .ref l0, k_4, .int (u_135.2.2.2.1 0), k_6, k_7, k_8, k_9])), (l0, .inl (K 4, 6, .inr (.inr (.inr (.inr (u_135.2.2.2.2.2 0)))))), ((u_133.1 0), .inr (7, [.ref (u_133.1 1), .ref (u_133.1 2), .int (u_119.2.2.2.1 7), .int u_133.2.2.2]))] := hD
      obtain ⟨h_138, k_136, k_137, -⟩ := hw
      refine kci (S := Su) (wr := [(rf, .inl (K 0, 5, .inl frf)), (b0, .inr (6, [.ref p0, .ref s0, .int (u_119.2.2.2.1 0), .int (u_119.2.2.2.1 1), .int (u_119.2.2.2.1 2)])), (p0, .inr (8, [.ref p1, .int 0, .int (u_119.2.2.2.1 3), .int (u_119.2.2.2.1 4), .int (u_119.2.2.2.1 5), .int (u_119.2.2.2.1 6)])), (p1, .inl (K 0, 400, .inl fb)), (s0, .inr (7, [.ref s1, .ref s2, .int (u_119.2.2.2.1 7), .int (u_119.2.2.2.1 8)])), (s1, .inl (K 0, 60, .inl (u_119.2.1 0))), (s2, .inl (K 0, 800, .inl (u_119.2.1 1))), ((u_133.1 1), .inl (K 0, (u_133.1 3), .inl u_133.2.1)), ((u_133.1 2), .inl (K 0, (u_133.1 4), .inl u_133.2.2.1)), (t0, .inr (9, [k_0, k_1, k_2, .ref l0, k_4, .int (u_135.2.2.2.1 0), k_6, k_7, k_8, k_9])), (l0, .inl (K 4, 6, .inr (.inr (.inr (.inr (u_135.2.2.2.2.2 0)))))), ((u_133.1 0), .inr (7, [.ref (u_133.1 1), .ref (u_133.1 2), .int (u_119.2.2.2.1 7), .int u_133.2.2.2]))]) (va_runV (As := [.int r_134]) (rest := []) ⟨hx, hb, hml, hown, hts⟩ (w_accept l D K o0 r_134 (.ref t0) o_1 o_2 o_3 (.ref b0) (.ref p0) o_6 o_7 o_8 o_9 o_10 o_11 (.ref rf) rb o_14 o_15 o_16 H.size) (cwV 1 hts gX11_law_X11_accept rfl rfl rfl (by decide +kernel) ⟨Nat.le_of_ble_eq_true rfl, Nat.le_of_ble_eq_true rfl⟩) (mkV hK hN (hP.sub [0] rfl) (hD.sub [0] (by decide) rfl) (ci := 11) (q0 := 0) rfl rfl) rfl rfl hl.1 rfl (lv_room (Nat.le_of_ble_eq_true rfl)) dX11_law_63 ⟨Nat.le_of_ble_eq_true rfl, Nat.le_of_ble_eq_true rfl⟩) hP hD hS hA [0] [1, 2, 3, 4, 5, 6, 7, 8, 9, 10, 11, 12] rfl rfl (by decide) (by decide) (fun r_139 u_140 H locs hw hP hD hS => ?_)
      have hP : va_P D vwCl [(rf, .inl (K 0, 5, .inl frf)), (b0, .inr (6, [.ref p0, .ref s0, .int (u_119.2.2.2.1 0), .int (u_119.2.2.2.1 1), .int (u_119.2.2.2.1 2)])), (p0, .inr (8, [.ref p1, .int 0, .int (u_119.2.2.2.1 3), .int (u_119.2.2.2.1 4), .int (u_119.2.2.2.1 5), .int (u_119.2.2.2.1 6)])), (p1, .inl (K 0, 400, .inl fb)), (s0, .inr (7, [.ref s1, .ref s2, .int (u_119.2.2.2.1 7), .int (u_119.2.2.2.1 8)])), (s1, .inl (K 0, 60, .inl (u_119.2.1 0))), (s2, .inl (K 0, 800, .inl (u_119.2.1 1))), ((u_133.1 1), .inl (K 0, (u_133.1 3), .inl u_133.2.1)), ((u_133.1 2), .inl (K 0, (u_133.1 4), .inl u_133.2.2.1)), (t0, .inr (9, [k_0, k_1, k_2, .ref l0, k_4, .int (u_135.2.2.2.1 0), k_6, k_7, k_8, k_9])), (l0, .inl (K 4, 6, .inr (.inr (.inr (.inr (u_135.2.2.2.2.2 0)))))), ((u_133.1 0), .inr (7, [.ref (u_133.1 1), .ref (u_133.1 2), .int (u_119.2.2.2.1 7), .int u_133.2.2.2])), (o0, .inr (11, [.ref t0, o_1, o_2, o_3, .ref b0, .ref p0, o_6, o_7, o_8, o_9, o_10, o_11, .ref rf, .int 0, o_14, o_15, o_16]))] H := hP
      have hD : va_D A [(rf, .inl (K 0, 5, .inl frf)), (b0, .inr (6, [.ref p0, .ref s0, .int (u_119.2.2.2.1 0), .int (u_119.2.2.2.1 1), .int (u_119.2.2.2.1 2)])), (p0, .inr (8, [.ref p1, .int 0, .int (u_119.2.2.2.1 3), .int (u_119.2.2.2.1 4), .int (u_119.2.2.2.1 5), .int (u_119.2.2.2.1 6)])), (p1, .inl (K 0, 400, .inl fb)), (s0, .inr (7, [.ref s1, .ref s2, .int (u_119.2.2.2.1 7), .int (u_119.2.2.2.1 8)])), (s1, .inl (K 0, 60, .inl (u_119.2.1 0))), (s2, .inl (K 0, 800, .inl (u_119.2.1 1))), ((u_133.1 1), .inl (K 0, (u_133.1 3), .inl u_133.2.1)), ((u_133.1 2), .inl (K 0, (u_133.1 4), .inl u_133.2.2.1)), (t0, .inr (9, [k_0, k_1, k_2, .ref l0, k_4, .int (u_135.2.2.2.1 0), k_6, k_7, k_8, k_9])), (l0, .inl (K 4, 6, .inr (.inr (.inr (.inr (u_135.2.2.2.2.2 0)))))), ((u_133.1 0), .inr (7, [.ref (u_133.1 1), .ref (u_133.1 2), .int (u_119.2.2.2.1 7), .int u_133.2.2.2])), (o0, .inr (11, [.ref t0, o_1, o_2, o_3, .ref b0, .ref p0, o_6, o_7, o_8, o_9, o_10, o_11, .ref rf, .int 0, o_14, o_15, o_16]))] := hD
      obtain ⟨hw, -⟩ := hw
      have er_r_139 := hw
      have hr_r_139 : r_139.toInt = r_134.toInt := (congrArg Int32.toInt er_r_139).trans rfl
      subst hQ
      have hP9 := hP.sub (ws' := [(o0, .inr (11, [.ref t0, o_1, o_2, o_3, .ref b0, .ref p0, o_6, o_7, o_8, o_9, o_10, o_11, .ref rf, .int 0, o_14, o_15, o_16])), (rf, .inl (K 0, 5, .inl frf)), (b0, .inr (6, [.ref p0, .ref s0, .int (u_119.2.2.2.1 0), .int (u_119.2.2.2.1 1), .int (u_119.2.2.2.1 2)])), (p0, .inr (8, [.ref p1, .int 0, .int (u_119.2.2.2.1 3), .int (u_119.2.2.2.1 4), .int (u_119.2.2.2.1 5), .int (u_119.2.2.2.1 6)])), (p1, .inl (K 0, 400, .inl fb)), (s0, .inr (7, [.ref s1, .ref s2, .int (u_119.2.2.2.1 7), .int (u_119.2.2.2.1 8)])), (s1, .inl (K 0, 60, .inl (u_119.2.1 0))), (s2, .inl (K 0, 800, .inl (u_119.2.1 1))), (t0, .inr (9, [k_0, k_1, k_2, .ref l0, k_4, .int (u_135.2.2.2.1 0), k_6, k_7, k_8, k_9])), (l0, .inl (K 4, 6, .inr (.inr (.inr (.inr (u_135.2.2.2.2.2 0)))))), ((u_133.1 0), .inr (7, [.ref (u_133.1 1), .ref (u_133.1 2), .int (u_119.2.2.2.1 7), .int u_133.2.2.2])), ((u_133.1 1), .inl (K 0, (u_133.1 3), .inl u_133.2.1)), ((u_133.1 2), .inl (K 0, (u_133.1 4), .inl u_133.2.2.1))]) [12, 0, 1, 2, 3, 4, 5, 6, 9, 10, 11, 7, 8] rfl
      have hD9 := hD.sub (ws' := [(o0, .inr (11, [.ref t0, o_1, o_2, o_3, .ref b0, .ref p0, o_6, o_7, o_8, o_9, o_10, o_11, .ref rf, .int 0, o_14, o_15, o_16])), (rf, .inl (K 0, 5, .inl frf)), (b0, .inr (6, [.ref p0, .ref s0, .int (u_119.2.2.2.1 0), .int (u_119.2.2.2.1 1), .int (u_119.2.2.2.1 2)])), (p0, .inr (8, [.ref p1, .int 0, .int (u_119.2.2.2.1 3), .int (u_119.2.2.2.1 4), .int (u_119.2.2.2.1 5), .int (u_119.2.2.2.1 6)])), (p1, .inl (K 0, 400, .inl fb)), (s0, .inr (7, [.ref s1, .ref s2, .int (u_119.2.2.2.1 7), .int (u_119.2.2.2.1 8)])), (s1, .inl (K 0, 60, .inl (u_119.2.1 0))), (s2, .inl (K 0, 800, .inl (u_119.2.1 1))), (t0, .inr (9, [k_0, k_1, k_2, .ref l0, k_4, .int (u_135.2.2.2.1 0), k_6, k_7, k_8, k_9])), (l0, .inl (K 4, 6, .inr (.inr (.inr (.inr (u_135.2.2.2.2.2 0)))))), ((u_133.1 0), .inr (7, [.ref (u_133.1 1), .ref (u_133.1 2), .int (u_119.2.2.2.1 7), .int u_133.2.2.2])), ((u_133.1 1), .inl (K 0, (u_133.1 3), .inl u_133.2.1)), ((u_133.1 2), .inl (K 0, (u_133.1 4), .inl u_133.2.2.1))]) [12, 0, 1, 2, 3, 4, 5, 6, 9, 10, 11, 7, 8] (by decide) rfl
      exact W.iret (v := r_139) hx hb hr (fun t ht hW => ⟨⟨r_139, (((fun _ => 0, fun i => match i with | 0 => frf | 1 => (u_119.2.1 0) | _ => (u_119.2.1 1), fun _ => fun _ => 0, fun i => ([0, (u_119.2.2.2.1 0), (u_119.2.2.2.1 1), (u_119.2.2.2.1 2), (u_119.2.2.2.1 3), (u_119.2.2.2.1 4), (u_119.2.2.2.1 5), (u_119.2.2.2.1 6), (u_119.2.2.2.1 7), (u_119.2.2.2.1 8), (u_135.2.2.2.1 0)] : List _).getD i (0), fun _ => 0, fun i => match i with | _ => (u_135.2.2.2.2.2 0)) : Su), Scr K (u_133.1 0) (u_133.1 1) (u_133.1 2) (u_133.1 3) (u_133.1 4) u_133.2.1 u_133.2.2.1 (u_119.2.2.2.1 7) u_133.2.2.2, fun z => L z ∨ z = (u_133.1 0)), rfl, ⟨⟨(show 0 ≤ ((u_119.2.2.2.1 0) : Int32).toInt ∧ ((u_119.2.2.2.1 0) : Int32).toInt ≤ 1 by omega), (show 0 ≤ ((u_119.2.2.2.1 1) : Int32).toInt ∧ ((u_119.2.2.2.1 1) : Int32).toInt ≤ 50 by omega), (show 0 ≤ ((u_119.2.2.2.1 3) : Int32).toInt ∧ ((u_119.2.2.2.1 3) : Int32).toInt ≤ 400 by omega), (show 0 ≤ ((u_119.2.2.2.1 4) : Int32).toInt ∧ ((u_119.2.2.2.1 4) : Int32).toInt ≤ 400 by omega), (show (-1) ≤ ((u_119.2.2.2.1 6) : Int32).toInt ∧ ((u_119.2.2.2.1 6) : Int32).toInt ≤ 1000000 by omega), (show 0 ≤ ((u_119.2.2.2.1 7) : Int32).toInt ∧ ((u_119.2.2.2.1 7) : Int32).toInt ≤ 12 by omega), (show 0 ≤ ((u_119.2.2.2.1 8) : Int32).toInt ∧ ((u_119.2.2.2.1 8) : Int32).toInt ≤ 800 by omega), k_128, k_129, (show 0 ≤ ((u_135.2.2.2.1 0) : Int32).toInt ∧ ((u_135.2.2.2.1 0) : Int32).toInt ≤ 6 by omega), trivial⟩, None, Or.inr ⟨_, _, _, _, _, _, _, _, _, rfl, k1_u_133, k2_u_133, ⟨k3_u_133, k4_u_133⟩, rfl⟩⟩, (⟨by rw [ht]; exact hP9, hD9⟩ : Wd D A _ t)⟩, hS.F ht⟩) hS.2.2 dX11_law_66
    · have c_131i := i_eq (x := r_118.toInt) (y := 0) rfl rfl c_131
      refine lv_aload_n hx hb dX11_law_38 rfl (lv_at hl 0 rfl) ?_
      refine lv_bipush (v := (-6)) hx hb dX11_law_39 (by decide) ?_
      refine kci (S := Su) (wr := [(t0, .inr (9, [k_0, k_1, k_2, .ref l0, k_4, .int lt, k_6, k_7, k_8, k_9])), (l0, .inl (K 4, 6, .inr (.inr (.inr (.inr fd))))), (b0, .inr (6, [.ref p0, .ref s0, .int (u_119.2.2.2.1 0), .int (u_119.2.2.2.1 1), .int (u_119.2.2.2.1 2)])), (p0, .inr (8, [.ref p1, .int 0, .int (u_119.2.2.2.1 3), .int (u_119.2.2.2.1 4), .int (u_119.2.2.2.1 5), .int (u_119.2.2.2.1 6)])), (p1, .inl (K 0, 400, .inl fb)), (s0, .inr (7, [.ref s1, .ref s2, .int (u_119.2.2.2.1 7), .int (u_119.2.2.2.1 8)])), (s1, .inl (K 0, 60, .inl (u_119.2.1 0))), (s2, .inl (K 0, 800, .inl (u_119.2.1 1)))]) (va_runV (As := [.int (-6)]) (rest := []) ⟨hx, hb, hml, hown, hts⟩ (w_refuse l D K o0 (-6) (.ref t0) o_1 o_2 o_3 (.ref b0) (.ref p0) o_6 o_7 o_8 o_9 o_10 o_11 rf rb o_14 o_15 o_16 frf H.size) (cwV 1 hts gX11_law_X11_refuse rfl rfl rfl (by decide +kernel) ⟨Nat.le_of_ble_eq_true rfl, Nat.le_of_ble_eq_true rfl⟩) (mkV hK hN (hP.sub [0, 1] rfl) (hD.sub [0, 1] (by decide) rfl) (ci := 11) (q0 := 0) rfl rfl) rfl rfl hl.1 rfl (lv_room (Nat.le_of_ble_eq_true rfl)) dX11_law_41 ⟨Nat.le_of_ble_eq_true rfl, Nat.le_of_ble_eq_true rfl⟩) hP hD hS hA [0, 1] [2, 3, 4, 5, 6, 7, 8, 9] rfl rfl (by decide) (by decide) (fun r_141 u_142 H locs hw hP hD hS => ?_)
      have hP : va_P D vwCl [(t0, .inr (9, [k_0, k_1, k_2, .ref l0, k_4, .int lt, k_6, k_7, k_8, k_9])), (l0, .inl (K 4, 6, .inr (.inr (.inr (.inr fd))))), (b0, .inr (6, [.ref p0, .ref s0, .int (u_119.2.2.2.1 0), .int (u_119.2.2.2.1 1), .int (u_119.2.2.2.1 2)])), (p0, .inr (8, [.ref p1, .int 0, .int (u_119.2.2.2.1 3), .int (u_119.2.2.2.1 4), .int (u_119.2.2.2.1 5), .int (u_119.2.2.2.1 6)])), (p1, .inl (K 0, 400, .inl fb)), (s0, .inr (7, [.ref s1, .ref s2, .int (u_119.2.2.2.1 7), .int (u_119.2.2.2.1 8)])), (s1, .inl (K 0, 60, .inl (u_119.2.1 0))), (s2, .inl (K 0, 800, .inl (u_119.2.1 1))), (o0, .inr (11, [.ref t0, o_1, o_2, o_3, .ref b0, .ref p0, o_6, o_7, o_8, o_9, o_10, o_11, .ref rf, .int (u_142.2.2.2.1 0), o_14, o_15, o_16])), (rf, .inl (K 0, 5, .inl (u_142.2.1 0)))] H := hP
      have hD : va_D A [(t0, .inr (9, [k_0, k_1, k_2, .ref l0, k_4, .int lt, k_6, k_7, k_8, k_9])), (l0, .inl (K 4, 6, .inr (.inr (.inr (.inr fd))))), (b0, .inr (6, [.ref p0, .ref s0, .int (u_119.2.2.2.1 0), .int (u_119.2.2.2.1 1), .int (u_119.2.2.2.1 2)])), (p0, .inr (8, [.ref p1, .int 0, .int (u_119.2.2.2.1 3), .int (u_119.2.2.2.1 4), .int (u_119.2.2.2.1 5), .int (u_119.2.2.2.1 6)])), (p1, .inl (K 0, 400, .inl fb)), (s0, .inr (7, [.ref s1, .ref s2, .int (u_119.2.2.2.1 7), .int (u_119.2.2.2.1 8)])), (s1, .inl (K 0, 60, .inl (u_119.2.1 0))), (s2, .inl (K 0, 800, .inl (u_119.2.1 1))), (o0, .inr (11, [.ref t0, o_1, o_2, o_3, .ref b0, .ref p0, o_6, o_7, o_8, o_9, o_10, o_11, .ref rf, .int (u_142.2.2.2.1 0), o_14, o_15, o_16])), (rf, .inl (K 0, 5, .inl (u_142.2.1 0)))] := hD
      subst hQ
      have hP9 := hP.sub (ws' := [(o0, .inr (11, [.ref t0, o_1, o_2, o_3, .ref b0, .ref p0, o_6, o_7, o_8, o_9, o_10, o_11, .ref rf, .int (u_142.2.2.2.1 0), o_14, o_15, o_16])), (rf, .inl (K 0, 5, .inl (u_142.2.1 0))), (b0, .inr (6, [.ref p0, .ref s0, .int (u_119.2.2.2.1 0), .int (u_119.2.2.2.1 1), .int (u_119.2.2.2.1 2)])), (p0, .inr (8, [.ref p1, .int 0, .int (u_119.2.2.2.1 3), .int (u_119.2.2.2.1 4), .int (u_119.2.2.2.1 5), .int (u_119.2.2.2.1 6)])), (p1, .inl (K 0, 400, .inl fb)), (s0, .inr (7, [.ref s1, .ref s2, .int (u_119.2.2.2.1 7), .int (u_119.2.2.2.1 8)])), (s1, .inl (K 0, 60, .inl (u_119.2.1 0))), (s2, .inl (K 0, 800, .inl (u_119.2.1 1))), (t0, .inr (9, [k_0, k_1, k_2, .ref l0, k_4, .int lt, k_6, k_7, k_8, k_9])), (l0, .inl (K 4, 6, .inr (.inr (.inr (.inr fd)))))]) [8, 9, 2, 3, 4, 5, 6, 7, 0, 1] rfl
      have hD9 := hD.sub (ws' := [(o0, .inr (11, [.ref t0, o_1, o_2, o_3, .ref b0, .ref p0, o_6, o_7, o_8, o_9, o_10, o_11, .ref rf, .int (u_142.2.2.2.1 0), o_14, o_15, o_16])), (rf, .inl (K 0, 5, .inl (u_142.2.1 0))), (b0, .inr (6, [.ref p0, .ref s0, .int (u_119.2.2.2.1 0), .int (u_119.2.2.2.1 1), .int (u_119.2.2.2.1 2)])), (p0, .inr (8, [.ref p1, .int 0, .int (u_119.2.2.2.1 3), .int (u_119.2.2.2.1 4), .int (u_119.2.2.2.1 5), .int (u_119.2.2.2.1 6)])), (p1, .inl (K 0, 400, .inl fb)), (s0, .inr (7, [.ref s1, .ref s2, .int (u_119.2.2.2.1 7), .int (u_119.2.2.2.1 8)])), (s1, .inl (K 0, 60, .inl (u_119.2.1 0))), (s2, .inl (K 0, 800, .inl (u_119.2.1 1))), (t0, .inr (9, [k_0, k_1, k_2, .ref l0, k_4, .int lt, k_6, k_7, k_8, k_9])), (l0, .inl (K 4, 6, .inr (.inr (.inr (.inr fd)))))]) [8, 9, 2, 3, 4, 5, 6, 7, 0, 1] (by decide) rfl
      refine W.widen (k := 3) (n := 864) (by omega) (by omega) ?_
      exact W.iret (v := r_141) hx hb hr (fun t ht hW => ⟨⟨r_141, (((fun _ => 0, fun i => match i with | 0 => (u_142.2.1 0) | 1 => (u_119.2.1 0) | _ => (u_119.2.1 1), fun _ => fun _ => 0, fun i => ([(u_142.2.2.2.1 0), (u_119.2.2.2.1 0), (u_119.2.2.2.1 1), (u_119.2.2.2.1 2), (u_119.2.2.2.1 3), (u_119.2.2.2.1 4), (u_119.2.2.2.1 5), (u_119.2.2.2.1 6), (u_119.2.2.2.1 7), (u_119.2.2.2.1 8), lt] : List _).getD i (0), fun _ => 0, fun i => match i with | _ => fd) : Su), [], L), rfl, ⟨⟨(show 0 ≤ ((u_119.2.2.2.1 0) : Int32).toInt ∧ ((u_119.2.2.2.1 0) : Int32).toInt ≤ 1 by omega), (show 0 ≤ ((u_119.2.2.2.1 1) : Int32).toInt ∧ ((u_119.2.2.2.1 1) : Int32).toInt ≤ 50 by omega), (show 0 ≤ ((u_119.2.2.2.1 3) : Int32).toInt ∧ ((u_119.2.2.2.1 3) : Int32).toInt ≤ 400 by omega), (show 0 ≤ ((u_119.2.2.2.1 4) : Int32).toInt ∧ ((u_119.2.2.2.1 4) : Int32).toInt ≤ 400 by omega), (show (-1) ≤ ((u_119.2.2.2.1 6) : Int32).toInt ∧ ((u_119.2.2.2.1 6) : Int32).toInt ≤ 1000000 by omega), (show 0 ≤ ((u_119.2.2.2.1 7) : Int32).toInt ∧ ((u_119.2.2.2.1 7) : Int32).toInt ≤ 12 by omega), (show 0 ≤ ((u_119.2.2.2.1 8) : Int32).toInt ∧ ((u_119.2.2.2.1 8) : Int32).toInt ≤ 800 by omega), k_128, k_129, (show 0 ≤ (lt : Int32).toInt ∧ (lt : Int32).toInt ≤ 6 by omega), trivial⟩, zfd, Or.inl ⟨rfl, rfl⟩⟩, (⟨by rw [ht]; exact hP9, hD9⟩ : Wd D A _ t)⟩, hS.F ht⟩) hS.2.2 dX11_law_44
  · have c_117i := i_nlt (x := lt.toInt) (y := 6) rfl rfl c_117
    refine lv_aload_n hx hb dX11_law_12 rfl (lv_at hl 0 rfl) ?_
    refine va_get (ci := 11) (v := .ref p0) (C := RX11) (T := TX11) (N := 17) hx hb hts hw11 hown hK hP 0 rfl rfl 5 (by decide) (hts (.fieldLink RX11 38 "SmokeTune" "tape" "LSmokeTune$Tape;") (List.mem_cons_of_mem _ (List.mem_append_left _ (List.mem_append_left _ (List.mem_append_left _ (List.mem_append_left _ (List.mem_append_left _ (List.mem_append_left _ (List.mem_of_getElem? (i := 1) rfl))))))))) (fun _ h9 => h9) rfl dX11_law_13 ?_
    refine lv_iconst (v := 0) hx hb dX11_law_16 (by decide) ?_
    refine va_putN (ci := 8) (v := .int 0) (ty := .int) (C := RX8) (T := TX8) (N := 6) hx hb hts hw8 tyX8 tyX8_ok nmX8 hown hK hP hD hS 3 rfl rfl 1 (by decide) (nst_use hN 120 rfl) (fun _ h9 => h9) rfl (by decide +kernel) (by first | rfl | decide) (by first | rfl | decide) (Nat.le_of_ble_eq_true rfl) dX11_law_17 (fun H locs hP hD hS => ?_)
    have hP : va_P D vwCl [(o0, .inr (11, [.ref t0, o_1, o_2, o_3, .ref b0, .ref p0, o_6, o_7, o_8, o_9, o_10, o_11, .ref rf, .int rb, o_14, o_15, o_16])), (rf, .inl (K 0, 5, .inl frf)), (b0, .inr (6, [.ref p0, .ref s0, .int lw, .int pa, .int fl])), (p0, .inr (8, [.ref p1, .int 0, .int tf, .int tt, .int ti, .int tu])), (p1, .inl (K 0, 400, .inl fb)), (s0, .inr (7, [.ref s1, .ref s2, .int scl, .int us])), (s1, .inl (K 0, 60, .inl fh)), (s2, .inl (K 0, 800, .inl fc)), (t0, .inr (9, [k_0, k_1, k_2, .ref l0, k_4, .int lt, k_6, k_7, k_8, k_9])), (l0, .inl (K 4, 6, .inr (.inr (.inr (.inr fd)))))] H := hP
    have hD : va_D A [(o0, .inr (11, [.ref t0, o_1, o_2, o_3, .ref b0, .ref p0, o_6, o_7, o_8, o_9, o_10, o_11, .ref rf, .int rb, o_14, o_15, o_16])), (rf, .inl (K 0, 5, .inl frf)), (b0, .inr (6, [.ref p0, .ref s0, .int lw, .int pa, .int fl])), (p0, .inr (8, [.ref p1, .int 0, .int tf, .int tt, .int ti, .int tu])), (p1, .inl (K 0, 400, .inl fb)), (s0, .inr (7, [.ref s1, .ref s2, .int scl, .int us])), (s1, .inl (K 0, 60, .inl fh)), (s2, .inl (K 0, 800, .inl fc)), (t0, .inr (9, [k_0, k_1, k_2, .ref l0, k_4, .int lt, k_6, k_7, k_8, k_9])), (l0, .inl (K 4, 6, .inr (.inr (.inr (.inr fd)))))] := hD
    refine lv_aload_n hx hb dX11_law_20 rfl (lv_at hl 0 rfl) ?_
    refine lv_bipush (v := (-5)) hx hb dX11_law_21 (by decide) ?_
    refine kci (S := Su) (wr := [(b0, .inr (6, [.ref p0, .ref s0, .int lw, .int pa, .int fl])), (p0, .inr (8, [.ref p1, .int 0, .int tf, .int tt, .int ti, .int tu])), (p1, .inl (K 0, 400, .inl fb)), (s0, .inr (7, [.ref s1, .ref s2, .int scl, .int us])), (s1, .inl (K 0, 60, .inl fh)), (s2, .inl (K 0, 800, .inl fc)), (t0, .inr (9, [k_0, k_1, k_2, .ref l0, k_4, .int lt, k_6, k_7, k_8, k_9])), (l0, .inl (K 4, 6, .inr (.inr (.inr (.inr fd)))))]) (va_runV (As := [.int (-5)]) (rest := []) ⟨hx, hb, hml, hown, hts⟩ (w_refuse l D K o0 (-5) (.ref t0) o_1 o_2 o_3 (.ref b0) (.ref p0) o_6 o_7 o_8 o_9 o_10 o_11 rf rb o_14 o_15 o_16 frf H.size) (cwV 1 hts gX11_law_X11_refuse rfl rfl rfl (by decide +kernel) ⟨Nat.le_of_ble_eq_true rfl, Nat.le_of_ble_eq_true rfl⟩) (mkV hK hN (hP.sub [0, 1] rfl) (hD.sub [0, 1] (by decide) rfl) (ci := 11) (q0 := 0) rfl rfl) rfl rfl hl.1 rfl (lv_room (Nat.le_of_ble_eq_true rfl)) dX11_law_23 ⟨Nat.le_of_ble_eq_true rfl, Nat.le_of_ble_eq_true rfl⟩) hP hD hS hA [0, 1] [2, 3, 4, 5, 6, 7, 8, 9] rfl rfl (by decide) (by decide) (fun r_143 u_144 H locs hw hP hD hS => ?_)
    have hP : va_P D vwCl [(b0, .inr (6, [.ref p0, .ref s0, .int lw, .int pa, .int fl])), (p0, .inr (8, [.ref p1, .int 0, .int tf, .int tt, .int ti, .int tu])), (p1, .inl (K 0, 400, .inl fb)), (s0, .inr (7, [.ref s1, .ref s2, .int scl, .int us])), (s1, .inl (K 0, 60, .inl fh)), (s2, .inl (K 0, 800, .inl fc)), (t0, .inr (9, [k_0, k_1, k_2, .ref l0, k_4, .int lt, k_6, k_7, k_8, k_9])), (l0, .inl (K 4, 6, .inr (.inr (.inr (.inr fd))))), (o0, .inr (11, [.ref t0, o_1, o_2, o_3, .ref b0, .ref p0, o_6, o_7, o_8, o_9, o_10, o_11, .ref rf, .int (u_144.2.2.2.1 0), o_14, o_15, o_16])), (rf, .inl (K 0, 5, .inl (u_144.2.1 0)))] H := hP
    have hD : va_D A [(b0, .inr (6, [.ref p0, .ref s0, .int lw, .int pa, .int fl])), (p0, .inr (8, [.ref p1, .int 0, .int tf, .int tt, .int ti, .int tu])), (p1, .inl (K 0, 400, .inl fb)), (s0, .inr (7, [.ref s1, .ref s2, .int scl, .int us])), (s1, .inl (K 0, 60, .inl fh)), (s2, .inl (K 0, 800, .inl fc)), (t0, .inr (9, [k_0, k_1, k_2, .ref l0, k_4, .int lt, k_6, k_7, k_8, k_9])), (l0, .inl (K 4, 6, .inr (.inr (.inr (.inr fd))))), (o0, .inr (11, [.ref t0, o_1, o_2, o_3, .ref b0, .ref p0, o_6, o_7, o_8, o_9, o_10, o_11, .ref rf, .int (u_144.2.2.2.1 0), o_14, o_15, o_16])), (rf, .inl (K 0, 5, .inl (u_144.2.1 0)))] := hD
    subst hQ
    have hP9 := hP.sub (ws' := [(o0, .inr (11, [.ref t0, o_1, o_2, o_3, .ref b0, .ref p0, o_6, o_7, o_8, o_9, o_10, o_11, .ref rf, .int (u_144.2.2.2.1 0), o_14, o_15, o_16])), (rf, .inl (K 0, 5, .inl (u_144.2.1 0))), (b0, .inr (6, [.ref p0, .ref s0, .int lw, .int pa, .int fl])), (p0, .inr (8, [.ref p1, .int 0, .int tf, .int tt, .int ti, .int tu])), (p1, .inl (K 0, 400, .inl fb)), (s0, .inr (7, [.ref s1, .ref s2, .int scl, .int us])), (s1, .inl (K 0, 60, .inl fh)), (s2, .inl (K 0, 800, .inl fc)), (t0, .inr (9, [k_0, k_1, k_2, .ref l0, k_4, .int lt, k_6, k_7, k_8, k_9])), (l0, .inl (K 4, 6, .inr (.inr (.inr (.inr fd)))))]) [8, 9, 0, 1, 2, 3, 4, 5, 6, 7] rfl
    have hD9 := hD.sub (ws' := [(o0, .inr (11, [.ref t0, o_1, o_2, o_3, .ref b0, .ref p0, o_6, o_7, o_8, o_9, o_10, o_11, .ref rf, .int (u_144.2.2.2.1 0), o_14, o_15, o_16])), (rf, .inl (K 0, 5, .inl (u_144.2.1 0))), (b0, .inr (6, [.ref p0, .ref s0, .int lw, .int pa, .int fl])), (p0, .inr (8, [.ref p1, .int 0, .int tf, .int tt, .int ti, .int tu])), (p1, .inl (K 0, 400, .inl fb)), (s0, .inr (7, [.ref s1, .ref s2, .int scl, .int us])), (s1, .inl (K 0, 60, .inl fh)), (s2, .inl (K 0, 800, .inl fc)), (t0, .inr (9, [k_0, k_1, k_2, .ref l0, k_4, .int lt, k_6, k_7, k_8, k_9])), (l0, .inl (K 4, 6, .inr (.inr (.inr (.inr fd)))))]) [8, 9, 0, 1, 2, 3, 4, 5, 6, 7] (by decide) rfl
    refine W.widen (k := 3) (n := 864) (by omega) (by omega) ?_
    exact W.iret (v := r_143) hx hb hr (fun t ht hW => ⟨⟨r_143, (((fun _ => 0, fun i => match i with | 0 => (u_144.2.1 0) | 1 => fh | _ => fc, fun _ => fun _ => 0, fun i => ([(u_144.2.2.2.1 0), lw, pa, fl, tf, tt, ti, tu, scl, us, lt] : List _).getD i (0), fun _ => 0, fun i => match i with | _ => fd) : Su), [], L), rfl, ⟨⟨(show 0 ≤ (lw : Int32).toInt ∧ (lw : Int32).toInt ≤ 1 by omega), (show 0 ≤ (pa : Int32).toInt ∧ (pa : Int32).toInt ≤ 50 by omega), (show 0 ≤ (tf : Int32).toInt ∧ (tf : Int32).toInt ≤ 400 by omega), (show 0 ≤ (tt : Int32).toInt ∧ (tt : Int32).toInt ≤ 400 by omega), (show (-1) ≤ (tu : Int32).toInt ∧ (tu : Int32).toInt ≤ 1000000 by omega), (show 0 ≤ (scl : Int32).toInt ∧ (scl : Int32).toInt ≤ 12 by omega), (show 0 ≤ (us : Int32).toInt ∧ (us : Int32).toInt ≤ 800 by omega), zfh, zfc, (show 0 ≤ (lt : Int32).toInt ∧ (lt : Int32).toInt ≤ 6 by omega), trivial⟩, zfd, Or.inl ⟨rfl, rfl⟩⟩, (⟨by rw [ht]; exact hP9, hD9⟩ : Wd D A _ t)⟩, hS.F ht⟩) hS.2.2 dX11_law_26
