def tl0 : Nat → Int32 := fun j => ([0, 0, 1, 1, 0, 0] : List Int32).getD j 0
def tl1 : Nat → Int32 := fun j => ([23, 999, 20, 20, 10, 9] : List Int32).getD j 0
def sb0 : Nat → Int32 := fun j => ([98, 117, 114, 110, 115, 32, 102, 108, 97, 114, 101, 115, 32, 102, 105, 110, 101, 115, 32, 98, 97, 114, 115] : List Int32).getD j 0
def sb1 : Nat → Int32 := fun j => ([115, 116, 111, 107, 101, 32, 100, 97, 109, 112, 32, 98, 117, 121, 32, 112, 97, 115, 115] : List Int32).getD j 0
def GS (q v n : Nat) (fb : Nat → Int32) (A : Nat → Prop) (U : State) (H : Heap) : Prop := va_O "java/lang/String" q A U H ∧ va_OF "java/lang/String" "coder" "B" (.int 0) q A U H ∧ va_OF "java/lang/String" "value" "[B" (.ref v) q A U H ∧ va_T .byte v n (fun j => .int (fb j)) A U H
theorem GS.moved {q v n : Nat} {fb : Nat → Int32} {A : Nat → Prop} {u U : State} {H : Heap} (hvm : u.vm.Alike U.vm) (h : GS q v n fb A u H) : GS q v n fb A U H := ⟨va_O.moved hvm h.1, va_OF.moved hvm h.2.1, va_OF.moved hvm h.2.2.1, va_T.moved hvm h.2.2.2⟩
theorem GS.kept {q v n : Nat} {fb : Nat → Int32} {A : Nat → Prop} {U : State} {H H1 : Heap} (h : GS q v n fb A U H) (hq : ∀ a : Nat, a < H.size → ¬ A a → H1[a]? = H[a]?) : GS q v n fb A U H1 := ⟨h.1.kept hq, h.2.1.kept hq, h.2.2.1.kept hq, h.2.2.2.kept hq⟩
theorem GS.narrow {q v n : Nat} {fb : Nat → Int32} {A B : Nat → Prop} {U : State} {H : Heap} (h : GS q v n fb A U H) (hAB : ∀ q, B q → A q) : GS q v n fb B U H := ⟨h.1.narrow hAB, h.2.1.narrow hAB, h.2.2.1.narrow hAB, h.2.2.2.narrow hAB⟩
abbrev SIO : String := "SIOOBE_FORMATTER"
abbrev SIOd : String := "Ljava/util/function/BiFunction;"
def Gl (g : Nat → Nat) (A : Nat → Prop) (U : State) (H : Heap) : Prop :=
  (va_Z "SmokeTune" "TERM_LEAST" "[I" (.ref (g 0)) A U H ∧ va_T .int (g 0) 6 (fun j => .int (tl0 j)) A U H ∧ va_Z "SmokeTune" "TERM_MOST" "[I" (.ref (g 1)) A U H ∧ va_T .int (g 1) 6 (fun j => .int (tl1 j)) A U H) ∧
  (va_Z "java/lang/String" "COMPACT_STRINGS" "Z" (.int 1) A U H ∧ va_Zq "jdk/internal/util/Preconditions" SIO SIOd A U H) ∧
  (vk_R RX6 63 "burns flares fines bars" (g 2) U ∧ GS (g 2) (g 3) 23 sb0 A U H) ∧ (vk_R RX6 65 "stoke damp buy pass" (g 4) U ∧ GS (g 4) (g 5) 19 sb1 A U H)
theorem Gl.warm {g : Nat → Nat} {A : Nat → Prop} {s U : State} {H : Heap} (hW : s.WarmedH U.vm) (h : Gl g A s H) : Gl g A U H :=
  ⟨⟨va_Z.moved hW.alike h.1.1, va_T.moved hW.alike h.1.2.1, va_Z.moved hW.alike h.1.2.2.1, va_T.moved hW.alike h.1.2.2.2⟩, ⟨va_Z.moved hW.alike h.2.1.1, va_Zq.moved hW.alike h.2.1.2⟩, ⟨vk_R.warm hW h.2.2.1.1, GS.moved hW.alike h.2.2.1.2⟩, ⟨vk_R.warm hW h.2.2.2.1, GS.moved hW.alike h.2.2.2.2⟩⟩
theorem Gl.same {g : Nat → Nat} {A : Nat → Prop} {s U : State} {H : Heap} (hv : s.vm = U.vm) (h : Gl g A s H) : Gl g A U H := by
  have hW : s.vm.Alike U.vm := by rw [← hv]; exact Vm.Alike.refl s.vm
  exact ⟨⟨va_Z.moved hW h.1.1, va_T.moved hW h.1.2.1, va_Z.moved hW h.1.2.2.1, va_T.moved hW h.1.2.2.2⟩, ⟨va_Z.moved hW h.2.1.1, va_Zq.moved hW h.2.1.2⟩, ⟨vk_R.same hv.symm h.2.2.1.1, GS.moved hW h.2.2.1.2⟩, ⟨vk_R.same hv.symm h.2.2.2.1, GS.moved hW h.2.2.2.2⟩⟩
theorem Gl.kept {g : Nat → Nat} {A : Nat → Prop} {U : State} {H H1 : Heap} (h : Gl g A U H) (hq : ∀ a : Nat, a < H.size → ¬ A a → H1[a]? = H[a]?) : Gl g A U H1 :=
  ⟨⟨h.1.1.kept hq, h.1.2.1.kept hq, h.1.2.2.1.kept hq, h.1.2.2.2.kept hq⟩, ⟨h.2.1.1.kept hq, h.2.1.2.kept hq⟩, ⟨h.2.2.1.1, h.2.2.1.2.kept hq⟩, ⟨h.2.2.2.1, h.2.2.2.2.kept hq⟩⟩
theorem Gl.narrow {g : Nat → Nat} {A B : Nat → Prop} {U : State} {H : Heap} (h : Gl g A U H) (hAB : ∀ q, B q → A q) : Gl g B U H :=
  ⟨⟨h.1.1.narrow hAB, h.1.2.1.narrow hAB, h.1.2.2.1.narrow hAB, h.1.2.2.2.narrow hAB⟩, ⟨h.2.1.1.narrow hAB, h.2.1.2.narrow hAB⟩, ⟨h.2.2.1.1, h.2.2.1.2.narrow hAB⟩, ⟨h.2.2.2.1, h.2.2.2.2.narrow hAB⟩⟩
theorem Gl.at {g : Nat → Nat} {A B : Nat → Prop} {s U : State} {H : Heap} {locs : List Loc} (hG : Gl g A s s.heap) (hS : va_S A s.heap H locs) (hW : s.WarmedH U.vm) (hU : U.heap = H) (hAB : ∀ q, B q → A q) : Gl g B U U.heap := by
  rw [hU]
  exact ((hG.kept hS.2.1).warm hW).narrow hAB
theorem Gl.atF {g : Nat → Nat} {A : Nat → Prop} {s U : State} {H : Heap} {locs : List Loc} (hG : Gl g A s s.heap) (hS : va_S A s.heap H locs) (hW : s.WarmedH U.vm) (hU : U.heap = H) : Gl g (fun _ => False) U U.heap := hG.at hS hW hU (fun _ h => h.elim)
def PreX (D : va_G) (K : Nat → ClassId) (ws : va_W) (sz : Nat) (g : Nat → Nat) (A : Nat → Prop) (U : State) : Prop := Pre D K ws sz U ∧ Gl g A U U.heap
theorem PreX.blind {av : List Value} {D : va_G} {K : Nat → ClassId} {ws : va_W} {sz : Nat} {g : Nat → Nat} {A : Nat → Prop} : FrameBlind (va_Pc av (PreX D K ws sz g A)) := fun a U gf mk q => by
  obtain ⟨q0, ⟨q1, qP, qK, qD, qN⟩, qG⟩ := q
  exact ⟨q0, ⟨q1, qP, va_K.moved (u := U) (U := U.calling gf mk a) (Vm.Alike.refl U.vm) qK, qD, qN.call⟩, Gl.same (s := U) (U := U.calling gf mk a) rfl qG⟩
theorem mkSX {s : State} {H : Heap} {D : va_G} {K : Nat → ClassId} {wc : va_W} {A A' : Nat → Prop} {av : List Value} {g : Nat → Nat} (hK : va_K D vwCl (KT K) s) (hN : lw_N s) (hP : va_P D vwCl wc H) (hD : va_D A wc) (hG : ∀ U : State, U.heap = H → s.WarmedH U.vm → Gl g A' U U.heap) : PreS s H (va_Pc av (PreX D K wc H.size g A')) av :=
  ⟨PreX.blind, fun U hU hW => ⟨rfl, ⟨by rw [hU], by rw [hU]; exact hP, va_K.moved hW.alike hK, hD.weaken (fun _ _ _ _ => trivial), hN.warm hW⟩, hG U hU hW⟩⟩
theorem mkVX {s : State} {H : Heap} {D : va_G} {K : Nat → ClassId} {wc : va_W} {A A' : Nat → Prop} {b : Nat} {As : List Value} {g : Nat → Nat} (hK : va_K D vwCl (KT K) s) (hN : lw_N s) (hP : va_P D vwCl wc H) (hD : va_D A wc) {ci q0 : Nat} {q : vw_C} {fs : List Value} (hc : vwCl[ci]? = some q) (he : wc[q0]? = some (b, .inr (ci, fs))) (hG : ∀ U : State, U.heap = H → s.WarmedH U.vm → Gl g A' U U.heap) : PreV s H q.1 b (va_Pc (.ref b :: As) (PreX D K wc H.size g A')) As :=
  ⟨PreX.blind, va_recv hK hP hc he, fun U hU hW => ⟨rfl, ⟨by rw [hU], by rw [hU]; exact hP, va_K.moved hW.alike hK, hD.weaken (fun _ _ _ _ => trivial), hN.warm hW⟩, hG U hU hW⟩⟩
theorem mkVS {s : State} {H : Heap} {D : va_G} {K : Nat → ClassId} {A A' : Nat → Prop} {b v n : Nat} {fb : Nat → Int32} {As : List Value} {g : Nat → Nat} {locs : List Loc} (hK : va_K D vwCl (KT K) s) (hN : lw_N s) (h : GS b v n fb A s s.heap) (hS : va_S A s.heap H locs) (hG : ∀ U : State, U.heap = H → s.WarmedH U.vm → Gl g A' U U.heap) : PreV s H RJ0 b (va_Pc (.ref b :: As) (PreX D K [] H.size g A')) As :=
  ⟨PreX.blind, by
    obtain ⟨cell, h1, h2, h3, -⟩ := h.1.kept hS.2.1
    exact ⟨cell, h1, h2, h3⟩, fun U hU hW => ⟨rfl, ⟨by rw [hU], fun k q h => by simp at h, va_K.moved hW.alike hK, ⟨fun i j p q h => by simp at h, fun k q h => by simp at h⟩, hN.warm hW⟩, hG U hU hW⟩⟩
