noncomputable def aC (k : Nat) : String := match k with
  | 0 => "SmokeTune"
  | 1 => "SmokeTune"
  | 2 => "SmokeTune"
  | 3 => "SmokeTune"
  | 4 => "SmokeTune$Reader"
  | 5 => "SmokeTune$Reader"
  | 6 => "SmokeTune$Reader"
  | _ => "SmokeTune$Reader"
noncomputable def aN (k : Nat) : String := match k with
  | 0 => "TERM_LEAST"
  | 1 => "TERM_MOST"
  | 2 => "WITHOUT_LAW"
  | 3 => "MOST_BY_LAW"
  | 4 => "LAW_SUMS"
  | 5 => "ORDER_SUMS"
  | 6 => "TELLING_FROM"
  | _ => "TELLING_MOST"
noncomputable def aL (k : Nat) : Nat := match k with
  | 0 => 6
  | 1 => 6
  | 2 => 4
  | 3 => 4
  | 4 => 4
  | 5 => 4
  | 6 => 3
  | _ => 3
noncomputable def aF (k : Nat) : Nat → Int32 := match k with
  | 0 => fun j => ([0, 0, 1, 1, 0, 0] : List Int32).getD j 0
  | 1 => fun j => ([23, 999, 20, 20, 10, 9] : List Int32).getD j 0
  | 2 => fun j => ([1, 4, 1, 0] : List Int32).getD j 0
  | 3 => fun j => ([20, 20, 999, 1] : List Int32).getD j 0
  | 4 => fun j => ([1, 1, 1, 0] : List Int32).getD j 0
  | 5 => fun j => ([1, 2, 2, 0] : List Int32).getD j 0
  | 6 => fun j => ([5, 13, 21] : List Int32).getD j 0
  | _ => fun j => ([7, 7, 6] : List Int32).getD j 0
noncomputable def sI (k : Nat) : Nat := match k with
  | 0 => 63
  | 1 => 65
  | 2 => 82
  | 3 => 99
  | 4 => 104
  | 5 => 125
  | 6 => 127
  | 7 => 129
  | 8 => 131
  | 9 => 140
  | 10 => 142
  | 11 => 144
  | _ => 146
noncomputable def sT (k : Nat) : String := match k with
  | 0 => "burns flares fines bars"
  | 1 => "stoke damp buy pass"
  | 2 => "by"
  | 3 => "times"
  | 4 => "if"
  | 5 => "and"
  | 6 => "or"
  | 7 => "not"
  | 8 => "<>="
  | 9 => "*/%"
  | 10 => "+-"
  | 11 => "house note street fire coal hour day mood other"
  | _ => "hour day fines done met fire coal sounds"
noncomputable def sn (k : Nat) : Nat := match k with
  | 0 => 23
  | 1 => 19
  | 2 => 2
  | 3 => 5
  | 4 => 2
  | 5 => 3
  | 6 => 2
  | 7 => 3
  | 8 => 3
  | 9 => 3
  | 10 => 2
  | 11 => 47
  | _ => 40
noncomputable def sf (k : Nat) : Nat → Int32 := match k with
  | 0 => fun j => ([98, 117, 114, 110, 115, 32, 102, 108, 97, 114, 101, 115, 32, 102, 105, 110, 101, 115, 32, 98, 97, 114, 115] : List Int32).getD j 0
  | 1 => fun j => ([115, 116, 111, 107, 101, 32, 100, 97, 109, 112, 32, 98, 117, 121, 32, 112, 97, 115, 115] : List Int32).getD j 0
  | 2 => fun j => ([98, 121] : List Int32).getD j 0
  | 3 => fun j => ([116, 105, 109, 101, 115] : List Int32).getD j 0
  | 4 => fun j => ([105, 102] : List Int32).getD j 0
  | 5 => fun j => ([97, 110, 100] : List Int32).getD j 0
  | 6 => fun j => ([111, 114] : List Int32).getD j 0
  | 7 => fun j => ([110, 111, 116] : List Int32).getD j 0
  | 8 => fun j => ([60, 62, 61] : List Int32).getD j 0
  | 9 => fun j => ([42, 47, 37] : List Int32).getD j 0
  | 10 => fun j => ([43, 45] : List Int32).getD j 0
  | 11 => fun j => ([104, 111, 117, 115, 101, 32, 110, 111, 116, 101, 32, 115, 116, 114, 101, 101, 116, 32, 102, 105, 114, 101, 32, 99, 111, 97, 108, 32, 104, 111, 117, 114, 32, 100, 97, 121, 32, 109, 111, 111, 100, 32, 111, 116, 104, 101, 114] : List Int32).getD j 0
  | _ => fun j => ([104, 111, 117, 114, 32, 100, 97, 121, 32, 102, 105, 110, 101, 115, 32, 100, 111, 110, 101, 32, 109, 101, 116, 32, 102, 105, 114, 101, 32, 99, 111, 97, 108, 32, 115, 111, 117, 110, 100, 115] : List Int32).getD j 0
theorem sn_le (k : Nat) : sn k ≤ 47 := by unfold sn; split <;> decide
theorem sn_pos (k : Nat) : 2 ≤ sn k := by unfold sn; split <;> decide
noncomputable abbrev Su : Type := (Nat → Nat) × (Nat → Nat → Int32) × (Nat → Nat → Int64) × (Nat → Int32) × (Nat → Int64) × (Nat → Nat → Option Nat)
/-! contents of arrays -/
noncomputable def Rg (n : Nat) (lo hi : Int) (f : Nat → Int32) : Prop := ∀ j, j < n → lo ≤ (f j).toInt ∧ (f j).toInt ≤ hi
theorem Rg.zero {n : Nat} {lo hi : Int} (h : lo ≤ 0 ∧ 0 ≤ hi) : Rg n lo hi (fun _ => 0) := fun _ _ => h
theorem Rg.at {n : Nat} {lo hi : Int} {f : Nat → Int32} (h : Rg n lo hi f) {i : Int32} {x : Int} (hx : i.toInt = x) (hh : 0 ≤ x ∧ x < n) : lo ≤ (f i.toNatClampNeg).toInt ∧ (f i.toNatClampNeg).toInt ≤ hi := h _ (by rw [i_clamp hx]; omega)
theorem Rg.upd {n : Nat} {lo hi : Int} {f : Nat → Int32} (h : Rg n lo hi f) {k : Nat} {v : Int32} {x : Int} (hv : v.toInt = x) (hx : lo ≤ x ∧ x ≤ hi) : Rg n lo hi (upd f k v) := fun j hj => by
  by_cases e : j = k
  · subst e; rw [pk_us, hv]; exact hx
  · rw [pk_un e]; exact h j hj
theorem Rg.wide {n : Nat} {a b lo hi : Int} {f : Nat → Int32} (h : Rg n a b f) (hh : lo ≤ a ∧ b ≤ hi) : Rg n lo hi f := fun j hj => ⟨Int.le_trans hh.1 (h j hj).1, Int.le_trans (h j hj).2 hh.2⟩
theorem Rg.cpy {n m : Nat} {lo hi : Int} {f g : Nat → Int32} {sp dp k : Nat} (hf : Rg m lo hi f) (hg : Rg n lo hi g) (h : sp + k ≤ m) : Rg n lo hi (va_cpy (α := Int32) f g sp dp k) := fun j hj => by
  by_cases e : dp ≤ j ∧ j < dp + k
  · rw [pk_cpy_in e.1 e.2]; exact hf _ (by omega)
  · rw [pk_cpy_out (by omega)]; exact hg j hj
/-! the laws that are enacted: read only -/
noncomputable def InLo (L : Nat → Prop) (r : Option Nat) : Prop := match r with
  | none => True
  | some q => L q
noncomputable def InL (L : Nat → Prop) (f : Nat → Option Nat) : Prop := ∀ j, InLo L (f j)
theorem InL.none {L : Nat → Prop} : InL L (fun _ => Option.none) := fun _ => trivial
theorem InL.up {L : Nat → Prop} {f : Nat → Option Nat} {k : Nat} {r : Option Nat} (h : InL L f) (hr : InLo L r) : InL L (va_up f k r) := fun j => by
  by_cases e : j = k
  · rw [show va_up f k r j = r by simp [va_up, e]]; exact hr
  · rw [show va_up f k r j = f j by simp [va_up, e]]; exact h j
theorem va_P.nil {D : va_G} {cl : List vw_C} {H : Heap} : va_P D cl [] H := fun k q h => by simp at h
theorem va_D.nil {A : Nat → Prop} : va_D A [] := ⟨fun i j p q h => by simp at h, fun k q h => by simp at h⟩
theorem at_lt {D : va_G} {cl : List vw_C} {ws : va_W} {H : Heap} (h : va_P D cl ws H) {k : Nat} {q : Nat × va_E} (hk : ws[k]? = some q) : q.1 < H.size := by
  have := h k q hk
  unfold va_at at this
  split at this
  · exact (Array.getElem?_eq_some_iff.mp this).1
  · obtain ⟨r, _, c, hc, _⟩ := this; exact (Array.getElem?_eq_some_iff.mp hc).1
noncomputable def Ro (D : va_G) (A : Nat → Prop) (ro : va_W) (H : Heap) : Prop := va_P D vwCl ro H ∧ va_D (fun q => ¬ A q) ro
theorem Ro.nil {D : va_G} {A : Nat → Prop} {H : Heap} : Ro D A [] H := ⟨va_P.nil, va_D.nil⟩
theorem Ro.heap {D : va_G} {A : Nat → Prop} {ro : va_W} {H : Heap} {U : State} (hU : U.heap = H) (h : Ro D A ro H) : Ro D A ro U.heap := by rw [hU]; exact h
theorem Ro.at {D : va_G} {A : Nat → Prop} {ro : va_W} {H0 H : Heap} {locs : List Loc} (h : Ro D A ro H0) (hS : va_S A H0 H locs) : va_P D vwCl ro H := h.1.kept (fun _ q hk => hS.2.1 q.1 (at_lt h.1 hk) (h.2.2 _ q hk))
theorem Ro.di {D : va_G} {A : Nat → Prop} {ro ws' : va_W} {H : Heap} (h : Ro D A ro H) (is : List Nat) (hn : va_nd is = true) (hs : is.map (fun i => ro[i]?) = ws'.map some) : va_D (fun _ => True) ws' := (h.2.sub is hn hs).weaken (fun _ _ _ _ => trivial)
theorem Ro.ofRo {D : va_G} {A B : Nat → Prop} {ro ro' : va_W} {H0 H : Heap} {locs : List Loc} (h : Ro D A ro H0) (hS : va_S A H0 H locs) (is : List Nat) (hn : va_nd is = true) (hs : is.map (fun i => ro[i]?) = ro'.map some) (hAB : ∀ q, B q → A q) : Ro D B ro' H := ⟨(h.at hS).by (fun k => (is[k]?).getD 0) (fun k q hk => by
    have e := congrArg (fun l => l[k]?) hs
    simp only [List.getElem?_map, hk] at e
    cases hi : is[k]? with
    | none => rw [hi] at e; simp at e
    | some i => rw [hi] at e; simpa using e), (h.2.sub is hn hs).weaken (fun _ _ _ hq hb => hq (hAB _ hb))⟩
theorem Ro.ofW {D : va_G} {A : Nat → Prop} {ws wc ro : va_W} {H : Heap} (hP : va_P D vwCl ws H) (hD : va_D A ws) (isC isR : List Nat) (hC : isC.map (fun i => ws[i]?) = wc.map some) (hR : isR.map (fun i => ws[i]?) = ro.map some) (hn : va_nd isR = true) (hdis : ∀ i ∈ isR, i ∉ isC) : Ro D (va_A wc H.size) ro H := by
  have get : ∀ (is : List Nat) (w : va_W), is.map (fun i => ws[i]?) = w.map some → ∀ (k : Nat) (q : Nat × va_E), w[k]? = some q → ∃ i : Nat, is[k]? = some i ∧ ws[i]? = some q := by
    intro is w hs k q hk
    have e := congrArg (fun l => l[k]?) hs
    simp only [List.getElem?_map, hk] at e
    cases hi : is[k]? with
    | none => rw [hi] at e; simp at e
    | some i => rw [hi] at e; exact ⟨i, rfl, by simpa using e⟩
  have hP' : va_P D vwCl ro H := fun k q hk => by
    obtain ⟨i, _, h2⟩ := get isR ro hR k q hk
    exact hP i q h2
  refine ⟨hP', (hD.sub isR hn hR).1, fun k q hk hA => ?_⟩
  obtain ⟨i, h1, h2⟩ := get isR ro hR k q hk
  rcases hA with ⟨j, e, hj⟩ | hA
  · obtain ⟨i', h1', h2'⟩ := get isC wc hC j _ hj
    have := hD.1 i i' _ _ h2 h2' rfl
    subst this
    exact hdis i (List.mem_of_getElem? h1) (List.mem_of_getElem? h1')
  · exact absurd (at_lt hP' hk) (Nat.not_lt.mpr hA)
noncomputable abbrev Scr (K : Nat → ClassId) (q h c nh nc : Nat) (fh fc : Nat → Int32) (cl us : Int32) : va_W := [(q, .inr (7, [.ref h, .ref c, .int cl, .int us])), (h, .inl (K 0, nh, .inl fh)), (c, .inl (K 0, nc, .inl fc))]
/-- what stands in a law that was enacted: how many heads, how much code, both, clauses, used -/
noncomputable abbrev LC : Type := Nat × Nat × (Nat → Int32) × (Nat → Int32) × Int32 × Int32
noncomputable def Pool (D : va_G) (K : Nat → ClassId) (L : Nat → Prop) (G : Nat → LC) (A : Nat → Prop) (H : Heap) : Prop := ∀ q, L q → ∃ (h c : Nat), (G q).1 < 1000000 ∧ (G q).2.1 < 1000000 ∧ (Rg (G q).1 (-1) 1000 (G q).2.2.1 ∧ Rg (G q).2.1 0 1000 (G q).2.2.2.1) ∧ Ro D A (Scr K q h c (G q).1 (G q).2.1 (G q).2.2.1 (G q).2.2.2.1 (G q).2.2.2.2.1 (G q).2.2.2.2.2) H
theorem Pool.kept {G : Nat → LC} {D : va_G} {K : Nat → ClassId} {L A : Nat → Prop} {H0 H : Heap} {locs : List Loc} (h : Pool D K L G A H0) (hS : va_S A H0 H locs) : Pool D K L G A H := fun q hq => by
  obtain ⟨a, b, h1, h2, h3, hr⟩ := h q hq
  exact ⟨a, b, h1, h2, h3, hr.at hS, hr.2⟩
theorem Pool.narrow {G : Nat → LC} {D : va_G} {K : Nat → ClassId} {L A B : Nat → Prop} {H : Heap} (h : Pool D K L G A H) (hAB : ∀ q, B q → A q) : Pool D K L G B H := fun q hq => by
  obtain ⟨a, b, h1, h2, h3, hr⟩ := h q hq
  exact ⟨a, b, h1, h2, h3, hr.1, hr.2.weaken (fun _ _ _ hq hb => hq (hAB _ hb))⟩
theorem Pool.at {G : Nat → LC} {D : va_G} {K : Nat → ClassId} {L A B : Nat → Prop} {H0 H : Heap} {locs : List Loc} {U : State} (h : Pool D K L G A H0) (hS : va_S A H0 H locs) (hU : U.heap = H) (hAB : ∀ q, B q → A q) : Pool D K L G B U.heap := by rw [hU]; exact (h.kept hS).narrow hAB
theorem Pool.any {G : Nat → LC} {D : va_G} {K : Nat → ClassId} {L A : Nat → Prop} {H0 H : Heap} {locs : List Loc} {s : State} {q : Nat} (hK : va_K D vwCl (KT K) s) (h : Pool D K L G A H0) (hS : va_S A H0 H locs) (hq : InLo L (some q)) : va_Any "SmokeTune$Script" s H q := by
  obtain ⟨a, b, h1, h2, h3, hr⟩ := h q hq
  refine va_rAny (q0 := 0) (ci := 7) hK (hr.at hS) rfl rfl (fun comp c0 e1 e2 => ?_)
  have e : comp = c0 := Option.some.inj (e1.symm.trans e2)
  subst e
  have hcls := (hK.1 7 _ rfl).2
  have e3 : comp = D.1 7 := Option.some.inj (e2.symm.trans hcls.1)
  rw [e3]
  exact va_assign hcls
/-! statics and texts -/
noncomputable def G1 (g : Nat → Nat) (k : Nat) (A : Nat → Prop) (U : State) (H : Heap) : Prop := va_Z (aC k) (aN k) "[I" (.ref (g k)) A U H ∧ va_T .int (g k) (aL k) (fun j => .int (aF k j)) A U H
noncomputable def GS (q v n : Nat) (fb : Nat → Int32) (A : Nat → Prop) (U : State) (H : Heap) : Prop := va_O "java/lang/String" q A U H ∧ va_OF "java/lang/String" "coder" "B" (.int 0) q A U H ∧ va_OF "java/lang/String" "value" "[B" (.ref v) q A U H ∧ va_T .byte v n (fun j => .int (fb j)) A U H
theorem GS.moved {q v n : Nat} {fb : Nat → Int32} {A : Nat → Prop} {u U : State} {H : Heap} (hvm : u.vm.Alike U.vm) (h : GS q v n fb A u H) : GS q v n fb A U H := ⟨va_O.moved hvm h.1, va_OF.moved hvm h.2.1, va_OF.moved hvm h.2.2.1, va_T.moved hvm h.2.2.2⟩
theorem GS.kept {q v n : Nat} {fb : Nat → Int32} {A : Nat → Prop} {U : State} {H H1 : Heap} (h : GS q v n fb A U H) (hq : ∀ a : Nat, a < H.size → ¬ A a → H1[a]? = H[a]?) : GS q v n fb A U H1 := ⟨h.1.kept hq, h.2.1.kept hq, h.2.2.1.kept hq, h.2.2.2.kept hq⟩
theorem GS.narrow {q v n : Nat} {fb : Nat → Int32} {A B : Nat → Prop} {U : State} {H : Heap} (h : GS q v n fb A U H) (hAB : ∀ q, B q → A q) : GS q v n fb B U H := ⟨h.1.narrow hAB, h.2.1.narrow hAB, h.2.2.1.narrow hAB, h.2.2.2.narrow hAB⟩
noncomputable abbrev SIO : String := "SIOOBE_FORMATTER"
noncomputable abbrev SIOd : String := "Ljava/util/function/BiFunction;"
noncomputable def Gl (g : Nat → Nat) (A : Nat → Prop) (U : State) (H : Heap) : Prop :=
  (∀ k, k < 8 → G1 g k A U H) ∧ (va_Z "java/lang/String" "COMPACT_STRINGS" "Z" (.int 1) A U H ∧ va_Zq "jdk/internal/util/Preconditions" SIO SIOd A U H) ∧
  ∀ k, k < 13 → vk_R RX6 (sI k) (sT k) (g (8 + 2 * k)) U ∧ GS (g (8 + 2 * k)) (g (9 + 2 * k)) (sn k) (sf k) A U H
theorem Gl.arr {g : Nat → Nat} {A : Nat → Prop} {U : State} {H : Heap} (h : Gl g A U H) (k : Nat) (hk : k < 8) : G1 g k A U H := h.1 k hk
theorem Gl.cs {g : Nat → Nat} {A : Nat → Prop} {U : State} {H : Heap} (h : Gl g A U H) : va_Z "java/lang/String" "COMPACT_STRINGS" "Z" (.int 1) A U H := h.2.1.1
theorem Gl.str {g : Nat → Nat} {A : Nat → Prop} {U : State} {H : Heap} (h : Gl g A U H) (k : Nat) (hk : k < 13) : vk_R RX6 (sI k) (sT k) (g (8 + 2 * k)) U ∧ GS (g (8 + 2 * k)) (g (9 + 2 * k)) (sn k) (sf k) A U H := h.2.2 k hk
theorem Gl.warm {g : Nat → Nat} {A : Nat → Prop} {s U : State} {H : Heap} (hW : s.WarmedH U.vm) (h : Gl g A s H) : Gl g A U H :=
  ⟨fun k hk => ⟨va_Z.moved hW.alike (h.1 k hk).1, va_T.moved hW.alike (h.1 k hk).2⟩, ⟨va_Z.moved hW.alike h.2.1.1, va_Zq.moved hW.alike h.2.1.2⟩, fun k hk => ⟨vk_R.warm hW (h.2.2 k hk).1, GS.moved hW.alike (h.2.2 k hk).2⟩⟩
theorem Gl.same {g : Nat → Nat} {A : Nat → Prop} {s U : State} {H : Heap} (hv : s.vm = U.vm) (h : Gl g A s H) : Gl g A U H := by
  have hW : s.vm.Alike U.vm := by rw [← hv]; exact Vm.Alike.refl s.vm
  exact ⟨fun k hk => ⟨va_Z.moved hW (h.1 k hk).1, va_T.moved hW (h.1 k hk).2⟩, ⟨va_Z.moved hW h.2.1.1, va_Zq.moved hW h.2.1.2⟩, fun k hk => ⟨vk_R.same hv.symm (h.2.2 k hk).1, GS.moved hW (h.2.2 k hk).2⟩⟩
theorem Gl.kept {g : Nat → Nat} {A : Nat → Prop} {U : State} {H H1 : Heap} (h : Gl g A U H) (hq : ∀ a : Nat, a < H.size → ¬ A a → H1[a]? = H[a]?) : Gl g A U H1 :=
  ⟨fun k hk => ⟨(h.1 k hk).1.kept hq, (h.1 k hk).2.kept hq⟩, ⟨h.2.1.1.kept hq, h.2.1.2.kept hq⟩, fun k hk => ⟨(h.2.2 k hk).1, (h.2.2 k hk).2.kept hq⟩⟩
theorem Gl.narrow {g : Nat → Nat} {A B : Nat → Prop} {U : State} {H : Heap} (h : Gl g A U H) (hAB : ∀ q, B q → A q) : Gl g B U H :=
  ⟨fun k hk => ⟨(h.1 k hk).1.narrow hAB, (h.1 k hk).2.narrow hAB⟩, ⟨h.2.1.1.narrow hAB, h.2.1.2.narrow hAB⟩, fun k hk => ⟨(h.2.2 k hk).1, (h.2.2 k hk).2.narrow hAB⟩⟩
theorem Gl.at {g : Nat → Nat} {A B : Nat → Prop} {s U : State} {H : Heap} {locs : List Loc} (hG : Gl g A s s.heap) (hS : va_S A s.heap H locs) (hW : s.WarmedH U.vm) (hU : U.heap = H) (hAB : ∀ q, B q → A q) : Gl g B U U.heap := by
  rw [hU]
  exact ((hG.kept hS.2.1).warm hW).narrow hAB
noncomputable def PreY (D : va_G) (K : Nat → ClassId) (ws ro : va_W) (sz : Nat) (g : Nat → Nat) (L : Nat → Prop) (G : Nat → LC) (A : Nat → Prop) (U : State) : Prop := Pre D K ws sz U ∧ Gl g A U U.heap ∧ Pool D K L G A U.heap ∧ Ro D A ro U.heap
theorem PreY.blind {G : Nat → LC} {av : List Value} {D : va_G} {K : Nat → ClassId} {ws ro : va_W} {sz : Nat} {g : Nat → Nat} {L A : Nat → Prop} : FrameBlind (va_Pc av (PreY D K ws ro sz g L G A)) := fun a U gf mk q => by
  obtain ⟨q0, ⟨q1, qP, qK, qD, qN⟩, qG, qL, qR⟩ := q
  exact ⟨q0, ⟨q1, qP, va_K.moved (u := U) (U := U.calling gf mk a) (Vm.Alike.refl U.vm) qK, qD, qN.call⟩, Gl.same (s := U) (U := U.calling gf mk a) rfl qG, qL, qR⟩
theorem mkSY {G : Nat → LC} {s : State} {H : Heap} {D : va_G} {K : Nat → ClassId} {wc ro : va_W} {A A' L : Nat → Prop} {av : List Value} {g : Nat → Nat} (hK : va_K D vwCl (KT K) s) (hN : lw_N s) (hP : va_P D vwCl wc H) (hD : va_D A wc) (hG : ∀ U : State, U.heap = H → s.WarmedH U.vm → Gl g A' U U.heap ∧ Pool D K L G A' U.heap ∧ Ro D A' ro U.heap) : PreS s H (va_Pc av (PreY D K wc ro H.size g L G A')) av :=
  ⟨PreY.blind, fun U hU hW => ⟨rfl, ⟨by rw [hU], by rw [hU]; exact hP, va_K.moved hW.alike hK, hD.weaken (fun _ _ _ _ => trivial), hN.warm hW⟩, hG U hU hW⟩⟩
theorem mkVY {G : Nat → LC} {s : State} {H : Heap} {D : va_G} {K : Nat → ClassId} {wc ro : va_W} {A A' L : Nat → Prop} {b : Nat} {As : List Value} {g : Nat → Nat} (hK : va_K D vwCl (KT K) s) (hN : lw_N s) (hP : va_P D vwCl wc H) (hD : va_D A wc) {ci q0 : Nat} {q : vw_C} {fs : List Value} (hc : vwCl[ci]? = some q) (he : wc[q0]? = some (b, .inr (ci, fs))) (hG : ∀ U : State, U.heap = H → s.WarmedH U.vm → Gl g A' U U.heap ∧ Pool D K L G A' U.heap ∧ Ro D A' ro U.heap) : PreV s H q.1 b (va_Pc (.ref b :: As) (PreY D K wc ro H.size g L G A')) As :=
  ⟨PreY.blind, va_recv hK hP hc he, fun U hU hW => ⟨rfl, ⟨by rw [hU], by rw [hU]; exact hP, va_K.moved hW.alike hK, hD.weaken (fun _ _ _ _ => trivial), hN.warm hW⟩, hG U hU hW⟩⟩
theorem mkVSY {G : Nat → LC} {s : State} {H : Heap} {D : va_G} {K : Nat → ClassId} {A A' L : Nat → Prop} {b v n : Nat} {fb : Nat → Int32} {As : List Value} {g : Nat → Nat} {locs : List Loc} (hK : va_K D vwCl (KT K) s) (hN : lw_N s) (h : GS b v n fb A s s.heap) (hS : va_S A s.heap H locs) (hG : ∀ U : State, U.heap = H → s.WarmedH U.vm → Gl g A' U U.heap ∧ Pool D K L G A' U.heap ∧ Ro D A' [] U.heap) : PreV s H RJ0 b (va_Pc (.ref b :: As) (PreY D K [] [] H.size g L G A')) As :=
  ⟨PreY.blind, by
    obtain ⟨cell, h1, h2, h3, -⟩ := h.1.kept hS.2.1
    exact ⟨cell, h1, h2, h3⟩, fun U hU hW => ⟨rfl, ⟨by rw [hU], fun k q h => by simp at h, va_K.moved hW.alike hK, ⟨fun i j p q h => by simp at h, fun k q h => by simp at h⟩, hN.warm hW⟩, hG U hU hW⟩⟩
theorem and3 {a b : Prop} (h : a ∧ b) : a ∧ b ∧ True := ⟨h.1, h.2, trivial⟩
theorem andr {a b c : Prop} (h : a ∧ b) (k : c) : a ∧ b ∧ c := ⟨h.1, h.2, k⟩
/-! numbers -/
theorem i_rng {a : Int32} {x : Int} (h : a.toInt = x) : -2147483648 ≤ x ∧ x < 2147483648 := by
  have h1 := Int32.toInt_lt a
  have h2 := Int32.le_toInt a
  omega
theorem l_rng {a : Int64} {x : Int} (h : a.toInt = x) : -9223372036854775808 ≤ x ∧ x < 9223372036854775808 := by
  have h1 := Int64.toInt_lt a
  have h2 := Int64.le_toInt a
  omega
theorem i_mul {a b : Int32} {x y : Int} (hx : a.toInt = x) (hy : b.toInt = y) (h : -2147483648 ≤ x * y ∧ x * y < 2147483648) : (a * b).toInt = x * y := by
  rw [Int32.toInt_mul, hx, hy]
  exact Int.bmod_eq_of_le (by omega) (by omega)
theorem l_add {a b : Int64} {x y : Int} (hx : a.toInt = x) (hy : b.toInt = y) (h : -9223372036854775808 ≤ x + y ∧ x + y < 9223372036854775808) : (a + b).toInt = x + y := by
  rw [Int64.toInt_add, hx, hy]
  exact Int.bmod_eq_of_le (by omega) (by omega)
theorem l_sub {a b : Int64} {x y : Int} (hx : a.toInt = x) (hy : b.toInt = y) (h : -9223372036854775808 ≤ x - y ∧ x - y < 9223372036854775808) : (a - b).toInt = x - y := by
  rw [Int64.toInt_sub, hx, hy]
  exact Int.bmod_eq_of_le (by omega) (by omega)
theorem l_mul {a b : Int64} {x y : Int} (hx : a.toInt = x) (hy : b.toInt = y) (h : -9223372036854775808 ≤ x * y ∧ x * y < 9223372036854775808) : (a * b).toInt = x * y := by
  rw [Int64.toInt_mul, hx, hy]
  exact Int.bmod_eq_of_le (by omega) (by omega)
theorem i_div {a b : Int32} {x y : Int} (hx : a.toInt = x) (hy : b.toInt = y) (h : 0 ≤ x) (hb : 0 < y) : (a / b).toInt = x / y := by
  rw [Int32.toInt_div_of_ne_right _ _ (fun e => by rw [e] at hy; have : (-1 : Int32).toInt = -1 := rfl; omega), hx, hy]
  exact Int.tdiv_eq_ediv_of_nonneg h
theorem l_div {a b : Int64} {x y : Int} (hx : a.toInt = x) (hy : b.toInt = y) (h : 0 ≤ x) (hb : 0 < y) : (a / b).toInt = x / y := by
  rw [Int64.toInt_div_of_ne_right _ _ (fun e => by rw [e] at hy; have : (-1 : Int64).toInt = -1 := rfl; omega), hx, hy]
  exact Int.tdiv_eq_ediv_of_nonneg h
theorem i_rem {a b : Int32} {x y : Int} (hx : a.toInt = x) (hy : b.toInt = y) (h : 0 ≤ x) (hb : 0 < y) : (a - a / b * b).toInt = x % y := by
  have hd := i_div hx hy h hb
  have hr := i_rng hx
  have e0 := Int.emod_add_mul_ediv x y
  have e1 := Int.emod_nonneg x (show y ≠ 0 by omega)
  have e2 : 0 ≤ x / y := Int.ediv_nonneg h (by omega)
  have e3 : 0 ≤ x / y * y := Int.mul_nonneg e2 (by omega)
  have e4 : y * (x / y) = x / y * y := Int.mul_comm _ _
  have hm := i_mul hd hy (by omega)
  rw [i_sub hx hm (by omega)]
  omega
theorem l_rem {a b : Int64} {x y : Int} (hx : a.toInt = x) (hy : b.toInt = y) (h : 0 ≤ x) (hb : 0 < y) : (a - a / b * b).toInt = x % y := by
  have hd := l_div hx hy h hb
  have hr1 := Int64.toInt_lt a
  have hr2 := Int64.le_toInt a
  have e0 := Int.emod_add_mul_ediv x y
  have e1 := Int.emod_nonneg x (show y ≠ 0 by omega)
  have e2 : 0 ≤ x / y := Int.ediv_nonneg h (by omega)
  have e3 : 0 ≤ x / y * y := Int.mul_nonneg e2 (by omega)
  have e4 : y * (x / y) = x / y * y := Int.mul_comm _ _
  have hm := l_mul hd hy (by omega)
  rw [l_sub hx hm (by omega)]
  omega
theorem i_remb {a b : Int32} {x y : Int} (hx : a.toInt = x) (hy : b.toInt = y) (h : 0 ≤ x) (hb : 0 < y) : 0 ≤ (a - a / b * b).toInt ∧ (a - a / b * b).toInt < y := by
  rw [i_rem hx hy h hb]
  exact ⟨Int.emod_nonneg _ (by omega), Int.emod_lt_of_pos _ hb⟩
theorem l_remb {a b : Int64} {x y : Int} (hx : a.toInt = x) (hy : b.toInt = y) (h : 0 ≤ x) (hb : 0 < y) : 0 ≤ (a - a / b * b).toInt ∧ (a - a / b * b).toInt < y := by
  rw [l_rem hx hy h hb]
  exact ⟨Int.emod_nonneg _ (by omega), Int.emod_lt_of_pos _ hb⟩
theorem l_nar {a : Int64} {x : Int} (hx : a.toInt = x) (h : -2147483648 ≤ x ∧ x < 2147483648) : a.toInt32.toInt = x := by
  rw [Int64.toInt_toInt32, hx]
  exact Int.bmod_eq_of_le (by omega) (by omega)
theorem i_neg {a : Int32} {x : Int} (hx : a.toInt = x) (h : -2147483648 < x) : (-a).toInt = - x := by
  have := i_rng hx
  rw [Int32.toInt_neg, hx]
  exact Int.bmod_eq_of_le (by omega) (by omega)
theorem i_abs {a : Int32} {x : Int} (hx : a.toInt = x) (h : -2147483648 < x) : (x ≥ 0 ∧ (if 0 ≤ a then a else 0 - a).toInt = x) ∨ (x < 0 ∧ (if 0 ≤ a then a else 0 - a).toInt = - x) := by
  have hr := i_rng hx
  by_cases q : (0 : Int32) ≤ a
  · have := i_le (x := 0) rfl hx q
    rw [if_pos q]
    exact Or.inl ⟨this, hx⟩
  · have := i_nle (x := 0) rfl hx q
    rw [if_neg q]
    exact Or.inr ⟨this, by rw [i_sub (x := 0) rfl hx (by omega)]; omega⟩
theorem i_min {a b : Int32} {x y : Int} (hx : a.toInt = x) (hy : b.toInt = y) : (x ≤ y ∧ (if b < a then b else a).toInt = x) ∨ (y < x ∧ (if b < a then b else a).toInt = y) := by
  by_cases q : b < a
  · rw [if_pos q]; exact Or.inr ⟨i_lt hy hx q, hy⟩
  · rw [if_neg q]; exact Or.inl ⟨i_nlt hy hx q, hx⟩
theorem i_max {a b : Int32} {x y : Int} (hx : a.toInt = x) (hy : b.toInt = y) : (y ≤ x ∧ (if a < b then b else a).toInt = x) ∨ (x < y ∧ (if a < b then b else a).toInt = y) := by
  by_cases q : a < b
  · rw [if_pos q]; exact Or.inr ⟨i_lt hx hy q, hy⟩
  · rw [if_neg q]; exact Or.inl ⟨i_nlt hx hy q, hx⟩
theorem i_ofN {a : Int32} {x : Int} (hx : a.toInt = x) (h : 0 ≤ x) : a = nI x.toNat := by
  have := i_rng hx
  exact i_lit hx (by rw [nI_toInt (by omega)]; omega)
theorem i_mask (a : Int32) {m : Int32} (k : Nat) (hm : m.toBitVec.toNat = 2 ^ k - 1) (hk : k ≤ 30) : 0 ≤ (a &&& m).toInt ∧ (a &&& m).toInt ≤ m.toInt := by
  obtain ⟨j, hj, e⟩ := pk_andE a k hm
  have h30 : 2 ^ k ≤ 2 ^ 30 := Nat.pow_le_pow_right (by decide) hk
  have e2 : m = nI (2 ^ k - 1) := Int32.toBitVec_inj.mp (BitVec.eq_of_toNat_eq (by rw [hm, pk_tn (by omega)]))
  rw [e, nI_toInt (by omega)]
  have : m.toInt = ((2 ^ k - 1 : Nat) : Int) := by rw [e2, nI_toInt (by omega)]
  omega
theorem i_mask' (a : Int32) {m : Int32} (k : Nat) (hm : m.toBitVec.toNat = 2 ^ k - 1) (hk : k ≤ 30) : 0 ≤ (m &&& a).toInt ∧ (m &&& a).toInt ≤ m.toInt := by
  rw [show m &&& a = a &&& m from Int32.toBitVec_inj.mp (by simp [BitVec.and_comm])]
  exact i_mask a k hm hk
theorem nat_land (a b : Nat) : nI a &&& nI b = nI (a &&& b) := Int32.toBitVec_inj.mp (BitVec.eq_of_toNat_eq (by simp [nI, Int32.toBitVec_ofNat', Nat.and_mod_two_pow]))
theorem nat_lor (a b : Nat) : nI a ||| nI b = nI (a ||| b) := Int32.toBitVec_inj.mp (BitVec.eq_of_toNat_eq (by simp [nI, Int32.toBitVec_ofNat', Nat.or_mod_two_pow]))
theorem i_or {a b : Int32} {x y : Int} {k : Nat} (hx : a.toInt = x) (hy : b.toInt = y) (hk : k ≤ 30) (h1 : 0 ≤ x ∧ x < ((2 ^ k : Nat) : Int)) (h2 : 0 ≤ y ∧ y < ((2 ^ k : Nat) : Int)) : 0 ≤ (a ||| b).toInt ∧ (a ||| b).toInt < ((2 ^ k : Nat) : Int) := by
  rw [i_ofN hx h1.1, i_ofN hy h2.1, nat_lor]
  have h := Nat.or_lt_two_pow (x := x.toNat) (y := y.toNat) (n := k) (by omega) (by omega)
  have h30 : 2 ^ k ≤ 2 ^ 30 := Nat.pow_le_pow_right (by decide) hk
  rw [nI_toInt (by omega)]
  omega
theorem i_andr {a b : Int32} {y : Int} (hy : b.toInt = y) (h : 0 ≤ y) : 0 ≤ (a &&& b).toInt ∧ (a &&& b).toInt ≤ y := by
  have hr := i_rng hy
  have e : a &&& b = nI (a.toBitVec.toNat &&& y.toNat) := by
    rw [← nat_land, ← i_ofN hy h]
    exact congrArg (· &&& b) (Int32.toBitVec_inj.mp (BitVec.eq_of_toNat_eq (by simp [nI, Int32.toBitVec_ofNat'])))
  have hle : a.toBitVec.toNat &&& y.toNat ≤ y.toNat := Nat.and_le_right
  rw [e, nI_toInt (by omega)]
  omega
theorem i_andl {a b : Int32} {x : Int} (hx : a.toInt = x) (h : 0 ≤ x) : 0 ≤ (a &&& b).toInt ∧ (a &&& b).toInt ≤ x := by
  rw [show a &&& b = b &&& a from Int32.toBitVec_inj.mp (by simp [BitVec.and_comm])]
  exact i_andr hx h
theorem i_shr {a b : Int32} {x : Int} (hx : a.toInt = x) (h : 0 ≤ x) : 0 ≤ (a >>> (b &&& 31)).toInt ∧ (a >>> (b &&& 31)).toInt ≤ x := by
  rw [pk_shr a (b &&& 31) _ rfl, hx]
  have e : x >>> ((b &&& 31).toBitVec.smod 32).toNat = x / ((2 ^ ((b &&& 31).toBitVec.smod 32).toNat : Nat) : Int) := Int.shiftRight_eq_div_pow _ _
  rw [e]
  exact ⟨Int.ediv_nonneg h (by first | exact Int.natCast_nonneg _ | exact Int.ofNat_zero_le _), Int.ediv_le_self _ h⟩
theorem i_shl1 {b : Int32} {y : Int} (hy : b.toInt = y) {n : Nat} (hb : n ≤ 30) (h : 0 ≤ y ∧ y ≤ n) : 1 ≤ ((1 : Int32) <<< (b &&& 31)).toInt ∧ ((1 : Int32) <<< (b &&& 31)).toInt ≤ ((2 ^ n : Nat) : Int) := by
  have b' := n; clear b'; obtain ⟨b', hbb⟩ : ∃ b', b' = n := ⟨_, rfl⟩; rw [← hbb] at hb h ⊢; clear hbb n
  have e : b = nI y.toNat := i_ofN hy h.1
  obtain ⟨n, hn⟩ : ∃ n, n = y.toNat := ⟨_, rfl⟩
  have hnb : n ≤ b' := by omega
  rw [e, ← hn]
  have h31 : ∀ n, n < 31 → ((1 : Int32) <<< (nI n &&& 31)).toInt = ((2 ^ n : Nat) : Int) := by decide
  rw [h31 n (by omega)]
  have h1 : 2 ^ n ≤ 2 ^ b' := Nat.pow_le_pow_right (by decide) hnb
  have h2 : 1 ≤ 2 ^ n := Nat.one_le_two_pow
  omega
theorem zb {a : Int32} {x : Int} (hx : a.toInt = x) (h : 0 ≤ x ∧ x ≤ 1) : narrow .boolean (.int a) = .int a := by
  rcases (show x = 0 ∨ x = 1 by omega) with q | q
  · rw [i_lit (b := 0) (hx.trans q) rfl]; rfl
  · rw [i_lit (b := 1) (hx.trans q) rfl]; rfl
theorem aretq {p : Program} {l : Launch} {e : Env} {R : Room} {s : State} {m : MethodId} {args : Array Value} {below : List Frame} {meth : Method} {c : Code} {H : Heap} {locs : List Loc} {cells slots : Nat} {cc : ByteArray} {Qc : Array Value → State → Outcome → State → Prop} {free : Addr → Prop} {r : Option Nat} {n : String} (hexec : p.tables.exec = Jvm.exec) (hb : c.code = cc) (hr : meth.sig.returnType = some (.object n))
    (hq : ∀ t : State, t.heap = H → s.WarmedH t.vm → Qc args s (.returned (some (va_rf r))) t) (hf : ∀ q ∈ locs, free q.base)
    {pc : Nat} {ls : Array Slot} (hdg : decode cc pc = .ok (.areturn, 1)) (hlocks : meth.locks = false) : W p l e R s m args below meth c H locs cells slots (MQ below Qc args s cells slots free) (F0 m pc ls [va_rf r]) := by
  cases r with
  | none => exact W.aret (v := .null) hexec hb hr (Or.inl ⟨_, rfl⟩) (Or.inl rfl) hq hf hdg hlocks
  | some a => exact W.aret (v := .ref a) hexec hb hr (Or.inl ⟨_, rfl⟩) (Or.inr ⟨a, rfl⟩) hq hf hdg hlocks
/-! what stays as it was: of a town's facts NOTE, STREET, DINNER, WANTED; of the reference's row the counts of houses and heard, notes, streets, dinners, wanted, the score, what was heard -/
noncomputable def FzC (g f : Nat → Int32) : Prop := ∀ j, j < 16 ∨ (24 ≤ j ∧ j < 40) → f j = g j
theorem FzC.rfl {f : Nat → Int32} : FzC f f := fun _ _ => Eq.refl _
theorem FzC.put {g f : Nat → Int32} (h : FzC g f) {i v : Int32} {x : Int} (hx : i.toInt = x) (hh : (16 ≤ x ∧ x < 24) ∨ 40 ≤ x) : FzC g (upd f i.toNatClampNeg v) := fun j hj => by
  have hc : i.toNatClampNeg = x.toNat := by rw [← hx]; rfl
  rw [hc]
  show (if j = x.toNat then v else f j) = g j
  rw [if_neg (by omega)]
  exact h j hj
theorem FzC.cpy {g f src : Nat → Int32} (h : FzC g f) {a d n : Int32} {x y : Int} (hd : d.toInt = x) (hn : n.toInt = y) (hh : (16 ≤ x ∧ x + y ≤ 24) ∨ 40 ≤ x) : FzC g (va_cpy (α := Int32) src f a.toNatClampNeg d.toNatClampNeg n.toNatClampNeg) := fun j hj => by
  have hc : d.toNatClampNeg = x.toNat := by rw [← hd]; rfl
  have hc2 : n.toNatClampNeg = y.toNat := by rw [← hn]; rfl
  rw [hc, hc2]
  show (if x.toNat ≤ j ∧ j < x.toNat + y.toNat then _ else f j) = g j
  rw [if_neg (by omega)]
  exact h j hj
theorem FzC.full {g f src : Nat → Int32} (h : FzC g src) {a d n : Int32} (hh : a.toNatClampNeg = 0 ∧ d.toNatClampNeg = 0 ∧ n.toNatClampNeg = 56) : FzC g (va_cpy (α := Int32) src f a.toNatClampNeg d.toNatClampNeg n.toNatClampNeg) := fun j hj => by
  rw [hh.1, hh.2.1, hh.2.2]
  show (if 0 ≤ j ∧ j < 0 + 56 then src (0 + (j - 0)) else f j) = g j
  rw [if_pos (by omega), Nat.zero_add, Nat.sub_zero]
  exact h j hj
noncomputable def FzM (g f : Nat → Int32) : Prop := ∀ j, j ≤ 1 ∨ (35 ≤ j ∧ j < 97) → f j = g j
theorem FzM.rfl {f : Nat → Int32} : FzM f f := fun _ _ => Eq.refl _
theorem FzM.put {g f : Nat → Int32} (h : FzM g f) {i v : Int32} {x : Int} (hx : i.toInt = x) (hh : (2 ≤ x ∧ x < 35) ∨ 97 ≤ x) : FzM g (upd f i.toNatClampNeg v) := fun j hj => by
  have hc : i.toNatClampNeg = x.toNat := by rw [← hx]; rfl
  rw [hc]
  show (if j = x.toNat then v else f j) = g j
  rw [if_neg (by omega)]
  exact h j hj
noncomputable def FzH (g f : Nat → Int32) : Prop := ∀ j, j < 24 → f j = g j
theorem FzH.rfl {f : Nat → Int32} : FzH f f := fun _ _ => Eq.refl _
theorem FzH.full {g f src : Nat → Int32} (h : FzH g src) {a d n : Int32} (hh : a.toNatClampNeg = 0 ∧ d.toNatClampNeg = 0 ∧ n.toNatClampNeg = 24) : FzH g (va_cpy (α := Int32) src f a.toNatClampNeg d.toNatClampNeg n.toNatClampNeg) := fun j hj => by
  rw [hh.1, hh.2.1, hh.2.2]
  show (if 0 ≤ j ∧ j < 0 + 24 then src (0 + (j - 0)) else f j) = g j
  rw [if_pos (by omega), Nat.zero_add, Nat.sub_zero]
  exact h j hj
theorem sr_0 : Rg 6 0 1 (aF 0) := fun j hj => by have hj : j < 6 := hj; rcases (show j = 0 ∨ j = 1 ∨ j = 2 ∨ j = 3 ∨ j = 4 ∨ j = 5 by omega) with rfl | rfl | rfl | rfl | rfl | rfl <;> decide
theorem sr_1 : Rg 6 9 999 (aF 1) := fun j hj => by have hj : j < 6 := hj; rcases (show j = 0 ∨ j = 1 ∨ j = 2 ∨ j = 3 ∨ j = 4 ∨ j = 5 by omega) with rfl | rfl | rfl | rfl | rfl | rfl <;> decide
theorem sr_2 : Rg 4 0 4 (aF 2) := fun j hj => by have hj : j < 4 := hj; rcases (show j = 0 ∨ j = 1 ∨ j = 2 ∨ j = 3 by omega) with rfl | rfl | rfl | rfl <;> decide
theorem sr_3 : Rg 4 1 999 (aF 3) := fun j hj => by have hj : j < 4 := hj; rcases (show j = 0 ∨ j = 1 ∨ j = 2 ∨ j = 3 by omega) with rfl | rfl | rfl | rfl <;> decide
theorem sr_4 : Rg 4 0 1 (aF 4) := fun j hj => by have hj : j < 4 := hj; rcases (show j = 0 ∨ j = 1 ∨ j = 2 ∨ j = 3 by omega) with rfl | rfl | rfl | rfl <;> decide
theorem sr_5 : Rg 4 0 2 (aF 5) := fun j hj => by have hj : j < 4 := hj; rcases (show j = 0 ∨ j = 1 ∨ j = 2 ∨ j = 3 by omega) with rfl | rfl | rfl | rfl <;> decide
theorem sr_6 : Rg 3 5 21 (aF 6) := fun j hj => by have hj : j < 3 := hj; rcases (show j = 0 ∨ j = 1 ∨ j = 2 by omega) with rfl | rfl | rfl <;> decide
theorem sr_7 : Rg 3 6 7 (aF 7) := fun j hj => by have hj : j < 3 := hj; rcases (show j = 0 ∨ j = 1 ∨ j = 2 by omega) with rfl | rfl | rfl <;> decide
theorem goodIn_q {big : List Cond} (ws : List Cond) (pc ps : List Nat) (hc : ws.filter k2_isCode = pc.filterMap (fun i => big[i]?)) (hp : ws.filter (fun w => !k2_isCode w) = ps.filterMap (fun i => big[i]?)) (h : (ws.filter (fun w => !k2_isCode w)).all goodWord = true) : GoodIn big ws := by
  intro w hw
  by_cases hq : k2_isCode w = true
  · have h1 : w ∈ ws.filter k2_isCode := List.mem_filter.mpr ⟨hw, hq⟩
    rw [hc] at h1
    obtain ⟨i, -, hi⟩ := List.mem_filterMap.mp h1
    have hm : w ∈ big := by first | exact List.mem_of_getElem? hi | exact List.getElem?_mem hi
    refine ⟨hm, ?_⟩
    cases w <;> first | (simp [k2_isCode] at hq; done) | exact Or.inl rfl
  · have h0 : w ∈ ws.filter (fun w => !k2_isCode w) := List.mem_filter.mpr ⟨hw, by simpa using hq⟩
    have h2 := List.all_eq_true.mp h w h0
    rw [hp] at h0
    obtain ⟨i, -, hi⟩ := List.mem_filterMap.mp h0
    have hm : w ∈ big := by first | exact List.mem_of_getElem? hi | exact List.getElem?_mem hi
    exact ⟨hm, good_of_word h2⟩
