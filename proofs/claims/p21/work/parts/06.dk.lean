/-! decode by bytes: what an instruction's bytes are, once for each opcode -/
noncomputable def gb (c : ByteArray) (p : Nat) : Option Nat := if h : p < c.size then some c[p].toNat else none
noncomputable def BA (c : ByteArray) (pc : Nat) (bs : List Nat) : Prop := ∀ j b, bs[j]? = some b → gb c (pc + j) = some b
noncomputable def bpre : List Nat → List UInt8 → Bool
  | [], _ => true
  | b :: bs, x :: xs => Nat.beq x.toNat b && bpre bs xs
  | _ :: _, [] => false
noncomputable def bsegs : List UInt8 → Nat → List (Nat × List Nat) → Bool
  | _, _, [] => true
  | l, k, (pc, bs) :: r => Nat.ble k pc && (bpre bs (l.drop (pc - k)) && bsegs (l.drop (pc - k)) pc r)
theorem bpre_at : ∀ (bs : List Nat) (l : List UInt8), bpre bs l = true → ∀ (j b : Nat), bs[j]? = some b → ∃ x : UInt8, l[j]? = some x ∧ x.toNat = b
  | [], _, _, j, b, h => by simp at h
  | b0 :: bs, [], h, _, _, _ => by simp [bpre] at h
  | b0 :: bs, x :: xs, h, j, b, hj => by
    unfold bpre at h
    have h1 := (Bool.and_eq_true _ _ ▸ h : Nat.beq x.toNat b0 = true ∧ bpre bs xs = true)
    cases j with
    | zero =>
      have e : b0 = b := Option.some.inj hj
      exact ⟨x, rfl, by rw [Nat.eq_of_beq_eq_true h1.1, e]⟩
    | succ j => exact bpre_at bs xs h1.2 j b hj
theorem bsegs_at (L : List UInt8) : ∀ (rs : List (Nat × List Nat)) (k : Nat), bsegs (L.drop k) k rs = true → ∀ q, q ∈ rs → bpre q.2 (L.drop q.1) = true
  | [], _, _, _, hq => by simp at hq
  | (pc, bs) :: r, k, h, q, hq => by
    unfold bsegs at h
    have h1 := (Bool.and_eq_true _ _ ▸ h : Nat.ble k pc = true ∧ (bpre bs ((L.drop k).drop (pc - k)) && bsegs ((L.drop k).drop (pc - k)) pc r) = true)
    have h2 := (Bool.and_eq_true _ _ ▸ h1.2 : bpre bs ((L.drop k).drop (pc - k)) = true ∧ bsegs ((L.drop k).drop (pc - k)) pc r = true)
    have hk : k ≤ pc := Nat.le_of_ble_eq_true h1.1
    have e : (L.drop k).drop (pc - k) = L.drop pc := by
      rw [List.drop_drop]
      congr 1
      omega
    rw [e] at h2
    rcases List.mem_cons.mp hq with hq | hq
    · subst hq; exact h2.1
    · exact bsegs_at L r pc h2.2 q hq
theorem gb_of {c : ByteArray} {p : Nat} {x : UInt8} (h : c.data.toList[p]? = some x) : gb c p = some x.toNat := by
  rw [Array.getElem?_toList] at h
  obtain ⟨hp, he⟩ := Array.getElem?_eq_some_iff.mp h
  unfold gb
  rw [dif_pos (show p < c.size from hp)]
  exact congrArg (fun z : UInt8 => some z.toNat) he
theorem bs_at {c : ByteArray} {k : Nat} {rs : List (Nat × List Nat)} (h : bsegs (c.data.toList.drop k) k rs = true) {pc : Nat} {bs : List Nat} (i : Nat) (hi : rs[i]? = some (pc, bs)) : BA c pc bs := by
  intro j b hj
  have h1 := bsegs_at c.data.toList rs k h (pc, bs) (List.mem_of_getElem? hi)
  obtain ⟨x, hx, hb⟩ := bpre_at bs _ h1 j b hj
  rw [List.getElem?_drop] at hx
  rw [← hb]
  exact gb_of hx
theorem u1_ok {c : ByteArray} {p b : Nat} (h : gb c p = some b) : (Reader.u1 : Decoder Nat) c p = .ok (b, p + 1) := by
  unfold gb at h
  split at h
  · rename_i hp
    have e : c[p].toNat = b := Option.some.inj h
    show (dite (p < c.size) (fun _ => _) (fun _ => _) : Decoder Nat) c p = _
    rw [dif_pos hp, ← e]
    rfl
  · cases h
theorem u2_ok {c : ByteArray} {p x y : Nat} (h : gb c p = some x) (h2 : gb c (p + 1) = some y) : (Reader.u2 : Decoder Nat) c p = .ok (x * 256 + y, p + 2) := by
  show Except.bind ((Reader.u1 : Decoder Nat) c p) (fun a => Except.bind ((Reader.u1 : Decoder Nat) c a.2) (fun b => .ok (a.1 * 256 + b.1, b.2))) = _
  rw [u1_ok h]
  show Except.bind ((Reader.u1 : Decoder Nat) c (p + 1)) (fun b => .ok (x * 256 + b.1, b.2)) = _
  rw [u1_ok h2]
  rfl
theorem d_bind {α β : Type} {x : Decoder α} {f : α → Decoder β} {c : ByteArray} {p q : Nat} {a : α} (h : x c p = .ok (a, q)) : (x >>= f) c p = f a c q := by
  show Except.bind (x c p) (fun a => f a.1 c a.2) = _
  rw [h]
  rfl
theorem d_map {α β : Type} {x : Decoder α} {f : α → β} {c : ByteArray} {p q : Nat} {a : α} (h : x c p = .ok (a, q)) : (f <$> x) c p = .ok (f a, q) := by
  show Except.bind (x c p) (fun a => .ok (f a.1, a.2)) = _
  rw [h]
  rfl
theorem s1_ok {c : ByteArray} {p b : Nat} (h : gb c p = some b) : (Reader.s1 : Decoder Int) c p = .ok (Reader.signed 8 b, p + 1) := d_map (u1_ok h)
theorem s2_ok {c : ByteArray} {p x y : Nat} (h : gb c p = some x) (h2 : gb c (p + 1) = some y) : (Reader.s2 : Decoder Int) c p = .ok (Reader.signed 16 (x * 256 + y), p + 2) := d_map (u2_ok h h2)
theorem dk_run {F : Nat → Nat → Decoder Instr} (hI : ∀ pc, Decoder.instr pc = Reader.u1 >>= F pc) {c : ByteArray} {pc k n : Nat} {o : Instr} (hk : gb c pc = some k) (hr : F pc k c (pc + 1) = .ok (o, pc + n)) : decode c pc = .ok (o, n) := by
  have e : Decoder.instr pc c pc = .ok (o, pc + n) := by
    rw [hI]
    show Except.bind ((Reader.u1 : Decoder Nat) c pc) (fun a => F pc a.1 c a.2) = _
    rw [u1_ok hk]
    exact hr
  show Except.bind (Decoder.instr pc c pc) (fun x => .ok (x.1, x.2 - pc)) = _
  rw [e]
  show Except.ok (o, pc + n - pc) = _
  rw [Nat.add_sub_cancel_left]
theorem dkr0 {F : Nat → Nat → Decoder Instr} (k : Nat) (o : Instr) (hI : ∀ pc, Decoder.instr pc = Reader.u1 >>= F pc) (hF : ∀ pc, F pc k = Pure.pure o) {c : ByteArray} {pc : Nat} (h : BA c pc [k]) : decode c pc = .ok (o, 1) :=
  dk_run hI (h 0 k rfl) (by rw [hF]; rfl)
theorem dkr1 {F : Nat → Nat → Decoder Instr} (k : Nat) (o : Nat → Instr) (hI : ∀ pc, Decoder.instr pc = Reader.u1 >>= F pc) (hF : ∀ pc, F pc k = Reader.u1 >>= fun x => Pure.pure (o x)) {c : ByteArray} {pc b : Nat} (h : BA c pc [k, b]) : decode c pc = .ok (o b, 2) :=
  dk_run hI (h 0 k rfl) (by
    rw [hF]
    show Except.bind ((Reader.u1 : Decoder Nat) c (pc + 1)) (fun a => .ok (o a.1, a.2)) = _
    rw [u1_ok (h 1 b rfl)]
    rfl)
theorem dkr1s {F : Nat → Nat → Decoder Instr} (k : Nat) (o : Int → Instr) (hI : ∀ pc, Decoder.instr pc = Reader.u1 >>= F pc) (hF : ∀ pc, F pc k = Reader.s1 >>= fun x => Pure.pure (o x)) {c : ByteArray} {pc b : Nat} {z : Int} (h : BA c pc [k, b]) (hz : Reader.signed 8 b = z) : decode c pc = .ok (o z, 2) :=
  dk_run hI (h 0 k rfl) (by
    rw [hF, d_bind (s1_ok (h 1 b rfl)), hz]
    rfl)
theorem dkr2 {F : Nat → Nat → Decoder Instr} (k : Nat) (o : Nat → Instr) (hI : ∀ pc, Decoder.instr pc = Reader.u1 >>= F pc) (hF : ∀ pc, F pc k = Reader.u2 >>= fun x => Pure.pure (o x)) {c : ByteArray} {pc x y n : Nat} (h : BA c pc [k, x, y]) (hn : x * 256 + y = n) : decode c pc = .ok (o n, 3) :=
  dk_run hI (h 0 k rfl) (by
    rw [hF]
    show Except.bind ((Reader.u2 : Decoder Nat) c (pc + 1)) (fun a => .ok (o a.1, a.2)) = _
    rw [u2_ok (h 1 x rfl) (h 2 y rfl), hn]
    rfl)
theorem dkr2s {F : Nat → Nat → Decoder Instr} (k : Nat) (o : Int → Instr) (hI : ∀ pc, Decoder.instr pc = Reader.u1 >>= F pc) (hF : ∀ pc, F pc k = Reader.s2 >>= fun x => Pure.pure (o x)) {c : ByteArray} {pc x y : Nat} {z : Int} (h : BA c pc [k, x, y]) (hz : Reader.signed 16 (x * 256 + y) = z) : decode c pc = .ok (o z, 3) :=
  dk_run hI (h 0 k rfl) (by
    rw [hF, d_bind (s2_ok (h 1 x rfl) (h 2 y rfl)), hz]
    rfl)
theorem dkr_iinc {F : Nat → Nat → Decoder Instr} (hI : ∀ pc, Decoder.instr pc = Reader.u1 >>= F pc) (hF : ∀ pc, F pc 132 = Reader.u1 >>= fun x => Reader.s1 >>= fun y => Pure.pure (.iinc x y)) {c : ByteArray} {pc x y : Nat} {z : Int} (h : BA c pc [132, x, y]) (hz : Reader.signed 8 y = z) : decode c pc = .ok (.iinc x z, 3) :=
  dk_run hI (h 0 132 rfl) (by
    rw [hF, d_bind (u1_ok (h 1 x rfl)), d_bind (s1_ok (h 2 y rfl)), hz]
    rfl)
theorem dkr_newarray {F : Nat → Nat → Decoder Instr} (hI : ∀ pc, Decoder.instr pc = Reader.u1 >>= F pc) (hF : ∀ pc, F pc 188 = Decoder.newarray pc) {G : Nat → Nat → Decoder Instr} (hJ : ∀ pc, Decoder.newarray pc = Reader.u1 >>= G pc) {b : Nat} {o : Instr} (hG : ∀ pc, G pc b = Pure.pure o) {c : ByteArray} {pc : Nat} (h : BA c pc [188, b]) : decode c pc = .ok (o, 2) :=
  dk_run hI (h 0 188 rfl) (by
    rw [hF, hJ, d_bind (u1_ok (h 1 b rfl)), hG]
    rfl)
set_option maxRecDepth 100000 in
set_option maxHeartbeats 4000000 in
theorem dk_1 {c : ByteArray} {pc : Nat} (h : BA c pc [1]) : decode c pc = .ok (.aconst_null, 1) := dkr0 1 (Instr.aconst_null) (fun _ => rfl) (fun _ => rfl) h
set_option maxRecDepth 100000 in
set_option maxHeartbeats 4000000 in
theorem dk_2 {c : ByteArray} {pc : Nat} (h : BA c pc [2]) : decode c pc = .ok (.iconst (-1), 1) := dkr0 2 (Instr.iconst (-1)) (fun _ => rfl) (fun _ => rfl) h
set_option maxRecDepth 100000 in
set_option maxHeartbeats 4000000 in
theorem dk_3 {c : ByteArray} {pc : Nat} (h : BA c pc [3]) : decode c pc = .ok (.iconst 0, 1) := dkr0 3 (Instr.iconst 0) (fun _ => rfl) (fun _ => rfl) h
set_option maxRecDepth 100000 in
set_option maxHeartbeats 4000000 in
theorem dk_4 {c : ByteArray} {pc : Nat} (h : BA c pc [4]) : decode c pc = .ok (.iconst 1, 1) := dkr0 4 (Instr.iconst 1) (fun _ => rfl) (fun _ => rfl) h
set_option maxRecDepth 100000 in
set_option maxHeartbeats 4000000 in
theorem dk_5 {c : ByteArray} {pc : Nat} (h : BA c pc [5]) : decode c pc = .ok (.iconst 2, 1) := dkr0 5 (Instr.iconst 2) (fun _ => rfl) (fun _ => rfl) h
set_option maxRecDepth 100000 in
set_option maxHeartbeats 4000000 in
theorem dk_6 {c : ByteArray} {pc : Nat} (h : BA c pc [6]) : decode c pc = .ok (.iconst 3, 1) := dkr0 6 (Instr.iconst 3) (fun _ => rfl) (fun _ => rfl) h
set_option maxRecDepth 100000 in
set_option maxHeartbeats 4000000 in
theorem dk_7 {c : ByteArray} {pc : Nat} (h : BA c pc [7]) : decode c pc = .ok (.iconst 4, 1) := dkr0 7 (Instr.iconst 4) (fun _ => rfl) (fun _ => rfl) h
set_option maxRecDepth 100000 in
set_option maxHeartbeats 4000000 in
theorem dk_8 {c : ByteArray} {pc : Nat} (h : BA c pc [8]) : decode c pc = .ok (.iconst 5, 1) := dkr0 8 (Instr.iconst 5) (fun _ => rfl) (fun _ => rfl) h
set_option maxRecDepth 100000 in
set_option maxHeartbeats 4000000 in
theorem dk_9 {c : ByteArray} {pc : Nat} (h : BA c pc [9]) : decode c pc = .ok (.lconst 0, 1) := dkr0 9 (Instr.lconst 0) (fun _ => rfl) (fun _ => rfl) h
set_option maxRecDepth 100000 in
set_option maxHeartbeats 4000000 in
theorem dk_10 {c : ByteArray} {pc : Nat} (h : BA c pc [10]) : decode c pc = .ok (.lconst 1, 1) := dkr0 10 (Instr.lconst 1) (fun _ => rfl) (fun _ => rfl) h
set_option maxRecDepth 100000 in
set_option maxHeartbeats 4000000 in
theorem dk_16 {c : ByteArray} {pc : Nat} {z : Int} (b : Nat) (h : BA c pc [16, b]) (hz : Reader.signed 8 b = z) : decode c pc = .ok (.bipush z, 2) := dkr1s 16 (fun x => Instr.bipush x) (fun _ => rfl) (fun _ => rfl) h hz
set_option maxRecDepth 100000 in
set_option maxHeartbeats 4000000 in
theorem dk_17 {c : ByteArray} {pc : Nat} {z : Int} (x y : Nat) (h : BA c pc [17, x, y]) (hz : Reader.signed 16 (x * 256 + y) = z) : decode c pc = .ok (.sipush z, 3) := dkr2s 17 (fun x => Instr.sipush x) (fun _ => rfl) (fun _ => rfl) h hz
set_option maxRecDepth 100000 in
set_option maxHeartbeats 4000000 in
theorem dk_18 {c : ByteArray} {pc : Nat} (b : Nat) (h : BA c pc [18, b]) : decode c pc = .ok (.ldc b, 2) := dkr1 18 (fun x => Instr.ldc x) (fun _ => rfl) (fun _ => rfl) h
set_option maxRecDepth 100000 in
set_option maxHeartbeats 4000000 in
theorem dk_19 {c : ByteArray} {pc n : Nat} (x y : Nat) (h : BA c pc [19, x, y]) (hn : x * 256 + y = n) : decode c pc = .ok (.ldc_w n, 3) := dkr2 19 (fun x => Instr.ldc_w x) (fun _ => rfl) (fun _ => rfl) h hn
set_option maxRecDepth 100000 in
set_option maxHeartbeats 4000000 in
theorem dk_20 {c : ByteArray} {pc n : Nat} (x y : Nat) (h : BA c pc [20, x, y]) (hn : x * 256 + y = n) : decode c pc = .ok (.ldc2_w n, 3) := dkr2 20 (fun x => Instr.ldc2_w x) (fun _ => rfl) (fun _ => rfl) h hn
set_option maxRecDepth 100000 in
set_option maxHeartbeats 4000000 in
theorem dk_21 {c : ByteArray} {pc : Nat} (b : Nat) (h : BA c pc [21, b]) : decode c pc = .ok (.iload b, 2) := dkr1 21 (fun x => Instr.iload x) (fun _ => rfl) (fun _ => rfl) h
set_option maxRecDepth 100000 in
set_option maxHeartbeats 4000000 in
theorem dk_22 {c : ByteArray} {pc : Nat} (b : Nat) (h : BA c pc [22, b]) : decode c pc = .ok (.lload b, 2) := dkr1 22 (fun x => Instr.lload x) (fun _ => rfl) (fun _ => rfl) h
set_option maxRecDepth 100000 in
set_option maxHeartbeats 4000000 in
theorem dk_25 {c : ByteArray} {pc : Nat} (b : Nat) (h : BA c pc [25, b]) : decode c pc = .ok (.aload b, 2) := dkr1 25 (fun x => Instr.aload x) (fun _ => rfl) (fun _ => rfl) h
set_option maxRecDepth 100000 in
set_option maxHeartbeats 4000000 in
theorem dk_26 {c : ByteArray} {pc : Nat} (h : BA c pc [26]) : decode c pc = .ok (.iload_n 0, 1) := dkr0 26 (Instr.iload_n 0) (fun _ => rfl) (fun _ => rfl) h
set_option maxRecDepth 100000 in
set_option maxHeartbeats 4000000 in
theorem dk_27 {c : ByteArray} {pc : Nat} (h : BA c pc [27]) : decode c pc = .ok (.iload_n 1, 1) := dkr0 27 (Instr.iload_n 1) (fun _ => rfl) (fun _ => rfl) h
set_option maxRecDepth 100000 in
set_option maxHeartbeats 4000000 in
theorem dk_28 {c : ByteArray} {pc : Nat} (h : BA c pc [28]) : decode c pc = .ok (.iload_n 2, 1) := dkr0 28 (Instr.iload_n 2) (fun _ => rfl) (fun _ => rfl) h
set_option maxRecDepth 100000 in
set_option maxHeartbeats 4000000 in
theorem dk_29 {c : ByteArray} {pc : Nat} (h : BA c pc [29]) : decode c pc = .ok (.iload_n 3, 1) := dkr0 29 (Instr.iload_n 3) (fun _ => rfl) (fun _ => rfl) h
set_option maxRecDepth 100000 in
set_option maxHeartbeats 4000000 in
theorem dk_30 {c : ByteArray} {pc : Nat} (h : BA c pc [30]) : decode c pc = .ok (.lload_n 0, 1) := dkr0 30 (Instr.lload_n 0) (fun _ => rfl) (fun _ => rfl) h
set_option maxRecDepth 100000 in
set_option maxHeartbeats 4000000 in
theorem dk_31 {c : ByteArray} {pc : Nat} (h : BA c pc [31]) : decode c pc = .ok (.lload_n 1, 1) := dkr0 31 (Instr.lload_n 1) (fun _ => rfl) (fun _ => rfl) h
set_option maxRecDepth 100000 in
set_option maxHeartbeats 4000000 in
theorem dk_32 {c : ByteArray} {pc : Nat} (h : BA c pc [32]) : decode c pc = .ok (.lload_n 2, 1) := dkr0 32 (Instr.lload_n 2) (fun _ => rfl) (fun _ => rfl) h
set_option maxRecDepth 100000 in
set_option maxHeartbeats 4000000 in
theorem dk_33 {c : ByteArray} {pc : Nat} (h : BA c pc [33]) : decode c pc = .ok (.lload_n 3, 1) := dkr0 33 (Instr.lload_n 3) (fun _ => rfl) (fun _ => rfl) h
set_option maxRecDepth 100000 in
set_option maxHeartbeats 4000000 in
theorem dk_42 {c : ByteArray} {pc : Nat} (h : BA c pc [42]) : decode c pc = .ok (.aload_n 0, 1) := dkr0 42 (Instr.aload_n 0) (fun _ => rfl) (fun _ => rfl) h
set_option maxRecDepth 100000 in
set_option maxHeartbeats 4000000 in
theorem dk_43 {c : ByteArray} {pc : Nat} (h : BA c pc [43]) : decode c pc = .ok (.aload_n 1, 1) := dkr0 43 (Instr.aload_n 1) (fun _ => rfl) (fun _ => rfl) h
set_option maxRecDepth 100000 in
set_option maxHeartbeats 4000000 in
theorem dk_44 {c : ByteArray} {pc : Nat} (h : BA c pc [44]) : decode c pc = .ok (.aload_n 2, 1) := dkr0 44 (Instr.aload_n 2) (fun _ => rfl) (fun _ => rfl) h
set_option maxRecDepth 100000 in
set_option maxHeartbeats 4000000 in
theorem dk_45 {c : ByteArray} {pc : Nat} (h : BA c pc [45]) : decode c pc = .ok (.aload_n 3, 1) := dkr0 45 (Instr.aload_n 3) (fun _ => rfl) (fun _ => rfl) h
set_option maxRecDepth 100000 in
set_option maxHeartbeats 4000000 in
theorem dk_46 {c : ByteArray} {pc : Nat} (h : BA c pc [46]) : decode c pc = .ok (.iaload, 1) := dkr0 46 (Instr.iaload) (fun _ => rfl) (fun _ => rfl) h
set_option maxRecDepth 100000 in
set_option maxHeartbeats 4000000 in
theorem dk_47 {c : ByteArray} {pc : Nat} (h : BA c pc [47]) : decode c pc = .ok (.laload, 1) := dkr0 47 (Instr.laload) (fun _ => rfl) (fun _ => rfl) h
set_option maxRecDepth 100000 in
set_option maxHeartbeats 4000000 in
theorem dk_50 {c : ByteArray} {pc : Nat} (h : BA c pc [50]) : decode c pc = .ok (.aaload, 1) := dkr0 50 (Instr.aaload) (fun _ => rfl) (fun _ => rfl) h
set_option maxRecDepth 100000 in
set_option maxHeartbeats 4000000 in
theorem dk_51 {c : ByteArray} {pc : Nat} (h : BA c pc [51]) : decode c pc = .ok (.baload, 1) := dkr0 51 (Instr.baload) (fun _ => rfl) (fun _ => rfl) h
set_option maxRecDepth 100000 in
set_option maxHeartbeats 4000000 in
theorem dk_54 {c : ByteArray} {pc : Nat} (b : Nat) (h : BA c pc [54, b]) : decode c pc = .ok (.istore b, 2) := dkr1 54 (fun x => Instr.istore x) (fun _ => rfl) (fun _ => rfl) h
set_option maxRecDepth 100000 in
set_option maxHeartbeats 4000000 in
theorem dk_55 {c : ByteArray} {pc : Nat} (b : Nat) (h : BA c pc [55, b]) : decode c pc = .ok (.lstore b, 2) := dkr1 55 (fun x => Instr.lstore x) (fun _ => rfl) (fun _ => rfl) h
set_option maxRecDepth 100000 in
set_option maxHeartbeats 4000000 in
theorem dk_58 {c : ByteArray} {pc : Nat} (b : Nat) (h : BA c pc [58, b]) : decode c pc = .ok (.astore b, 2) := dkr1 58 (fun x => Instr.astore x) (fun _ => rfl) (fun _ => rfl) h
set_option maxRecDepth 100000 in
set_option maxHeartbeats 4000000 in
theorem dk_60 {c : ByteArray} {pc : Nat} (h : BA c pc [60]) : decode c pc = .ok (.istore_n 1, 1) := dkr0 60 (Instr.istore_n 1) (fun _ => rfl) (fun _ => rfl) h
set_option maxRecDepth 100000 in
set_option maxHeartbeats 4000000 in
theorem dk_61 {c : ByteArray} {pc : Nat} (h : BA c pc [61]) : decode c pc = .ok (.istore_n 2, 1) := dkr0 61 (Instr.istore_n 2) (fun _ => rfl) (fun _ => rfl) h
set_option maxRecDepth 100000 in
set_option maxHeartbeats 4000000 in
theorem dk_62 {c : ByteArray} {pc : Nat} (h : BA c pc [62]) : decode c pc = .ok (.istore_n 3, 1) := dkr0 62 (Instr.istore_n 3) (fun _ => rfl) (fun _ => rfl) h
set_option maxRecDepth 100000 in
set_option maxHeartbeats 4000000 in
theorem dk_65 {c : ByteArray} {pc : Nat} (h : BA c pc [65]) : decode c pc = .ok (.lstore_n 2, 1) := dkr0 65 (Instr.lstore_n 2) (fun _ => rfl) (fun _ => rfl) h
set_option maxRecDepth 100000 in
set_option maxHeartbeats 4000000 in
theorem dk_66 {c : ByteArray} {pc : Nat} (h : BA c pc [66]) : decode c pc = .ok (.lstore_n 3, 1) := dkr0 66 (Instr.lstore_n 3) (fun _ => rfl) (fun _ => rfl) h
set_option maxRecDepth 100000 in
set_option maxHeartbeats 4000000 in
theorem dk_76 {c : ByteArray} {pc : Nat} (h : BA c pc [76]) : decode c pc = .ok (.astore_n 1, 1) := dkr0 76 (Instr.astore_n 1) (fun _ => rfl) (fun _ => rfl) h
set_option maxRecDepth 100000 in
set_option maxHeartbeats 4000000 in
theorem dk_77 {c : ByteArray} {pc : Nat} (h : BA c pc [77]) : decode c pc = .ok (.astore_n 2, 1) := dkr0 77 (Instr.astore_n 2) (fun _ => rfl) (fun _ => rfl) h
set_option maxRecDepth 100000 in
set_option maxHeartbeats 4000000 in
theorem dk_79 {c : ByteArray} {pc : Nat} (h : BA c pc [79]) : decode c pc = .ok (.iastore, 1) := dkr0 79 (Instr.iastore) (fun _ => rfl) (fun _ => rfl) h
set_option maxRecDepth 100000 in
set_option maxHeartbeats 4000000 in
theorem dk_80 {c : ByteArray} {pc : Nat} (h : BA c pc [80]) : decode c pc = .ok (.lastore, 1) := dkr0 80 (Instr.lastore) (fun _ => rfl) (fun _ => rfl) h
set_option maxRecDepth 100000 in
set_option maxHeartbeats 4000000 in
theorem dk_83 {c : ByteArray} {pc : Nat} (h : BA c pc [83]) : decode c pc = .ok (.aastore, 1) := dkr0 83 (Instr.aastore) (fun _ => rfl) (fun _ => rfl) h
set_option maxRecDepth 100000 in
set_option maxHeartbeats 4000000 in
theorem dk_84 {c : ByteArray} {pc : Nat} (h : BA c pc [84]) : decode c pc = .ok (.bastore, 1) := dkr0 84 (Instr.bastore) (fun _ => rfl) (fun _ => rfl) h
set_option maxRecDepth 100000 in
set_option maxHeartbeats 4000000 in
theorem dk_87 {c : ByteArray} {pc : Nat} (h : BA c pc [87]) : decode c pc = .ok (.pop, 1) := dkr0 87 (Instr.pop) (fun _ => rfl) (fun _ => rfl) h
set_option maxRecDepth 100000 in
set_option maxHeartbeats 4000000 in
theorem dk_88 {c : ByteArray} {pc : Nat} (h : BA c pc [88]) : decode c pc = .ok (.pop2, 1) := dkr0 88 (Instr.pop2) (fun _ => rfl) (fun _ => rfl) h
set_option maxRecDepth 100000 in
set_option maxHeartbeats 4000000 in
theorem dk_89 {c : ByteArray} {pc : Nat} (h : BA c pc [89]) : decode c pc = .ok (.dup, 1) := dkr0 89 (Instr.dup) (fun _ => rfl) (fun _ => rfl) h
set_option maxRecDepth 100000 in
set_option maxHeartbeats 4000000 in
theorem dk_92 {c : ByteArray} {pc : Nat} (h : BA c pc [92]) : decode c pc = .ok (.dup2, 1) := dkr0 92 (Instr.dup2) (fun _ => rfl) (fun _ => rfl) h
set_option maxRecDepth 100000 in
set_option maxHeartbeats 4000000 in
theorem dk_96 {c : ByteArray} {pc : Nat} (h : BA c pc [96]) : decode c pc = .ok (.iadd, 1) := dkr0 96 (Instr.iadd) (fun _ => rfl) (fun _ => rfl) h
set_option maxRecDepth 100000 in
set_option maxHeartbeats 4000000 in
theorem dk_97 {c : ByteArray} {pc : Nat} (h : BA c pc [97]) : decode c pc = .ok (.ladd, 1) := dkr0 97 (Instr.ladd) (fun _ => rfl) (fun _ => rfl) h
set_option maxRecDepth 100000 in
set_option maxHeartbeats 4000000 in
theorem dk_100 {c : ByteArray} {pc : Nat} (h : BA c pc [100]) : decode c pc = .ok (.isub, 1) := dkr0 100 (Instr.isub) (fun _ => rfl) (fun _ => rfl) h
set_option maxRecDepth 100000 in
set_option maxHeartbeats 4000000 in
theorem dk_101 {c : ByteArray} {pc : Nat} (h : BA c pc [101]) : decode c pc = .ok (.lsub, 1) := dkr0 101 (Instr.lsub) (fun _ => rfl) (fun _ => rfl) h
set_option maxRecDepth 100000 in
set_option maxHeartbeats 4000000 in
theorem dk_104 {c : ByteArray} {pc : Nat} (h : BA c pc [104]) : decode c pc = .ok (.imul, 1) := dkr0 104 (Instr.imul) (fun _ => rfl) (fun _ => rfl) h
set_option maxRecDepth 100000 in
set_option maxHeartbeats 4000000 in
theorem dk_105 {c : ByteArray} {pc : Nat} (h : BA c pc [105]) : decode c pc = .ok (.lmul, 1) := dkr0 105 (Instr.lmul) (fun _ => rfl) (fun _ => rfl) h
set_option maxRecDepth 100000 in
set_option maxHeartbeats 4000000 in
theorem dk_108 {c : ByteArray} {pc : Nat} (h : BA c pc [108]) : decode c pc = .ok (.idiv, 1) := dkr0 108 (Instr.idiv) (fun _ => rfl) (fun _ => rfl) h
set_option maxRecDepth 100000 in
set_option maxHeartbeats 4000000 in
theorem dk_109 {c : ByteArray} {pc : Nat} (h : BA c pc [109]) : decode c pc = .ok (.ldiv, 1) := dkr0 109 (Instr.ldiv) (fun _ => rfl) (fun _ => rfl) h
set_option maxRecDepth 100000 in
set_option maxHeartbeats 4000000 in
theorem dk_112 {c : ByteArray} {pc : Nat} (h : BA c pc [112]) : decode c pc = .ok (.irem, 1) := dkr0 112 (Instr.irem) (fun _ => rfl) (fun _ => rfl) h
set_option maxRecDepth 100000 in
set_option maxHeartbeats 4000000 in
theorem dk_113 {c : ByteArray} {pc : Nat} (h : BA c pc [113]) : decode c pc = .ok (.lrem, 1) := dkr0 113 (Instr.lrem) (fun _ => rfl) (fun _ => rfl) h
set_option maxRecDepth 100000 in
set_option maxHeartbeats 4000000 in
theorem dk_116 {c : ByteArray} {pc : Nat} (h : BA c pc [116]) : decode c pc = .ok (.ineg, 1) := dkr0 116 (Instr.ineg) (fun _ => rfl) (fun _ => rfl) h
set_option maxRecDepth 100000 in
set_option maxHeartbeats 4000000 in
theorem dk_120 {c : ByteArray} {pc : Nat} (h : BA c pc [120]) : decode c pc = .ok (.ishl, 1) := dkr0 120 (Instr.ishl) (fun _ => rfl) (fun _ => rfl) h
set_option maxRecDepth 100000 in
set_option maxHeartbeats 4000000 in
theorem dk_121 {c : ByteArray} {pc : Nat} (h : BA c pc [121]) : decode c pc = .ok (.lshl, 1) := dkr0 121 (Instr.lshl) (fun _ => rfl) (fun _ => rfl) h
set_option maxRecDepth 100000 in
set_option maxHeartbeats 4000000 in
theorem dk_122 {c : ByteArray} {pc : Nat} (h : BA c pc [122]) : decode c pc = .ok (.ishr, 1) := dkr0 122 (Instr.ishr) (fun _ => rfl) (fun _ => rfl) h
set_option maxRecDepth 100000 in
set_option maxHeartbeats 4000000 in
theorem dk_126 {c : ByteArray} {pc : Nat} (h : BA c pc [126]) : decode c pc = .ok (.iand, 1) := dkr0 126 (Instr.iand) (fun _ => rfl) (fun _ => rfl) h
set_option maxRecDepth 100000 in
set_option maxHeartbeats 4000000 in
theorem dk_128 {c : ByteArray} {pc : Nat} (h : BA c pc [128]) : decode c pc = .ok (.ior, 1) := dkr0 128 (Instr.ior) (fun _ => rfl) (fun _ => rfl) h
set_option maxRecDepth 100000 in
set_option maxHeartbeats 4000000 in
theorem dk_130 {c : ByteArray} {pc : Nat} (h : BA c pc [130]) : decode c pc = .ok (.ixor, 1) := dkr0 130 (Instr.ixor) (fun _ => rfl) (fun _ => rfl) h
set_option maxRecDepth 100000 in
set_option maxHeartbeats 4000000 in
theorem dk_132 {c : ByteArray} {pc : Nat} {z : Int} (x y : Nat) (h : BA c pc [132, x, y]) (hz : Reader.signed 8 y = z) : decode c pc = .ok (.iinc x z, 3) := dkr_iinc (fun _ => rfl) (fun _ => rfl) h hz
set_option maxRecDepth 100000 in
set_option maxHeartbeats 4000000 in
theorem dk_133 {c : ByteArray} {pc : Nat} (h : BA c pc [133]) : decode c pc = .ok (.i2l, 1) := dkr0 133 (Instr.i2l) (fun _ => rfl) (fun _ => rfl) h
set_option maxRecDepth 100000 in
set_option maxHeartbeats 4000000 in
theorem dk_136 {c : ByteArray} {pc : Nat} (h : BA c pc [136]) : decode c pc = .ok (.l2i, 1) := dkr0 136 (Instr.l2i) (fun _ => rfl) (fun _ => rfl) h
set_option maxRecDepth 100000 in
set_option maxHeartbeats 4000000 in
theorem dk_146 {c : ByteArray} {pc : Nat} (h : BA c pc [146]) : decode c pc = .ok (.i2c, 1) := dkr0 146 (Instr.i2c) (fun _ => rfl) (fun _ => rfl) h
set_option maxRecDepth 100000 in
set_option maxHeartbeats 4000000 in
theorem dk_148 {c : ByteArray} {pc : Nat} (h : BA c pc [148]) : decode c pc = .ok (.lcmp, 1) := dkr0 148 (Instr.lcmp) (fun _ => rfl) (fun _ => rfl) h
set_option maxRecDepth 100000 in
set_option maxHeartbeats 4000000 in
theorem dk_153 {c : ByteArray} {pc : Nat} {z : Int} (x y : Nat) (h : BA c pc [153, x, y]) (hz : Reader.signed 16 (x * 256 + y) = z) : decode c pc = .ok (.ifCond .eq z, 3) := dkr2s 153 (fun x => Instr.ifCond .eq x) (fun _ => rfl) (fun _ => rfl) h hz
set_option maxRecDepth 100000 in
set_option maxHeartbeats 4000000 in
theorem dk_154 {c : ByteArray} {pc : Nat} {z : Int} (x y : Nat) (h : BA c pc [154, x, y]) (hz : Reader.signed 16 (x * 256 + y) = z) : decode c pc = .ok (.ifCond .ne z, 3) := dkr2s 154 (fun x => Instr.ifCond .ne x) (fun _ => rfl) (fun _ => rfl) h hz
set_option maxRecDepth 100000 in
set_option maxHeartbeats 4000000 in
theorem dk_155 {c : ByteArray} {pc : Nat} {z : Int} (x y : Nat) (h : BA c pc [155, x, y]) (hz : Reader.signed 16 (x * 256 + y) = z) : decode c pc = .ok (.ifCond .lt z, 3) := dkr2s 155 (fun x => Instr.ifCond .lt x) (fun _ => rfl) (fun _ => rfl) h hz
set_option maxRecDepth 100000 in
set_option maxHeartbeats 4000000 in
theorem dk_156 {c : ByteArray} {pc : Nat} {z : Int} (x y : Nat) (h : BA c pc [156, x, y]) (hz : Reader.signed 16 (x * 256 + y) = z) : decode c pc = .ok (.ifCond .ge z, 3) := dkr2s 156 (fun x => Instr.ifCond .ge x) (fun _ => rfl) (fun _ => rfl) h hz
set_option maxRecDepth 100000 in
set_option maxHeartbeats 4000000 in
theorem dk_157 {c : ByteArray} {pc : Nat} {z : Int} (x y : Nat) (h : BA c pc [157, x, y]) (hz : Reader.signed 16 (x * 256 + y) = z) : decode c pc = .ok (.ifCond .gt z, 3) := dkr2s 157 (fun x => Instr.ifCond .gt x) (fun _ => rfl) (fun _ => rfl) h hz
set_option maxRecDepth 100000 in
set_option maxHeartbeats 4000000 in
theorem dk_158 {c : ByteArray} {pc : Nat} {z : Int} (x y : Nat) (h : BA c pc [158, x, y]) (hz : Reader.signed 16 (x * 256 + y) = z) : decode c pc = .ok (.ifCond .le z, 3) := dkr2s 158 (fun x => Instr.ifCond .le x) (fun _ => rfl) (fun _ => rfl) h hz
set_option maxRecDepth 100000 in
set_option maxHeartbeats 4000000 in
theorem dk_159 {c : ByteArray} {pc : Nat} {z : Int} (x y : Nat) (h : BA c pc [159, x, y]) (hz : Reader.signed 16 (x * 256 + y) = z) : decode c pc = .ok (.if_icmp .eq z, 3) := dkr2s 159 (fun x => Instr.if_icmp .eq x) (fun _ => rfl) (fun _ => rfl) h hz
set_option maxRecDepth 100000 in
set_option maxHeartbeats 4000000 in
theorem dk_160 {c : ByteArray} {pc : Nat} {z : Int} (x y : Nat) (h : BA c pc [160, x, y]) (hz : Reader.signed 16 (x * 256 + y) = z) : decode c pc = .ok (.if_icmp .ne z, 3) := dkr2s 160 (fun x => Instr.if_icmp .ne x) (fun _ => rfl) (fun _ => rfl) h hz
set_option maxRecDepth 100000 in
set_option maxHeartbeats 4000000 in
theorem dk_161 {c : ByteArray} {pc : Nat} {z : Int} (x y : Nat) (h : BA c pc [161, x, y]) (hz : Reader.signed 16 (x * 256 + y) = z) : decode c pc = .ok (.if_icmp .lt z, 3) := dkr2s 161 (fun x => Instr.if_icmp .lt x) (fun _ => rfl) (fun _ => rfl) h hz
set_option maxRecDepth 100000 in
set_option maxHeartbeats 4000000 in
theorem dk_162 {c : ByteArray} {pc : Nat} {z : Int} (x y : Nat) (h : BA c pc [162, x, y]) (hz : Reader.signed 16 (x * 256 + y) = z) : decode c pc = .ok (.if_icmp .ge z, 3) := dkr2s 162 (fun x => Instr.if_icmp .ge x) (fun _ => rfl) (fun _ => rfl) h hz
set_option maxRecDepth 100000 in
set_option maxHeartbeats 4000000 in
theorem dk_163 {c : ByteArray} {pc : Nat} {z : Int} (x y : Nat) (h : BA c pc [163, x, y]) (hz : Reader.signed 16 (x * 256 + y) = z) : decode c pc = .ok (.if_icmp .gt z, 3) := dkr2s 163 (fun x => Instr.if_icmp .gt x) (fun _ => rfl) (fun _ => rfl) h hz
set_option maxRecDepth 100000 in
set_option maxHeartbeats 4000000 in
theorem dk_164 {c : ByteArray} {pc : Nat} {z : Int} (x y : Nat) (h : BA c pc [164, x, y]) (hz : Reader.signed 16 (x * 256 + y) = z) : decode c pc = .ok (.if_icmp .le z, 3) := dkr2s 164 (fun x => Instr.if_icmp .le x) (fun _ => rfl) (fun _ => rfl) h hz
set_option maxRecDepth 100000 in
set_option maxHeartbeats 4000000 in
theorem dk_167 {c : ByteArray} {pc : Nat} {z : Int} (x y : Nat) (h : BA c pc [167, x, y]) (hz : Reader.signed 16 (x * 256 + y) = z) : decode c pc = .ok (.goto z, 3) := dkr2s 167 (fun x => Instr.goto x) (fun _ => rfl) (fun _ => rfl) h hz
set_option maxRecDepth 100000 in
set_option maxHeartbeats 4000000 in
theorem dk_172 {c : ByteArray} {pc : Nat} (h : BA c pc [172]) : decode c pc = .ok (.ireturn, 1) := dkr0 172 (Instr.ireturn) (fun _ => rfl) (fun _ => rfl) h
set_option maxRecDepth 100000 in
set_option maxHeartbeats 4000000 in
theorem dk_173 {c : ByteArray} {pc : Nat} (h : BA c pc [173]) : decode c pc = .ok (.lreturn, 1) := dkr0 173 (Instr.lreturn) (fun _ => rfl) (fun _ => rfl) h
set_option maxRecDepth 100000 in
set_option maxHeartbeats 4000000 in
theorem dk_176 {c : ByteArray} {pc : Nat} (h : BA c pc [176]) : decode c pc = .ok (.areturn, 1) := dkr0 176 (Instr.areturn) (fun _ => rfl) (fun _ => rfl) h
set_option maxRecDepth 100000 in
set_option maxHeartbeats 4000000 in
theorem dk_177 {c : ByteArray} {pc : Nat} (h : BA c pc [177]) : decode c pc = .ok (.return_, 1) := dkr0 177 (Instr.return_) (fun _ => rfl) (fun _ => rfl) h
set_option maxRecDepth 100000 in
set_option maxHeartbeats 4000000 in
theorem dk_178 {c : ByteArray} {pc n : Nat} (x y : Nat) (h : BA c pc [178, x, y]) (hn : x * 256 + y = n) : decode c pc = .ok (.getstatic n, 3) := dkr2 178 (fun x => Instr.getstatic x) (fun _ => rfl) (fun _ => rfl) h hn
set_option maxRecDepth 100000 in
set_option maxHeartbeats 4000000 in
theorem dk_180 {c : ByteArray} {pc n : Nat} (x y : Nat) (h : BA c pc [180, x, y]) (hn : x * 256 + y = n) : decode c pc = .ok (.getfield n, 3) := dkr2 180 (fun x => Instr.getfield x) (fun _ => rfl) (fun _ => rfl) h hn
set_option maxRecDepth 100000 in
set_option maxHeartbeats 4000000 in
theorem dk_181 {c : ByteArray} {pc n : Nat} (x y : Nat) (h : BA c pc [181, x, y]) (hn : x * 256 + y = n) : decode c pc = .ok (.putfield n, 3) := dkr2 181 (fun x => Instr.putfield x) (fun _ => rfl) (fun _ => rfl) h hn
set_option maxRecDepth 100000 in
set_option maxHeartbeats 4000000 in
theorem dk_182 {c : ByteArray} {pc n : Nat} (x y : Nat) (h : BA c pc [182, x, y]) (hn : x * 256 + y = n) : decode c pc = .ok (.invokevirtual n, 3) := dkr2 182 (fun x => Instr.invokevirtual x) (fun _ => rfl) (fun _ => rfl) h hn
set_option maxRecDepth 100000 in
set_option maxHeartbeats 4000000 in
theorem dk_183 {c : ByteArray} {pc n : Nat} (x y : Nat) (h : BA c pc [183, x, y]) (hn : x * 256 + y = n) : decode c pc = .ok (.invokespecial n, 3) := dkr2 183 (fun x => Instr.invokespecial x) (fun _ => rfl) (fun _ => rfl) h hn
set_option maxRecDepth 100000 in
set_option maxHeartbeats 4000000 in
theorem dk_184 {c : ByteArray} {pc n : Nat} (x y : Nat) (h : BA c pc [184, x, y]) (hn : x * 256 + y = n) : decode c pc = .ok (.invokestatic n, 3) := dkr2 184 (fun x => Instr.invokestatic x) (fun _ => rfl) (fun _ => rfl) h hn
set_option maxRecDepth 100000 in
set_option maxHeartbeats 4000000 in
theorem dk_187 {c : ByteArray} {pc n : Nat} (x y : Nat) (h : BA c pc [187, x, y]) (hn : x * 256 + y = n) : decode c pc = .ok (.new n, 3) := dkr2 187 (fun x => Instr.new x) (fun _ => rfl) (fun _ => rfl) h hn
set_option maxRecDepth 100000 in
set_option maxHeartbeats 4000000 in
theorem dk_189 {c : ByteArray} {pc n : Nat} (x y : Nat) (h : BA c pc [189, x, y]) (hn : x * 256 + y = n) : decode c pc = .ok (.anewarray n, 3) := dkr2 189 (fun x => Instr.anewarray x) (fun _ => rfl) (fun _ => rfl) h hn
set_option maxRecDepth 100000 in
set_option maxHeartbeats 4000000 in
theorem dk_190 {c : ByteArray} {pc : Nat} (h : BA c pc [190]) : decode c pc = .ok (.arraylength, 1) := dkr0 190 (Instr.arraylength) (fun _ => rfl) (fun _ => rfl) h
set_option maxRecDepth 100000 in
set_option maxHeartbeats 4000000 in
theorem dk_192 {c : ByteArray} {pc n : Nat} (x y : Nat) (h : BA c pc [192, x, y]) (hn : x * 256 + y = n) : decode c pc = .ok (.checkcast n, 3) := dkr2 192 (fun x => Instr.checkcast x) (fun _ => rfl) (fun _ => rfl) h hn
set_option maxRecDepth 100000 in
set_option maxHeartbeats 4000000 in
theorem dk_199 {c : ByteArray} {pc : Nat} {z : Int} (x y : Nat) (h : BA c pc [199, x, y]) (hz : Reader.signed 16 (x * 256 + y) = z) : decode c pc = .ok (.ifnonnull z, 3) := dkr2s 199 (fun x => Instr.ifnonnull x) (fun _ => rfl) (fun _ => rfl) h hz
set_option maxRecDepth 100000 in
set_option maxHeartbeats 4000000 in
theorem dk_188_4 {c : ByteArray} {pc : Nat} (h : BA c pc [188, 4]) : decode c pc = .ok (.newarray .boolean, 2) := dkr_newarray (fun _ => rfl) (fun _ => rfl) (fun _ => rfl) (fun _ => rfl) h
set_option maxRecDepth 100000 in
set_option maxHeartbeats 4000000 in
theorem dk_188_10 {c : ByteArray} {pc : Nat} (h : BA c pc [188, 10]) : decode c pc = .ok (.newarray .int, 2) := dkr_newarray (fun _ => rfl) (fun _ => rfl) (fun _ => rfl) (fun _ => rfl) h
set_option maxRecDepth 100000 in
set_option maxHeartbeats 4000000 in
theorem dk_188_11 {c : ByteArray} {pc : Nat} (h : BA c pc [188, 11]) : decode c pc = .ok (.newarray .long, 2) := dkr_newarray (fun _ => rfl) (fun _ => rfl) (fun _ => rfl) (fun _ => rfl) h
