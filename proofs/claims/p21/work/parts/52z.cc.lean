/-! cells by short names -/
noncomputable abbrev cc_O (q : Nat) (i : Nat) (vs : List Value) : Nat × va_E := (q, .inr (i, vs))
noncomputable abbrev cc_l (q : Nat) (k : ClassId) (n : Nat) (f : Nat → Int32) : Nat × va_E := (q, .inl (k, n, .inl f))
noncomputable abbrev cc_rl (q : Nat) (k : ClassId) (n : Nat) (f : Nat → Int64) : Nat × va_E := (q, .inl (k, n, .inr (.inl f)))
noncomputable abbrev cc_rrrR (q : Nat) (k : ClassId) (n : Nat) (f : Nat → Option Nat) : Nat × va_E := (q, .inl (k, n, .inr (.inr (.inr (.inr f)))))
theorem as_D {D : va_G} {cl : List vw_C} {A : Nat → Prop} {ws ws' : va_W} {H : Heap} (_ : va_P D cl ws H) (hD : va_D A ws') (h : ws' = ws) : va_D A ws := h ▸ hD
theorem sub_D {D : va_G} {cl : List vw_C} {A : Nat → Prop} {ws ws' : va_W} {H : Heap} (_ : va_P D cl ws' H) (hD : va_D A ws) (is : List Nat) (hn : va_nd is = true) (hs : is.map (fun i => ws[i]?) = ws'.map some) : va_D A ws' := hD.sub is hn hs
