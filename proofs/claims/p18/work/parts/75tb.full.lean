/-! what the law's loop asks -/
theorem termsN_eq {x y thr sta nu : Int32} {fw frm : Nat → Int32} : E_v_termsN x y thr sta nu fw frm = E_v_terms x y thr sta nu fw frm := rfl
theorem RF.rng {n ht ho : Int32} {f1 f3 fw : Nat → Int32} (h : RF 0 n ht ho f1 f3 fw) (hn : 0 ≤ n.toInt ∧ n.toInt ≤ 8) : 0 ≤ (fw 0).toInt ∧ (fw 0).toInt ≤ 8 := by
  have e : n = fw 0 := h.1
  rw [← e]; exact hn
theorem RF.h3 {n ht ho : Int32} {f1 f3 fw : Nat → Int32} (h : RF 0 n ht ho f1 f3 fw) : ∀ j, j < 24 → f3 j = fw (67 + j) := fun j hj => by
  have q := h.2.2.2.2.1 j hj
  rw [Nat.zero_add] at q; exact q
theorem RF.h4 {n ht ho : Int32} {f1 f3 fw : Nat → Int32} (h : RF 0 n ht ho f1 f3 fw) : ∀ j, 24 ≤ j → j < 40 → f1 j = fw (27 + j) := fun j hj hk => by
  have q := h.2.2.2.1 j hj hk
  rw [Nat.zero_add] at q; exact q
theorem TQ.ext0 {n lt nf fi : Int32} {f1 f2 fw fw' : Nat → Int32} {fl : Nat → Option Nat} {G : Nat → LC} (h : TQ 0 n lt nf fi f1 f2 fl G fw) (e : ∀ j, fw' j = fw j) : TQ 0 n lt nf fi f1 f2 fl G fw' := h.same (fun j _ => e j)
theorem HR.frm {n dr kp nu : Int32} {sl fu fs fw fu' fw' : Nat → Int32} (h : HR n dr kp nu sl fu fs fw) (e : ∀ j, fw' j = fw j) (e2 : ∀ j, j < 496 → fu' j = fu j) : HR n dr kp nu sl fu' fs fw' := h.keep e2 (fun _ _ => rfl) (fun j _ _ => e j)
theorem HR.fr4 {n dr kp nu : Int32} {sl fu fs fw fw' : Nat → Int32} (h : HR n dr kp nu sl fu fs fw) (e : ∀ j, j ≠ 2 → j < 100 → fw' j = fw j) : HR n dr kp nu sl fu fs fw' := h.keep (fun _ _ => rfl) (fun _ _ => rfl) (fun j _ _ => e j (by omega) (by omega))
theorem krg0 : KRg row0 := by
  unfold KRg row0
  decide +kernel
theorem tq0 {G : Nat → LC} : TQ 0 0 0 (-1) 0 (fun _ => 0) tm0 (fun _ => none) G row0 := TQ.zero (fun _ => rfl) (fun j hj => by rcases (show j = 0 ∨ j = 1 ∨ j = 2 ∨ j = 3 ∨ j = 4 ∨ j = 5 by omega) with rfl | rfl | rfl | rfl | rfl | rfl <;> rfl) (fun j hj => by unfold row0; rw [upd_n (by omega), upd_n (by omega), upd_n (by omega), upd_n (by omega)]) rfl krg0
theorem hr0 {sl fu fs : Nat → Int32} : HR 0 0 0 0 sl fu fs row0 := HR.zero.clear
theorem rfr0 : RfR 0 0 (fun _ => 0) (fun _ => 0) := ⟨rfl, rfl, rfl, rfl, rfl, rfl⟩
