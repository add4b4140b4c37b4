/-! orders(), class and reference -/
theorem isSign_end {x : Int32} {e : Int64} : E_v_isSign x 0 e = 0 := by
  rw [E_v_isSign.eq_def, if_neg (by decide)]
theorem ordl_go {L : Nat} {sta nu lw bro dnv mev ofm : Int32} {val sm : Int64} {ft fw fu fsr fb fub fsb frm : Nat → Int32} {fwd fwe fac fe frs fnw : Nat → Int64} (z0 : KO KM37) {a b : Int32} {e : Int64} {n1 n2 n3 n4 n5 : Int32} {h1 h2 h3 h4 h5 : Nat → Int32} : E_v_orders_l19 sta nu (nI L) lw bro val sm dnv mev ofm ft fwd fwe fac fw fe frs fu fsr fb fnw fub fsb frm z0 a b 0 e (-1) 0 n1 n2 n3 n4 n5 h1 h2 h3 h4 h5 = Lp (α := KMo) (E_v_orders_l140 sta nu frm n1 n2 n3 n4 n5 h1 h2 h3 h4 h5 a b 0 e (-1) 0 (kitf (fun i => 0 + i) (fun i _ => E_v_keepAll 17 fw fu i) fub 496) (kitf (fun i => 0 + i) (fun i _ => fsr i) fsb 16)) zMo (1 + 12 + 1) (nI 0) nu lw bro val sm 0 (-1) ofm fe frs fsr fb fnw fw (E_v_keepAll 17 fw fu) := by
  rw [E_v_orders_l19.eq_def, if_pos rfl, Lt_b, if_neg (by rw [isSign_end]; decide), et_end, Lt2_b, Lt2_b, Lt2_b, Lt2_b, Lt2_b]
  dsimp only
  rw [if_pos rfl, Lt_b]
  generalize E_v_keepAll 17 fw fu = U
  have hB : ∀ (rc : Int32 → (Nat → Int32) → KM37) (i : Nat) (f : Nat → Int32), i < 496 → E_v_orders_l77 sta nu lw bro val sm ofm fw fe frs fsr fb fnw fsb frm n1 n2 n3 n4 n5 h1 h2 h3 h4 h5 a b 0 e (-1) 0 U rc (nI i) f = rc (nI (i + 1)) (upd f (0 + i) (U i)) := fun rc i f hi => by
    rw [E_v_orders_l77.eq_def, if_neg (kn_nlel (j := 496) rfl (by omega) hi), Lt_b, Lt_b, Lt_b, kn_po (by omega), kn_cl (by omega), Nat.zero_add]
  have hC : ∀ (g : Nat → Int32) (rc : Int32 → (Nat → Int32) → KM37) (i : Nat) (f : Nat → Int32), i < 16 → E_v_orders_l104 sta nu lw bro val sm ofm fw fe frs fsr fb fnw frm n1 n2 n3 n4 n5 h1 h2 h3 h4 h5 a b 0 e (-1) 0 U g rc (nI i) f = rc (nI (i + 1)) (upd f (0 + i) (fsr i)) := fun g rc i f hi => by
    rw [E_v_orders_l104.eq_def, if_neg (kn_nlel (j := 16) rfl (by omega) hi), Lt_b, Lt_b, Lt_b, kn_po (by omega), kn_cl (by omega), Nat.zero_add]
  have q := lp_it (d := fun i => 0 + i) (s := fun i _ => U i) hB (fun _ _ => ((0, 0, 0, 0, 0, 0, 0, 0, 0, 0, 0, 0, 0, 0, 0, 0, 0, 0, 0, 0, 0, 0, fun _ => 0, fun _ => 0, fun _ => 0, fun _ => 0, fun _ => 0, fun _ => 0, fun _ => 0, fun _ => 0, fun _ => 0, fun _ => 0, fun _ => 0, fun _ => 0, fun _ => 0, fun _ => 0, fun _ => 0) : KM37)) fub 496 2 0 rfl
  have q2 := lp_it (d := fun i => 0 + i) (s := fun i _ => fsr i) (hC (kitf (fun i => 0 + i) (fun i _ => U i) fub 496)) (fun _ _ => ((0, 0, 0, 0, 0, 0, 0, 0, 0, 0, 0, 0, 0, 0, 0, 0, 0, 0, 0, 0, 0, 0, fun _ => 0, fun _ => 0, fun _ => 0, fun _ => 0, fun _ => 0, fun _ => 0, fun _ => 0, fun _ => 0, fun _ => 0, fun _ => 0, fun _ => 0, fun _ => 0, fun _ => 0, fun _ => 0, fun _ => 0) : KM37)) fsb 16 2 0 rfl
  rw [show ((497 - (0 : Int32).toInt : Int).toNat + 1) = 2 + 496 by decide]
  refine Eq.trans q ?_
  rw [Lp_s, E_v_orders_l77.eq_def, if_pos (kn_lel (j := 496) rfl (by omega) (Nat.le_refl _)), show ((17 - (0 : Int32).toInt : Int).toNat + 1) = 2 + 16 by decide]
  refine Eq.trans q2 ?_
  rw [Lp_s, E_v_orders_l104.eq_def, if_pos (kn_lel (j := 16) rfl (by omega) (Nat.le_refl _)), show ((13 - (0 : Int32).toInt : Int).toNat + 1) = 1 + 12 + 1 by decide]
  rfl
theorem ordl_no {L : Nat} {sta nu lw bro dnv mev ofm : Int32} {val sm : Int64} {ft fw fu fsr fb fub fsb frm : Nat → Int32} {fwd fwe fac fe frs fnw : Nat → Int64} (z0 : KO KM37) {a b c q : Int32} {e : Int64} {n1 n2 n3 n4 n5 : Int32} {h1 h2 h3 h4 h5 : Nat → Int32} : E_v_orders_l19 sta nu (nI L) lw bro val sm dnv mev ofm ft fwd fwe fac fw fe frs fu fsr fb fnw fub fsb frm z0 a b c e q 1 n1 n2 n3 n4 n5 h1 h2 h3 h4 h5 = ((-6, -6, nu, a, b, c, e, q, 1, n1, n2, n3, n4, n5, lw, bro, val, sm, dnv, mev, -1, ofm, h1, h2, h3, h4, h5, fw, fe, frs, fu, fsr, fb, fnw, fub, fsb, upd frm 6 (frm 6 + 1)) : KM37) := by
  rw [E_v_orders_l19.eq_def, if_neg (show ¬ (1 : Int32) = 0 by decide), et_bad, Lt2_b, Lt2_b, Lt2_b, Lt2_b, Lt2_b]
  dsimp only
  rw [if_neg (show ¬ (1 : Int32) = 0 by decide), tell_s (b := 6) (by decide), Lt2_b, Lt2_b]
theorem carry_at {n lt nf fi hea ho dn me xb scl sus dr kp br An Al Af Ai Ah Ao gd gk : Int32} {fx fv fh fc sl fs cw f1 f2 f3 Aa Ab Ac fg : Nat → Int32} {fl Ad : Nat → Option Nat} {G : Nat → LC} : ∃ (u0 u1 u2 uh : Nat → Int32) (u3 : Nat → Option Nat), (∀ j, j < 56 → u0 j = f1 j) ∧ (∀ j, j < 6 → u1 j = f2 j) ∧ (∀ j, j < 6 → u3 j = fl j) ∧ (∀ j, j < 476 → uh j = sl j) ∧ E_w_carryOut G dn me (-1) xb fx fv scl sus fh fc dr kp sl br fs cw n lt nf fi hea ho f1 f2 f3 fl An Al Af Ai Ah Ao Aa Ab Ac Ad gd gk fg = Lp (α := KCo) (E_w_carryOut_l29 G (-1) scl sus fh fc dr kp n lt nf fi hea ho f3 fl u0 u1 u2 u3 uh) zCo (1 + 12 + 1) (nI 0) 0 (-1) xb br fi dr kp fx fv fs cw f1 f2 sl := by
  obtain ⟨b1, b2, b3⟩ := become_at (An := An) (Al := Al) (Af := Af) (Ai := Ai) (Ah := Ah) (Ao := Ao) (Aa := Aa) (Ab := Ab) (Ac := Ac) (Ad := Ad) (Bn := n) (Bl := lt) (Bf := nf) (Bi := fi) (Bh := hea) (Bo := ho) (Ba := f1) (Bb := f2) (Bc := f3) (Bd := fl)
  have b4 := become_laws (An := An) (Al := Al) (Af := Af) (Ai := Ai) (Ah := Ah) (Ao := Ao) (Aa := Aa) (Ab := Ab) (Ac := Ac) (Ad := Ad) (Bn := n) (Bl := lt) (Bf := nf) (Bi := fi) (Bh := hea) (Bo := ho) (Ba := f1) (Bb := f2) (Bc := f3) (Bd := fl)
  have hh := fun (j : Nat) (hj : j < 476) => hbec_at (f := fg) (g := sl) (dr := dr) (kp := kp) hj
  rw [E_w_carryOut.eq_def, show ((13 - (0 : Int32).toInt : Int).toNat + 1) = 1 + 12 + 1 by decide]
  generalize E_w_become An Al Af Ai Ah Ao Aa Ab Ac Ad n lt nf fi hea ho f1 f2 f3 fl = Bc at b1 b2 b3 b4 ⊢
  generalize E_w_hbecome fg dr kp sl = Hb at hh ⊢
  rw [Lt2_b, Lt2_b, Lt2_b, Lt_b]
  exact ⟨_, _, _, _, _, b1, b3, b4, hh, rfl⟩
theorem rel_orders {L : Nat} {rb lwc pa fl0 tf tt ti tu dn me sp xb scl sus dr kp br n lt nf fi hea ho An Al Af Ai Ah Ao gd gk thr sta nu fr to so fau bd ncl nc nl pi opn lw bro dnv mev sto ofm : Int32} {wo val sm : Int64} {frf fbt fx fv fh fc sl fs cw f1 f2 f3 Aa Ab Ac fg ft fo fa fp fq fod fw fu fsr fb fub fsb frm : Nat → Int32} {fwd fwe fac fe frs fnw : Nat → Int64} {fl Ad : Nat → Option Nat} {G : Nat → LC} {r1 : Int32} {rb' : Int32} {frf' : Nat → Int32} {pa' : Int32} {fl' : Int32} {tf' : Int32} {tt' : Int32} {ti' : Int32} {tu' : Int32} {dn1 : Int32} {me1 : Int32} {sp' : Int32} {xb' : Int32} {fx' : Nat → Int32} {fv' : Nat → Int32} {scl' : Int32} {us' : Int32} {fh' : Nat → Int32} {fc' : Nat → Int32} {dr' : Int32} {kp' : Int32} {sl' : Nat → Int32} {br' : Int32} {fs' : Nat → Int32} {cw' : Nat → Int32} {fi' : Int32} {f1' : Nat → Int32} {f2' : Nat → Int32} {f3' : Nat → Int32} {fl1' : Nat → Option Nat} {zn : Int32} {zl : Int32} {zf : Int32} {zi : Int32} {zh : Int32} {zo : Int32} {za : Nat → Int32} {zb : Nat → Int32} {zc : Nat → Int32} {zd : Nat → Option Nat} {zr : Int32} {zk : Int32} {zg : Nat → Int32} {r2 : Int32} {sta' : Int32} {nu' : Int32} {fr' : Int32} {to' : Int32} {so' : Int32} {wo' : Int64} {fau' : Int32} {bd' : Int32} {ncl' : Int32} {nc' : Int32} {nl' : Int32} {pi' : Int32} {op' : Int32} {lw' : Int32} {bro' : Int32} {val' : Int64} {sm' : Int64} {dn2 : Int32} {me2 : Int32} {sto' : Int32} {ofm' : Int32} {fo' : Nat → Int32} {fa' : Nat → Int32} {fp' : Nat → Int32} {fq' : Nat → Int32} {fod' : Nat → Int32} {fw' : Nat → Int32} {fe' : Nat → Int64} {frs' : Nat → Int64} {fu' : Nat → Int32} {fsr' : Nat → Int32} {fb' : Nat → Int32} {fnw' : Nat → Int64} {fub' : Nat → Int32} {fsb' : Nat → Int32} {frm' : Nat → Int32} (k1 : (r1, rb', frf', pa', fl', tf', tt', ti', tu', dn1, me1, sp', xb', fx', fv', scl', us', fh', fc', dr', kp', sl', br', fs', cw', fi', f1', f2', f3', fl1', zn, zl, zf, zi, zh, zo, za, zb, zc, zd, zr, zk, zg) = E_w_orders G rb frf lwc pa fl0 (nI L) tf tt ti tu fbt dn me sp xb fx fv scl sus fh fc dr kp sl br fs cw n lt nf fi hea ho f1 f2 f3 fl An Al Af Ai Ah Ao Aa Ab Ac Ad gd gk fg) (k2 : (r2, sta', nu', fr', to', so', wo', fau', bd', ncl', nc', nl', pi', op', lw', bro', val', sm', dn2, me2, sto', ofm', fo', fa', fp', fq', fod', fw', fe', frs', fu', fsr', fb', fnw', fub', fsb', frm') = E_v_orders thr sta nu (nI L) fr to so wo fau bd ncl nc nl pi opn lw bro val sm dnv mev sto ofm ft fo fa fp fq fwd fwe fod fac fw fe frs fu fsr fb fnw fub fsb frm) (hR : KRy L fbt ft fwd fwe) (hb0 : ∀ j, j < L → 0 ≤ (fbt j).toInt) (hh : ∀ j, j < 4 → (fac j).toInt = kwh 1 j) (h : TW n lt nf fi f1 f2 fl G fw) (hr : HR n dr kp nu sl fu fsr fw) (q : RfR rb sta frf frm) (h3 : ∀ j, j < 24 → f3 j = fw (67 + j)) :
    r1 = r2 ∧ RfR rb' sta' frf' frm' ∧ fl' = fau' ∧ sp' = sto' ∧ TW n lt nf fi' f1' f2' fl1' G fw' ∧ HR n dr' kp' nu' sl' fu' fsr' fw' ∧ ∀ j, j < 4 ∨ 35 ≤ j → fw' j = fw j := by
  have kr := reads_ord (lwc := lwc) (pa := pa) (fl := fl0) (tf := tf) (tt := tt) (ti := ti) (tu := tu) (scl := scl) (us := sus) (fh := fh) (fc := fc) (thr := thr) (sta := sta) (nu := nu) (fr := fr) (to := to) (so := so) (wo := wo) (fau := fau) (bd := bd) (ncl := ncl) (nc := nc) (nl := nl) (pi := pi) (opn := opn) (lw := lw) (bro := bro) (val := val) (sm := sm) (dn := dnv) (me := mev) (sto := sto) (ofm := ofm) (fo := fo) (fa := fa) (fp := fp) (fq := fq) (fod := fod) (fw := fw) (fe := fe) (frs := frs) (fu := fu) (fs := fsr) (fb2 := fb) (fnw := fnw) (fub := fub) (fsb := fsb) (frf := frm) hR hb0 hh (fun _ _ _ _ _ _ _ _ _ _ _ _ _ _ _ _ => ((0, 0, 0, 0, 0, 0, 0, 0, 0, 0, 0, 0, 0, 0, 0, 0, 0, 0, 0, 0, 0, 0, fun _ => 0, fun _ => 0, fun _ => 0, fun _ => 0, fun _ => 0, fun _ => 0, fun _ => 0, fun _ => 0, fun _ => 0, fun _ => 0, fun _ => 0, fun _ => 0, fun _ => 0, fun _ => 0, fun _ => 0) : KM37))
  rw [← k2] at kr
  rw [E_w_orders.eq_def] at k1
  generalize E_w_reads 0 lwc pa fl0 (nI L) tf tt ti tu fbt scl sus fh fc = r at k1 kr
  rcases kr with ⟨n1, qq, a, b, c, e, m1, m2, m3, m4, m5, x1, x2, x3, x4, x5, n2, eqx⟩ | ⟨cn, us1, nc1, nl1, t1, t2, t3, t4, a, b, c, e, pi1, op1, fh1, fc1, fo1, fa1, fp1, fq1, fod1, e1, e2, e3, e4, e5⟩
  · rw [ordl_no] at eqx
    rw [Lt2_b, Lt2_b, Lt2_b, Lt2_b, Lt2_b, Lt2_b, Lt2_b, Lt2_b, Lt2_b, Lt2_b, if_pos n1, refuse_b (a := 4) (b := 6) (by decide), Lt2_b] at k1
    simp only [Prod.mk.injEq] at k1 eqx
    obtain ⟨c0, c1, c2, c3, c4, c5, c6, c7, c8, c9, c10, c11, c12, c13, c14, c15, c16, c17, c18, c19, c20, c21, c22, c23, c24, c25, c26, c27, c28, c29, c30, c31, c32, c33, c34, c35, c36, c37, c38, c39, c40, c41, c42⟩ := k1
    obtain ⟨d0, d1, d2, d3, d4, d5, d6, d7, d8, d9, d10, d11, d12, d13, d14, d15, d16, d17, d18, d19, d20, d21, d22, d23, d24, d25, d26, d27, d28, d29, d30, d31, d32, d33, d34, d35, d36⟩ := eqx
    have g := q.no (x := -6) (by decide)
    rw [refuse_b (a := 4) (b := 6) (by decide), tell_s (b := 6) (by decide)] at g
    rw [c0, c1, c2, c4, c11, c25, c26, c27, c29, c19, c20, c21, d0, d1, d36, d7, d20, d27, d2, d30, d31]
    exact ⟨rfl, g.2.2, n2, rfl, h, hr, fun _ _ => rfl⟩
  · subst e1 e3
    rw [ordl_go] at e2
    obtain ⟨u0, u1, u2, uh, u3, v1, v2, v3, v4, v5⟩ := carry_at (n := n) (lt := lt) (nf := nf) (fi := fi) (hea := hea) (ho := ho) (dn := dn) (me := me) (xb := xb) (scl := nI cn) (sus := nI us1) (dr := dr) (kp := kp) (br := br) (An := An) (Al := Al) (Af := Af) (Ai := Ai) (Ah := Ah) (Ao := Ao) (gd := gd) (gk := gk) (fx := fx) (fv := fv) (fh := fh1) (fc := fc1) (sl := sl) (fs := fs) (cw := cw) (f1 := f1) (f2 := f2) (f3 := f3) (Aa := Aa) (Ab := Ab) (Ac := Ac) (fg := fg) (fl := fl) (Ad := Ad) (G := G)
    have ka := fun j => keepAll_at (k := 17) (by omega) (fw := fw) (fu := fu) j
    have ou := co_out (fuS := E_v_keepAll 17 fw fu) (sta := sta) (nc' := nI nc1) (nl := nI nl1) (pi := pi1) (op := op1) (fr := a) (to := b) (so := 0) (wo := e) (fau := -1) (bd := 0) (hea := hea) (ho := ho) (sus := nI us1) (u2 := u2) (fp := fp1) (fq := fq1) (frm := frm) (fub := kitf (fun i => 0 + i) (fun i _ => E_v_keepAll 17 fw fu i) fub 496) (fsb := kitf (fun i => 0 + i) (fun i _ => fsr i) fsb 16) h hr v1 v2 v3 v4 (fun j hj => by rw [kitf_cp, if_pos (by omega), Nat.sub_zero, show (17 : Int32) = nI 17 from rfl, ka, if_neg (by omega)]) (fun j hj => by rw [kitf_cp, if_pos (by omega), Nat.sub_zero]) (fun j hj => by rw [show (17 : Int32) = nI 17 from rfl, ka, if_pos (by omega)]; exact congrArg fw (by omega)) h3 e4.2.2.1 e4.2.2.2.1 e4.2.1 e5 cn 0 (13 - cn) (13 - cn) (by omega) 0 (-1) xb br fi dr kp fx fv fs cw f1 f2 sl nu lw bro val sm ofm fe frs fsr fb fnw fw (E_v_keepAll 17 fw fu) ⟨h, hr.keep (fun j hj => by rw [show (17 : Int32) = nI 17 from rfl, ka, if_neg (by omega)]) (fun _ _ => rfl) (fun _ _ _ => rfl), by decide, by decide, fun _ _ => rfl, fun _ _ => rfl⟩
    rw [show 13 - cn + cn + 1 = 1 + 12 + 1 by have := e4.2.1; omega, ← v5, ← e2] at ou
    rw [Lt2_b, Lt2_b, Lt2_b, Lt2_b, Lt2_b, Lt2_b, Lt2_b, Lt2_b, Lt2_b, Lt2_b] at k1
    dsimp only at k1
    rw [if_neg (show ¬ (1 : Int32) = 0 by decide)] at k1
    generalize E_w_carryOut G dn me (-1) xb fx fv (nI cn) (nI us1) fh1 fc1 dr kp sl br fs cw n lt nf fi hea ho f1 f2 f3 fl An Al Af Ai Ah Ao Aa Ab Ac Ad gd gk fg = CC at k1 ou
    obtain ⟨C0, C1, C2, C3, C4, C5, C6, C7, C8, C9, C10, C11, C12, C13, C14, C15, C16, C17, C18, C19, C20, C21, C22⟩ := CC
    rw [Lt2_b, Lt2_b, Lt2_b, Lt2_b, Lt2_b, Lt2_b, Lt2_b, Lt2_b, Lt2_b, Lt2_b, Lt2_b, Lt2_b, Lt2_b, Lt2_b, Lt2_b, Lt2_b, Lt2_b, Lt2_b, Lt2_b, Lt2_b, Lt2_b, Lt2_b] at k1
    dsimp only at k1
    obtain ⟨o1, o2, o3, o4, o5, o6, o7⟩ := ou
    dsimp only at o1 o2 o3 o4 o5 o6 o7
    rcases o4 with ⟨p1, p2, p3⟩ | ⟨p1, p2, p3⟩
    · rw [if_pos (show (0 : Int32) ≤ C0 from ie_iff.mpr p1), Lt_b, E_w_accept.eq_def] at k1
      simp only [Prod.mk.injEq] at k1
      obtain ⟨c0, c1, c2, c3, c4, c5, c6, c7, c8, c9, c10, c11, c12, c13, c14, c15, c16, c17, c18, c19, c20, c21, c22, c23, c24, c25, c26, c27, c28, c29, c30, c31, c32, c33, c34, c35, c36, c37, c38, c39, c40, c41, c42⟩ := k1
      rw [c0, c1, c2, c4, c11, c25, c26, c27, c29, c19, c20, c21]
      refine ⟨o1, ?_, o3.symm, o2, o5, o6, o7⟩
      rw [p2, p3]; exact q.ok
    · rw [if_neg (show ¬ (0 : Int32) ≤ C0 by rw [p1]; decide), p1, refuse_s (a := 2) (b := 3) (by decide), Lt2_b] at k1
      simp only [Prod.mk.injEq] at k1
      obtain ⟨c0, c1, c2, c3, c4, c5, c6, c7, c8, c9, c10, c11, c12, c13, c14, c15, c16, c17, c18, c19, c20, c21, c22, c23, c24, c25, c26, c27, c28, c29, c30, c31, c32, c33, c34, c35, c36, c37, c38, c39, c40, c41, c42⟩ := k1
      have g := q.no (x := -3) (by decide)
      rw [refuse_s (a := 2) (b := 3) (by decide), tell_s (b := 3) (by decide)] at g
      rw [tell_s (b := 3) (by decide)] at p2 p3
      rw [c0, c1, c2, c4, c11, c25, c26, c27, c29, c19, c20, c21]
      refine ⟨p1.symm.trans o1, ?_, o3.symm, o2, o5, o6, o7⟩
      rw [p2, p3]; exact g.2.2
/-! the rest of the calls: what they leave -/
theorem tellX_eq {x sta : Int32} {f : Nat → Int32} : E_v_tellX x sta f = E_v_tell x sta f := rfl
theorem refuseX_eq {x rb : Int32} {f : Nat → Int32} : E_w_refuseX x rb f = E_w_refuse x rb f := rfl
theorem TQ.same {n lt nf fi : Int32} {f1 f2 fw fw' : Nat → Int32} {fl : Nat → Option Nat} {G : Nat → LC} (h : TQ 0 n lt nf fi f1 f2 fl G fw) (e : ∀ j, (2 ≤ j ∧ j < 51) ∨ 100 ≤ j → fw' j = fw j) : TQ 0 n lt nf fi f1 f2 fl G fw' := by
  obtain ⟨a, b1, b2, b3, b4, b5⟩ := h
  have z : ∀ j, (2 ≤ j ∧ j < 51) ∨ 100 ≤ j → fw' (0 + j) = fw (0 + j) := fun j hj => by rw [Nat.zero_add]; exact e j hj
  refine ⟨a.ext (fun _ _ => rfl) (fun _ _ => rfl) (fun j h1 h2 => z j (by omega)), b1.trans (z 2 (by omega)).symm, b2.trans (z 3 (by omega)).symm, b3, fun j hj => by rw [z _ (by omega), z _ (by omega)]; exact b4 j hj, fun i hi => ?_⟩
  obtain ⟨q, q1, q2⟩ := b5 i hi
  refine ⟨q, q1, q2.ext (fun j hj => ?_)⟩
  unfold ktx
  rw [Nat.add_assoc, z _ (by omega)]
theorem HR.same {n dr kp nu : Int32} {sl fu fs fw fw' : Nat → Int32} (h : HR n dr kp nu sl fu fs fw) (e : ∀ j, (2 ≤ j ∧ j < 51) ∨ 100 ≤ j → fw' j = fw j) : HR n dr kp nu sl fu fs fw' := h.keep (fun _ _ => rfl) (fun _ _ => rfl) (fun j _ _ => e j (by omega))
theorem rq_hear {n x rb hea ho thr sta : Int32} {f1 f3 frf fw frm : Nat → Int32} {r1 b1 hea' ho' r2 s2 : Int32} {g1 fw' g2 : Nat → Int32} (k1 : (r1, b1, g1, hea', ho') = E_w_hear x rb frf hea ho) (k2 : (r2, s2, fw', g2) = E_v_hear x thr sta fw frm) (h : RF 0 n hea ho f1 f3 fw) (hz : 0 ≤ hea.toInt ∧ hea.toInt ≤ 6) (q : RfR rb sta frf frm) : RfR b1 s2 g1 g2 ∧ ∀ j, (2 ≤ j ∧ j < 51) ∨ 100 ≤ j → fw' j = fw j := by
  simp only [E_w_hear, Lt, Lt2, E_w_accept] at k1
  simp only [E_v_hear, Lt, Lt2] at k2
  by_cases hx : (0 : Int32).toInt ≤ x.toInt ∧ x.toInt ≤ (127 : Int32).toInt
  · rw [ifw_p hx] at k1
    rw [ifi_p (by exact hx)] at k2
    have e1 : fw (1 : Int32).toNatClampNeg = hea := h.2.1.symm
    rw [e1] at k2
    by_cases h6 : hea < 6
    · have h7 : hea.toInt < 6 := il_iff.mp h6
      have hi : (hea + 1).toInt = hea.toInt + 1 := inc_1 (by omega)
      rw [if_pos h6] at k1
      rw [if_neg (fun q => by have := congrArg Int32.toInt q; have z : (6 : Int32).toInt = 6 := rfl; omega), tell_p (by omega)] at k2
      simp only [Prod.mk.injEq] at k1 k2
      obtain ⟨a1, a2, a3, a4, a5⟩ := k1
      obtain ⟨b1, b2, b3, b4⟩ := k2
      have hc : (91 + hea).toNatClampNeg = 91 + hea.toInt.toNat := add_c (k := 91) rfl (by omega) (by omega)
      rw [a2, a3, b2, b4]
      refine ⟨q.ok, fun j hj => ?_⟩
      rw [b3, show (1 : Int32).toNatClampNeg = 1 from rfl, upd_n (by omega), hc, upd_n (by omega)]
    · have h7 : ¬ hea.toInt < 6 := fun q => h6 (il_iff.mpr q)
      rw [if_neg h6] at k1
      rw [if_pos (i_lit (x := 6) (by omega) rfl)] at k2
      simp only [Prod.mk.injEq] at k1 k2
      obtain ⟨a1, a2, a3, a4, a5⟩ := k1
      obtain ⟨b1, b2, b3, b4⟩ := k2
      rw [a2, a3, b2, b3, b4]
      exact ⟨(q.no (by decide)).2.2, fun _ _ => rfl⟩
  · rw [ifw_n hx] at k1
    rw [ifi_n (by exact hx)] at k2
    simp only [Prod.mk.injEq] at k1 k2
    obtain ⟨a1, a2, a3, a4, a5⟩ := k1
    obtain ⟨b1, b2, b3, b4⟩ := k2
    rw [a2, a3, b2, b3, b4]
    exact ⟨(q.no (by decide)).2.2, fun _ _ => rfl⟩
theorem rq_forget {thr : Int32} {fw : Nat → Int32} {r2 : Int32} {fw' : Nat → Int32} (k2 : (r2, fw') = E_v_forget thr fw) : ∀ j, (2 ≤ j ∧ j < 51) ∨ 100 ≤ j → fw' j = fw j := by
  simp only [E_v_forget, Lt, Prod.mk.injEq] at k2
  intro j hj
  rw [k2.2, show (1 : Int32).toNatClampNeg = 1 from rfl, upd_n (by omega)]
theorem rq_score {x y rb thr sta : Int32} {f3 frf fw frm : Nat → Int32} {r1 b1 r2 s2 : Int32} {g1 f3' fw' g2 : Nat → Int32} (k1 : (r1, b1, g1, f3') = E_w_score x y rb frf f3) (k2 : (r2, s2, fw', g2) = E_v_score x y thr sta fw frm) (q : RfR rb sta frf frm) : RfR b1 s2 g1 g2 ∧ ∀ j, (2 ≤ j ∧ j < 51) ∨ 100 ≤ j → fw' j = fw j := by
  simp only [E_w_score, E_w_score_j20, Lt, Lt2, E_w_accept] at k1
  simp only [E_v_score, E_v_score_j41, E_v_change, Lt, Lt2] at k2
  by_cases hx : (0 : Int32).toInt ≤ x.toInt ∧ x.toInt ≤ (23 : Int32).toInt
  · have hx2 : 0 ≤ x.toInt ∧ x.toInt ≤ 23 := hx
    rw [ifw_p hx] at k1
    rw [ifi_p (by exact hx)] at k2
    by_cases hy : (0 : Int32).toInt ≤ y.toInt ∧ y.toInt ≤ (127 : Int32).toInt
    · rw [ifw_p hy] at k1
      rw [ifi_p (by exact hy), add_c (k := 67) rfl (by omega) (by omega)] at k2
      simp only [Prod.mk.injEq] at k1 k2
      obtain ⟨a1, a2, a3, a4⟩ := k1
      obtain ⟨b1, b2, b3, b4⟩ := k2
      rw [a2, a3, b2, b4]
      exact ⟨q.ok, fun j hj => by rw [b3, upd_n (by omega)]⟩
    · rw [ifw_n hy] at k1
      rw [ifi_n (by exact hy)] at k2
      simp only [Prod.mk.injEq] at k1 k2
      obtain ⟨a1, a2, a3, a4⟩ := k1
      obtain ⟨b1, b2, b3, b4⟩ := k2
      rw [a2, a3, b2, b3, b4]
      exact ⟨(q.no (by decide)).2.2, fun _ _ => rfl⟩
  · rw [ifw_n hx] at k1
    rw [ifi_n (by exact hx)] at k2
    simp only [Prod.mk.injEq] at k1 k2
    obtain ⟨a1, a2, a3, a4⟩ := k1
    obtain ⟨b1, b2, b3, b4⟩ := k2
    rw [a2, a3, b2, b3, b4]
    exact ⟨(q.no (by decide)).2.2, fun _ _ => rfl⟩
theorem row_w {rb ln : Int32} {frf fb : Nat → Int32} (hl : 0 ≤ ln.toInt ∧ ln.toInt ≤ 400) (z1 : Int32 → Int32 → (Nat → Int32) → (Int32 × Int32 × Int32 × (Nat → Int32) × Int32 × (Nat → Int32))) : ∀ (k : Nat) (v c : Int32) (f : Nat → Int32), 0 ≤ v.toInt ∧ v.toInt ≤ 400 → (401 - v.toInt).toNat < k → (Lp (E_w_rowX_l21 rb frf ln fb) z1 k v c f).2.1 = 0 ∧ (Lp (E_w_rowX_l21 rb frf ln fb) z1 k v c f).2.2.2.1 = frf := by
  intro k
  induction k with
  | zero => intro v c f hv hk; exact absurd hk (Nat.not_lt_zero _)
  | succ k ih =>
    intro v c f hv hk
    rw [Lp_s]
    simp only [E_w_rowX_l21, Lt]
    by_cases e : ln ≤ v
    · rw [if_pos e]; exact ⟨rfl, rfl⟩
    · have e2 : v.toInt < ln.toInt := by
        have : ¬ ln.toInt ≤ v.toInt := fun q => e (ie_iff.mpr q)
        omega
      have hi := inc_o (a := v) (by omega)
      rw [if_neg e]
      split
      · exact ih _ _ _ (by omega) (by omega)
      · split
        · exact ih _ _ _ (by omega) (by omega)
        · exact ih _ _ _ (by omega) (by omega)
theorem row_v {ln sta : Int32} {ft frm fw : Nat → Int32} (hl : 0 ≤ ln.toInt ∧ ln.toInt ≤ 400) (z2 : Int32 → Int32 → Int32 → (Nat → Int32) → (Int32 × Int32 × Int32 × (Nat → Int32) × (Nat → Int32))) : ∀ (k : Nat) (v d a : Int32) (g : Nat → Int32), 0 ≤ v.toInt ∧ v.toInt ≤ 400 → (401 - v.toInt).toNat < k → 0 ≤ d.toInt ∧ d.toInt ≤ v.toInt → (∀ j, j < 67 ∨ 91 ≤ j → g j = fw j) → (Lp (E_v_rowX_l35 sta ln ft frm) z2 k v d a g).2.1 = 0 ∧ (Lp (E_v_rowX_l35 sta ln ft frm) z2 k v d a g).2.2.2.2 = frm ∧ ∀ j, j < 67 ∨ 91 ≤ j → (Lp (E_v_rowX_l35 sta ln ft frm) z2 k v d a g).2.2.2.1 j = fw j := by
  intro k
  induction k with
  | zero => intro v d a g hv hk; exact absurd hk (Nat.not_lt_zero _)
  | succ k ih =>
    intro v d a g hv hk hd hg
    rw [Lp_s]
    simp only [E_v_rowX_l35, Lt, Lt2]
    by_cases e : ln ≤ v
    · rw [if_pos e, tellX_eq, tell_p hd.1]; exact ⟨rfl, rfl, hg⟩
    · have e2 : v.toInt < ln.toInt := by
        have : ¬ ln.toInt ≤ v.toInt := fun q => e (ie_iff.mpr q)
        omega
      have hi := inc_o (a := v) (by omega)
      have hj := inc_o (a := d) (by omega)
      rw [if_neg e]
      by_cases e4 : 24 ≤ v
      · rw [if_pos e4]; exact ih _ _ _ _ (by omega) (by omega) (by omega) hg
      · have e5 : v.toInt < 24 := by
          have : ¬ (24 : Int32).toInt ≤ v.toInt := fun q => e4 (ie_iff.mpr q)
          have z : (24 : Int32).toInt = 24 := rfl
          omega
        rw [if_neg e4, add_c (k := 67) rfl (by omega) (by omega)]
        split
        · exact ih _ _ _ _ (by omega) (by omega) (by omega) hg
        · exact ih _ _ _ _ (by omega) (by omega) (by omega) (fun j hj => by rw [upd_n (by omega)]; exact hg j hj)
theorem rq_row {rb ato ln thr sta as_ ta : Int32} {f3 frf fb fw ft frm : Nat → Int32} {r1 b1 ato' ln' r2 s2 as' : Int32} {g1 f3' fw' g2 : Nat → Int32} (k1 : (r1, b1, ato', g1, ln', f3') = E_w_rowX rb ato frf ln fb f3) (k2 : (r2, s2, as', fw', g2) = E_v_rowX thr sta as_ ta fw ft frm) (hl : 0 ≤ ln.toInt ∧ ln.toInt ≤ 400) (hlt : ln.toInt = ta.toInt) (q : RfR rb sta frf frm) : RfR b1 s2 g1 g2 ∧ ∀ j, (2 ≤ j ∧ j < 51) ∨ 100 ≤ j → fw' j = fw j := by
  obtain rfl : ln = ta := Int32.toInt_inj.mp hlt
  simp only [E_w_rowX, Lt, Lt2] at k1
  simp only [E_v_rowX, Lt, Lt2] at k2
  by_cases e : ln = 0
  · rw [if_pos e, refuseX_eq] at k1
    rw [if_pos e, tellX_eq] at k2
    simp only [Prod.mk.injEq] at k1 k2
    rw [k1.2.1, k1.2.2.2.1, k2.2.1, k2.2.2.2.1, k2.2.2.2.2]
    exact ⟨(q.no (by decide)).2.2, fun _ _ => rfl⟩
  · rw [if_neg e] at k1 k2
    generalize hN : (401 - (0 : Int32).toInt : Int).toNat + 1 = N at k1 k2
    have p1 := row_w (rb := rb) (frf := frf) (fb := fb) hl (fun _ _ _ => ((0, 0, 0, fun _ => 0, 0, fun _ => 0) : Int32 × Int32 × Int32 × (Nat → Int32) × Int32 × (Nat → Int32))) N 0 0 f3 (by decide) (by rw [← hN]; exact Nat.lt_succ_self _)
    have p2 := row_v (sta := sta) (ft := ft) (frm := frm) (fw := fw) hl (fun _ _ _ _ => ((0, 0, 0, fun _ => 0, fun _ => 0) : Int32 × Int32 × Int32 × (Nat → Int32) × (Nat → Int32))) N 0 0 0 fw (by decide) (by rw [← hN]; exact Nat.lt_succ_self _) (by decide) (fun _ _ => rfl)
    rw [← k1] at p1
    rw [← k2] at p2
    dsimp only at p1 p2
    rw [p1.1, p1.2, p2.1, p2.2.1]
    exact ⟨q.ok, fun j hj => p2.2.2 j (by omega)⟩
theorem rq_house {x0 x1 x2 x3 x4 rb dr kp n ht ho thr sta nu lt nf fi : Int32} {f1 f2 f3 frf fw frm sl fu fsr : Nat → Int32} {fl : Nat → Option Nat} {G : Nat → LC} {r1 b1 kp' n' r2 s2 nu' : Int32} {g1 f1' fw' g2 : Nat → Int32} (k1 : (r1, b1, g1, kp', n', f1') = E_w_house x0 x1 x2 x3 x4 rb frf dr kp n f1) (k2 : (r2, s2, nu', fw', g2) = E_v_houseN x0 x1 x2 x3 x4 thr sta nu fw frm) (h : RF 0 n ht ho f1 f3 fw) (hn : 0 ≤ n.toInt ∧ n.toInt ≤ 8) (hz : 0 ≤ ht.toInt ∧ ht.toInt ≤ 6) (hq : TQ 0 n lt nf fi f1 f2 fl G fw) (hl6 : 0 ≤ lt.toInt ∧ lt.toInt ≤ 6) (q : RfR rb sta frf frm) (hr : HR n dr kp nu sl fu fsr fw) : RfR b1 s2 g1 g2 ∧ TQ 0 n' lt nf fi f1' f2 fl G fw' ∧ HR n' dr kp' nu' sl fu fsr fw' := by
  have hRF := (rel_house k1 k2 h hn hz).2
  have hW := TW.of hq h hn hl6
  have bad : ∀ {r b kp2 n2 : Int32} {g f : Nat → Int32}, (r, b, g, kp2, n2, f) = E_w_house_j76 rb frf kp n f1 → ∀ {r' s' nu2 : Int32} {f' g' : Nat → Int32}, (r', s', nu2, f', g') = E_v_houseN_j67 sta nu fw frm → RfR b s' g g' ∧ TQ 0 n2 lt nf fi f f2 fl G f' ∧ HR n2 dr kp2 nu2 sl fu fsr f' := by
    intro r b kp2 n2 g f q1 r' s' nu2 f' g' q2
    simp only [E_w_house_j76, E_v_houseN_j67, Lt2, Prod.mk.injEq] at q1 q2
    obtain ⟨a1, a2, a3, a4, a5, a6⟩ := q1
    obtain ⟨c1, c2, c3, c4, c5⟩ := q2
    rw [a2, a3, a4, a5, a6, c2, c3, c4, c5]
    exact ⟨(q.no (by decide)).2.2, hq, hr⟩
  have j52 : ∀ v : Int32, E_w_house_j52 rb frf kp n f1 v = E_w_house_j76 rb frf kp n f1 := fun v => by
    unfold E_w_house_j52
    split <;> rfl
  have j23 : E_w_house_j23 x3 x4 rb frf kp n f1 = E_w_house_j76 rb frf kp n f1 := by
    simp only [E_w_house_j23, Lt, j52]
    split
    · split <;> rfl
    · rfl
  simp only [E_w_house, Lt, j52, j23] at k1
  simp only [E_v_houseN, Lt] at k2
  by_cases p0 : (0 : Int32).toInt ≤ x0.toInt ∧ x0.toInt ≤ (6 : Int32).toInt
  case neg => rw [ifw_n p0] at k1; rw [ifi_n (by exact p0)] at k2; exact bad k1 k2
  rw [ifw_p p0] at k1
  rw [ifi_p (by exact p0)] at k2
  by_cases p1 : (0 : Int32).toInt ≤ x1.toInt ∧ x1.toInt ≤ (3 : Int32).toInt
  case neg => rw [ifw_n p1] at k1; rw [ifi_n (by exact p1)] at k2; exact bad k1 k2
  rw [ifw_p p1] at k1
  rw [ifi_p (by exact p1)] at k2
  by_cases p2 : (0 : Int32).toInt ≤ x2.toInt ∧ x2.toInt ≤ (999 : Int32).toInt
  case neg =>
    rw [ifi_n (by exact p2)] at k2
    by_cases p3 : (0 : Int32).toInt ≤ x3.toInt ∧ x3.toInt ≤ (7 : Int32).toInt
    case neg => rw [ifw_n p3] at k1; exact bad k1 k2
    by_cases p4 : (0 : Int32).toInt ≤ x4.toInt ∧ x4.toInt ≤ (7 : Int32).toInt
    case neg => rw [ifw_p p3, ifw_n p4] at k1; exact bad k1 k2
    rw [ifw_p p3, ifw_p p4, ifw_n p2] at k1
    exact bad k1 k2
  rw [ifi_p (by exact p2)] at k2
  by_cases p3 : (0 : Int32).toInt ≤ x3.toInt ∧ x3.toInt ≤ (7 : Int32).toInt
  case neg => rw [ifw_n p3] at k1; rw [ifi_n (by exact p3)] at k2; exact bad k1 k2
  rw [ifw_p p3] at k1
  rw [ifi_p (by exact p3)] at k2
  by_cases p4 : (0 : Int32).toInt ≤ x4.toInt ∧ x4.toInt ≤ (7 : Int32).toInt
  case neg => rw [ifw_n p4] at k1; rw [ifi_n (by exact p4)] at k2; exact bad k1 k2
  rw [ifw_p p4, ifw_p p2] at k1
  rw [ifi_p (by exact p4)] at k2
  have e0 : fw (0 : Int32).toNatClampNeg = n := h.1.symm
  rw [e0] at k2
  have z0 : (0 : Int32).toInt = 0 := rfl
  unfold E_w_dinerOf at k1
  generalize hN9 : (9 - (0 : Int32).toInt : Int).toNat + 1 = N9 at k1 k2
  have dn := diner (x := x3) (n := n) (f := f1) hn (fun _ => ((0) : Int32)) N9 0 (by decide) (by rw [← hN9]; exact Nat.lt_succ_self _)
  have hl := hl_in (x0 := x0) (x1 := x1) (x2 := x2) (x3 := x3) (x4 := x4) (sta := sta) (nu := nu) (n := n) (fw := fw) (frf := frm) hn (fun _ => ((0, 0, 0, fun _ => 0, fun _ => 0) : Int32 × Int32 × Int32 × (Nat → Int32) × (Nat → Int32))) N9 0 (by decide) (by rw [← hN9]; exact Nat.lt_succ_self _)
  have ed : ∀ j : Nat, (j : Int) < n.toInt → f1 (24 + j) = fw (51 + j) := fun j hj => by
    have q := h.2.2.2.1 (24 + j) (by omega) (by omega)
    rw [Nat.zero_add, show 27 + (24 + j) = 51 + j by omega] at q
    exact q
  rcases dn with ⟨d1, d2⟩ | ⟨d1, j, j1, j2, j3⟩
  · rw [if_pos d1] at k1
    rw [hl.1 (fun j j1 j2 => by rw [← ed j j2]; exact d2 j j1 j2)] at k2
    unfold E_v_houseN_l84 at k2
    rw [if_pos (show n ≤ n from ie_iff.mpr (Int.le_refl _))] at k2
    by_cases c : n < 8
    · have c2 : n.toInt < 8 := il_iff.mp c
      rw [if_pos c] at k1
      rw [if_neg (fun q => by have := congrArg Int32.toInt q; have z : (8 : Int32).toInt = 8 := rfl; omega)] at k2
      have hN : ∀ (m : Int32) (k : Nat), m.toInt = (k : Int) → k ≤ 100 → (m + n).toNatClampNeg = k + n.toInt.toNat := fun m k hm hk => add_c hm (by omega) (by omega)
      simp only [Lt2, Lt, E_w_build, E_w_accept, put_at (k := 0) (y := 0) (show 0 ≤ n.toInt ∧ n.toInt < 8 by omega) rfl (by omega), put_at (k := 1) (y := 1) (show 0 ≤ n.toInt ∧ n.toInt < 8 by omega) rfl (by omega), put2_at (show 0 ≤ n.toInt ∧ n.toInt < 8 by omega), put_at (k := 3) (y := 3) (show 0 ≤ n.toInt ∧ n.toInt < 8 by omega) rfl (by omega), put_at (k := 4) (y := 4) (show 0 ≤ n.toInt ∧ n.toInt < 8 by omega) rfl (by omega), Prod.mk.injEq] at k1
      simp only [Lt2, Lt, hN 35 35 rfl (by decide), hN 43 43 rfl (by decide), hN 19 19 rfl (by decide), hN 51 51 rfl (by decide), hN 59 59 rfl (by decide), hN 11 11 rfl (by decide), hN 27 27 rfl (by decide), show (0 : Int32).toNatClampNeg = 0 from rfl, Prod.mk.injEq] at k2
      obtain ⟨a1, a2, a3, a4, a5, a6⟩ := k1
      obtain ⟨c1, c3, c4, c5, c6⟩ := k2
      obtain ⟨N, hN2⟩ : ∃ N, N = n.toInt.toNat := ⟨_, rfl⟩
      rw [← hN2] at a6 c5
      have hN8 : N < 8 := by omega
      obtain ⟨⟨t1, t2, t3, t4, w1, w2, w3, w4, w5, w6, w7, w8⟩, b1, b2, b3, b4, b5, b6, b7⟩ := hW
      have mk : ∀ i, i ≠ 0 → i ≠ 27 + N → i ≠ 11 + N → i ≠ 59 + N → i ≠ 51 + N → i ≠ 19 + N → i ≠ 43 + N → i ≠ 35 + N → fw' i = fw i := fun i h1 h2 h3 h4 h5 h6 h7 h8 => by
        rw [c5, upd_n h1, upd_n h2, upd_n h3, upd_n h4, upd_n h5, upd_n h6, upd_n h7, upd_n h8]
      have ck : ∀ i, i ≠ 32 + N → i ≠ 24 + N → i ≠ 16 + N → i ≠ 8 + N → i ≠ N → f1' i = f1 i := fun i h1 h2 h3 h4 h5 => by
        rw [a6, upd_n (by omega), upd_n (by omega), upd_n (by omega), upd_n (by omega), upd_n (by omega)]
      rw [a2, a3, c3, c6, tell_p (by omega)]
      have z0 : (0 : Int32).toInt = 0 := rfl
      have p0 := p0
      have v19 : fw' (19 + N) = x2 := by rw [c5, upd_n (by omega), upd_n (by omega), upd_n (by omega), upd_n (by omega), upd_n (by omega), upd_e (by omega)]
      have v11 : fw' (11 + N) = 0 := by rw [c5, upd_n (by omega), upd_n (by omega), upd_e (by omega)]
      have v27 : fw' (27 + N) = 0 := by rw [c5, upd_n (by omega), upd_e (by omega)]
      have v35 : fw' (35 + N) = x0 := by rw [c5, upd_n (by omega), upd_n (by omega), upd_n (by omega), upd_n (by omega), upd_n (by omega), upd_n (by omega), upd_n (by omega), upd_e (by omega)]
      have v43 : fw' (43 + N) = x1 := by rw [c5, upd_n (by omega), upd_n (by omega), upd_n (by omega), upd_n (by omega), upd_n (by omega), upd_n (by omega), upd_e (by omega)]
      have u16 : f1' (16 + N) = x2 := by rw [a6, upd_n (by omega), upd_n (by omega), upd_e (by omega)]
      have mk2 : ∀ i, (2 ≤ i ∧ i < 51) ∨ 100 ≤ i → i ≠ 27 + N → i ≠ 11 + N → i ≠ 19 + N → i ≠ 43 + N → i ≠ 35 + N → fw' i = fw i := fun i h1 h2 h3 h4 h5 h6 => mk i (by omega) h2 h3 (by omega) (by omega) h4 h5 h6
      have ck2 : ∀ i, 16 ≤ i → i < 24 ∨ 40 ≤ i → i ≠ 16 + N → f1' i = f1 i := fun i h1 h2 h3 => ck i (by omega) (by omega) h3 (by omega) (by omega)
      have i1 := inc_1 (a := n) (by omega)
      refine ⟨q.ok, TW.tq ⟨⟨fun j hj => ?_, ?_, fun j hj => ?_, fun k hk h8 => ?_, ?_, ?_, ?_, ?_, ?_, ?_, ?_, fun j hj => ?_⟩, ?_, ?_, b3, fun j hj => ⟨?_, ?_⟩, b5.ext (fun j h1 _ => mk2 j (by omega) (by omega) (by omega) (by omega) (by omega) (by omega)), ⟨by have := hRF.1; rwa [Nat.zero_add] at this, by rw [a5, i1]; omega⟩, fun j hj => by have := hRF.2.2.1 j hj; rwa [Nat.zero_add] at this⟩, by rw [a4, c4]; exact hr.clear⟩
      · rw [mk2 _ (by omega) (by omega) (by omega) (by omega) (by omega) (by omega)]; exact t1 j hj
      · rw [mk2 _ (by omega) (by omega) (by omega) (by omega) (by omega) (by omega)]; exact t2
      · by_cases e : j = N
        · rw [e, v11, v19, v27, u16, ck2 _ (by omega) (by omega) (by omega), ck2 _ (by omega) (by omega) (by omega), (t3 N hN8).1, (t3 N hN8).2.2, (t4 N (by omega) hN8).1, (t4 N (by omega) hN8).2]
          exact ⟨rfl, rfl, rfl⟩
        · rw [mk2 _ (by omega) (by omega) (by omega) (by omega) (by omega) (by omega), mk2 _ (by omega) (by omega) (by omega) (by omega) (by omega) (by omega), mk2 _ (by omega) (by omega) (by omega) (by omega) (by omega) (by omega), ck2 _ (by omega) (by omega) (by omega), ck2 _ (by omega) (by omega) (by omega), ck2 _ (by omega) (by omega) (by omega)]
          exact t3 j hj
      · rw [a5, i1] at hk
        rw [mk2 _ (by omega) (by omega) (by omega) (by omega) (by omega) (by omega), mk2 _ (by omega) (by omega) (by omega) (by omega) (by omega) (by omega)]
        exact t4 k (by omega) h8
      · rw [mk2 _ (by omega) (by omega) (by omega) (by omega) (by omega) (by omega)]; exact w1
      · rw [mk2 _ (by omega) (by omega) (by omega) (by omega) (by omega) (by omega)]; exact w2
      · rw [mk2 _ (by omega) (by omega) (by omega) (by omega) (by omega) (by omega)]; exact w3
      · rw [mk2 _ (by omega) (by omega) (by omega) (by omega) (by omega) (by omega)]; exact w4
      · rw [mk2 _ (by omega) (by omega) (by omega) (by omega) (by omega) (by omega)]; exact w5
      · rw [mk2 _ (by omega) (by omega) (by omega) (by omega) (by omega) (by omega)]; exact w6
      · rw [mk2 _ (by omega) (by omega) (by omega) (by omega) (by omega) (by omega)]; exact w7
      · by_cases e : j = N
        · rw [e, v11, v19, v27, z0]
          exact ⟨by omega, p2, by omega⟩
        · rw [mk2 _ (by omega) (by omega) (by omega) (by omega) (by omega) (by omega), mk2 _ (by omega) (by omega) (by omega) (by omega) (by omega) (by omega), mk2 _ (by omega) (by omega) (by omega) (by omega) (by omega) (by omega)]
          exact w8 j hj
      · rw [mk2 _ (by omega) (by omega) (by omega) (by omega) (by omega) (by omega)]; exact b1
      · rw [mk2 _ (by omega) (by omega) (by omega) (by omega) (by omega) (by omega)]; exact b2
      · by_cases e : j = N
        · rw [e, v35]; exact p0
        · rw [mk2 _ (by omega) (by omega) (by omega) (by omega) (by omega) (by omega)]; exact (b4 j hj).1
      · by_cases e : j = N
        · rw [e, v43]; exact p1
        · rw [mk2 _ (by omega) (by omega) (by omega) (by omega) (by omega) (by omega)]; exact (b4 j hj).2
    · have c2 : ¬ n.toInt < 8 := fun q => c (il_iff.mpr q)
      rw [if_neg c] at k1
      rw [if_pos (i_lit (x := 8) (by omega) rfl)] at k2
      simp only [Lt2, Prod.mk.injEq] at k1 k2
      obtain ⟨a1, a2, a3, a4, a5, a6⟩ := k1
      obtain ⟨c1, c3, c4, c5, c6⟩ := k2
      rw [a2, a3, a4, a5, a6, c3, c4, c5, c6]
      exact ⟨(q.no (by decide)).2.2, hq, hr⟩
  · rw [if_neg d1] at k1
    rw [hl.2 ⟨j, j1, j2, by rw [← ed j j2]; exact j3⟩] at k2
    simp only [Lt2, Prod.mk.injEq] at k1 k2
    obtain ⟨a1, a2, a3, a4, a5, a6⟩ := k1
    obtain ⟨c1, c3, c4, c5, c6⟩ := k2
    rw [a2, a3, a4, a5, a6, c3, c4, c5, c6]
    exact ⟨(q.no (by decide)).2.2, hq, hr⟩
