/-! orders(), class and reference -/
theorem isSign_end {x : Int32} {e : Int64} : E_v_isSign x 0 e = 0 := by
  rw [E_v_isSign.eq_def, if_neg (by decide)]
theorem ordl_go {L : Nat} {sta nu lw bro dnv mev ofm : Int32} {val sm : Int64} {ft fw fu fsr fb fub fsb frm : Nat → Int32} {fwd fwe fac fe frs fnw : Nat → Int64} (z0 : KO KM37) {a b : Int32} {e : Int64} {n1 n2 n3 n4 n5 : Int32} {h1 h2 h3 h4 h5 : Nat → Int32} : E_v_orders_l19 sta nu (nI L) lw bro val sm dnv mev ofm ft fwd fwe fac fw fe frs fu fsr fb fnw fub fsb frm z0 a b 0 e (-1) 0 n1 n2 n3 n4 n5 h1 h2 h3 h4 h5 = Lp (α := KMo) (E_v_orders_l140 sta nu frm n1 n2 n3 n4 n5 h1 h2 h3 h4 h5 a b 0 e (-1) 0 (kitf (fun i => 0 + i) (fun i _ => E_v_keepAll 17 fw fu i) fub 496) (kitf (fun i => 0 + i) (fun i _ => fsr i) fsb 16)) zMo (1 + 12 + 1) (nI 0) nu lw bro val sm 0 (-1) ofm fe frs fsr fb fnw fw (E_v_keepAll 17 fw fu) := by
  rw [E_v_orders_l19.eq_def, if_pos rfl, Lt_b, if_neg (by rw [isSign_end]; decide), et_end, Lt2_b, Lt2_b, Lt2_b, Lt2_b, Lt2_b]
  dsimp only
  rw [if_pos rfl, Lt_b]
  generalize E_v_keepAll 17 fw fu = U
  have hB : ∀ (rc : Int32 → (Nat → Int32) → KM37) (i : Nat) (f : Nat → Int32), i < 496 → E_v_orders_l77 sta nu lw bro val sm ofm fw fe frs fsr fb fnw fsb frm n1 n2 n3 n4 n5 h1 h2 h3 h4 h5 a b 0 e (-1) 0 U rc (nI i) f = rc (nI (i + 1)) (upd f (0 + i) (U i)) := fun rc i f hi => by
    rw [E_v_orders_l77.eq_def, if_neg (kn_nlel (j := 496) rfl (by omega) hi), Lt_b, Lt_b, Lt_b, kn_po (by omega), kn_cl (by omega), Nat.zero_add]
  have hC : ∀ (g : Nat → Int32) (rc : Int32 → (Nat → Int32) → KM37) (i : Nat) (f : Nat → Int32), i < 16 → E_v_orders_l104 sta nu lw bro val sm ofm fw fe frs fsr fb fnw frm n1 n2 n3 n4 n5 h1 h2 h3 h4 h5 a b 0 e (-1) 0 U g rc (nI i) f = rc (nI (i + 1)) (upd f (0 + i) (fsr i)) := fun g rc i f hi => by
    rw [E_v_orders_l104.eq_def, if_neg (kn_nlel (j := 16) rfl (by omega) hi), Lt_b, Lt_b, Lt_b, kn_po (by omega), kn_cl (by omega), Nat.zero_add]
  have q := lp_it (d := fun i => 0 + i) (s := fun i _ => U i) hB (fun _ _ => ((0, 0, 0, 0, 0, 0, 0, 0, 0, 0, 0, 0, 0, 0, 0, 0, 0, 0, 0, 0, 0, 0, fun _ => 0, fun _ => 0, fun _ => 0, fun _ => 0, fun _ => 0, fun _ => 0, fun _ => 0, fun _ => 0, fun _ => 0, fun _ => 0, fun _ => 0, fun _ => 0, fun _ => 0, fun _ => 0, fun _ => 0) : KM37)) fub 496 2 0 rfl
  have q2 := lp_it (d := fun i => 0 + i) (s := fun i _ => fsr i) (hC (kitf (fun i => 0 + i) (fun i _ => U i) fub 496)) (fun _ _ => ((0, 0, 0, 0, 0, 0, 0, 0, 0, 0, 0, 0, 0, 0, 0, 0, 0, 0, 0, 0, 0, 0, fun _ => 0, fun _ => 0, fun _ => 0, fun _ => 0, fun _ => 0, fun _ => 0, fun _ => 0, fun _ => 0, fun _ => 0, fun _ => 0, fun _ => 0, fun _ => 0, fun _ => 0, fun _ => 0, fun _ => 0) : KM37)) fsb 16 2 0 rfl
  rw [show ((497 - (0 : Int32).toInt : Int).toNat + 1) = 2 + 496 by decide]
  refine Eq.trans q ?_
  rw [Lp_s, E_v_orders_l77.eq_def, if_pos (kn_lel (j := 496) rfl (by omega) (Nat.le_refl _)), show ((17 - (0 : Int32).toInt : Int).toNat + 1) = 2 + 16 by decide]
  refine Eq.trans q2 ?_
  rw [Lp_s, E_v_orders_l104.eq_def, if_pos (kn_lel (j := 16) rfl (by omega) (Nat.le_refl _)), show ((13 - (0 : Int32).toInt : Int).toNat + 1) = 1 + 12 + 1 by decide]
  rfl
theorem ordl_no {L : Nat} {sta nu lw bro dnv mev ofm : Int32} {val sm : Int64} {ft fw fu fsr fb fub fsb frm : Nat → Int32} {fwd fwe fac fe frs fnw : Nat → Int64} (z0 : KO KM37) {a b c q : Int32} {e : Int64} {n1 n2 n3 n4 n5 : Int32} {h1 h2 h3 h4 h5 : Nat → Int32} : E_v_orders_l19 sta nu (nI L) lw bro val sm dnv mev ofm ft fwd fwe fac fw fe frs fu fsr fb fnw fub fsb frm z0 a b c e q 1 n1 n2 n3 n4 n5 h1 h2 h3 h4 h5 = ((-6, -6, nu, a, b, c, e, q, 1, n1, n2, n3, n4, n5, lw, bro, val, sm, dnv, mev, -1, ofm, h1, h2, h3, h4, h5, fw, fe, frs, fu, fsr, fb, fnw, fub, fsb, upd frm 6 (frm 6 + 1)) : KM37) := by
  rw [E_v_orders_l19.eq_def, if_neg (show ¬ (1 : Int32) = 0 by decide), et_bad, Lt2_b, Lt2_b, Lt2_b, Lt2_b, Lt2_b]
  dsimp only
  rw [if_neg (show ¬ (1 : Int32) = 0 by decide), tell_s (b := 6) (by decide), Lt2_b, Lt2_b]
theorem carry_at {n lt nf fi hea ho dn me xb scl sus dr kp br An Al Af Ai Ah Ao gd gk : Int32} {fx fv fh fc sl fs cw f1 f2 f3 Aa Ab Ac fg : Nat → Int32} {fl Ad : Nat → Option Nat} {G : Nat → LC} : ∃ (u0 u1 u2 uh : Nat → Int32) (u3 : Nat → Option Nat), (∀ j, j < 56 → u0 j = f1 j) ∧ (∀ j, j < 6 → u1 j = f2 j) ∧ (∀ j, j < 6 → u3 j = fl j) ∧ (∀ j, j < 476 → uh j = sl j) ∧ E_w_carryOut G dn me (-1) xb fx fv scl sus fh fc dr kp sl br fs cw n lt nf fi hea ho f1 f2 f3 fl An Al Af Ai Ah Ao Aa Ab Ac Ad gd gk fg = Lp (α := KCo) (E_w_carryOut_l29 G (-1) scl sus fh fc dr kp n lt nf fi hea ho f3 fl u0 u1 u2 u3 uh) zCo (1 + 12 + 1) (nI 0) 0 (-1) xb br fi dr kp fx fv fs cw f1 f2 sl := by
  obtain ⟨b1, b2, b3⟩ := become_at (An := An) (Al := Al) (Af := Af) (Ai := Ai) (Ah := Ah) (Ao := Ao) (Aa := Aa) (Ab := Ab) (Ac := Ac) (Ad := Ad) (Bn := n) (Bl := lt) (Bf := nf) (Bi := fi) (Bh := hea) (Bo := ho) (Ba := f1) (Bb := f2) (Bc := f3) (Bd := fl)
  have b4 := become_laws (An := An) (Al := Al) (Af := Af) (Ai := Ai) (Ah := Ah) (Ao := Ao) (Aa := Aa) (Ab := Ab) (Ac := Ac) (Ad := Ad) (Bn := n) (Bl := lt) (Bf := nf) (Bi := fi) (Bh := hea) (Bo := ho) (Ba := f1) (Bb := f2) (Bc := f3) (Bd := fl)
  have hh := fun (j : Nat) (hj : j < 476) => hbec_at (f := fg) (g := sl) (dr := dr) (kp := kp) hj
  rw [E_w_carryOut.eq_def, show ((13 - (0 : Int32).toInt : Int).toNat + 1) = 1 + 12 + 1 by decide]
  generalize E_w_become An Al Af Ai Ah Ao Aa Ab Ac Ad n lt nf fi hea ho f1 f2 f3 fl = Bc at b1 b2 b3 b4 ⊢
  generalize E_w_hbecome fg dr kp sl = Hb at hh ⊢
  rw [Lt2_b, Lt2_b, Lt2_b, Lt_b]
  exact ⟨_, _, _, _, _, b1, b3, b4, hh, rfl⟩
theorem rel_orders {L : Nat} {rb lwc pa fl0 tf tt ti tu dn me sp xb scl sus dr kp br n lt nf fi hea ho An Al Af Ai Ah Ao gd gk thr sta nu fr to so fau bd ncl nc nl pi opn lw bro dnv mev sto ofm : Int32} {wo val sm : Int64} {frf fbt fx fv fh fc sl fs cw f1 f2 f3 Aa Ab Ac fg ft fo fa fp fq fod fw fu fsr fb fub fsb frm : Nat → Int32} {fwd fwe fac fe frs fnw : Nat → Int64} {fl Ad : Nat → Option Nat} {G : Nat → LC} {r1 : Int32} {rb' : Int32} {frf' : Nat → Int32} {pa' : Int32} {fl' : Int32} {tf' : Int32} {tt' : Int32} {ti' : Int32} {tu' : Int32} {dn1 : Int32} {me1 : Int32} {sp' : Int32} {xb' : Int32} {fx' : Nat → Int32} {fv' : Nat → Int32} {scl' : Int32} {us' : Int32} {fh' : Nat → Int32} {fc' : Nat → Int32} {dr' : Int32} {kp' : Int32} {sl' : Nat → Int32} {br' : Int32} {fs' : Nat → Int32} {cw' : Nat → Int32} {fi' : Int32} {f1' : Nat → Int32} {f2' : Nat → Int32} {f3' : Nat → Int32} {fl1' : Nat → Option Nat} {zn : Int32} {zl : Int32} {zf : Int32} {zi : Int32} {zh : Int32} {zo : Int32} {za : Nat → Int32} {zb : Nat → Int32} {zc : Nat → Int32} {zd : Nat → Option Nat} {zr : Int32} {zk : Int32} {zg : Nat → Int32} {r2 : Int32} {sta' : Int32} {nu' : Int32} {fr' : Int32} {to' : Int32} {so' : Int32} {wo' : Int64} {fau' : Int32} {bd' : Int32} {ncl' : Int32} {nc' : Int32} {nl' : Int32} {pi' : Int32} {op' : Int32} {lw' : Int32} {bro' : Int32} {val' : Int64} {sm' : Int64} {dn2 : Int32} {me2 : Int32} {sto' : Int32} {ofm' : Int32} {fo' : Nat → Int32} {fa' : Nat → Int32} {fp' : Nat → Int32} {fq' : Nat → Int32} {fod' : Nat → Int32} {fw' : Nat → Int32} {fe' : Nat → Int64} {frs' : Nat → Int64} {fu' : Nat → Int32} {fsr' : Nat → Int32} {fb' : Nat → Int32} {fnw' : Nat → Int64} {fub' : Nat → Int32} {fsb' : Nat → Int32} {frm' : Nat → Int32} (k1 : (r1, rb', frf', pa', fl', tf', tt', ti', tu', dn1, me1, sp', xb', fx', fv', scl', us', fh', fc', dr', kp', sl', br', fs', cw', fi', f1', f2', f3', fl1', zn, zl, zf, zi, zh, zo, za, zb, zc, zd, zr, zk, zg) = E_w_orders G rb frf lwc pa fl0 (nI L) tf tt ti tu fbt dn me sp xb fx fv scl sus fh fc dr kp sl br fs cw n lt nf fi hea ho f1 f2 f3 fl An Al Af Ai Ah Ao Aa Ab Ac Ad gd gk fg) (k2 : (r2, sta', nu', fr', to', so', wo', fau', bd', ncl', nc', nl', pi', op', lw', bro', val', sm', dn2, me2, sto', ofm', fo', fa', fp', fq', fod', fw', fe', frs', fu', fsr', fb', fnw', fub', fsb', frm') = E_v_orders thr sta nu (nI L) fr to so wo fau bd ncl nc nl pi opn lw bro val sm dnv mev sto ofm ft fo fa fp fq fwd fwe fod fac fw fe frs fu fsr fb fnw fub fsb frm) (hR : KRy L fbt ft fwd fwe) (hb0 : ∀ j, j < L → 0 ≤ (fbt j).toInt) (hh : ∀ j, j < 4 → (fac j).toInt = kwh 1 j) (h : TW n lt nf fi f1 f2 fl G fw) (hr : HR n dr kp nu sl fu fsr fw) (q : RfR rb sta frf frm) (h3 : ∀ j, j < 24 → f3 j = fw (67 + j)) :
    r1 = r2 ∧ RfR rb' sta' frf' frm' ∧ fl' = fau' ∧ sp' = sto' ∧ TW n lt nf fi' f1' f2' fl1' G fw' ∧ HR n dr' kp' nu' sl' fu' fsr' fw' ∧ ∀ j, j < 4 ∨ 35 ≤ j → fw' j = fw j := by
  have kr := reads_ord (lwc := lwc) (pa := pa) (fl := fl0) (tf := tf) (tt := tt) (ti := ti) (tu := tu) (scl := scl) (us := sus) (fh := fh) (fc := fc) (thr := thr) (sta := sta) (nu := nu) (fr := fr) (to := to) (so := so) (wo := wo) (fau := fau) (bd := bd) (ncl := ncl) (nc := nc) (nl := nl) (pi := pi) (opn := opn) (lw := lw) (bro := bro) (val := val) (sm := sm) (dn := dnv) (me := mev) (sto := sto) (ofm := ofm) (fo := fo) (fa := fa) (fp := fp) (fq := fq) (fod := fod) (fw := fw) (fe := fe) (frs := frs) (fu := fu) (fs := fsr) (fb2 := fb) (fnw := fnw) (fub := fub) (fsb := fsb) (frf := frm) hR hb0 hh (fun _ _ _ _ _ _ _ _ _ _ _ _ _ _ _ _ => ((0, 0, 0, 0, 0, 0, 0, 0, 0, 0, 0, 0, 0, 0, 0, 0, 0, 0, 0, 0, 0, 0, fun _ => 0, fun _ => 0, fun _ => 0, fun _ => 0, fun _ => 0, fun _ => 0, fun _ => 0, fun _ => 0, fun _ => 0, fun _ => 0, fun _ => 0, fun _ => 0, fun _ => 0, fun _ => 0, fun _ => 0) : KM37))
  rw [← k2] at kr
  rw [E_w_orders.eq_def] at k1
  generalize E_w_reads 0 lwc pa fl0 (nI L) tf tt ti tu fbt scl sus fh fc = r at k1 kr
  rcases kr with ⟨n1, qq, a, b, c, e, m1, m2, m3, m4, m5, x1, x2, x3, x4, x5, n2, eqx⟩ | ⟨cn, us1, nc1, nl1, t1, t2, t3, t4, a, b, c, e, pi1, op1, fh1, fc1, fo1, fa1, fp1, fq1, fod1, e1, e2, e3, e4, e5⟩
  · rw [ordl_no] at eqx
    rw [Lt2_b, Lt2_b, Lt2_b, Lt2_b, Lt2_b, Lt2_b, Lt2_b, Lt2_b, Lt2_b, Lt2_b, if_pos n1, refuse_b (a := 4) (b := 6) (by decide), Lt2_b] at k1
    simp only [Prod.mk.injEq] at k1 eqx
    obtain ⟨c0, c1, c2, c3, c4, c5, c6, c7, c8, c9, c10, c11, c12, c13, c14, c15, c16, c17, c18, c19, c20, c21, c22, c23, c24, c25, c26, c27, c28, c29, c30, c31, c32, c33, c34, c35, c36, c37, c38, c39, c40, c41, c42⟩ := k1
    obtain ⟨d0, d1, d2, d3, d4, d5, d6, d7, d8, d9, d10, d11, d12, d13, d14, d15, d16, d17, d18, d19, d20, d21, d22, d23, d24, d25, d26, d27, d28, d29, d30, d31, d32, d33, d34, d35, d36⟩ := eqx
    have g := q.no (x := -6) (by decide)
    rw [refuse_b (a := 4) (b := 6) (by decide), tell_s (b := 6) (by decide)] at g
    rw [c0, c1, c2, c4, c11, c25, c26, c27, c29, c19, c20, c21, d0, d1, d36, d7, d20, d27, d2, d30, d31]
    exact ⟨rfl, g.2.2, n2, rfl, h, hr, fun _ _ => rfl⟩
  · subst e1 e3
    rw [ordl_go] at e2
    obtain ⟨u0, u1, u2, uh, u3, v1, v2, v3, v4, v5⟩ := carry_at (n := n) (lt := lt) (nf := nf) (fi := fi) (hea := hea) (ho := ho) (dn := dn) (me := me) (xb := xb) (scl := nI cn) (sus := nI us1) (dr := dr) (kp := kp) (br := br) (An := An) (Al := Al) (Af := Af) (Ai := Ai) (Ah := Ah) (Ao := Ao) (gd := gd) (gk := gk) (fx := fx) (fv := fv) (fh := fh1) (fc := fc1) (sl := sl) (fs := fs) (cw := cw) (f1 := f1) (f2 := f2) (f3 := f3) (Aa := Aa) (Ab := Ab) (Ac := Ac) (fg := fg) (fl := fl) (Ad := Ad) (G := G)
    have ka := fun j => keepAll_at (k := 17) (by omega) (fw := fw) (fu := fu) j
    have ou := co_out (fuS := E_v_keepAll 17 fw fu) (sta := sta) (nc' := nI nc1) (nl := nI nl1) (pi := pi1) (op := op1) (fr := a) (to := b) (so := 0) (wo := e) (fau := -1) (bd := 0) (hea := hea) (ho := ho) (sus := nI us1) (u2 := u2) (fp := fp1) (fq := fq1) (frm := frm) (fub := kitf (fun i => 0 + i) (fun i _ => E_v_keepAll 17 fw fu i) fub 496) (fsb := kitf (fun i => 0 + i) (fun i _ => fsr i) fsb 16) h hr v1 v2 v3 v4 (fun j hj => by rw [kitf_cp, if_pos (by omega), Nat.sub_zero, show (17 : Int32) = nI 17 from rfl, ka, if_neg (by omega)]) (fun j hj => by rw [kitf_cp, if_pos (by omega), Nat.sub_zero]) (fun j hj => by rw [show (17 : Int32) = nI 17 from rfl, ka, if_pos (by omega)]; exact congrArg fw (by omega)) h3 e4.2.2.1 e4.2.2.2.1 e4.2.1 e5 cn 0 (13 - cn) (13 - cn) (by omega) 0 (-1) xb br fi dr kp fx fv fs cw f1 f2 sl nu lw bro val sm ofm fe frs fsr fb fnw fw (E_v_keepAll 17 fw fu) ⟨h, hr.keep (fun j hj => by rw [show (17 : Int32) = nI 17 from rfl, ka, if_neg (by omega)]) (fun _ _ => rfl) (fun _ _ _ => rfl), by decide, by decide, fun _ _ => rfl, fun _ _ => rfl⟩
    rw [show 13 - cn + cn + 1 = 1 + 12 + 1 by have := e4.2.1; omega, ← v5, ← e2] at ou
    rw [Lt2_b, Lt2_b, Lt2_b, Lt2_b, Lt2_b, Lt2_b, Lt2_b, Lt2_b, Lt2_b, Lt2_b] at k1
    dsimp only at k1
    rw [if_neg (show ¬ (1 : Int32) = 0 by decide)] at k1
    generalize E_w_carryOut G dn me (-1) xb fx fv (nI cn) (nI us1) fh1 fc1 dr kp sl br fs cw n lt nf fi hea ho f1 f2 f3 fl An Al Af Ai Ah Ao Aa Ab Ac Ad gd gk fg = CC at k1 ou
    obtain ⟨C0, C1, C2, C3, C4, C5, C6, C7, C8, C9, C10, C11, C12, C13, C14, C15, C16, C17, C18, C19, C20, C21, C22⟩ := CC
    rw [Lt2_b, Lt2_b, Lt2_b, Lt2_b, Lt2_b, Lt2_b, Lt2_b, Lt2_b, Lt2_b, Lt2_b, Lt2_b, Lt2_b, Lt2_b, Lt2_b, Lt2_b, Lt2_b, Lt2_b, Lt2_b, Lt2_b, Lt2_b, Lt2_b, Lt2_b] at k1
    dsimp only at k1
    obtain ⟨o1, o2, o3, o4, o5, o6, o7⟩ := ou
    dsimp only at o1 o2 o3 o4 o5 o6 o7
    rcases o4 with ⟨p1, p2, p3⟩ | ⟨p1, p2, p3⟩
    · rw [if_pos (show (0 : Int32) ≤ C0 from ie_iff.mpr p1), Lt_b, E_w_accept.eq_def] at k1
      simp only [Prod.mk.injEq] at k1
      obtain ⟨c0, c1, c2, c3, c4, c5, c6, c7, c8, c9, c10, c11, c12, c13, c14, c15, c16, c17, c18, c19, c20, c21, c22, c23, c24, c25, c26, c27, c28, c29, c30, c31, c32, c33, c34, c35, c36, c37, c38, c39, c40, c41, c42⟩ := k1
      rw [c0, c1, c2, c4, c11, c25, c26, c27, c29, c19, c20, c21]
      refine ⟨o1, ?_, o3.symm, o2, o5, o6, o7⟩
      rw [p2, p3]; exact q.ok
    · rw [if_neg (show ¬ (0 : Int32) ≤ C0 by rw [p1]; decide), p1, refuse_s (a := 2) (b := 3) (by decide), Lt2_b] at k1
      simp only [Prod.mk.injEq] at k1
      obtain ⟨c0, c1, c2, c3, c4, c5, c6, c7, c8, c9, c10, c11, c12, c13, c14, c15, c16, c17, c18, c19, c20, c21, c22, c23, c24, c25, c26, c27, c28, c29, c30, c31, c32, c33, c34, c35, c36, c37, c38, c39, c40, c41, c42⟩ := k1
      have g := q.no (x := -3) (by decide)
      rw [refuse_s (a := 2) (b := 3) (by decide), tell_s (b := 3) (by decide)] at g
      rw [tell_s (b := 3) (by decide)] at p2 p3
      rw [c0, c1, c2, c4, c11, c25, c26, c27, c29, c19, c20, c21]
      refine ⟨p1.symm.trans o1, ?_, o3.symm, o2, o5, o6, o7⟩
      rw [p2, p3]; exact g.2.2
