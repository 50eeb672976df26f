/-! tells, a step of the simulation -/
theorem len8 {R : List Int} (h : R.length = 8) : ∃ a b c d e f g i, R = rdL a b c d e f g i := by
  match R, h with
  | [a, b, c, d, e, f, g, i], _ => exact ⟨a, b, c, d, e, f, g, i, rfl⟩
def inTn (tb a : Nat) : Prop := a = 2 ∨ (tb ≤ a ∧ a ≤ tb + 3)
def inMt (a : Nat) : Prop := a = 74 ∨ a = 75 ∨ a = 76 ∨ a = 77 ∨ a = 79 ∨ 81 ≤ a ∧ a ≤ 83
section TLS
variable {H : mH} {tb : Nat} {tx hv R : List Int} {a b c d : Int} {kd wd ht rm mo sd bo : Int} {ed hu sk : List Int} {k' w' ht' rm' mo' sd' bo' x1 x2 x3 x4 : Int} {e' u' s' : List Int}
theorem cS_told (hB : rBase H tb tx) (hT : isTold H tb kd wd ht rm mo sd bo ed hu sk hv) (hO : tOk ((k', w', ht', rm', mo', sd', bo'), (e', u', s'), (x1, x2, x3, x4))) : isTold (cS H tb ((k', w', ht', rm', mo', sd', bo'), (e', u', s'), (x1, x2, x3, x4)) a b c d) tb k' w' ht' rm' mo' sd' bo' e' u' s' hv := by
  obtain ⟨r1, r2, r3, r4, r5, r6, r7, ⟨b1, b2, b3, l1, l2, l3⟩, g1, g2, g3, g4⟩ := hO
  dsimp only at r1 r2 r3 r4 r5 r6 r7 b1 b2 b3 l1 l2 l3
  obtain ⟨t0, t1, t2, t3, t4, ⟨-, -, -, -, -, -, -, -, -, -, m4, n1, n2, n3, n4⟩⟩ := hT
  have h3 := hB.2.2.2.2.2.2.2
  exact ⟨rH_t hB, rH_e hB, rH_u hB, rH_s hB, rH_ne (by omega) (by omega) (by omega) (by omega) (by omega) t4, ⟨r1, r2, r3, r4, r5, r6, r7, b1, b2, b3, m4, l1, l2, l3, n4⟩⟩
theorem cS_fr (hT : isTold H tb kd wd ht rm mo sd bo ed hu sk hv) (h2 : H[2]? = some (3, R)) (hR8 : R.length = 8) (hO : tOk ((k', w', ht', rm', mo', sd', bo'), (e', u', s'), (x1, x2, x3, x4))) : Fr (inTn tb) H (cS H tb ((k', w', ht', rm', mo', sd', bo'), (e', u', s'), (x1, x2, x3, x4)) a b c d) := by
  obtain ⟨-, -, -, -, -, -, -, ⟨-, -, -, l1, l2, l3⟩, -⟩ := hO
  dsimp only at l1 l2 l3
  obtain ⟨t0, t1, t2, t3, t4, ⟨-, -, -, -, -, -, -, -, -, -, m4, n1, n2, n3, n4⟩⟩ := hT
  exact Fr_and (Fr_and (Fr_and (Fr_and (Fr_pt (by unfold inTn; omega) t0 rfl) (by unfold inTn; omega) t1 (by rw [n1]; exact l1)) (by unfold inTn; omega) t2 (by rw [n2]; exact l2)) (by unfold inTn; omega) t3 (by rw [n3]; exact l3)) (by unfold inTn; omega) h2 (by rw [hR8]; rfl)
theorem qH_ne {a : Nat} {c : Option (Nat × List Int)} {Z td ns m : List Int} (h1 : 74 ≠ a) (h2 : 81 ≠ a) (h3 : 82 ≠ a) (h4 : 83 ≠ a) (h : H[a]? = c) : (qH H Z td ns m)[a]? = c := pt_nx h1 (pt_nx h4 (pt_nx h3 (pt_nx h2 h)))
theorem relS_new {ss ns : List Int} (hs : ss.length = 15) (hn : ns.length = 6) (hk : 0 ≤ kd ∧ kd ≤ 6) (h : ∀ k : Int, 0 ≤ k → k < kd → ix ns k = ix sk k) (hb : bet sk 0 9) : relS (ssB ss ns kd) (List.replicate 6 (-9)) sk kd := by
  have hx : ∀ j : Int, 0 ≤ j → j < 9 → ix (ssB ss ns kd) j = -9 := by
    intro j j0 j9
    unfold ssB
    rw [fil_ix (by omega) (by rw [fil_len]; omega) j0, if_neg (by omega), fil_ix (by omega) (by omega) j0, if_pos (by omega)]
  refine ⟨by unfold ssB; rw [fil_len, fil_len]; exact hs, fun i i0 i6 => ?_, fun i i0 i9 => hx i (by omega) i9, fun k k0 k1 => ?_, fun i i0 i6 => Or.inl (ix_rep i0 (by omega)), fun k k0 k1 => ?_⟩
  · rw [hx i i0 (by omega), ix_rep i0 (by omega)]
  · unfold ssB
    rw [fil_ix (by omega) (by rw [fil_len]; omega) (by omega), if_pos (by omega), show (((9 + k - 9).toNat : Nat) : Int) = k by omega, if_pos (by omega)]
    exact h k k0 k1
  · have := hb k
    omega
theorem comb2 {yC yM : Nat} {as : List mV} {v : Int} {H1 H2 : mH} {le un kd wd ht rm mo sd bo : Int} {ed hu bl sl tx kp : List Int} {QB QS IB IS : Nat → List Int} (hp : pur le un kd bl tx kp) (c1 : Call 30 yC (mR 0 :: as) H (mI v) H1) (c2 : Fr inCc H H1) (c3 : cP H1 le un kd wd ht rm mo sd bo ed hu bl sl tx kp QB QS IB IS) (d1 : Call 30 yM (mR 74 :: as) H1 (mI v) H2) (d2 : Fr inMm H1 H2) (d3 : mP H2 le un kd wd ht rm mo sd bo ed hu bl sl tx kp QB QS IB IS) (h74 : ∃ fs, H1[74]? = some (7, fs)) : stpR yC yM as H :=
  ⟨v, H1, H2, c1, d1, ⟨_, _, _, _, _, _, _, _, _, _, _, _, _, _, _, _, _, _, _, hp, cP_fr d2 c3, d3⟩, c2.1, d2.1, h74⟩
theorem s_tells (hS : sim H) : stpR 57 108 [] H := by
  obtain ⟨le, un, kd, wd, ht, rm, mo, sd, bo, ed, hu, bl, sl, tx, kp, QB, QS, IB, IS, hp, hc, hm⟩ := hS
  have hc0 := hc
  have hm0 := hm
  obtain ⟨pe, ta, tb, sk, PB, PS, hR, hab, hpe, h1, ⟨R, h2, hR8⟩, hT, ⟨kz, wz, hz, rz, mz, sz, bz, ez, uz, skz, hvz, hTs⟩, hL, ⟨b6, s6, hL6⟩, hP, hQ, hI, h21, h22, ⟨W, h23, hW⟩, ⟨la, hFS⟩, ⟨kn, us, cu, gv, hC, hk⟩, ⟨fq, h37, hfq⟩⟩ := hc
  have hD := okD_of hT.2.2.2.2.2
  have hta : ta = 3 ∨ ta = 8 := by omega
  have hw := wh_bd hD.2.1.1 hD.2.1.2 hD.2.2.1.1 hD.2.2.1.2
  obtain ⟨n, hn⟩ : ∃ n : Nat, (n : Int) = wd * ht := ⟨(wd * ht).toNat, by omega⟩
  have hB : ∀ j : Nat, j < 6 → ix bl j = -9 ∨ (0 ≤ ix bl j ∧ ix bl j < kd * 4) := fun j hj => hp.2.2.2.2.2 j (by omega) (by omega)
  have hbl := hL.2.2.2.1
  have hsl := hL.2.2.2.2.1
  obtain ⟨p1, p2, p3, p4, p5, p6⟩ := id hp
  obtain ⟨q, hq⟩ : ∃ q : Nat, (q : Int) = le := ⟨le.toNat, by omega⟩
  subst hq
  obtain ⟨nk, ap, nu, me, op, de, fo, bs, bu, td, ss, ps, kt, h74, h75, h76, hrT, h77, hrS, h78, hps, hpq, h79, h80, hkt, hki, h84, ⟨Z, h81, hZ⟩, ⟨t82, h82, h82l⟩, ⟨s83, h83, h83l⟩, ⟨tt, h85, h85l⟩, ⟨A, h86, h86l⟩, ⟨oa, h87, h87l⟩, ⟨tr, h88, h88l⟩, ⟨fi, h89, h89l⟩, ⟨go, h90, h90l⟩, ⟨cu2, h91, h91l⟩, ⟨pc, h92, h92l⟩⟩ := hm
  obtain ⟨y1, y2, y3, y4, y5, y6, y7, y8, rfl⟩ := len8 hR8
  have hBc : rBase H tb tx := ⟨⟨_, hTs.1⟩, ⟨_, hTs.2.1⟩, ⟨_, hTs.2.2.1⟩, ⟨_, hTs.2.2.2.1⟩, ⟨_, h2⟩, h1, p3, by omega⟩
  have hO0 : tOk ((0, 2, 2, -9, 9, 4, 1), (ez, uz, skz), (0, 0, 0, 0)) := by
    obtain ⟨-, -, -, -, -, ⟨-, -, -, -, -, -, -, b1, b2, b3, -, l1, l2, l3, -⟩⟩ := hTs
    exact ⟨by dsimp only; omega, by dsimp only; omega, by dsimp only; omega, by dsimp only; omega, by dsimp only; omega, by dsimp only; omega, by dsimp only; omega, ⟨b1, b2, b3, l1, l2, l3⟩, Or.inl rfl, Or.inl rfl, Or.inl rfl, Or.inl rfl⟩
  have hR0 : tRel ((0, 2, 2, -9, 9, 4, 1), (ez, uz, skz), (0, 0, 0, 0)) t82 s83 := ⟨⟨h82l, fun k h k0 k1 => by dsimp only at k1; omega, fun k k0 k1 => by dsimp only at k1; omega⟩, h83l, fun k k0 k1 => by dsimp only at k1; omega⟩
  have hq120 : q ≤ 120 := by omega
  rcases both (tb := tb) (kd0 := kd) (un := un) (op := op) (de := de) (fo := fo) (bs := bs) (bu := bu) hq120 (fun i => (p4 i).1) q 0 0 ((0, 2, 2, -9, 9, 4, 1), (ez, uz, skz), (0, 0, 0, 0)) t82 s83 (by omega) (by omega) (by omega) hO0 hR0 with ⟨g, hg, hcc, hmm⟩ | ⟨v, S', td', ns', hv, hO', hR', hcc, hmm⟩
  · obtain ⟨⟨⟨k', w', ht', rm', mo', sd', bo'⟩, ⟨e', u', s'⟩, x1, x2, x3, x4⟩, a, c, d, hO', hev⟩ := hcc H (tkN tx q 0 y4) hBc
    have hcall := C_tellsN hR h2 (C_into hBc hTs h2 hq120 hev) (by omega)
    have f1 := cS_fr (a := a) (b := (g : Int)) (c := c) (d := d) hTs h2 hR8 hO'
    have f1c : Fr inCc H (cS H tb ((k', w', ht', rm', mo', sd', bo'), (e', u', s'), (x1, x2, x3, x4)) a (g : Int) c d) := Fr_up f1 (fun a ha => by unfold inTn at ha; unfold inCc; omega)
    have hcP : cP (cS H tb ((k', w', ht', rm', mo', sd', bo'), (e', u', s'), (x1, x2, x3, x4)) a (g : Int) c d) (q : Int) un kd wd ht rm mo sd bo ed hu bl sl tx kp QB QS IB IS := ⟨pe, ta, tb, sk, PB, PS, root_fr f1 hR (by unfold inTn; omega), hab, hpe, (f1.2 1 (by unfold inTn; omega)).trans h1, ⟨_, rH_2 hBc, rfl⟩, told_fr f1 hT (by unfold inTn; omega) (by unfold inTn; omega) (by unfold inTn; omega) (by unfold inTn; omega) (by unfold inTn; omega), ⟨_, _, _, _, _, _, _, _, _, _, _, cS_told hBc hTs hO'⟩, lay_fr f1 hL (by unfold inTn; omega) (by unfold inTn; omega) (by unfold inTn; omega), ⟨b6, s6, lay_fr f1 hL6 (by unfold inTn; omega) (by unfold inTn; omega) (by unfold inTn; omega)⟩, past_fr f1 hP (fun a ha => (by unfold inTn; omega)), hQ, img_fr f1 hI (fun a ha => (by unfold inTn; omega)), (f1.2 21 (by unfold inTn; omega)).trans h21, (f1.2 22 (by unfold inTn; omega)).trans h22, (by obtain ⟨g, g1, g2⟩ := cell_fr f1 h23; exact ⟨g, g1, by omega⟩), ⟨la, fs_fr f1 hFS (fun a ha => (by unfold inTn; omega))⟩, ⟨kn, us, cu, gv, clo_fr f1 hC (fun a ha => (by unfold inTn; omega)), hk⟩, (by obtain ⟨g, g1, g2⟩ := cell_fr f1 h37; exact ⟨g, g1, by omega⟩)⟩
    have hm1 := mP_fr f1c hm0
    have hcell : ∀ j, 74 ≤ j → (cS H tb ((k', w', ht', rm', mo', sd', bo'), (e', u', s'), (x1, x2, x3, x4)) a (g : Int) c d)[j]? = H[j]? := fun j hj => f1c.2 j (by unfold inCc; omega)
    have z74 := (hcell 74 (by omega)).trans h74
    have z81 := (hcell 81 (by omega)).trans h81
    have z82 := (hcell 82 (by omega)).trans h82
    have z83 := (hcell 83 (by omega)).trans h83
    have z84 := (hcell 84 (by omega)).trans h84
    have hBm : qBase (cS H tb ((k', w', ht', rm', mo', sd', bo'), (e', u', s'), (x1, x2, x3, x4)) a (g : Int) c d) tx := ⟨⟨_, z74⟩, ⟨_, z81⟩, ⟨_, z82⟩, ⟨_, z83⟩, z84, p3⟩
    obtain ⟨H2, ⟨Z2, td2, ns2, nk2, ap2, nu2, me2, i1, i2, i3, rfl⟩, hev2⟩ := hmm _ nu hBm
    have hcall2 := M_tells0 hBm z74 z81 z82 z83 hZ hev2
    refine comb2 hp (Call_up hcall (by decide)) f1c hcP (Call_up hcall2 (by decide)) ?_ (mP_sc ?_ hm1 ⟨_, _, _, _, _, _, _, _, _, qH_74 hBm⟩) ⟨_, z74⟩
    · exact Fr_and (Fr_and (Fr_and (Fr_pt (by unfold inMm; omega) z81 (by omega)) (by unfold inMm; omega) z82 (by omega)) (by unfold inMm; omega) z83 (by omega)) (by unfold inMm; omega) z74 rfl
    · exact Fr_and (Fr_and (Fr_and (Fr_pt (by unfold inMy; omega) z81 (by omega)) (by unfold inMy; omega) z82 (by omega)) (by unfold inMy; omega) z83 (by omega)) (by unfold inMy; omega) z74 rfl
  · obtain ⟨⟨k', w', ht', rm', mo', sd', bo'⟩, ⟨e', u', s'⟩, x1, x2, x3, x4⟩ := S'
    obtain ⟨a, b, c, d, hev⟩ := hcc H (tkN tx q 0 y4) hBc
    obtain ⟨H1, hcall, f1, gR, gT, gL, g21, gC, g2⟩ := C_tellsY hR hab hBc h2 hR8 hTs hL h21 p5 hC hO' (C_into hBc hTs h2 hq120 hev) hv
    have f1c : Fr inCc H H1 := Fr_up f1 (fun a ha => by unfold inTl at ha; unfold inCc; omega)
    have hcP : cP H1 0 0 k' w' ht' rm' mo' sd' bo' e' u' (List.replicate 6 (-9)) s' tx [0, 0] QB QS IB IS := ⟨pe, tb, ta, s', PB, PS, gR, (by omega), hpe, (f1.2 1 (by unfold inTl; omega)).trans h1, ⟨_, g2, rfl⟩, gT, ⟨_, _, _, _, _, _, _, _, _, _, _, told_fr f1 hT (by unfold inTl; omega) (by unfold inTl; omega) (by unfold inTl; omega) (by unfold inTl; omega) (by unfold inTl; omega)⟩, gL, ⟨b6, s6, lay_fr f1 hL6 (by unfold inTl; omega) (by unfold inTl; omega) (by unfold inTl; omega)⟩, past_fr f1 hP (fun a ha => (by unfold inTl; omega)), (fun i hi => by omega), img_fr f1 hI (fun a ha => (by unfold inTl; omega)), g21, (f1.2 22 (by unfold inTl; omega)).trans h22, (by obtain ⟨g, g1, g2⟩ := cell_fr f1 h23; exact ⟨g, g1, by omega⟩), ⟨la, fs_fr f1 hFS (fun a ha => (by unfold inTl; omega))⟩, ⟨0, us, cu, gv, gC, Or.inl rfl⟩, (by obtain ⟨g, g1, g2⟩ := cell_fr f1 h37; exact ⟨g, g1, by omega⟩)⟩
    have hcell : ∀ j, 74 ≤ j → H1[j]? = H[j]? := fun j hj => f1c.2 j (by unfold inCc; omega)
    have z74 := (hcell 74 (by omega)).trans h74
    have z75 := (hcell 75 (by omega)).trans h75
    have z76 := (hcell 76 (by omega)).trans h76
    have z77 := (hcell 77 (by omega)).trans h77
    have z79 := (hcell 79 (by omega)).trans h79
    have z81 := (hcell 81 (by omega)).trans h81
    have z82 := (hcell 82 (by omega)).trans h82
    have z83 := (hcell 83 (by omega)).trans h83
    have z84 := (hcell 84 (by omega)).trans h84
    have hBm : qBase H1 tx := ⟨⟨_, z74⟩, ⟨_, z81⟩, ⟨_, z82⟩, ⟨_, z83⟩, z84, p3⟩
    obtain ⟨ap', nu', hfin⟩ := hmm H1 nu hBm
    obtain ⟨o1, o2, o3, o4, o5, o6, o7, ⟨ob1, ob2, ob3, ol1, ol2, ol3⟩, -⟩ := id hO'
    obtain ⟨oT, oN, oS⟩ := hR'
    dsimp only at o1 o2 o3 o4 o5 o6 o7 ob1 ob2 ob3 ol1 ol2 ol3 oT oN oS
    have hbec := M_becomes (H := mQ (kd, un, op, de, fo, bs, bu) q H1 ((k', w', ht', rm', mo', sd', bo'), (e', u', s'), (x1, x2, x3, x4)) td' ns' ap' nu') (qH_74 hBm) (qH_ne (by decide) (by decide) (by decide) (by decide) z75) rfl (qH_ne (by decide) (by decide) (by decide) (by decide) z76) hrT.1 (qH_ne (by decide) (by decide) (by decide) (by decide) z77) hrS.1 (qH_ne (by decide) (by decide) (by decide) (by decide) z79) p5 (qH_81 hBm) rfl (qH_82 hBm) oT.1 (qH_83 hBm) oN
    have hBb : bBase (mQ (kd, un, op, de, fo, bs, bu) q H1 ((k', w', ht', rm', mo', sd', bo'), (e', u', s'), (x1, x2, x3, x4)) td' ns' ap' nu') := ⟨⟨_, qH_74 hBm⟩, ⟨_, qH_ne (by decide) (by decide) (by decide) (by decide) z75⟩, ⟨_, qH_ne (by decide) (by decide) (by decide) (by decide) z76⟩, ⟨_, qH_ne (by decide) (by decide) (by decide) (by decide) z77⟩, ⟨_, qH_ne (by decide) (by decide) (by decide) (by decide) z79⟩⟩
    have hcall2 := M_tells0 hBm z74 z81 z82 z83 hZ (hfin _ _ (M_tellsF (v := v) hBb hbec (qH_74 hBm)))
    have hrel := relS_new hrS.1 oN o1 oS ob3
    have fq : ∀ A : Nat → Prop, A 74 → A 81 → A 82 → A 83 → Fr A H1 (mQ (kd, un, op, de, fo, bs, bu) q H1 ((k', w', ht', rm', mo', sd', bo'), (e', u', s'), (x1, x2, x3, x4)) td' ns' ap' nu') := fun A q1 q2 q3 q4 => Fr_and (Fr_and (Fr_and (Fr_pt q2 z81 (by rw [hZ]; rfl)) q3 z82 (by rw [h82l]; exact oT.1)) q4 z83 (by rw [h83l]; exact oN)) q1 z74 rfl
    have f2 : Fr inMt H1 (bH (mQ (kd, un, op, de, fo, bs, bu) q H1 ((k', w', ht', rm', mo', sd', bo'), (e', u', s'), (x1, x2, x3, x4)) td' ns' ap' nu') (mdL k' 0 k' 0 ap' nu' (metQ x1 x2 x3 x4) op de fo bs bu) [w', ht', rm', mo', sd', bo'] td' (ssB ss ns' k') [0, 0]) := Fr_and (Fr_and (Fr_and (Fr_and (Fr_and (fq inMt (by unfold inMt; omega) (by unfold inMt; omega) (by unfold inMt; omega) (by unfold inMt; omega)) (by unfold inMt; omega) z74 rfl) (by unfold inMt; omega) z75 rfl) (by unfold inMt; omega) z76 (by rw [oT.1, hrT.1])) (by unfold inMt; omega) z77 (by unfold ssB; rw [fil_len, fil_len])) (by unfold inMt; omega) z79 (by rw [p5]; rfl)
    have hmP1 := mP_fr f1c hm0
    have hp' : pur 0 0 k' (List.replicate 6 (-9)) tx [0, 0] := ⟨⟨by omega, by omega⟩, ⟨by omega, by omega⟩, p3, p4, rfl, hrel.2.2.2.2.1⟩
    refine comb2 hp' (Call_up hcall (by decide)) f1c hcP (Call_up hcall2 (by decide)) (Fr_up f2 (fun a ha => by unfold inMt at ha; unfold inMm; omega)) ?_ ⟨_, z74⟩
    have h78 := (hcell 78 (by omega)).trans h78
    have h80 := (hcell 80 (by omega)).trans h80
    have h85 := (hcell 85 (by omega)).trans h85
    have h86 := (hcell 86 (by omega)).trans h86
    have h87 := (hcell 87 (by omega)).trans h87
    have h88 := (hcell 88 (by omega)).trans h88
    have h89 := (hcell 89 (by omega)).trans h89
    have h90 := (hcell 90 (by omega)).trans h90
    have h91 := (hcell 91 (by omega)).trans h91
    have h92 := (hcell 92 (by omega)).trans h92
    exact ⟨k', ap', nu', metQ x1 x2 x3 x4, op, de, fo, bs, bu, td', ssB ss ns' k', ps, kt, bH_74 hBb, bH_75 hBb, bH_76 hBb, oT, bH_77 hBb, hrel, (f2.2 78 (by unfold inMt; omega)).trans h78, hps, (fun i hi => by omega), bH_79 hBb, (f2.2 80 (by unfold inMt; omega)).trans h80, hkt, (fun i hi hne => absurd (by rcases (show i = 0 ∨ i = 1 by omega) with rfl | rfl <;> rfl) hne), (f2.2 84 (by unfold inMt; omega)).trans z84, (by obtain ⟨g, g1, g2⟩ := cell_fr f2 z81; exact ⟨g, g1, by omega⟩), (by obtain ⟨g, g1, g2⟩ := cell_fr f2 z82; exact ⟨g, g1, by omega⟩), (by obtain ⟨g, g1, g2⟩ := cell_fr f2 z83; exact ⟨g, g1, by omega⟩), (by obtain ⟨g, g1, g2⟩ := cell_fr f2 h85; exact ⟨g, g1, by omega⟩), (by obtain ⟨g, g1, g2⟩ := cell_fr f2 h86; exact ⟨g, g1, by omega⟩), (by obtain ⟨g, g1, g2⟩ := cell_fr f2 h87; exact ⟨g, g1, by omega⟩), (by obtain ⟨g, g1, g2⟩ := cell_fr f2 h88; exact ⟨g, g1, by omega⟩), (by obtain ⟨g, g1, g2⟩ := cell_fr f2 h89; exact ⟨g, g1, by omega⟩), (by obtain ⟨g, g1, g2⟩ := cell_fr f2 h90; exact ⟨g, g1, by omega⟩), (by obtain ⟨g, g1, g2⟩ := cell_fr f2 h91; exact ⟨g, g1, by omega⟩), (by obtain ⟨g, g1, g2⟩ := cell_fr f2 h92; exact ⟨g, g1, by omega⟩)⟩
end TLS
