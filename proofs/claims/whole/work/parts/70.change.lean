/-! the calls that change -/
def updF (f : Nat → List Int) (k : Nat) (v : List Int) : Nat → List Int := fun i => if i = k then v else f i
/-- the past, once more told; the oldest first -/
def shQ (f : Nat → List Int) (un : Int) (v : List Int) : Nat → List Int := fun i => if (i : Int) = min (un + 1) 10 - 1 then v else f (i + (un + 1 - min (un + 1) 10).toNat)
def inK0 (a : Nat) : Prop := a = 0
def inK1 (a : Nat) : Prop := a = 0 ∨ a = 1
def inRm (a : Nat) : Prop := a = 0 ∨ a = 14 ∨ a = 15 ∨ 38 ≤ a ∧ a ≤ 67
def inKp (a : Nat) : Prop := a = 21 ∨ 68 ≤ a ∧ a ≤ 73
def inM1 (a : Nat) : Prop := a = 74 ∨ a = 84
def inMd (a : Nat) : Prop := a = 74 ∨ a = 77 ∨ a = 78 ∨ a = 85
def inMk (a : Nat) : Prop := a = 79 ∨ a = 80
section CHG
variable {H : mH}
theorem okB_rep : okB (List.replicate 6 (-9)) := by
  intro i
  by_cases e : i.toNat < 6
  · refine Or.inl ?_
    unfold ix
    rw [List.getD_eq_getElem?_getD, List.getElem?_replicate, if_pos e]
    rfl
  · refine Or.inr ?_
    unfold ix
    rw [List.getD_eq_getElem?_getD, List.getElem?_replicate, if_neg e]
    decide
theorem okK_up {bl : List Int} {kd s b : Int} (h : ∀ i : Int, 0 ≤ i → i < 6 → ix bl i = -9 ∨ (0 ≤ ix bl i ∧ ix bl i < kd * 4)) (hl : bl.length = 6) (hs : 0 ≤ s ∧ s < 6) (hb : b = -9 ∨ (0 ≤ b ∧ b < kd * 4)) : ∀ i : Int, 0 ≤ i → i < 6 → ix (up bl s b) i = -9 ∨ (0 ≤ ix (up bl s b) i ∧ ix (up bl s b) i < kd * 4) := by
  intro i i0 i6
  rw [ix_up hs.1 (by omega) i0]
  split
  · exact hb
  · exact h i i0 i6
theorem tm10 {x : Int} (h : 0 ≤ x) : x.tmod 10 = x % 10 := Int.tmod_eq_emod_of_nonneg h
theorem past_rem {PB PS : Nat → List Int} {le pe un : Int} {ta tb : Nat} {bl sl : List Int} (hP : isPast H PB PS) (hL : isLay H 13 bl sl) (hpe : 0 ≤ pe ∧ pe < 10) : isPast (remH H pe un le ta tb bl sl) (updF PB pe.toNat bl) (updF PS pe.toNat sl) := by
  unfold remH pastA
  refine ⟨pt_nx (by omega) (pt_nx (by omega) (pt_nx (by omega) hP.1)), fun i hi => ?_⟩
  unfold updF
  by_cases e : i = pe.toNat
  · rw [if_pos e, if_pos e]
    subst e
    exact lay_keep (lay_s (lay_b (hP.2 _ hi) hL.2.2.2.1 hL.2.2.2.2.2.1) hL.2.2.2.2.1 hL.2.2.2.2.2.2) (by omega)
  · rw [if_neg e, if_neg e]
    exact lay_keep (lay_keep (lay_keep (hP.2 _ hi) (by omega)) (by omega)) (by omega)
theorem q_rem {PB PS QB QS : Nat → List Int} {pe un : Int} {bl sl : List Int} (hpe : 0 ≤ pe ∧ pe < 10) (hun : 0 ≤ un ∧ un ≤ 10) (hQ : ∀ i : Nat, (i : Int) < un → QB i = PB ((pe + 10 - un + i).tmod 10).toNat ∧ QS i = PS ((pe + 10 - un + i).tmod 10).toNat) : ∀ i : Nat, (i : Int) < min (un + 1) 10 → shQ QB un bl i = updF PB pe.toNat bl (((pe + 1).tmod 10 + 10 - min (un + 1) 10 + i).tmod 10).toNat ∧ shQ QS un sl i = updF PS pe.toNat sl (((pe + 1).tmod 10 + 10 - min (un + 1) 10 + i).tmod 10).toNat := by
  intro i hi
  have e1 := tm10 (x := pe + 1) (by omega)
  have e2 := tm10 (x := (pe + 1).tmod 10 + 10 - min (un + 1) 10 + i) (by omega)
  unfold shQ updF
  by_cases e : (i : Int) = min (un + 1) 10 - 1
  · rw [if_pos e, if_pos e, if_pos (by omega), if_pos (by omega)]
    exact ⟨rfl, rfl⟩
  · rw [if_neg e, if_neg e, if_neg (by omega), if_neg (by omega)]
    have h := hQ (i + (un + 1 - min (un + 1) 10).toNat) (by omega)
    have e3 := tm10 (x := pe + 10 - un + ((i + (un + 1 - min (un + 1) 10).toNat : Nat) : Int)) (by omega)
    have e4 : ((pe + 10 - un + ((i + (un + 1 - min (un + 1) 10).toNat : Nat) : Int)).tmod 10).toNat = (((pe + 1).tmod 10 + 10 - min (un + 1) 10 + i).tmod 10).toNat := by omega
    rw [e4] at h
    exact h
theorem p_rem {QB QS : Nat → List Int} {kd un : Int} {bl sl ps ps2 ss : List Int} (hun : 0 ≤ un ∧ un ≤ 10) (hN : notR ps ps2 ss un) (hrS : relS ss bl sl kd) (hpq : ∀ i : Nat, (i : Int) < un → relS (sli ps (15 * (i : Int))) (QB i) (QS i) kd) : ∀ i : Nat, (i : Int) < min (un + 1) 10 → relS (sli ps2 (15 * (i : Int))) (shQ QB un bl i) (shQ QS un sl i) kd := by
  intro i hi
  obtain ⟨n1, n2, n3⟩ := hN
  unfold shQ
  by_cases e : (i : Int) = min (un + 1) 10 - 1
  · rw [if_pos e, if_pos e, e, n3]
    exact hrS
  · rw [if_neg e, if_neg e, n2 i (by omega) (by omega)]
    have h := hpq (i + (un + 1 - min (un + 1) 10).toNat) (by omega)
    rw [show (((i + (un + 1 - min (un + 1) 10).toNat : Nat) : Int)) = (i : Int) + (un + 1 - min (un + 1) 10) by omega] at h
    exact h
theorem rem_fr {PB PS : Nat → List Int} {le pe un : Int} {ta tb : Nat} {bl sl : List Int} (hR : isRoot H le ta tb pe un) (hP : isPast H PB PS) (hL : isLay H 13 bl sl) (hpe : 0 ≤ pe ∧ pe < 10) : Fr inRm H (remH H pe un le ta tb bl sl) := by
  have h := hP.2 pe.toNat (by omega)
  unfold remH pastA
  exact Fr_and (Fr_and (Fr_pt (by unfold inRm; omega) h.2.1 (by rw [h.2.2.2.1, hL.2.2.2.1])) (by unfold inRm; omega) h.2.2.1 (by rw [h.2.2.2.2.1, hL.2.2.2.2.1])) (by unfold inRm; omega) hR rfl
theorem s_type (hS : sim H) {x : Int} : stpR 55 101 [mI x] H := by
  obtain ⟨le, un, kd, wd, ht, rm, mo, sd, bo, ed, hu, bl, sl, tx, kp, QB, QS, IB, IS, hp, hc, hm⟩ := hS
  have hc0 := hc
  have hm0 := hm
  obtain ⟨pe, ta, tb, sk, PB, PS, hR, hab, hpe, h1, ⟨R, h2, hR8⟩, hT, ⟨kz, wz, hz, rz, mz, sz, bz, ez, uz, skz, hvz, hTs⟩, hL, ⟨b6, s6, hL6⟩, hP, hQ, hI, h21, h22, ⟨W, h23, hW⟩, ⟨la, hFS⟩, ⟨kn, us, cu, gv, hC, hk⟩, ⟨fq, h37, hfq⟩⟩ := hc
  have hD := okD_of hT.2.2.2.2.2
  have hta : ta = 3 ∨ ta = 8 := by omega
  have hw := wh_bd hD.2.1.1 hD.2.1.2 hD.2.2.1.1 hD.2.2.1.2
  obtain ⟨n, hn⟩ : ∃ n : Nat, (n : Int) = wd * ht := ⟨(wd * ht).toNat, by omega⟩
  have hB : ∀ j : Nat, j < 6 → ix bl j = -9 ∨ (0 ≤ ix bl j ∧ ix bl j < kd * 4) := fun j hj => hp.2.2.2.2.2 j (by omega) (by omega)
  have hbl := hL.2.2.2.1
  have hsl := hL.2.2.2.2.1
  obtain ⟨p1, p2, p3, p4, p5, p6⟩ := id hp
  by_cases hg : (0 ≤ x ∧ x ≤ 255) ∧ le < 120
  · have f1 : Fr inK1 H (pt (pt H 1 (up tx le x)) 0 (rootL (le + 1) ta tb pe un)) := Fr_and (Fr_pt (by unfold inK1; omega) h1 (up_len _ _ _)) (by unfold inK1; omega) hR rfl
    refine comb (le' := le + 1) (un' := un) (kd' := kd) (wd' := wd) (ht' := ht) (rm' := rm) (mo' := mo) (sd' := sd) (bo' := bo) (ed' := ed) (hu' := hu) (bl' := bl) (sl' := sl) (tx' := up tx le x) (kp' := kp) (QB' := QB) (QS' := QS) (IB' := IB) (IS' := IS) ⟨⟨by omega, by omega⟩, p2, by rw [up_len]; exact p3, bet_up p4 p1.1 (by omega) (by omega), p5, p6⟩ ⟨_, Call_up (C_type hR hT hL hg.1 ⟨p1.1, hg.2⟩ h1 p3) (by decide), (Fr_up f1 (fun a ha => by unfold inK1 at ha; unfold inCc; omega)), ?_⟩ hm0 (fun H1 hm1 => ?_)
    · exact ⟨pe, ta, tb, sk, PB, PS, root_new (root_keep hR (by decide)), hab, hpe, pt_nx (by decide) (pt_self h1), ⟨R, (f1.2 2 (by unfold inK1; omega)).trans h2, hR8⟩, told_fr f1 hT (by unfold inK1; omega) (by unfold inK1; omega) (by unfold inK1; omega) (by unfold inK1; omega) (by unfold inK1; omega), ⟨kz, wz, hz, rz, mz, sz, bz, ez, uz, skz, hvz, told_fr f1 hTs (by unfold inK1; omega) (by unfold inK1; omega) (by unfold inK1; omega) (by unfold inK1; omega) (by unfold inK1; omega)⟩, lay_fr f1 hL (by unfold inK1; omega) (by unfold inK1; omega) (by unfold inK1; omega), ⟨b6, s6, lay_fr f1 hL6 (by unfold inK1; omega) (by unfold inK1; omega) (by unfold inK1; omega)⟩, past_fr f1 hP (fun a ha => (by unfold inK1; omega)), hQ, img_fr f1 hI (fun a ha => (by unfold inK1; omega)), (f1.2 21 (by unfold inK1; omega)).trans h21, (f1.2 22 (by unfold inK1; omega)).trans h22, (by obtain ⟨g, g1, g2⟩ := cell_fr f1 h23; exact ⟨g, g1, by omega⟩), ⟨la, fs_fr f1 hFS (fun a ha => (by unfold inK1; omega))⟩, ⟨kn, us, cu, gv, clo_fr f1 hC (fun a ha => (by unfold inK1; omega)), hk⟩, (by obtain ⟨g, g1, g2⟩ := cell_fr f1 h37; exact ⟨g, g1, by omega⟩)⟩
    · have hm10 := hm1
      obtain ⟨nk, ap, nu, me, op, de, fo, bs, bu, td, ss, ps, kt, h74, h75, h76, hrT, h77, hrS, h78, hps, hpq, h79, h80, hkt, hki, h84, ⟨Z, h81, hZ⟩, ⟨t82, h82, h82l⟩, ⟨s83, h83, h83l⟩, ⟨tt, h85, h85l⟩, ⟨A, h86, h86l⟩, ⟨oa, h87, h87l⟩, ⟨tr, h88, h88l⟩, ⟨fi, h89, h89l⟩, ⟨go, h90, h90l⟩, ⟨cu2, h91, h91l⟩, ⟨pc, h92, h92l⟩⟩ := hm1
      have f2 : Fr inM1 H1 (pt (pt H1 84 (up tx le x)) 74 (mdL kd un nk (le + 1) ap nu me op de fo bs bu)) := Fr_and (Fr_pt (by unfold inM1; omega) h84 (up_len _ _ _)) (by unfold inM1; omega) h74 rfl
      exact ⟨_, Call_up (M_type h74 hD hg.1 ⟨p1.1, hg.2⟩ h84 p3) (by decide), (Fr_up f2 (fun a ha => by unfold inM1 at ha; unfold inMm; omega)), ⟨nk, ap, nu, me, op, de, fo, bs, bu, td, ss, ps, kt, pt_self (pt_nx (by decide) h74), (f2.2 75 (by unfold inM1; omega)).trans h75, (f2.2 76 (by unfold inM1; omega)).trans h76, hrT, (f2.2 77 (by unfold inM1; omega)).trans h77, hrS, (f2.2 78 (by unfold inM1; omega)).trans h78, hps, hpq, (f2.2 79 (by unfold inM1; omega)).trans h79, (f2.2 80 (by unfold inM1; omega)).trans h80, hkt, hki, pt_nx (by decide) (pt_self h84), (by obtain ⟨g, g1, g2⟩ := cell_fr f2 h81; exact ⟨g, g1, by omega⟩), (by obtain ⟨g, g1, g2⟩ := cell_fr f2 h82; exact ⟨g, g1, by omega⟩), (by obtain ⟨g, g1, g2⟩ := cell_fr f2 h83; exact ⟨g, g1, by omega⟩), (by obtain ⟨g, g1, g2⟩ := cell_fr f2 h85; exact ⟨g, g1, by omega⟩), (by obtain ⟨g, g1, g2⟩ := cell_fr f2 h86; exact ⟨g, g1, by omega⟩), (by obtain ⟨g, g1, g2⟩ := cell_fr f2 h87; exact ⟨g, g1, by omega⟩), (by obtain ⟨g, g1, g2⟩ := cell_fr f2 h88; exact ⟨g, g1, by omega⟩), (by obtain ⟨g, g1, g2⟩ := cell_fr f2 h89; exact ⟨g, g1, by omega⟩), (by obtain ⟨g, g1, g2⟩ := cell_fr f2 h90; exact ⟨g, g1, by omega⟩), (by obtain ⟨g, g1, g2⟩ := cell_fr f2 h91; exact ⟨g, g1, by omega⟩), (by obtain ⟨g, g1, g2⟩ := cell_fr f2 h92; exact ⟨g, g1, by omega⟩)⟩⟩
  · obtain ⟨r, hr⟩ : ∃ r : Int, (¬ (0 ≤ x ∧ x ≤ 255) → r = -1) ∧ ((0 ≤ x ∧ x ≤ 255) → r = -3) := by
      by_cases c0 : ¬ (0 ≤ x ∧ x ≤ 255)
      · exact ⟨-1, by refine ⟨?_, ?_⟩ <;> intro z <;> first | rfl | (exfalso; omega)⟩
      exact ⟨-3, by refine ⟨?_, ?_⟩ <;> intro z <;> first | rfl | (exfalso; omega)⟩
    refine comb hp (ro_c hc0 (C_type_no hR hT hL hr (by omega)) (by decide)) hm0 (fun H1 hm1 => ?_)
    have hm10 := hm1
    obtain ⟨nk, ap, nu, me, op, de, fo, bs, bu, td, ss, ps, kt, h74, h75, h76, hrT, h77, hrS, h78, hps, hpq, h79, h80, hkt, hki, h84, ⟨Z, h81, hZ⟩, ⟨t82, h82, h82l⟩, ⟨s83, h83, h83l⟩, ⟨tt, h85, h85l⟩, ⟨A, h86, h86l⟩, ⟨oa, h87, h87l⟩, ⟨tr, h88, h88l⟩, ⟨fi, h89, h89l⟩, ⟨go, h90, h90l⟩, ⟨cu2, h91, h91l⟩, ⟨pc, h92, h92l⟩⟩ := hm1
    exact ro_m hm10 (M_type_no h74 hD hr (by omega)) (by decide)
theorem s_clear (hS : sim H) : stpR 56 102 [] H := by
  obtain ⟨le, un, kd, wd, ht, rm, mo, sd, bo, ed, hu, bl, sl, tx, kp, QB, QS, IB, IS, hp, hc, hm⟩ := hS
  have hc0 := hc
  have hm0 := hm
  obtain ⟨pe, ta, tb, sk, PB, PS, hR, hab, hpe, h1, ⟨R, h2, hR8⟩, hT, ⟨kz, wz, hz, rz, mz, sz, bz, ez, uz, skz, hvz, hTs⟩, hL, ⟨b6, s6, hL6⟩, hP, hQ, hI, h21, h22, ⟨W, h23, hW⟩, ⟨la, hFS⟩, ⟨kn, us, cu, gv, hC, hk⟩, ⟨fq, h37, hfq⟩⟩ := hc
  have hD := okD_of hT.2.2.2.2.2
  have hta : ta = 3 ∨ ta = 8 := by omega
  have hw := wh_bd hD.2.1.1 hD.2.1.2 hD.2.2.1.1 hD.2.2.1.2
  obtain ⟨n, hn⟩ : ∃ n : Nat, (n : Int) = wd * ht := ⟨(wd * ht).toNat, by omega⟩
  have hB : ∀ j : Nat, j < 6 → ix bl j = -9 ∨ (0 ≤ ix bl j ∧ ix bl j < kd * 4) := fun j hj => hp.2.2.2.2.2 j (by omega) (by omega)
  have hbl := hL.2.2.2.1
  have hsl := hL.2.2.2.2.1
  obtain ⟨p1, p2, p3, p4, p5, p6⟩ := id hp
  have f1 : Fr inK0 H (pt H 0 (rootL 0 ta tb pe un)) := Fr_pt (by unfold inK0; omega) hR rfl
  refine comb (le' := 0) (un' := un) (kd' := kd) (wd' := wd) (ht' := ht) (rm' := rm) (mo' := mo) (sd' := sd) (bo' := bo) (ed' := ed) (hu' := hu) (bl' := bl) (sl' := sl) (tx' := tx) (kp' := kp) (QB' := QB) (QS' := QS) (IB' := IB) (IS' := IS) ⟨⟨by omega, by omega⟩, p2, p3, p4, p5, p6⟩ ⟨_, Call_up (C_clear hR hT hL) (by decide), (Fr_up f1 (fun a ha => by unfold inK0 at ha; unfold inCc; omega)), ?_⟩ hm0 (fun H1 hm1 => ?_)
  · exact ⟨pe, ta, tb, sk, PB, PS, root_new hR, hab, hpe, (f1.2 1 (by unfold inK0; omega)).trans h1, ⟨R, (f1.2 2 (by unfold inK0; omega)).trans h2, hR8⟩, told_fr f1 hT (by unfold inK0; omega) (by unfold inK0; omega) (by unfold inK0; omega) (by unfold inK0; omega) (by unfold inK0; omega), ⟨kz, wz, hz, rz, mz, sz, bz, ez, uz, skz, hvz, told_fr f1 hTs (by unfold inK0; omega) (by unfold inK0; omega) (by unfold inK0; omega) (by unfold inK0; omega) (by unfold inK0; omega)⟩, lay_fr f1 hL (by unfold inK0; omega) (by unfold inK0; omega) (by unfold inK0; omega), ⟨b6, s6, lay_fr f1 hL6 (by unfold inK0; omega) (by unfold inK0; omega) (by unfold inK0; omega)⟩, past_fr f1 hP (fun a ha => (by unfold inK0; omega)), hQ, img_fr f1 hI (fun a ha => (by unfold inK0; omega)), (f1.2 21 (by unfold inK0; omega)).trans h21, (f1.2 22 (by unfold inK0; omega)).trans h22, (by obtain ⟨g, g1, g2⟩ := cell_fr f1 h23; exact ⟨g, g1, by omega⟩), ⟨la, fs_fr f1 hFS (fun a ha => (by unfold inK0; omega))⟩, ⟨kn, us, cu, gv, clo_fr f1 hC (fun a ha => (by unfold inK0; omega)), hk⟩, (by obtain ⟨g, g1, g2⟩ := cell_fr f1 h37; exact ⟨g, g1, by omega⟩)⟩
  · have hm10 := hm1
    obtain ⟨nk, ap, nu, me, op, de, fo, bs, bu, td, ss, ps, kt, h74, h75, h76, hrT, h77, hrS, h78, hps, hpq, h79, h80, hkt, hki, h84, ⟨Z, h81, hZ⟩, ⟨t82, h82, h82l⟩, ⟨s83, h83, h83l⟩, ⟨tt, h85, h85l⟩, ⟨A, h86, h86l⟩, ⟨oa, h87, h87l⟩, ⟨tr, h88, h88l⟩, ⟨fi, h89, h89l⟩, ⟨go, h90, h90l⟩, ⟨cu2, h91, h91l⟩, ⟨pc, h92, h92l⟩⟩ := hm1
    have f2 : Fr inM1 H1 (pt H1 74 (mdL kd un nk 0 ap nu me op de fo bs bu)) := Fr_pt (by unfold inM1; omega) h74 rfl
    exact ⟨_, Call_up (M_clear h74 hD) (by decide), (Fr_up f2 (fun a ha => by unfold inM1 at ha; unfold inMm; omega)), ⟨nk, ap, nu, me, op, de, fo, bs, bu, td, ss, ps, kt, pt_self h74, (f2.2 75 (by unfold inM1; omega)).trans h75, (f2.2 76 (by unfold inM1; omega)).trans h76, hrT, (f2.2 77 (by unfold inM1; omega)).trans h77, hrS, (f2.2 78 (by unfold inM1; omega)).trans h78, hps, hpq, (f2.2 79 (by unfold inM1; omega)).trans h79, (f2.2 80 (by unfold inM1; omega)).trans h80, hkt, hki, pt_nx (by decide) h84, (by obtain ⟨g, g1, g2⟩ := cell_fr f2 h81; exact ⟨g, g1, by omega⟩), (by obtain ⟨g, g1, g2⟩ := cell_fr f2 h82; exact ⟨g, g1, by omega⟩), (by obtain ⟨g, g1, g2⟩ := cell_fr f2 h83; exact ⟨g, g1, by omega⟩), (by obtain ⟨g, g1, g2⟩ := cell_fr f2 h85; exact ⟨g, g1, by omega⟩), (by obtain ⟨g, g1, g2⟩ := cell_fr f2 h86; exact ⟨g, g1, by omega⟩), (by obtain ⟨g, g1, g2⟩ := cell_fr f2 h87; exact ⟨g, g1, by omega⟩), (by obtain ⟨g, g1, g2⟩ := cell_fr f2 h88; exact ⟨g, g1, by omega⟩), (by obtain ⟨g, g1, g2⟩ := cell_fr f2 h89; exact ⟨g, g1, by omega⟩), (by obtain ⟨g, g1, g2⟩ := cell_fr f2 h90; exact ⟨g, g1, by omega⟩), (by obtain ⟨g, g1, g2⟩ := cell_fr f2 h91; exact ⟨g, g1, by omega⟩), (by obtain ⟨g, g1, g2⟩ := cell_fr f2 h92; exact ⟨g, g1, by omega⟩)⟩⟩
theorem s_lays (hS : sim H) {s b : Int} : stpR 60 125 [mI s, mI b] H := by
  obtain ⟨le, un, kd, wd, ht, rm, mo, sd, bo, ed, hu, bl, sl, tx, kp, QB, QS, IB, IS, hp, hc, hm⟩ := hS
  have hc0 := hc
  have hm0 := hm
  obtain ⟨pe, ta, tb, sk, PB, PS, hR, hab, hpe, h1, ⟨R, h2, hR8⟩, hT, ⟨kz, wz, hz, rz, mz, sz, bz, ez, uz, skz, hvz, hTs⟩, hL, ⟨b6, s6, hL6⟩, hP, hQ, hI, h21, h22, ⟨W, h23, hW⟩, ⟨la, hFS⟩, ⟨kn, us, cu, gv, hC, hk⟩, ⟨fq, h37, hfq⟩⟩ := hc
  have hD := okD_of hT.2.2.2.2.2
  have hta : ta = 3 ∨ ta = 8 := by omega
  have hw := wh_bd hD.2.1.1 hD.2.1.2 hD.2.2.1.1 hD.2.2.1.2
  obtain ⟨n, hn⟩ : ∃ n : Nat, (n : Int) = wd * ht := ⟨(wd * ht).toNat, by omega⟩
  have hB : ∀ j : Nat, j < 6 → ix bl j = -9 ∨ (0 ≤ ix bl j ∧ ix bl j < kd * 4) := fun j hj => hp.2.2.2.2.2 j (by omega) (by omega)
  have hbl := hL.2.2.2.1
  have hsl := hL.2.2.2.2.1
  obtain ⟨p1, p2, p3, p4, p5, p6⟩ := id hp
  obtain ⟨v, hv, hv4⟩ := why_ex bl sl ed hu wd ht rm mo s b
  by_cases hg : 0 ≤ s ∧ s < wd * ht ∧ 0 ≤ b ∧ b < kd * 4 ∧ ix bl s = -9 ∧ v = 0
  · have rL := rem_facts hR hT hL hP hpe p2 hta
    have f1 : Fr inRm H (pt (remH H pe un le ta tb bl sl) 14 (up bl s b)) := Fr_and (rem_fr hR hP hL hpe) (by unfold inRm; omega) hL.2.1 (by simp [up_len])
    have e1 := tm10 (x := pe + 1) (by omega)
    refine comb (le' := le) (un' := min (un + 1) 10) (kd' := kd) (wd' := wd) (ht' := ht) (rm' := rm) (mo' := mo) (sd' := sd) (bo' := bo) (ed' := ed) (hu' := hu) (bl' := (up bl s b)) (sl' := sl) (tx' := tx) (kp' := kp) (QB' := shQ QB un bl) (QS' := shQ QS un sl) (IB' := IB) (IS' := IS) ⟨p1, by omega, p3, p4, p5, okK_up p6 hbl ⟨by omega, by omega⟩ (Or.inr ⟨hg.2.2.1, hg.2.2.2.1⟩)⟩ ⟨_, Call_up (C_lays hR hT hL hP hpe p2 hta (by rw [hg.2.2.2.2.2] at hv; exact hv) ⟨hg.1, hg.2.1⟩ ⟨hg.2.2.1, hg.2.2.2.1⟩ hg.2.2.2.2.1) (by decide), (Fr_up f1 (fun a ha => by unfold inRm at ha; unfold inCc; omega)), ?_⟩ hm0 (fun H1 hm1 => ?_)
    · exact ⟨(pe + 1).tmod 10, ta, tb, sk, updF PB pe.toNat bl, updF PS pe.toNat sl, root_keep rL.1 (by decide), hab, ⟨by omega, by omega⟩, (f1.2 1 (by unfold inRm; omega)).trans h1, ⟨R, (f1.2 2 (by unfold inRm; omega)).trans h2, hR8⟩, told_fr f1 hT (by unfold inRm; omega) (by unfold inRm; omega) (by unfold inRm; omega) (by unfold inRm; omega) (by unfold inRm; omega), ⟨kz, wz, hz, rz, mz, sz, bz, ez, uz, skz, hvz, told_fr f1 hTs (by unfold inRm; omega) (by unfold inRm; omega) (by unfold inRm; omega) (by unfold inRm; omega) (by unfold inRm; omega)⟩, lay_b rL.2.2 (by rw [up_len]; exact hbl) (okB_up hL.2.2.2.2.2.1 hg.1 (by omega) (by have := hD.1; omega)), ⟨b6, s6, lay_fr f1 hL6 (by unfold inRm; omega) (by unfold inRm; omega) (by unfold inRm; omega)⟩, past_fr (Fr_pt (A := fun a => a = 14) rfl rL.2.2.2.1 (by simp [up_len])) (past_rem hP hL hpe) (fun a ha => by show ¬ a = 14; omega), q_rem hpe p2 hQ, img_fr f1 hI (fun a ha => (by unfold inRm; omega)), (f1.2 21 (by unfold inRm; omega)).trans h21, (f1.2 22 (by unfold inRm; omega)).trans h22, (by obtain ⟨g, g1, g2⟩ := cell_fr f1 h23; exact ⟨g, g1, by omega⟩), ⟨la, fs_fr f1 hFS (fun a ha => (by unfold inRm; omega))⟩, ⟨kn, us, cu, gv, clo_fr f1 hC (fun a ha => (by unfold inRm; omega)), hk⟩, (by obtain ⟨g, g1, g2⟩ := cell_fr f1 h37; exact ⟨g, g1, by omega⟩)⟩
    · have hm10 := hm1
      obtain ⟨nk, ap, nu, me, op, de, fo, bs, bu, td, ss, ps, kt, h74, h75, h76, hrT, h77, hrS, h78, hps, hpq, h79, h80, hkt, hki, h84, ⟨Z, h81, hZ⟩, ⟨t82, h82, h82l⟩, ⟨s83, h83, h83l⟩, ⟨tt, h85, h85l⟩, ⟨A, h86, h86l⟩, ⟨oa, h87, h87l⟩, ⟨tr, h88, h88l⟩, ⟨fi, h89, h89l⟩, ⟨go, h90, h90l⟩, ⟨cu2, h91, h91l⟩, ⟨pc, h92, h92l⟩⟩ := hm1
      obtain ⟨ps2, hN, hml⟩ := M_lays h74 hD h75 h76 hrT h77 hrS h85 h85l h78 hps p2 hbl (by rw [hg.2.2.2.2.2] at hv; exact hv) ⟨hg.1, hg.2.1⟩ ⟨hg.2.2.1, hg.2.2.2.1⟩ hg.2.2.2.2.1
      have f2 : Fr inMd H1 (pt (pt (pt (pt H1 85 ss) 78 ps2) 74 (mdL kd (min (un + 1) 10) nk le ap nu me op de fo bs bu)) 77 (up ss s b)) := Fr_and (Fr_and (Fr_and (Fr_pt (by unfold inMd; omega) h85 (by rw [hrS.1, h85l])) (by unfold inMd; omega) h78 (by rw [hps]; exact hN.1)) (by unfold inMd; omega) h74 rfl) (by unfold inMd; omega) h77 (by simp [up_len, fil_len])
      exact ⟨_, Call_up hml (by decide), (Fr_up f2 (fun a ha => by unfold inMd at ha; unfold inMm; omega)), ⟨nk, ap, nu, me, op, de, fo, bs, bu, td, (up ss s b), ps2, kt, pt_nx (by decide) (pt_self (pt_nx (by decide) (pt_nx (by decide) h74))), (f2.2 75 (by unfold inMd; omega)).trans h75, (f2.2 76 (by unfold inMd; omega)).trans h76, hrT, pt_self (pt_nx (by decide) (pt_nx (by decide) (pt_nx (by decide) h77))), relS_b hrS hbl ⟨by omega, by omega⟩ (Or.inr ⟨hg.2.2.1, hg.2.2.2.1⟩), pt_nx (by decide) (pt_nx (by decide) (pt_self (pt_nx (by decide) h78))), hN.1, p_rem p2 hN hrS hpq, (f2.2 79 (by unfold inMd; omega)).trans h79, (f2.2 80 (by unfold inMd; omega)).trans h80, hkt, hki, (f2.2 84 (by unfold inMd; omega)).trans h84, (by obtain ⟨g, g1, g2⟩ := cell_fr f2 h81; exact ⟨g, g1, by omega⟩), (by obtain ⟨g, g1, g2⟩ := cell_fr f2 h82; exact ⟨g, g1, by omega⟩), (by obtain ⟨g, g1, g2⟩ := cell_fr f2 h83; exact ⟨g, g1, by omega⟩), (by obtain ⟨g, g1, g2⟩ := cell_fr f2 h85; exact ⟨g, g1, by omega⟩), (by obtain ⟨g, g1, g2⟩ := cell_fr f2 h86; exact ⟨g, g1, by omega⟩), (by obtain ⟨g, g1, g2⟩ := cell_fr f2 h87; exact ⟨g, g1, by omega⟩), (by obtain ⟨g, g1, g2⟩ := cell_fr f2 h88; exact ⟨g, g1, by omega⟩), (by obtain ⟨g, g1, g2⟩ := cell_fr f2 h89; exact ⟨g, g1, by omega⟩), (by obtain ⟨g, g1, g2⟩ := cell_fr f2 h90; exact ⟨g, g1, by omega⟩), (by obtain ⟨g, g1, g2⟩ := cell_fr f2 h91; exact ⟨g, g1, by omega⟩), (by obtain ⟨g, g1, g2⟩ := cell_fr f2 h92; exact ⟨g, g1, by omega⟩)⟩⟩
  · obtain ⟨r, hr⟩ : ∃ r : Int, (¬ (0 ≤ s ∧ s < wd * ht ∧ 0 ≤ b ∧ b < kd * 4) → r = -1) ∧ ((0 ≤ s ∧ s < wd * ht ∧ 0 ≤ b ∧ b < kd * 4 ∧ ¬ ix bl s = -9) → r = -2) ∧ ((0 ≤ s ∧ s < wd * ht ∧ 0 ≤ b ∧ b < kd * 4 ∧ ix bl s = -9) → r = -10 - v) := by
      by_cases c0 : ¬ (0 ≤ s ∧ s < wd * ht ∧ 0 ≤ b ∧ b < kd * 4)
      · exact ⟨-1, by refine ⟨?_, ?_, ?_⟩ <;> intro z <;> first | rfl | (exfalso; omega)⟩
      by_cases c1 : ¬ ix bl s = -9
      · exact ⟨-2, by refine ⟨?_, ?_, ?_⟩ <;> intro z <;> first | rfl | (exfalso; omega)⟩
      exact ⟨-10 - v, by refine ⟨?_, ?_, ?_⟩ <;> intro z <;> first | rfl | (exfalso; omega)⟩
    refine comb hp (ro_c hc0 (C_lays_no hR hT hL (fun _ => hv) hv4 hg hr) (by decide)) hm0 (fun H1 hm1 => ?_)
    have hm10 := hm1
    obtain ⟨nk, ap, nu, me, op, de, fo, bs, bu, td, ss, ps, kt, h74, h75, h76, hrT, h77, hrS, h78, hps, hpq, h79, h80, hkt, hki, h84, ⟨Z, h81, hZ⟩, ⟨t82, h82, h82l⟩, ⟨s83, h83, h83l⟩, ⟨tt, h85, h85l⟩, ⟨A, h86, h86l⟩, ⟨oa, h87, h87l⟩, ⟨tr, h88, h88l⟩, ⟨fi, h89, h89l⟩, ⟨go, h90, h90l⟩, ⟨cu2, h91, h91l⟩, ⟨pc, h92, h92l⟩⟩ := hm1
    exact t85_m hm10 (M_lays_no h74 hD h75 h76 hrT h77 hrS h85 h85l (fun _ => hv) hv4 hg hr) (by decide) h85 h85l hrS.1
theorem s_takes (hS : sim H) {s : Int} : stpR 61 126 [mI s] H := by
  obtain ⟨le, un, kd, wd, ht, rm, mo, sd, bo, ed, hu, bl, sl, tx, kp, QB, QS, IB, IS, hp, hc, hm⟩ := hS
  have hc0 := hc
  have hm0 := hm
  obtain ⟨pe, ta, tb, sk, PB, PS, hR, hab, hpe, h1, ⟨R, h2, hR8⟩, hT, ⟨kz, wz, hz, rz, mz, sz, bz, ez, uz, skz, hvz, hTs⟩, hL, ⟨b6, s6, hL6⟩, hP, hQ, hI, h21, h22, ⟨W, h23, hW⟩, ⟨la, hFS⟩, ⟨kn, us, cu, gv, hC, hk⟩, ⟨fq, h37, hfq⟩⟩ := hc
  have hD := okD_of hT.2.2.2.2.2
  have hta : ta = 3 ∨ ta = 8 := by omega
  have hw := wh_bd hD.2.1.1 hD.2.1.2 hD.2.2.1.1 hD.2.2.1.2
  obtain ⟨n, hn⟩ : ∃ n : Nat, (n : Int) = wd * ht := ⟨(wd * ht).toNat, by omega⟩
  have hB : ∀ j : Nat, j < 6 → ix bl j = -9 ∨ (0 ≤ ix bl j ∧ ix bl j < kd * 4) := fun j hj => hp.2.2.2.2.2 j (by omega) (by omega)
  have hbl := hL.2.2.2.1
  have hsl := hL.2.2.2.2.1
  obtain ⟨p1, p2, p3, p4, p5, p6⟩ := id hp
  by_cases hg : 0 ≤ s ∧ s < wd * ht ∧ ¬ ix bl s = -9
  · have rL := rem_facts hR hT hL hP hpe p2 hta
    have f1 : Fr inRm H (pt (remH H pe un le ta tb bl sl) 14 (up bl s (-9))) := Fr_and (rem_fr hR hP hL hpe) (by unfold inRm; omega) hL.2.1 (by simp [up_len])
    have e1 := tm10 (x := pe + 1) (by omega)
    refine comb (le' := le) (un' := min (un + 1) 10) (kd' := kd) (wd' := wd) (ht' := ht) (rm' := rm) (mo' := mo) (sd' := sd) (bo' := bo) (ed' := ed) (hu' := hu) (bl' := (up bl s (-9))) (sl' := sl) (tx' := tx) (kp' := kp) (QB' := shQ QB un bl) (QS' := shQ QS un sl) (IB' := IB) (IS' := IS) ⟨p1, by omega, p3, p4, p5, okK_up p6 hbl ⟨by omega, by omega⟩ (Or.inl rfl)⟩ ⟨_, Call_up (C_takes hR hT hL hP hpe p2 hta ⟨hg.1, hg.2.1⟩ hg.2.2) (by decide), (Fr_up f1 (fun a ha => by unfold inRm at ha; unfold inCc; omega)), ?_⟩ hm0 (fun H1 hm1 => ?_)
    · exact ⟨(pe + 1).tmod 10, ta, tb, sk, updF PB pe.toNat bl, updF PS pe.toNat sl, root_keep rL.1 (by decide), hab, ⟨by omega, by omega⟩, (f1.2 1 (by unfold inRm; omega)).trans h1, ⟨R, (f1.2 2 (by unfold inRm; omega)).trans h2, hR8⟩, told_fr f1 hT (by unfold inRm; omega) (by unfold inRm; omega) (by unfold inRm; omega) (by unfold inRm; omega) (by unfold inRm; omega), ⟨kz, wz, hz, rz, mz, sz, bz, ez, uz, skz, hvz, told_fr f1 hTs (by unfold inRm; omega) (by unfold inRm; omega) (by unfold inRm; omega) (by unfold inRm; omega) (by unfold inRm; omega)⟩, lay_b rL.2.2 (by rw [up_len]; exact hbl) (okB_up hL.2.2.2.2.2.1 hg.1 (by omega) (Or.inl rfl)), ⟨b6, s6, lay_fr f1 hL6 (by unfold inRm; omega) (by unfold inRm; omega) (by unfold inRm; omega)⟩, past_fr (Fr_pt (A := fun a => a = 14) rfl rL.2.2.2.1 (by simp [up_len])) (past_rem hP hL hpe) (fun a ha => by show ¬ a = 14; omega), q_rem hpe p2 hQ, img_fr f1 hI (fun a ha => (by unfold inRm; omega)), (f1.2 21 (by unfold inRm; omega)).trans h21, (f1.2 22 (by unfold inRm; omega)).trans h22, (by obtain ⟨g, g1, g2⟩ := cell_fr f1 h23; exact ⟨g, g1, by omega⟩), ⟨la, fs_fr f1 hFS (fun a ha => (by unfold inRm; omega))⟩, ⟨kn, us, cu, gv, clo_fr f1 hC (fun a ha => (by unfold inRm; omega)), hk⟩, (by obtain ⟨g, g1, g2⟩ := cell_fr f1 h37; exact ⟨g, g1, by omega⟩)⟩
    · have hm10 := hm1
      obtain ⟨nk, ap, nu, me, op, de, fo, bs, bu, td, ss, ps, kt, h74, h75, h76, hrT, h77, hrS, h78, hps, hpq, h79, h80, hkt, hki, h84, ⟨Z, h81, hZ⟩, ⟨t82, h82, h82l⟩, ⟨s83, h83, h83l⟩, ⟨tt, h85, h85l⟩, ⟨A, h86, h86l⟩, ⟨oa, h87, h87l⟩, ⟨tr, h88, h88l⟩, ⟨fi, h89, h89l⟩, ⟨go, h90, h90l⟩, ⟨cu2, h91, h91l⟩, ⟨pc, h92, h92l⟩⟩ := hm1
      obtain ⟨ps2, hN, hml⟩ := M_takes h74 hD h75 h76 hrT h77 hrS h85 h85l h78 hps p2 ⟨hg.1, hg.2.1⟩ hg.2.2
      have f2 : Fr inMd H1 (pt (pt (pt H1 78 ps2) 74 (mdL kd (min (un + 1) 10) nk le ap nu me op de fo bs bu)) 77 (up ss s (-9))) := Fr_and (Fr_and (Fr_and (Fr_refl H1) (by unfold inMd; omega) h78 (by rw [hps]; exact hN.1)) (by unfold inMd; omega) h74 rfl) (by unfold inMd; omega) h77 (by simp [up_len, fil_len])
      exact ⟨_, Call_up hml (by decide), (Fr_up f2 (fun a ha => by unfold inMd at ha; unfold inMm; omega)), ⟨nk, ap, nu, me, op, de, fo, bs, bu, td, (up ss s (-9)), ps2, kt, pt_nx (by decide) (pt_self (pt_nx (by decide) h74)), (f2.2 75 (by unfold inMd; omega)).trans h75, (f2.2 76 (by unfold inMd; omega)).trans h76, hrT, pt_self (pt_nx (by decide) (pt_nx (by decide) h77)), relS_b hrS hbl ⟨by omega, by omega⟩ (Or.inl rfl), pt_nx (by decide) (pt_nx (by decide) (pt_self h78)), hN.1, p_rem p2 hN hrS hpq, (f2.2 79 (by unfold inMd; omega)).trans h79, (f2.2 80 (by unfold inMd; omega)).trans h80, hkt, hki, (f2.2 84 (by unfold inMd; omega)).trans h84, (by obtain ⟨g, g1, g2⟩ := cell_fr f2 h81; exact ⟨g, g1, by omega⟩), (by obtain ⟨g, g1, g2⟩ := cell_fr f2 h82; exact ⟨g, g1, by omega⟩), (by obtain ⟨g, g1, g2⟩ := cell_fr f2 h83; exact ⟨g, g1, by omega⟩), (by obtain ⟨g, g1, g2⟩ := cell_fr f2 h85; exact ⟨g, g1, by omega⟩), (by obtain ⟨g, g1, g2⟩ := cell_fr f2 h86; exact ⟨g, g1, by omega⟩), (by obtain ⟨g, g1, g2⟩ := cell_fr f2 h87; exact ⟨g, g1, by omega⟩), (by obtain ⟨g, g1, g2⟩ := cell_fr f2 h88; exact ⟨g, g1, by omega⟩), (by obtain ⟨g, g1, g2⟩ := cell_fr f2 h89; exact ⟨g, g1, by omega⟩), (by obtain ⟨g, g1, g2⟩ := cell_fr f2 h90; exact ⟨g, g1, by omega⟩), (by obtain ⟨g, g1, g2⟩ := cell_fr f2 h91; exact ⟨g, g1, by omega⟩), (by obtain ⟨g, g1, g2⟩ := cell_fr f2 h92; exact ⟨g, g1, by omega⟩)⟩⟩
  · obtain ⟨r, hr⟩ : ∃ r : Int, (¬ (0 ≤ s ∧ s < wd * ht) → r = -1) ∧ ((0 ≤ s ∧ s < wd * ht) → r = -2) := by
      by_cases c0 : ¬ (0 ≤ s ∧ s < wd * ht)
      · exact ⟨-1, by refine ⟨?_, ?_⟩ <;> intro z <;> first | rfl | (exfalso; omega)⟩
      exact ⟨-2, by refine ⟨?_, ?_⟩ <;> intro z <;> first | rfl | (exfalso; omega)⟩
    refine comb hp (ro_c hc0 (C_takes_no hR hT hL hg hr) (by decide)) hm0 (fun H1 hm1 => ?_)
    have hm10 := hm1
    obtain ⟨nk, ap, nu, me, op, de, fo, bs, bu, td, ss, ps, kt, h74, h75, h76, hrT, h77, hrS, h78, hps, hpq, h79, h80, hkt, hki, h84, ⟨Z, h81, hZ⟩, ⟨t82, h82, h82l⟩, ⟨s83, h83, h83l⟩, ⟨tt, h85, h85l⟩, ⟨A, h86, h86l⟩, ⟨oa, h87, h87l⟩, ⟨tr, h88, h88l⟩, ⟨fi, h89, h89l⟩, ⟨go, h90, h90l⟩, ⟨cu2, h91, h91l⟩, ⟨pc, h92, h92l⟩⟩ := hm1
    exact ro_m hm10 (M_takes_no h74 hD h75 h76 hrT h77 hrS h85 h85l hg hr) (by decide)
theorem s_buys (hS : sim H) {k x : Int} : stpR 62 127 [mI k, mI x] H := by
  obtain ⟨le, un, kd, wd, ht, rm, mo, sd, bo, ed, hu, bl, sl, tx, kp, QB, QS, IB, IS, hp, hc, hm⟩ := hS
  have hc0 := hc
  have hm0 := hm
  obtain ⟨pe, ta, tb, sk, PB, PS, hR, hab, hpe, h1, ⟨R, h2, hR8⟩, hT, ⟨kz, wz, hz, rz, mz, sz, bz, ez, uz, skz, hvz, hTs⟩, hL, ⟨b6, s6, hL6⟩, hP, hQ, hI, h21, h22, ⟨W, h23, hW⟩, ⟨la, hFS⟩, ⟨kn, us, cu, gv, hC, hk⟩, ⟨fq, h37, hfq⟩⟩ := hc
  have hD := okD_of hT.2.2.2.2.2
  have hta : ta = 3 ∨ ta = 8 := by omega
  have hw := wh_bd hD.2.1.1 hD.2.1.2 hD.2.2.1.1 hD.2.2.1.2
  obtain ⟨n, hn⟩ : ∃ n : Nat, (n : Int) = wd * ht := ⟨(wd * ht).toNat, by omega⟩
  have hB : ∀ j : Nat, j < 6 → ix bl j = -9 ∨ (0 ≤ ix bl j ∧ ix bl j < kd * 4) := fun j hj => hp.2.2.2.2.2 j (by omega) (by omega)
  have hbl := hL.2.2.2.1
  have hsl := hL.2.2.2.2.1
  obtain ⟨p1, p2, p3, p4, p5, p6⟩ := id hp
  by_cases hg : 0 ≤ k ∧ k < kd ∧ 0 ≤ x ∧ x ≤ 9 ∧ ¬ ix sl k = x
  · have rL := rem_facts hR hT hL hP hpe p2 hta
    have f1 : Fr inRm H (pt (remH H pe un le ta tb bl sl) 15 (up sl k x)) := Fr_and (rem_fr hR hP hL hpe) (by unfold inRm; omega) hL.2.2.1 (by simp [up_len])
    have e1 := tm10 (x := pe + 1) (by omega)
    refine comb (le' := le) (un' := min (un + 1) 10) (kd' := kd) (wd' := wd) (ht' := ht) (rm' := rm) (mo' := mo) (sd' := sd) (bo' := bo) (ed' := ed) (hu' := hu) (bl' := bl) (sl' := (up sl k x)) (tx' := tx) (kp' := kp) (QB' := shQ QB un bl) (QS' := shQ QS un sl) (IB' := IB) (IS' := IS) ⟨p1, by omega, p3, p4, p5, p6⟩ ⟨_, Call_up (C_buys hR hT hL hP hpe p2 hta ⟨hg.1, hg.2.1⟩ ⟨hg.2.2.1, hg.2.2.2.1⟩ hg.2.2.2.2) (by decide), (Fr_up f1 (fun a ha => by unfold inRm at ha; unfold inCc; omega)), ?_⟩ hm0 (fun H1 hm1 => ?_)
    · exact ⟨(pe + 1).tmod 10, ta, tb, sk, updF PB pe.toNat bl, updF PS pe.toNat sl, root_keep rL.1 (by decide), hab, ⟨by omega, by omega⟩, (f1.2 1 (by unfold inRm; omega)).trans h1, ⟨R, (f1.2 2 (by unfold inRm; omega)).trans h2, hR8⟩, told_fr f1 hT (by unfold inRm; omega) (by unfold inRm; omega) (by unfold inRm; omega) (by unfold inRm; omega) (by unfold inRm; omega), ⟨kz, wz, hz, rz, mz, sz, bz, ez, uz, skz, hvz, told_fr f1 hTs (by unfold inRm; omega) (by unfold inRm; omega) (by unfold inRm; omega) (by unfold inRm; omega) (by unfold inRm; omega)⟩, lay_s rL.2.2 (by rw [up_len]; exact hsl) (sml_up hL.2.2.2.2.2.2 hg.1 (by have := hD.1; omega) (by omega)), ⟨b6, s6, lay_fr f1 hL6 (by unfold inRm; omega) (by unfold inRm; omega) (by unfold inRm; omega)⟩, past_fr (Fr_pt (A := fun a => a = 15) rfl rL.2.2.2.2.1 (by simp [up_len])) (past_rem hP hL hpe) (fun a ha => by show ¬ a = 15; omega), q_rem hpe p2 hQ, img_fr f1 hI (fun a ha => (by unfold inRm; omega)), (f1.2 21 (by unfold inRm; omega)).trans h21, (f1.2 22 (by unfold inRm; omega)).trans h22, (by obtain ⟨g, g1, g2⟩ := cell_fr f1 h23; exact ⟨g, g1, by omega⟩), ⟨la, fs_fr f1 hFS (fun a ha => (by unfold inRm; omega))⟩, ⟨kn, us, cu, gv, clo_fr f1 hC (fun a ha => (by unfold inRm; omega)), hk⟩, (by obtain ⟨g, g1, g2⟩ := cell_fr f1 h37; exact ⟨g, g1, by omega⟩)⟩
    · have hm10 := hm1
      obtain ⟨nk, ap, nu, me, op, de, fo, bs, bu, td, ss, ps, kt, h74, h75, h76, hrT, h77, hrS, h78, hps, hpq, h79, h80, hkt, hki, h84, ⟨Z, h81, hZ⟩, ⟨t82, h82, h82l⟩, ⟨s83, h83, h83l⟩, ⟨tt, h85, h85l⟩, ⟨A, h86, h86l⟩, ⟨oa, h87, h87l⟩, ⟨tr, h88, h88l⟩, ⟨fi, h89, h89l⟩, ⟨go, h90, h90l⟩, ⟨cu2, h91, h91l⟩, ⟨pc, h92, h92l⟩⟩ := hm1
      obtain ⟨ps2, hN, hml⟩ := M_buys h74 hD h75 h76 hrT h77 hrS h85 h85l h78 hps p2 ⟨hg.1, hg.2.1⟩ ⟨hg.2.2.1, hg.2.2.2.1⟩ hg.2.2.2.2
      have f2 : Fr inMd H1 (pt (pt (pt H1 78 ps2) 74 (mdL kd (min (un + 1) 10) nk le ap nu me op de fo bs bu)) 77 (up ss (9 + k) x)) := Fr_and (Fr_and (Fr_and (Fr_refl H1) (by unfold inMd; omega) h78 (by rw [hps]; exact hN.1)) (by unfold inMd; omega) h74 rfl) (by unfold inMd; omega) h77 (by simp [up_len, fil_len])
      exact ⟨_, Call_up hml (by decide), (Fr_up f2 (fun a ha => by unfold inMd at ha; unfold inMm; omega)), ⟨nk, ap, nu, me, op, de, fo, bs, bu, td, (up ss (9 + k) x), ps2, kt, pt_nx (by decide) (pt_self (pt_nx (by decide) h74)), (f2.2 75 (by unfold inMd; omega)).trans h75, (f2.2 76 (by unfold inMd; omega)).trans h76, hrT, pt_self (pt_nx (by decide) (pt_nx (by decide) h77)), relS_s hrS hsl (by have := hD.1; omega) ⟨hg.1, hg.2.1⟩ ⟨hg.2.2.1, hg.2.2.2.1⟩, pt_nx (by decide) (pt_nx (by decide) (pt_self h78)), hN.1, p_rem p2 hN hrS hpq, (f2.2 79 (by unfold inMd; omega)).trans h79, (f2.2 80 (by unfold inMd; omega)).trans h80, hkt, hki, (f2.2 84 (by unfold inMd; omega)).trans h84, (by obtain ⟨g, g1, g2⟩ := cell_fr f2 h81; exact ⟨g, g1, by omega⟩), (by obtain ⟨g, g1, g2⟩ := cell_fr f2 h82; exact ⟨g, g1, by omega⟩), (by obtain ⟨g, g1, g2⟩ := cell_fr f2 h83; exact ⟨g, g1, by omega⟩), (by obtain ⟨g, g1, g2⟩ := cell_fr f2 h85; exact ⟨g, g1, by omega⟩), (by obtain ⟨g, g1, g2⟩ := cell_fr f2 h86; exact ⟨g, g1, by omega⟩), (by obtain ⟨g, g1, g2⟩ := cell_fr f2 h87; exact ⟨g, g1, by omega⟩), (by obtain ⟨g, g1, g2⟩ := cell_fr f2 h88; exact ⟨g, g1, by omega⟩), (by obtain ⟨g, g1, g2⟩ := cell_fr f2 h89; exact ⟨g, g1, by omega⟩), (by obtain ⟨g, g1, g2⟩ := cell_fr f2 h90; exact ⟨g, g1, by omega⟩), (by obtain ⟨g, g1, g2⟩ := cell_fr f2 h91; exact ⟨g, g1, by omega⟩), (by obtain ⟨g, g1, g2⟩ := cell_fr f2 h92; exact ⟨g, g1, by omega⟩)⟩⟩
  · obtain ⟨r, hr⟩ : ∃ r : Int, (¬ (0 ≤ k ∧ k < kd ∧ 0 ≤ x ∧ x ≤ 9) → r = -1) ∧ ((0 ≤ k ∧ k < kd ∧ 0 ≤ x ∧ x ≤ 9) → r = -2) := by
      by_cases c0 : ¬ (0 ≤ k ∧ k < kd ∧ 0 ≤ x ∧ x ≤ 9)
      · exact ⟨-1, by refine ⟨?_, ?_⟩ <;> intro z <;> first | rfl | (exfalso; omega)⟩
      exact ⟨-2, by refine ⟨?_, ?_⟩ <;> intro z <;> first | rfl | (exfalso; omega)⟩
    refine comb hp (ro_c hc0 (C_buys_no hR hT hL hg hr) (by decide)) hm0 (fun H1 hm1 => ?_)
    have hm10 := hm1
    obtain ⟨nk, ap, nu, me, op, de, fo, bs, bu, td, ss, ps, kt, h74, h75, h76, hrT, h77, hrS, h78, hps, hpq, h79, h80, hkt, hki, h84, ⟨Z, h81, hZ⟩, ⟨t82, h82, h82l⟩, ⟨s83, h83, h83l⟩, ⟨tt, h85, h85l⟩, ⟨A, h86, h86l⟩, ⟨oa, h87, h87l⟩, ⟨tr, h88, h88l⟩, ⟨fi, h89, h89l⟩, ⟨go, h90, h90l⟩, ⟨cu2, h91, h91l⟩, ⟨pc, h92, h92l⟩⟩ := hm1
    exact ro_m hm10 (M_buys_no h74 hD h75 h76 hrT h77 hrS h85 h85l hg hr) (by decide)
theorem s_clears (hS : sim H) : stpR 63 128 [] H := by
  obtain ⟨le, un, kd, wd, ht, rm, mo, sd, bo, ed, hu, bl, sl, tx, kp, QB, QS, IB, IS, hp, hc, hm⟩ := hS
  have hc0 := hc
  have hm0 := hm
  obtain ⟨pe, ta, tb, sk, PB, PS, hR, hab, hpe, h1, ⟨R, h2, hR8⟩, hT, ⟨kz, wz, hz, rz, mz, sz, bz, ez, uz, skz, hvz, hTs⟩, hL, ⟨b6, s6, hL6⟩, hP, hQ, hI, h21, h22, ⟨W, h23, hW⟩, ⟨la, hFS⟩, ⟨kn, us, cu, gv, hC, hk⟩, ⟨fq, h37, hfq⟩⟩ := hc
  have hD := okD_of hT.2.2.2.2.2
  have hta : ta = 3 ∨ ta = 8 := by omega
  have hw := wh_bd hD.2.1.1 hD.2.1.2 hD.2.2.1.1 hD.2.2.1.2
  obtain ⟨n, hn⟩ : ∃ n : Nat, (n : Int) = wd * ht := ⟨(wd * ht).toNat, by omega⟩
  have hB : ∀ j : Nat, j < 6 → ix bl j = -9 ∨ (0 ≤ ix bl j ∧ ix bl j < kd * 4) := fun j hj => hp.2.2.2.2.2 j (by omega) (by omega)
  have hbl := hL.2.2.2.1
  have hsl := hL.2.2.2.2.1
  obtain ⟨p1, p2, p3, p4, p5, p6⟩ := id hp
  have rL := rem_facts hR hT hL hP hpe p2 hta
  have f1 : Fr inRm H (pt (remH H pe un le ta tb bl sl) 14 (List.replicate 6 (-9))) := Fr_and (rem_fr hR hP hL hpe) (by unfold inRm; omega) hL.2.1 (by rw [hbl]; rfl)
  have e1 := tm10 (x := pe + 1) (by omega)
  refine comb (le' := le) (un' := min (un + 1) 10) (kd' := kd) (wd' := wd) (ht' := ht) (rm' := rm) (mo' := mo) (sd' := sd) (bo' := bo) (ed' := ed) (hu' := hu) (bl' := (List.replicate 6 (-9))) (sl' := sl) (tx' := tx) (kp' := kp) (QB' := shQ QB un bl) (QS' := shQ QS un sl) (IB' := IB) (IS' := IS) ⟨p1, by omega, p3, p4, p5, fun i i0 i6 => Or.inl (ix_rep i0 (by omega))⟩ ⟨_, Call_up (C_clears hR hT hL hP hpe p2 hta) (by decide), (Fr_up f1 (fun a ha => by unfold inRm at ha; unfold inCc; omega)), ?_⟩ hm0 (fun H1 hm1 => ?_)
  · exact ⟨(pe + 1).tmod 10, ta, tb, sk, updF PB pe.toNat bl, updF PS pe.toNat sl, root_keep rL.1 (by decide), hab, ⟨by omega, by omega⟩, (f1.2 1 (by unfold inRm; omega)).trans h1, ⟨R, (f1.2 2 (by unfold inRm; omega)).trans h2, hR8⟩, told_fr f1 hT (by unfold inRm; omega) (by unfold inRm; omega) (by unfold inRm; omega) (by unfold inRm; omega) (by unfold inRm; omega), ⟨kz, wz, hz, rz, mz, sz, bz, ez, uz, skz, hvz, told_fr f1 hTs (by unfold inRm; omega) (by unfold inRm; omega) (by unfold inRm; omega) (by unfold inRm; omega) (by unfold inRm; omega)⟩, lay_b rL.2.2 (by simp) okB_rep, ⟨b6, s6, lay_fr f1 hL6 (by unfold inRm; omega) (by unfold inRm; omega) (by unfold inRm; omega)⟩, past_fr (Fr_pt (A := fun a => a = 14) rfl rL.2.2.2.1 (by rw [hbl]; rfl)) (past_rem hP hL hpe) (fun a ha => by show ¬ a = 14; omega), q_rem hpe p2 hQ, img_fr f1 hI (fun a ha => (by unfold inRm; omega)), (f1.2 21 (by unfold inRm; omega)).trans h21, (f1.2 22 (by unfold inRm; omega)).trans h22, (by obtain ⟨g, g1, g2⟩ := cell_fr f1 h23; exact ⟨g, g1, by omega⟩), ⟨la, fs_fr f1 hFS (fun a ha => (by unfold inRm; omega))⟩, ⟨kn, us, cu, gv, clo_fr f1 hC (fun a ha => (by unfold inRm; omega)), hk⟩, (by obtain ⟨g, g1, g2⟩ := cell_fr f1 h37; exact ⟨g, g1, by omega⟩)⟩
  · have hm10 := hm1
    obtain ⟨nk, ap, nu, me, op, de, fo, bs, bu, td, ss, ps, kt, h74, h75, h76, hrT, h77, hrS, h78, hps, hpq, h79, h80, hkt, hki, h84, ⟨Z, h81, hZ⟩, ⟨t82, h82, h82l⟩, ⟨s83, h83, h83l⟩, ⟨tt, h85, h85l⟩, ⟨A, h86, h86l⟩, ⟨oa, h87, h87l⟩, ⟨tr, h88, h88l⟩, ⟨fi, h89, h89l⟩, ⟨go, h90, h90l⟩, ⟨cu2, h91, h91l⟩, ⟨pc, h92, h92l⟩⟩ := hm1
    obtain ⟨ps2, hN, hml⟩ := M_clears h74 hD h75 h76 hrT h77 hrS h85 h85l h78 hps p2
    have f2 : Fr inMd H1 (pt (pt (pt H1 78 ps2) 74 (mdL kd (min (un + 1) 10) nk le ap nu me op de fo bs bu)) 77 (fil ss 0 (fun _ => -9) 9)) := Fr_and (Fr_and (Fr_and (Fr_refl H1) (by unfold inMd; omega) h78 (by rw [hps]; exact hN.1)) (by unfold inMd; omega) h74 rfl) (by unfold inMd; omega) h77 (by simp [up_len, fil_len])
    exact ⟨_, Call_up hml (by decide), (Fr_up f2 (fun a ha => by unfold inMd at ha; unfold inMm; omega)), ⟨nk, ap, nu, me, op, de, fo, bs, bu, td, (fil ss 0 (fun _ => -9) 9), ps2, kt, pt_nx (by decide) (pt_self (pt_nx (by decide) h74)), (f2.2 75 (by unfold inMd; omega)).trans h75, (f2.2 76 (by unfold inMd; omega)).trans h76, hrT, pt_self (pt_nx (by decide) (pt_nx (by decide) h77)), relS_0 hrS, pt_nx (by decide) (pt_nx (by decide) (pt_self h78)), hN.1, p_rem p2 hN hrS hpq, (f2.2 79 (by unfold inMd; omega)).trans h79, (f2.2 80 (by unfold inMd; omega)).trans h80, hkt, hki, (f2.2 84 (by unfold inMd; omega)).trans h84, (by obtain ⟨g, g1, g2⟩ := cell_fr f2 h81; exact ⟨g, g1, by omega⟩), (by obtain ⟨g, g1, g2⟩ := cell_fr f2 h82; exact ⟨g, g1, by omega⟩), (by obtain ⟨g, g1, g2⟩ := cell_fr f2 h83; exact ⟨g, g1, by omega⟩), (by obtain ⟨g, g1, g2⟩ := cell_fr f2 h85; exact ⟨g, g1, by omega⟩), (by obtain ⟨g, g1, g2⟩ := cell_fr f2 h86; exact ⟨g, g1, by omega⟩), (by obtain ⟨g, g1, g2⟩ := cell_fr f2 h87; exact ⟨g, g1, by omega⟩), (by obtain ⟨g, g1, g2⟩ := cell_fr f2 h88; exact ⟨g, g1, by omega⟩), (by obtain ⟨g, g1, g2⟩ := cell_fr f2 h89; exact ⟨g, g1, by omega⟩), (by obtain ⟨g, g1, g2⟩ := cell_fr f2 h90; exact ⟨g, g1, by omega⟩), (by obtain ⟨g, g1, g2⟩ := cell_fr f2 h91; exact ⟨g, g1, by omega⟩), (by obtain ⟨g, g1, g2⟩ := cell_fr f2 h92; exact ⟨g, g1, by omega⟩)⟩⟩
theorem s_undo (hS : sim H) : stpR 64 129 [] H := by
  obtain ⟨le, un, kd, wd, ht, rm, mo, sd, bo, ed, hu, bl, sl, tx, kp, QB, QS, IB, IS, hp, hc, hm⟩ := hS
  have hc0 := hc
  have hm0 := hm
  obtain ⟨pe, ta, tb, sk, PB, PS, hR, hab, hpe, h1, ⟨R, h2, hR8⟩, hT, ⟨kz, wz, hz, rz, mz, sz, bz, ez, uz, skz, hvz, hTs⟩, hL, ⟨b6, s6, hL6⟩, hP, hQ, hI, h21, h22, ⟨W, h23, hW⟩, ⟨la, hFS⟩, ⟨kn, us, cu, gv, hC, hk⟩, ⟨fq, h37, hfq⟩⟩ := hc
  have hD := okD_of hT.2.2.2.2.2
  have hta : ta = 3 ∨ ta = 8 := by omega
  have hw := wh_bd hD.2.1.1 hD.2.1.2 hD.2.2.1.1 hD.2.2.1.2
  obtain ⟨n, hn⟩ : ∃ n : Nat, (n : Int) = wd * ht := ⟨(wd * ht).toNat, by omega⟩
  have hB : ∀ j : Nat, j < 6 → ix bl j = -9 ∨ (0 ≤ ix bl j ∧ ix bl j < kd * 4) := fun j hj => hp.2.2.2.2.2 j (by omega) (by omega)
  have hbl := hL.2.2.2.1
  have hsl := hL.2.2.2.2.1
  obtain ⟨p1, p2, p3, p4, p5, p6⟩ := id hp
  by_cases hg : 1 ≤ un
  · have e1 := tm10 (x := pe + 10 - 1) (by omega)
    have hP9 := hP.2 ((pe + 10 - 1).tmod 10).toNat (by omega)
    have hq9 := hQ (un - 1).toNat (by omega)
    have e2 : (pe + 10 - un + (((un - 1).toNat : Nat) : Int)).tmod 10 = (pe + 10 - 1).tmod 10 := by
      rw [show pe + 10 - un + (((un - 1).toNat : Nat) : Int) = pe + 10 - 1 by omega]
    rw [e2] at hq9
    have hc1 := C_undo hR hT hL hP hpe ⟨hg, p2.2⟩ hta
    rw [← hq9.1, ← hq9.2] at hc1 hP9
    have f1 : Fr inRm H (pt (pt (pt H 0 (rootL le ta tb ((pe + 10 - 1).tmod 10) (un - 1))) 14 (QB (un - 1).toNat)) 15 (QS (un - 1).toNat)) := Fr_and (Fr_and (Fr_pt (by unfold inRm; omega) hR rfl) (by unfold inRm; omega) hL.2.1 (by rw [hP9.2.2.2.1, hbl])) (by unfold inRm; omega) hL.2.2.1 (by rw [hP9.2.2.2.2.1, hsl])
    obtain ⟨ss9, hrq⟩ : ∃ ss9, relS ss9 (QB (un - 1).toNat) (QS (un - 1).toNat) kd := by
      obtain ⟨nk, ap, nu, me, op, de, fo, bs, bu, td, ss, ps, kt, h74, h75, h76, hrT, h77, hrS, h78, hps, hpq, -⟩ := hm
      exact ⟨_, hpq (un - 1).toNat (by omega)⟩
    refine comb (le' := le) (un' := un - 1) (kd' := kd) (wd' := wd) (ht' := ht) (rm' := rm) (mo' := mo) (sd' := sd) (bo' := bo) (ed' := ed) (hu' := hu) (bl' := QB (un - 1).toNat) (sl' := QS (un - 1).toNat) (tx' := tx) (kp' := kp) (QB' := QB) (QS' := QS) (IB' := IB) (IS' := IS) ⟨p1, by omega, p3, p4, p5, hrq.2.2.2.2.1⟩ ⟨_, Call_up hc1 (by decide), (Fr_up f1 (fun a ha => by unfold inRm at ha; unfold inCc; omega)), ?_⟩ hm0 (fun H1 hm1 => ?_)
    · exact ⟨(pe + 10 - 1).tmod 10, ta, tb, sk, PB, PS, root_keep (root_keep (root_new hR) (by decide)) (by decide), hab, ⟨by omega, by omega⟩, (f1.2 1 (by unfold inRm; omega)).trans h1, ⟨R, (f1.2 2 (by unfold inRm; omega)).trans h2, hR8⟩, told_fr f1 hT (by unfold inRm; omega) (by unfold inRm; omega) (by unfold inRm; omega) (by unfold inRm; omega) (by unfold inRm; omega), ⟨kz, wz, hz, rz, mz, sz, bz, ez, uz, skz, hvz, told_fr f1 hTs (by unfold inRm; omega) (by unfold inRm; omega) (by unfold inRm; omega) (by unfold inRm; omega) (by unfold inRm; omega)⟩, lay_s (lay_b (lay_keep hL (by omega)) hP9.2.2.2.1 hP9.2.2.2.2.2.1) hP9.2.2.2.2.1 hP9.2.2.2.2.2.2, ⟨b6, s6, lay_fr f1 hL6 (by unfold inRm; omega) (by unfold inRm; omega) (by unfold inRm; omega)⟩, past_fr (A := fun a => a = 0 ∨ a = 14 ∨ a = 15) (Fr_and (Fr_and (Fr_pt (Or.inl rfl) hR rfl) (Or.inr (Or.inl rfl)) hL.2.1 (by rw [hP9.2.2.2.1, hbl])) (Or.inr (Or.inr rfl)) hL.2.2.1 (by rw [hP9.2.2.2.2.1, hsl])) hP (fun a ha => by show ¬ (a = 0 ∨ a = 14 ∨ a = 15); omega), (fun i hi => by have h := hQ i (by omega); have e3 := tm10 (x := pe + 10 - un + i) (by omega); have e4 := tm10 (x := (pe + 10 - 1).tmod 10 + 10 - (un - 1) + i) (by omega); rw [show ((pe + 10 - 1).tmod 10 + 10 - (un - 1) + (i : Int)).tmod 10 = (pe + 10 - un + (i : Int)).tmod 10 by omega]; exact h), img_fr f1 hI (fun a ha => (by unfold inRm; omega)), (f1.2 21 (by unfold inRm; omega)).trans h21, (f1.2 22 (by unfold inRm; omega)).trans h22, (by obtain ⟨g, g1, g2⟩ := cell_fr f1 h23; exact ⟨g, g1, by omega⟩), ⟨la, fs_fr f1 hFS (fun a ha => (by unfold inRm; omega))⟩, ⟨kn, us, cu, gv, clo_fr f1 hC (fun a ha => (by unfold inRm; omega)), hk⟩, (by obtain ⟨g, g1, g2⟩ := cell_fr f1 h37; exact ⟨g, g1, by omega⟩)⟩
    · have hm10 := hm1
      obtain ⟨nk, ap, nu, me, op, de, fo, bs, bu, td, ss, ps, kt, h74, h75, h76, hrT, h77, hrS, h78, hps, hpq, h79, h80, hkt, hki, h84, ⟨Z, h81, hZ⟩, ⟨t82, h82, h82l⟩, ⟨s83, h83, h83l⟩, ⟨tt, h85, h85l⟩, ⟨A, h86, h86l⟩, ⟨oa, h87, h87l⟩, ⟨tr, h88, h88l⟩, ⟨fi, h89, h89l⟩, ⟨go, h90, h90l⟩, ⟨cu2, h91, h91l⟩, ⟨pc, h92, h92l⟩⟩ := hm1
      have f2 : Fr inMd H1 (pt (pt H1 74 (mdL kd (un - 1) nk le ap nu me op de fo bs bu)) 77 (sli ps (15 * (un - 1)))) := Fr_and (Fr_pt (by unfold inMd; omega) h74 rfl) (by unfold inMd; omega) h77 (by rw [sli_len, hrS.1])
      have hr9 := hpq (un - 1).toNat (by omega)
      rw [show (((un - 1).toNat : Nat) : Int) = un - 1 by omega] at hr9
      exact ⟨_, Call_up (M_undo h74 hD h75 h76 hrT h77 hrS h85 h85l h78 hps ⟨hg, p2.2⟩) (by decide), (Fr_up f2 (fun a ha => by unfold inMd at ha; unfold inMm; omega)), ⟨nk, ap, nu, me, op, de, fo, bs, bu, td, sli ps (15 * (un - 1)), ps, kt, pt_nx (by decide) (pt_self h74), (f2.2 75 (by unfold inMd; omega)).trans h75, (f2.2 76 (by unfold inMd; omega)).trans h76, hrT, pt_self (pt_nx (by decide) h77), hr9, pt_nx (by decide) (pt_nx (by decide) h78), hps, (fun i hi => hpq i (by omega)), (f2.2 79 (by unfold inMd; omega)).trans h79, (f2.2 80 (by unfold inMd; omega)).trans h80, hkt, hki, (f2.2 84 (by unfold inMd; omega)).trans h84, (by obtain ⟨g, g1, g2⟩ := cell_fr f2 h81; exact ⟨g, g1, by omega⟩), (by obtain ⟨g, g1, g2⟩ := cell_fr f2 h82; exact ⟨g, g1, by omega⟩), (by obtain ⟨g, g1, g2⟩ := cell_fr f2 h83; exact ⟨g, g1, by omega⟩), (by obtain ⟨g, g1, g2⟩ := cell_fr f2 h85; exact ⟨g, g1, by omega⟩), (by obtain ⟨g, g1, g2⟩ := cell_fr f2 h86; exact ⟨g, g1, by omega⟩), (by obtain ⟨g, g1, g2⟩ := cell_fr f2 h87; exact ⟨g, g1, by omega⟩), (by obtain ⟨g, g1, g2⟩ := cell_fr f2 h88; exact ⟨g, g1, by omega⟩), (by obtain ⟨g, g1, g2⟩ := cell_fr f2 h89; exact ⟨g, g1, by omega⟩), (by obtain ⟨g, g1, g2⟩ := cell_fr f2 h90; exact ⟨g, g1, by omega⟩), (by obtain ⟨g, g1, g2⟩ := cell_fr f2 h91; exact ⟨g, g1, by omega⟩), (by obtain ⟨g, g1, g2⟩ := cell_fr f2 h92; exact ⟨g, g1, by omega⟩)⟩⟩
  · refine comb hp (ro_c hc0 (C_undo_no hR hT hL (by omega)) (by decide)) hm0 (fun H1 hm1 => ?_)
    have hm10 := hm1
    obtain ⟨nk, ap, nu, me, op, de, fo, bs, bu, td, ss, ps, kt, h74, h75, h76, hrT, h77, hrS, h78, hps, hpq, h79, h80, hkt, hki, h84, ⟨Z, h81, hZ⟩, ⟨t82, h82, h82l⟩, ⟨s83, h83, h83l⟩, ⟨tt, h85, h85l⟩, ⟨A, h86, h86l⟩, ⟨oa, h87, h87l⟩, ⟨tr, h88, h88l⟩, ⟨fi, h89, h89l⟩, ⟨go, h90, h90l⟩, ⟨cu2, h91, h91l⟩, ⟨pc, h92, h92l⟩⟩ := hm1
    exact ro_m hm10 (M_undo_no h74 hD h75 h76 hrT h77 hrS h85 h85l (by omega)) (by decide)
theorem s_keep (hS : sim H) {i : Int} : stpR 78 157 [mI i] H := by
  obtain ⟨le, un, kd, wd, ht, rm, mo, sd, bo, ed, hu, bl, sl, tx, kp, QB, QS, IB, IS, hp, hc, hm⟩ := hS
  have hc0 := hc
  have hm0 := hm
  obtain ⟨pe, ta, tb, sk, PB, PS, hR, hab, hpe, h1, ⟨R, h2, hR8⟩, hT, ⟨kz, wz, hz, rz, mz, sz, bz, ez, uz, skz, hvz, hTs⟩, hL, ⟨b6, s6, hL6⟩, hP, hQ, hI, h21, h22, ⟨W, h23, hW⟩, ⟨la, hFS⟩, ⟨kn, us, cu, gv, hC, hk⟩, ⟨fq, h37, hfq⟩⟩ := hc
  have hD := okD_of hT.2.2.2.2.2
  have hta : ta = 3 ∨ ta = 8 := by omega
  have hw := wh_bd hD.2.1.1 hD.2.1.2 hD.2.2.1.1 hD.2.2.1.2
  obtain ⟨n, hn⟩ : ∃ n : Nat, (n : Int) = wd * ht := ⟨(wd * ht).toNat, by omega⟩
  have hB : ∀ j : Nat, j < 6 → ix bl j = -9 ∨ (0 ≤ ix bl j ∧ ix bl j < kd * 4) := fun j hj => hp.2.2.2.2.2 j (by omega) (by omega)
  have hbl := hL.2.2.2.1
  have hsl := hL.2.2.2.2.1
  obtain ⟨p1, p2, p3, p4, p5, p6⟩ := id hp
  by_cases hg : 0 ≤ i ∧ i < 2
  · have hi9 := hI.2 i.toNat (by omega)
    have f1 : Fr inKp H (pt (pt (pt H (68 + 3 * i.toNat + 1) bl) (68 + 3 * i.toNat + 2) sl) 21 (up kp i 1)) := Fr_and (Fr_and (Fr_pt (by unfold inKp; omega) hi9.2.1 (by rw [hi9.2.2.2.1, hbl])) (by unfold inKp; omega) hi9.2.2.1 (by rw [hi9.2.2.2.2.1, hsl])) (by unfold inKp; omega) h21 (up_len _ _ _)
    have hI2 : isImg (pt (pt (pt H (68 + 3 * i.toNat + 1) bl) (68 + 3 * i.toNat + 2) sl) 21 (up kp i 1)) (updF IB i.toNat bl) (updF IS i.toNat sl) := by
      refine ⟨pt_nx (by omega) (pt_nx (by omega) (pt_nx (by omega) hI.1)), fun j hj => ?_⟩
      unfold updF
      by_cases e : j = i.toNat
      · rw [if_pos e, if_pos e]
        subst e
        exact lay_keep (lay_s (lay_b hi9 hL.2.2.2.1 hL.2.2.2.2.2.1) hL.2.2.2.2.1 hL.2.2.2.2.2.2) (by omega)
      · rw [if_neg e, if_neg e]
        exact lay_keep (lay_keep (lay_keep (hI.2 j hj) (by omega)) (by omega)) (by omega)
    refine comb (le' := le) (un' := un) (kd' := kd) (wd' := wd) (ht' := ht) (rm' := rm) (mo' := mo) (sd' := sd) (bo' := bo) (ed' := ed) (hu' := hu) (bl' := bl) (sl' := sl) (tx' := tx) (kp' := up kp i 1) (QB' := QB) (QS' := QS) (IB' := updF IB i.toNat bl) (IS' := updF IS i.toNat sl) ⟨p1, p2, p3, p4, by rw [up_len]; exact p5, p6⟩ ⟨_, Call_up (C_keep hR hT hL hI h21 p5 hta hg) (by decide), (Fr_up f1 (fun a ha => by unfold inKp at ha; unfold inCc; omega)), ?_⟩ hm0 (fun H1 hm1 => ?_)
    · exact ⟨pe, ta, tb, sk, PB, PS, root_fr f1 hR (by unfold inKp; omega), hab, hpe, (f1.2 1 (by unfold inKp; omega)).trans h1, ⟨R, (f1.2 2 (by unfold inKp; omega)).trans h2, hR8⟩, told_fr f1 hT (by unfold inKp; omega) (by unfold inKp; omega) (by unfold inKp; omega) (by unfold inKp; omega) (by unfold inKp; omega), ⟨kz, wz, hz, rz, mz, sz, bz, ez, uz, skz, hvz, told_fr f1 hTs (by unfold inKp; omega) (by unfold inKp; omega) (by unfold inKp; omega) (by unfold inKp; omega) (by unfold inKp; omega)⟩, lay_fr f1 hL (by unfold inKp; omega) (by unfold inKp; omega) (by unfold inKp; omega), ⟨b6, s6, lay_fr f1 hL6 (by unfold inKp; omega) (by unfold inKp; omega) (by unfold inKp; omega)⟩, past_fr f1 hP (fun a ha => (by unfold inKp; omega)), hQ, hI2, pt_self (pt_nx (by omega) (pt_nx (by omega) h21)), (f1.2 22 (by unfold inKp; omega)).trans h22, (by obtain ⟨g, g1, g2⟩ := cell_fr f1 h23; exact ⟨g, g1, by omega⟩), ⟨la, fs_fr f1 hFS (fun a ha => (by unfold inKp; omega))⟩, ⟨kn, us, cu, gv, clo_fr f1 hC (fun a ha => (by unfold inKp; omega)), hk⟩, (by obtain ⟨g, g1, g2⟩ := cell_fr f1 h37; exact ⟨g, g1, by omega⟩)⟩
    · have hm10 := hm1
      obtain ⟨nk, ap, nu, me, op, de, fo, bs, bu, td, ss, ps, kt, h74, h75, h76, hrT, h77, hrS, h78, hps, hpq, h79, h80, hkt, hki, h84, ⟨Z, h81, hZ⟩, ⟨t82, h82, h82l⟩, ⟨s83, h83, h83l⟩, ⟨tt, h85, h85l⟩, ⟨A, h86, h86l⟩, ⟨oa, h87, h87l⟩, ⟨tr, h88, h88l⟩, ⟨fi, h89, h89l⟩, ⟨go, h90, h90l⟩, ⟨cu2, h91, h91l⟩, ⟨pc, h92, h92l⟩⟩ := hm1
      have f2 : Fr inMk H1 (pt (pt H1 80 (fil kt (15 * i) (fun k => ix ss k) 15)) 79 (up kp i 1)) := Fr_and (Fr_pt (by unfold inMk; omega) h80 (fil_len _ _ _ _)) (by unfold inMk; omega) h79 (up_len _ _ _)
      have hk2 : ∀ j : Nat, j < 2 → ¬ ix (up kp i 1) j = 0 → relS (sli (fil kt (15 * i) (fun k => ix ss k) 15) (15 * (j : Int))) (updF IB i.toNat bl j) (updF IS i.toNat sl j) kd := by
        intro j hj hne
        unfold updF
        by_cases e : j = i.toNat
        · rw [if_pos e, if_pos e, show (j : Int) = i by omega]
          have : sli (fil kt (15 * i) (fun k => ix ss k) 15) (15 * i) = ss := by
            refine sli_of hrS.1 (fun x x0 x1 => ?_)
            rw [fil_ix (by omega) (by omega) (by omega), if_pos (by omega), show (((15 * i + x - 15 * i).toNat : Nat) : Int) = x by omega]
          rw [this]
          exact hrS
        · rw [if_neg e, if_neg e]
          rw [ix_up hg.1 (by omega) (by omega), if_neg (by omega)] at hne
          have : sli (fil kt (15 * i) (fun k => ix ss k) 15) (15 * (j : Int)) = sli kt (15 * (j : Int)) := by
            refine sli_ext (fun x x0 x1 => ?_)
            rw [fil_ix (by omega) (by omega) (by omega), if_neg (by omega)]
          rw [this]
          exact hki j hj hne
      exact ⟨_, Call_up (M_keep h74 hD h75 h76 hrT h77 hrS h85 h85l h80 hkt h79 p5 hg) (by decide), (Fr_up f2 (fun a ha => by unfold inMk at ha; unfold inMm; omega)), ⟨nk, ap, nu, me, op, de, fo, bs, bu, td, ss, ps, fil kt (15 * i) (fun k => ix ss k) 15, (f2.2 74 (by unfold inMk; omega)).trans h74, (f2.2 75 (by unfold inMk; omega)).trans h75, (f2.2 76 (by unfold inMk; omega)).trans h76, hrT, (f2.2 77 (by unfold inMk; omega)).trans h77, hrS, (f2.2 78 (by unfold inMk; omega)).trans h78, hps, hpq, pt_self (pt_nx (by decide) h79), pt_nx (by decide) (pt_self h80), by rw [fil_len]; exact hkt, hk2, (f2.2 84 (by unfold inMk; omega)).trans h84, (by obtain ⟨g, g1, g2⟩ := cell_fr f2 h81; exact ⟨g, g1, by omega⟩), (by obtain ⟨g, g1, g2⟩ := cell_fr f2 h82; exact ⟨g, g1, by omega⟩), (by obtain ⟨g, g1, g2⟩ := cell_fr f2 h83; exact ⟨g, g1, by omega⟩), (by obtain ⟨g, g1, g2⟩ := cell_fr f2 h85; exact ⟨g, g1, by omega⟩), (by obtain ⟨g, g1, g2⟩ := cell_fr f2 h86; exact ⟨g, g1, by omega⟩), (by obtain ⟨g, g1, g2⟩ := cell_fr f2 h87; exact ⟨g, g1, by omega⟩), (by obtain ⟨g, g1, g2⟩ := cell_fr f2 h88; exact ⟨g, g1, by omega⟩), (by obtain ⟨g, g1, g2⟩ := cell_fr f2 h89; exact ⟨g, g1, by omega⟩), (by obtain ⟨g, g1, g2⟩ := cell_fr f2 h90; exact ⟨g, g1, by omega⟩), (by obtain ⟨g, g1, g2⟩ := cell_fr f2 h91; exact ⟨g, g1, by omega⟩), (by obtain ⟨g, g1, g2⟩ := cell_fr f2 h92; exact ⟨g, g1, by omega⟩)⟩⟩
  · refine comb hp (ro_c hc0 (C_keep_no hR hT hL hg) (by decide)) hm0 (fun H1 hm1 => ?_)
    have hm10 := hm1
    obtain ⟨nk, ap, nu, me, op, de, fo, bs, bu, td, ss, ps, kt, h74, h75, h76, hrT, h77, hrS, h78, hps, hpq, h79, h80, hkt, hki, h84, ⟨Z, h81, hZ⟩, ⟨t82, h82, h82l⟩, ⟨s83, h83, h83l⟩, ⟨tt, h85, h85l⟩, ⟨A, h86, h86l⟩, ⟨oa, h87, h87l⟩, ⟨tr, h88, h88l⟩, ⟨fi, h89, h89l⟩, ⟨go, h90, h90l⟩, ⟨cu2, h91, h91l⟩, ⟨pc, h92, h92l⟩⟩ := hm1
    exact ro_m hm10 (M_keep_no h74 hD hg) (by decide)
theorem s_back (hS : sim H) {i : Int} : stpR 79 158 [mI i] H := by
  obtain ⟨le, un, kd, wd, ht, rm, mo, sd, bo, ed, hu, bl, sl, tx, kp, QB, QS, IB, IS, hp, hc, hm⟩ := hS
  have hc0 := hc
  have hm0 := hm
  obtain ⟨pe, ta, tb, sk, PB, PS, hR, hab, hpe, h1, ⟨R, h2, hR8⟩, hT, ⟨kz, wz, hz, rz, mz, sz, bz, ez, uz, skz, hvz, hTs⟩, hL, ⟨b6, s6, hL6⟩, hP, hQ, hI, h21, h22, ⟨W, h23, hW⟩, ⟨la, hFS⟩, ⟨kn, us, cu, gv, hC, hk⟩, ⟨fq, h37, hfq⟩⟩ := hc
  have hD := okD_of hT.2.2.2.2.2
  have hta : ta = 3 ∨ ta = 8 := by omega
  have hw := wh_bd hD.2.1.1 hD.2.1.2 hD.2.2.1.1 hD.2.2.1.2
  obtain ⟨n, hn⟩ : ∃ n : Nat, (n : Int) = wd * ht := ⟨(wd * ht).toNat, by omega⟩
  have hB : ∀ j : Nat, j < 6 → ix bl j = -9 ∨ (0 ≤ ix bl j ∧ ix bl j < kd * 4) := fun j hj => hp.2.2.2.2.2 j (by omega) (by omega)
  have hbl := hL.2.2.2.1
  have hsl := hL.2.2.2.2.1
  obtain ⟨p1, p2, p3, p4, p5, p6⟩ := id hp
  by_cases hg : 0 ≤ i ∧ i < 2 ∧ ¬ ix kp i = 0
  · have hi9 := hI.2 i.toNat (by omega)
    have f1 : Fr inRm H (pt (pt (pt H 14 (IB i.toNat)) 15 (IS i.toNat)) 0 (rootL le ta tb pe 0)) := Fr_and (Fr_and (Fr_pt (by unfold inRm; omega) hL.2.1 (by rw [hi9.2.2.2.1, hbl])) (by unfold inRm; omega) hL.2.2.1 (by rw [hi9.2.2.2.2.1, hsl])) (by unfold inRm; omega) hR rfl
    have hki9 : ∀ kt : List Int, (∀ j : Nat, j < 2 → ¬ ix kp j = 0 → relS (sli kt (15 * (j : Int))) (IB j) (IS j) kd) → relS (sli kt (15 * i)) (IB i.toNat) (IS i.toNat) kd := by
      intro kt h
      have h9 := h i.toNat (by omega) (by rw [show ((i.toNat : Nat) : Int) = i by omega]; exact hg.2.2)
      rw [show ((i.toNat : Nat) : Int) = i by omega] at h9
      exact h9
    have hrq : ∃ kt, relS (sli kt (15 * i)) (IB i.toNat) (IS i.toNat) kd := by
      obtain ⟨nk, ap, nu, me, op, de, fo, bs, bu, td, ss, ps, kt, h74, h75, h76, hrT, h77, hrS, h78, hps, hpq, h79, h80, hkt, hki, -⟩ := hm
      exact ⟨kt, hki9 kt hki⟩
    obtain ⟨kt9, hrq⟩ := hrq
    refine comb (le' := le) (un' := 0) (kd' := kd) (wd' := wd) (ht' := ht) (rm' := rm) (mo' := mo) (sd' := sd) (bo' := bo) (ed' := ed) (hu' := hu) (bl' := IB i.toNat) (sl' := IS i.toNat) (tx' := tx) (kp' := kp) (QB' := QB) (QS' := QS) (IB' := IB) (IS' := IS) ⟨p1, by omega, p3, p4, p5, hrq.2.2.2.2.1⟩ ⟨_, Call_up (C_back hR hT hL hI h21 p5 hta ⟨hg.1, hg.2.1⟩ hg.2.2) (by decide), (Fr_up f1 (fun a ha => by unfold inRm at ha; unfold inCc; omega)), ?_⟩ hm0 (fun H1 hm1 => ?_)
    · exact ⟨pe, ta, tb, sk, PB, PS, root_new (root_keep (root_keep hR (by decide)) (by decide)), hab, hpe, (f1.2 1 (by unfold inRm; omega)).trans h1, ⟨R, (f1.2 2 (by unfold inRm; omega)).trans h2, hR8⟩, told_fr f1 hT (by unfold inRm; omega) (by unfold inRm; omega) (by unfold inRm; omega) (by unfold inRm; omega) (by unfold inRm; omega), ⟨kz, wz, hz, rz, mz, sz, bz, ez, uz, skz, hvz, told_fr f1 hTs (by unfold inRm; omega) (by unfold inRm; omega) (by unfold inRm; omega) (by unfold inRm; omega) (by unfold inRm; omega)⟩, lay_keep (lay_s (lay_b hL hi9.2.2.2.1 hi9.2.2.2.2.2.1) hi9.2.2.2.2.1 hi9.2.2.2.2.2.2) (by omega), ⟨b6, s6, lay_fr f1 hL6 (by unfold inRm; omega) (by unfold inRm; omega) (by unfold inRm; omega)⟩, past_fr (A := fun a => a = 14 ∨ a = 15 ∨ a = 0) (Fr_and (Fr_and (Fr_pt (Or.inl rfl) hL.2.1 (by rw [hi9.2.2.2.1, hbl])) (Or.inr (Or.inl rfl)) hL.2.2.1 (by rw [hi9.2.2.2.2.1, hsl])) (Or.inr (Or.inr rfl)) hR rfl) hP (fun a ha => by show ¬ (a = 14 ∨ a = 15 ∨ a = 0); omega), (fun i hi => by omega), img_fr f1 hI (fun a ha => (by unfold inRm; omega)), (f1.2 21 (by unfold inRm; omega)).trans h21, (f1.2 22 (by unfold inRm; omega)).trans h22, (by obtain ⟨g, g1, g2⟩ := cell_fr f1 h23; exact ⟨g, g1, by omega⟩), ⟨la, fs_fr f1 hFS (fun a ha => (by unfold inRm; omega))⟩, ⟨kn, us, cu, gv, clo_fr f1 hC (fun a ha => (by unfold inRm; omega)), hk⟩, (by obtain ⟨g, g1, g2⟩ := cell_fr f1 h37; exact ⟨g, g1, by omega⟩)⟩
    · have hm10 := hm1
      obtain ⟨nk, ap, nu, me, op, de, fo, bs, bu, td, ss, ps, kt, h74, h75, h76, hrT, h77, hrS, h78, hps, hpq, h79, h80, hkt, hki, h84, ⟨Z, h81, hZ⟩, ⟨t82, h82, h82l⟩, ⟨s83, h83, h83l⟩, ⟨tt, h85, h85l⟩, ⟨A, h86, h86l⟩, ⟨oa, h87, h87l⟩, ⟨tr, h88, h88l⟩, ⟨fi, h89, h89l⟩, ⟨go, h90, h90l⟩, ⟨cu2, h91, h91l⟩, ⟨pc, h92, h92l⟩⟩ := hm1
      have f2 : Fr inMd H1 (pt (pt H1 77 (sli kt (15 * i))) 74 (mdL kd 0 nk le ap nu me op de fo bs bu)) := Fr_and (Fr_pt (by unfold inMd; omega) h77 (by rw [sli_len, hrS.1])) (by unfold inMd; omega) h74 rfl
      exact ⟨_, Call_up (M_back h74 hD h75 h76 hrT h77 hrS h85 h85l h80 hkt h79 p5 ⟨hg.1, hg.2.1⟩ hg.2.2 (hki9 kt hki)) (by decide), (Fr_up f2 (fun a ha => by unfold inMd at ha; unfold inMm; omega)), ⟨nk, ap, nu, me, op, de, fo, bs, bu, td, sli kt (15 * i), ps, kt, pt_self (pt_nx (by decide) h74), (f2.2 75 (by unfold inMd; omega)).trans h75, (f2.2 76 (by unfold inMd; omega)).trans h76, hrT, pt_nx (by decide) (pt_self h77), hki9 kt hki, pt_nx (by decide) (pt_nx (by decide) h78), hps, (fun i hi => by omega), (f2.2 79 (by unfold inMd; omega)).trans h79, (f2.2 80 (by unfold inMd; omega)).trans h80, hkt, hki, (f2.2 84 (by unfold inMd; omega)).trans h84, (by obtain ⟨g, g1, g2⟩ := cell_fr f2 h81; exact ⟨g, g1, by omega⟩), (by obtain ⟨g, g1, g2⟩ := cell_fr f2 h82; exact ⟨g, g1, by omega⟩), (by obtain ⟨g, g1, g2⟩ := cell_fr f2 h83; exact ⟨g, g1, by omega⟩), (by obtain ⟨g, g1, g2⟩ := cell_fr f2 h85; exact ⟨g, g1, by omega⟩), (by obtain ⟨g, g1, g2⟩ := cell_fr f2 h86; exact ⟨g, g1, by omega⟩), (by obtain ⟨g, g1, g2⟩ := cell_fr f2 h87; exact ⟨g, g1, by omega⟩), (by obtain ⟨g, g1, g2⟩ := cell_fr f2 h88; exact ⟨g, g1, by omega⟩), (by obtain ⟨g, g1, g2⟩ := cell_fr f2 h89; exact ⟨g, g1, by omega⟩), (by obtain ⟨g, g1, g2⟩ := cell_fr f2 h90; exact ⟨g, g1, by omega⟩), (by obtain ⟨g, g1, g2⟩ := cell_fr f2 h91; exact ⟨g, g1, by omega⟩), (by obtain ⟨g, g1, g2⟩ := cell_fr f2 h92; exact ⟨g, g1, by omega⟩)⟩⟩
  · obtain ⟨r, hr⟩ : ∃ r : Int, (¬ (0 ≤ i ∧ i < 2) → r = -1) ∧ ((0 ≤ i ∧ i < 2) → r = -2) := by
      by_cases c0 : ¬ (0 ≤ i ∧ i < 2)
      · exact ⟨-1, by refine ⟨?_, ?_⟩ <;> intro z <;> first | rfl | (exfalso; omega)⟩
      exact ⟨-2, by refine ⟨?_, ?_⟩ <;> intro z <;> first | rfl | (exfalso; omega)⟩
    refine comb hp (ro_c hc0 (C_back_no hR hT hL h21 p5 hg hr) (by decide)) hm0 (fun H1 hm1 => ?_)
    have hm10 := hm1
    obtain ⟨nk, ap, nu, me, op, de, fo, bs, bu, td, ss, ps, kt, h74, h75, h76, hrT, h77, hrS, h78, hps, hpq, h79, h80, hkt, hki, h84, ⟨Z, h81, hZ⟩, ⟨t82, h82, h82l⟩, ⟨s83, h83, h83l⟩, ⟨tt, h85, h85l⟩, ⟨A, h86, h86l⟩, ⟨oa, h87, h87l⟩, ⟨tr, h88, h88l⟩, ⟨fi, h89, h89l⟩, ⟨go, h90, h90l⟩, ⟨cu2, h91, h91l⟩, ⟨pc, h92, h92l⟩⟩ := hm1
    exact ro_m hm10 (M_back_no h74 hD h79 p5 hg hr) (by decide)
end CHG
