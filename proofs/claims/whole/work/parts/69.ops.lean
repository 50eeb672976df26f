/-! the calls, one by one -/
theorem okD_of {kd wd ht rm mo sd bo : Int} {ed hu sk hv : List Int} (h : okT kd wd ht rm mo sd bo ed hu sk hv) : okD kd wd ht rm mo sd bo ed hu := by
  obtain ⟨r1, r2, r3, r4, r5, r6, r7, b1, b2, -⟩ := h
  exact ⟨r1, r2, r3, r4, r5, r6, r7, b1, b2⟩
theorem wantR_ex (Q : Int → List (List Int)) : ∃ r, wantR Q r := by
  rcases firstN (fun j => Q (j : Int) = []) 10 with h | ⟨i, hi, h1, h2⟩
  · refine ⟨-9, fun t t0 t9 hq _ => absurd ?_ hq, fun _ => rfl⟩
    have := h t.toNat (by omega)
    rw [show ((t.toNat : Nat) : Int) = t by omega] at this
    exact this
  · refine ⟨i, fun t t0 t9 hq hu => ?_, fun h => absurd (h i (by omega) (by omega)) h2⟩
    rcases Int.lt_trichotomy t i with e | e | e
    · have := h1 t.toNat (by omega)
      rw [show ((t.toNat : Nat) : Int) = t by omega] at this
      exact absurd this hq
    · exact e.symm
    · exact absurd (hu i (by omega) e) h2
theorem bitR_ex (x i : Int) : ∃ r, bitR x i r := by
  by_cases h : ∃ k : Nat, k < 24 ∧ bit x k = true ∧ cn (fun b => bit x b) k = i
  · obtain ⟨k, h1, h2, h3⟩ := h
    refine ⟨k, fun j j1 j2 j3 => ?_, fun z => absurd h3 (z k h1 h2)⟩
    have a1 : ∀ {a b : Nat}, a < b → bit x a = true → cn (fun b => bit x b) a = i → cn (fun b => bit x b) b = i → False := by
      intro a b hab ha h4 h5
      have h6 := cn_t (p := fun b : Nat => bit x b) (n := a) ha
      have h7 := cn_mono (p := fun b : Nat => bit x b) (a := a + 1) (b := b) (by omega)
      omega
    rcases Nat.lt_trichotomy k j with e | e | e
    · exact (a1 e h2 h3 j3).elim
    · rw [e]
    · exact (a1 e j2 j3 h3).elim
  · exact ⟨-9, fun j j1 j2 j3 => absurd ⟨j, j1, j2, j3⟩ h, fun _ => rfl⟩
theorem gf_bits {bl ed W2 W3 : List Int} {wd ht : Int} {I : Nat → Nat → Prop} (h1 : gfam bl ed wd ht I W2) (h2 : gfam bl ed wd ht I W3) {s : Nat} (hs : s < 6) (b : Nat) : bit (ix W2 s) b = bit (ix W3 s) b := by
  have h := gfam_one h1 h2 s b
  unfold inW at h
  cases e2 : bit (ix W2 s) b <;> cases e3 : bit (ix W3 s) b
  · rfl
  · rw [e2, e3] at h
    have := (h.mpr ⟨hs, rfl⟩).2
    cases this
  · rw [e2, e3] at h
    have := (h.mp ⟨hs, rfl⟩).2
    cases this
  · rfl
theorem nbst_eq {bl ed W2 W3 : List Int} {wd ht : Int} {I : Nat → Nat → Prop} (h1 : gfam bl ed wd ht I W2) (h2 : gfam bl ed wd ht I W3) : ∀ k : Nat, k ≤ 6 → nbst bl W2 k = nbst bl W3 k
  | 0, _ => rfl
  | k + 1, hk => by
    have ih := nbst_eq h1 h2 k (by omega)
    have hb := nbst_bd bl W3 k
    have e1 : ∀ s : Nat, s < 6 → cn (fun b => bit (ix W2 s) b) 24 = cn (fun b => bit (ix W3 s) b) 24 := fun s hs => cn_congr (fun i _ => gf_bits h1 h2 hs i)
    simp only [nbst]
    rw [ih, e1 k (by omega)]
    by_cases e9 : nbst bl W3 k = -9
    · by_cases e : ix bl k = -9
      · rw [if_pos ⟨e, Or.inl e9⟩, if_pos ⟨e, Or.inl e9⟩]
      · rw [if_neg (fun z => e z.1), if_neg (fun z => e z.1)]
    · have e2 := e1 (nbst bl W3 k).toNat (by omega)
      rw [show (((nbst bl W3 k).toNat : Nat) : Int) = nbst bl W3 k by omega] at e2
      rw [e2]
section OPS
variable {H : mH}
theorem s_kind (hS : sim H) {k x : Int} : stpR 58 121 [mI k, mI x] H := by
  obtain ⟨le, un, kd, wd, ht, rm, mo, sd, bo, ed, hu, bl, sl, tx, kp, QB, QS, IB, IS, hp, hc, hm⟩ := hS
  have hc0 := hc
  have hm0 := hm
  obtain ⟨pe, ta, tb, sk, PB, PS, hR, hab, hpe, h1, ⟨R, h2, hR8⟩, hT, ⟨kz, wz, hz, rz, mz, sz, bz, ez, uz, skz, hvz, hTs⟩, hL, ⟨b6, s6, hL6⟩, hP, hQ, hI, h21, h22, ⟨W, h23, hW⟩, ⟨la, hFS⟩, ⟨kn, us, cu, gv, hC, hk⟩, ⟨fq, h37, hfq⟩⟩ := hc
  have hD := okD_of hT.2.2.2.2.2
  have hta : ta = 3 ∨ ta = 8 := by omega
  have hw := wh_bd hD.2.1.1 hD.2.1.2 hD.2.2.1.1 hD.2.2.1.2
  obtain ⟨n, hn⟩ : ∃ n : Nat, (n : Int) = wd * ht := ⟨(wd * ht).toNat, by omega⟩
  have hB : ∀ j : Nat, j < 6 → ix bl j = -9 ∨ (0 ≤ ix bl j ∧ ix bl j < kd * 4) := fun j hj => hp.2.2.2.2.2 j (by omega) (by omega)
  have hbl := hL.2.2.2.1
  have hsl := hL.2.2.2.2.1
  obtain ⟨r, hr⟩ : ∃ r : Int, (¬ (0 ≤ k ∧ k < kd ∧ 0 ≤ x ∧ x ≤ 6) → r = -1) ∧ ((0 ≤ k ∧ k < kd ∧ 0 ≤ x ∧ x ≤ 3) → r = eo ed (k * 4) x) ∧ ((0 ≤ k ∧ k < kd ∧ x = 4) → r = ix hu k) ∧ ((0 ≤ k ∧ k < kd ∧ x = 5) → r = ix sl k) ∧ ((0 ≤ k ∧ k < kd ∧ x = 6) → r = ix sl k - nK bl k 6 + 100) := by
    by_cases c0 : ¬ (0 ≤ k ∧ k < kd ∧ 0 ≤ x ∧ x ≤ 6)
    · exact ⟨-1, by refine ⟨?_, ?_, ?_, ?_, ?_⟩ <;> intro z <;> first | rfl | (exfalso; omega)⟩
    by_cases c1 : x ≤ 3
    · exact ⟨eo ed (k * 4) x, by refine ⟨?_, ?_, ?_, ?_, ?_⟩ <;> intro z <;> first | rfl | (exfalso; omega)⟩
    by_cases c2 : x = 4
    · exact ⟨ix hu k, by refine ⟨?_, ?_, ?_, ?_, ?_⟩ <;> intro z <;> first | rfl | (exfalso; omega)⟩
    by_cases c3 : x = 5
    · exact ⟨ix sl k, by refine ⟨?_, ?_, ?_, ?_, ?_⟩ <;> intro z <;> first | rfl | (exfalso; omega)⟩
    exact ⟨ix sl k - nK bl k 6 + 100, by refine ⟨?_, ?_, ?_, ?_, ?_⟩ <;> intro z <;> first | rfl | (exfalso; omega)⟩
  refine comb hp (ro_c hc0 (C_kind hR hT hL hr) (by decide)) hm0 (fun H1 hm1 => ?_)
  have hm10 := hm1
  obtain ⟨nk, ap, nu, me, op, de, fo, bs, bu, td, ss, ps, kt, h74, h75, h76, hrT, h77, hrS, h78, hps, hpq, h79, h80, hkt, hki, h84, ⟨Z, h81, hZ⟩, ⟨t82, h82, h82l⟩, ⟨s83, h83, h83l⟩, ⟨tt, h85, h85l⟩, ⟨A, h86, h86l⟩, ⟨oa, h87, h87l⟩, ⟨tr, h88, h88l⟩, ⟨fi, h89, h89l⟩, ⟨go, h90, h90l⟩, ⟨cu2, h91, h91l⟩, ⟨pc, h92, h92l⟩⟩ := hm1
  exact t85_m hm10 (M_kind h74 hD h75 h76 hrT h77 hrS h85 h85l hr) (by decide) h85 h85l hrS.1
theorem s_block (hS : sim H) {b x : Int} : stpR 59 122 [mI b, mI x] H := by
  obtain ⟨le, un, kd, wd, ht, rm, mo, sd, bo, ed, hu, bl, sl, tx, kp, QB, QS, IB, IS, hp, hc, hm⟩ := hS
  have hc0 := hc
  have hm0 := hm
  obtain ⟨pe, ta, tb, sk, PB, PS, hR, hab, hpe, h1, ⟨R, h2, hR8⟩, hT, ⟨kz, wz, hz, rz, mz, sz, bz, ez, uz, skz, hvz, hTs⟩, hL, ⟨b6, s6, hL6⟩, hP, hQ, hI, h21, h22, ⟨W, h23, hW⟩, ⟨la, hFS⟩, ⟨kn, us, cu, gv, hC, hk⟩, ⟨fq, h37, hfq⟩⟩ := hc
  have hD := okD_of hT.2.2.2.2.2
  have hta : ta = 3 ∨ ta = 8 := by omega
  have hw := wh_bd hD.2.1.1 hD.2.1.2 hD.2.2.1.1 hD.2.2.1.2
  obtain ⟨n, hn⟩ : ∃ n : Nat, (n : Int) = wd * ht := ⟨(wd * ht).toNat, by omega⟩
  have hB : ∀ j : Nat, j < 6 → ix bl j = -9 ∨ (0 ≤ ix bl j ∧ ix bl j < kd * 4) := fun j hj => hp.2.2.2.2.2 j (by omega) (by omega)
  have hbl := hL.2.2.2.1
  have hsl := hL.2.2.2.2.1
  obtain ⟨r, hr⟩ : ∃ r : Int, (¬ (0 ≤ b ∧ b < kd * 4 ∧ 0 ≤ x ∧ x ≤ 4) → r = -1) ∧ ((0 ≤ b ∧ b < kd * 4 ∧ 0 ≤ x ∧ x ≤ 3) → r = eo ed b x) ∧ ((0 ≤ b ∧ b < kd * 4 ∧ x = 4) → r = b01 (plB ed b)) := by
    by_cases c0 : ¬ (0 ≤ b ∧ b < kd * 4 ∧ 0 ≤ x ∧ x ≤ 4)
    · exact ⟨-1, by refine ⟨?_, ?_, ?_⟩ <;> intro z <;> first | rfl | (exfalso; omega)⟩
    by_cases c1 : x ≤ 3
    · exact ⟨eo ed b x, by refine ⟨?_, ?_, ?_⟩ <;> intro z <;> first | rfl | (exfalso; omega)⟩
    exact ⟨b01 (plB ed b), by refine ⟨?_, ?_, ?_⟩ <;> intro z <;> first | rfl | (exfalso; omega)⟩
  refine comb hp (ro_c hc0 (C_block hR hT hL hr) (by decide)) hm0 (fun H1 hm1 => ?_)
  have hm10 := hm1
  obtain ⟨nk, ap, nu, me, op, de, fo, bs, bu, td, ss, ps, kt, h74, h75, h76, hrT, h77, hrS, h78, hps, hpq, h79, h80, hkt, hki, h84, ⟨Z, h81, hZ⟩, ⟨t82, h82, h82l⟩, ⟨s83, h83, h83l⟩, ⟨tt, h85, h85l⟩, ⟨A, h86, h86l⟩, ⟨oa, h87, h87l⟩, ⟨tr, h88, h88l⟩, ⟨fi, h89, h89l⟩, ⟨go, h90, h90l⟩, ⟨cu2, h91, h91l⟩, ⟨pc, h92, h92l⟩⟩ := hm1
  exact ro_m hm10 (M_block h74 hD h75 h76 hrT h77 hrS h85 h85l hr) (by decide)
theorem s_square (hS : sim H) {s : Int} : stpR 65 130 [mI s] H := by
  obtain ⟨le, un, kd, wd, ht, rm, mo, sd, bo, ed, hu, bl, sl, tx, kp, QB, QS, IB, IS, hp, hc, hm⟩ := hS
  have hc0 := hc
  have hm0 := hm
  obtain ⟨pe, ta, tb, sk, PB, PS, hR, hab, hpe, h1, ⟨R, h2, hR8⟩, hT, ⟨kz, wz, hz, rz, mz, sz, bz, ez, uz, skz, hvz, hTs⟩, hL, ⟨b6, s6, hL6⟩, hP, hQ, hI, h21, h22, ⟨W, h23, hW⟩, ⟨la, hFS⟩, ⟨kn, us, cu, gv, hC, hk⟩, ⟨fq, h37, hfq⟩⟩ := hc
  have hD := okD_of hT.2.2.2.2.2
  have hta : ta = 3 ∨ ta = 8 := by omega
  have hw := wh_bd hD.2.1.1 hD.2.1.2 hD.2.2.1.1 hD.2.2.1.2
  obtain ⟨n, hn⟩ : ∃ n : Nat, (n : Int) = wd * ht := ⟨(wd * ht).toNat, by omega⟩
  have hB : ∀ j : Nat, j < 6 → ix bl j = -9 ∨ (0 ≤ ix bl j ∧ ix bl j < kd * 4) := fun j hj => hp.2.2.2.2.2 j (by omega) (by omega)
  have hbl := hL.2.2.2.1
  have hsl := hL.2.2.2.2.1
  obtain ⟨r, hr⟩ : ∃ r : Int, (¬ (0 ≤ s ∧ s < wd * ht) → r = -1) ∧ ((0 ≤ s ∧ s < wd * ht) → r = ix bl s) := by
    by_cases c0 : ¬ (0 ≤ s ∧ s < wd * ht)
    · exact ⟨-1, by refine ⟨?_, ?_⟩ <;> intro z <;> first | rfl | (exfalso; omega)⟩
    exact ⟨ix bl s, by refine ⟨?_, ?_⟩ <;> intro z <;> first | rfl | (exfalso; omega)⟩
  refine comb hp (ro_c hc0 (C_square hR hT hL hr) (by decide)) hm0 (fun H1 hm1 => ?_)
  have hm10 := hm1
  obtain ⟨nk, ap, nu, me, op, de, fo, bs, bu, td, ss, ps, kt, h74, h75, h76, hrT, h77, hrS, h78, hps, hpq, h79, h80, hkt, hki, h84, ⟨Z, h81, hZ⟩, ⟨t82, h82, h82l⟩, ⟨s83, h83, h83l⟩, ⟨tt, h85, h85l⟩, ⟨A, h86, h86l⟩, ⟨oa, h87, h87l⟩, ⟨tr, h88, h88l⟩, ⟨fi, h89, h89l⟩, ⟨go, h90, h90l⟩, ⟨cu2, h91, h91l⟩, ⟨pc, h92, h92l⟩⟩ := hm1
  exact ro_m hm10 (M_square h74 hD h75 h76 hrT h77 hrS h85 h85l hr) (by decide)
theorem s_fits (hS : sim H) {s b : Int} : stpR 66 131 [mI s, mI b] H := by
  obtain ⟨le, un, kd, wd, ht, rm, mo, sd, bo, ed, hu, bl, sl, tx, kp, QB, QS, IB, IS, hp, hc, hm⟩ := hS
  have hc0 := hc
  have hm0 := hm
  obtain ⟨pe, ta, tb, sk, PB, PS, hR, hab, hpe, h1, ⟨R, h2, hR8⟩, hT, ⟨kz, wz, hz, rz, mz, sz, bz, ez, uz, skz, hvz, hTs⟩, hL, ⟨b6, s6, hL6⟩, hP, hQ, hI, h21, h22, ⟨W, h23, hW⟩, ⟨la, hFS⟩, ⟨kn, us, cu, gv, hC, hk⟩, ⟨fq, h37, hfq⟩⟩ := hc
  have hD := okD_of hT.2.2.2.2.2
  have hta : ta = 3 ∨ ta = 8 := by omega
  have hw := wh_bd hD.2.1.1 hD.2.1.2 hD.2.2.1.1 hD.2.2.1.2
  obtain ⟨n, hn⟩ : ∃ n : Nat, (n : Int) = wd * ht := ⟨(wd * ht).toNat, by omega⟩
  have hB : ∀ j : Nat, j < 6 → ix bl j = -9 ∨ (0 ≤ ix bl j ∧ ix bl j < kd * 4) := fun j hj => hp.2.2.2.2.2 j (by omega) (by omega)
  have hbl := hL.2.2.2.1
  have hsl := hL.2.2.2.2.1
  obtain ⟨v, hv, hv4⟩ := why_ex bl sl ed hu wd ht rm mo s b
  obtain ⟨r, hr⟩ : ∃ r : Int, (¬ (0 ≤ s ∧ s < wd * ht ∧ 0 ≤ b ∧ b < kd * 4) → r = -1) ∧ ((0 ≤ s ∧ s < wd * ht ∧ 0 ≤ b ∧ b < kd * 4 ∧ ¬ ix bl s = -9) → r = -2) ∧ ((0 ≤ s ∧ s < wd * ht ∧ 0 ≤ b ∧ b < kd * 4 ∧ ix bl s = -9) → r = v) := by
    by_cases c0 : ¬ (0 ≤ s ∧ s < wd * ht ∧ 0 ≤ b ∧ b < kd * 4)
    · exact ⟨-1, by refine ⟨?_, ?_, ?_⟩ <;> intro z <;> first | rfl | (exfalso; omega)⟩
    by_cases c1 : ¬ ix bl s = -9
    · exact ⟨-2, by refine ⟨?_, ?_, ?_⟩ <;> intro z <;> first | rfl | (exfalso; omega)⟩
    exact ⟨v, by refine ⟨?_, ?_, ?_⟩ <;> intro z <;> first | rfl | (exfalso; omega)⟩
  refine comb hp (ro_c hc0 (C_fits hR hT hL (fun _ => hv) hr) (by decide)) hm0 (fun H1 hm1 => ?_)
  have hm10 := hm1
  obtain ⟨nk, ap, nu, me, op, de, fo, bs, bu, td, ss, ps, kt, h74, h75, h76, hrT, h77, hrS, h78, hps, hpq, h79, h80, hkt, hki, h84, ⟨Z, h81, hZ⟩, ⟨t82, h82, h82l⟩, ⟨s83, h83, h83l⟩, ⟨tt, h85, h85l⟩, ⟨A, h86, h86l⟩, ⟨oa, h87, h87l⟩, ⟨tr, h88, h88l⟩, ⟨fi, h89, h89l⟩, ⟨go, h90, h90l⟩, ⟨cu2, h91, h91l⟩, ⟨pc, h92, h92l⟩⟩ := hm1
  exact t85_m hm10 (M_fits h74 hD h75 h76 hrT h77 hrS h85 h85l (fun _ => hv) hr) (by decide) h85 h85l hrS.1
theorem s_hue (hS : sim H) {i x : Int} (him : i ≤ 2147483647) : stpR 68 138 [mI i, mI x] H := by
  obtain ⟨le, un, kd, wd, ht, rm, mo, sd, bo, ed, hu, bl, sl, tx, kp, QB, QS, IB, IS, hp, hc, hm⟩ := hS
  have hc0 := hc
  have hm0 := hm
  obtain ⟨pe, ta, tb, sk, PB, PS, hR, hab, hpe, h1, ⟨R, h2, hR8⟩, hT, ⟨kz, wz, hz, rz, mz, sz, bz, ez, uz, skz, hvz, hTs⟩, hL, ⟨b6, s6, hL6⟩, hP, hQ, hI, h21, h22, ⟨W, h23, hW⟩, ⟨la, hFS⟩, ⟨kn, us, cu, gv, hC, hk⟩, ⟨fq, h37, hfq⟩⟩ := hc
  have hD := okD_of hT.2.2.2.2.2
  have hta : ta = 3 ∨ ta = 8 := by omega
  have hw := wh_bd hD.2.1.1 hD.2.1.2 hD.2.2.1.1 hD.2.2.1.2
  obtain ⟨n, hn⟩ : ∃ n : Nat, (n : Int) = wd * ht := ⟨(wd * ht).toNat, by omega⟩
  have hB : ∀ j : Nat, j < 6 → ix bl j = -9 ∨ (0 ≤ ix bl j ∧ ix bl j < kd * 4) := fun j hj => hp.2.2.2.2.2 j (by omega) (by omega)
  have hbl := hL.2.2.2.1
  have hsl := hL.2.2.2.2.1
  obtain ⟨w, hw0⟩ := hueR_ex (hu := hu) (kd := kd) i
  obtain ⟨r, hr⟩ : ∃ r : Int, (¬ (0 ≤ i ∧ 0 ≤ x ∧ x ≤ 2) → r = -1) ∧ ((0 ≤ i ∧ 0 ≤ x ∧ x ≤ 2 ∧ (w < 0 ∨ x = 0)) → r = w) ∧ ((0 ≤ i ∧ x = 1 ∧ 0 ≤ w) → r = cn (fun k => decide (ix hu k = w)) kd.toNat) ∧ ((0 ≤ i ∧ x = 2 ∧ 0 ≤ w) → r = nH bl hu w 6) := by
    by_cases c0 : ¬ (0 ≤ i ∧ 0 ≤ x ∧ x ≤ 2)
    · exact ⟨-1, by refine ⟨?_, ?_, ?_, ?_⟩ <;> intro z <;> first | rfl | (exfalso; omega)⟩
    by_cases c1 : w < 0 ∨ x = 0
    · exact ⟨w, by refine ⟨?_, ?_, ?_, ?_⟩ <;> intro z <;> first | rfl | (exfalso; omega)⟩
    by_cases c2 : x = 1
    · exact ⟨cn (fun k => decide (ix hu k = w)) kd.toNat, by refine ⟨?_, ?_, ?_, ?_⟩ <;> intro z <;> first | rfl | (exfalso; omega)⟩
    exact ⟨nH bl hu w 6, by refine ⟨?_, ?_, ?_, ?_⟩ <;> intro z <;> first | rfl | (exfalso; omega)⟩
  refine comb hp (ro_c hc0 (C_hue hR hT hL hw0 hr) (by decide)) hm0 (fun H1 hm1 => ?_)
  have hm10 := hm1
  obtain ⟨nk, ap, nu, me, op, de, fo, bs, bu, td, ss, ps, kt, h74, h75, h76, hrT, h77, hrS, h78, hps, hpq, h79, h80, hkt, hki, h84, ⟨Z, h81, hZ⟩, ⟨t82, h82, h82l⟩, ⟨s83, h83, h83l⟩, ⟨tt, h85, h85l⟩, ⟨A, h86, h86l⟩, ⟨oa, h87, h87l⟩, ⟨tr, h88, h88l⟩, ⟨fi, h89, h89l⟩, ⟨go, h90, h90l⟩, ⟨cu2, h91, h91l⟩, ⟨pc, h92, h92l⟩⟩ := hm1
  exact t85_m hm10 (M_hue h74 hD h75 h76 hrT h77 hrS h85 h85l him hw0 hr) (by decide) h85 h85l hrS.1
theorem s_count (hS : sim H) {x : Int} : stpR 80 160 [mI x] H := by
  obtain ⟨le, un, kd, wd, ht, rm, mo, sd, bo, ed, hu, bl, sl, tx, kp, QB, QS, IB, IS, hp, hc, hm⟩ := hS
  have hc0 := hc
  have hm0 := hm
  obtain ⟨pe, ta, tb, sk, PB, PS, hR, hab, hpe, h1, ⟨R, h2, hR8⟩, hT, ⟨kz, wz, hz, rz, mz, sz, bz, ez, uz, skz, hvz, hTs⟩, hL, ⟨b6, s6, hL6⟩, hP, hQ, hI, h21, h22, ⟨W, h23, hW⟩, ⟨la, hFS⟩, ⟨kn, us, cu, gv, hC, hk⟩, ⟨fq, h37, hfq⟩⟩ := hc
  have hD := okD_of hT.2.2.2.2.2
  have hta : ta = 3 ∨ ta = 8 := by omega
  have hw := wh_bd hD.2.1.1 hD.2.1.2 hD.2.2.1.1 hD.2.2.1.2
  obtain ⟨n, hn⟩ : ∃ n : Nat, (n : Int) = wd * ht := ⟨(wd * ht).toNat, by omega⟩
  have hB : ∀ j : Nat, j < 6 → ix bl j = -9 ∨ (0 ≤ ix bl j ∧ ix bl j < kd * 4) := fun j hj => hp.2.2.2.2.2 j (by omega) (by omega)
  have hbl := hL.2.2.2.1
  have hsl := hL.2.2.2.2.1
  obtain ⟨r, hr⟩ : ∃ r : Int, (x = 0 → r = kd) ∧ (x = 1 → r = wd) ∧ (x = 2 → r = ht) ∧ (x = 3 → r = rm) ∧ (x = 4 → r = mo) ∧ (x = 5 → r = sd) ∧ (x = 6 → r = bo) ∧ (x = 7 → r = nO bl (wd * ht).toNat) ∧ (x = 8 → r = le) ∧ (x = 9 → r = un) ∧ (x = 10 → r = cn (fh hu) kd.toNat) ∧ (¬ (0 ≤ x ∧ x ≤ 10) → r = -1) := by
    by_cases c0 : x = 0
    · exact ⟨kd, by refine ⟨?_, ?_, ?_, ?_, ?_, ?_, ?_, ?_, ?_, ?_, ?_, ?_⟩ <;> intro z <;> first | rfl | (exfalso; omega)⟩
    by_cases c1 : x = 1
    · exact ⟨wd, by refine ⟨?_, ?_, ?_, ?_, ?_, ?_, ?_, ?_, ?_, ?_, ?_, ?_⟩ <;> intro z <;> first | rfl | (exfalso; omega)⟩
    by_cases c2 : x = 2
    · exact ⟨ht, by refine ⟨?_, ?_, ?_, ?_, ?_, ?_, ?_, ?_, ?_, ?_, ?_, ?_⟩ <;> intro z <;> first | rfl | (exfalso; omega)⟩
    by_cases c3 : x = 3
    · exact ⟨rm, by refine ⟨?_, ?_, ?_, ?_, ?_, ?_, ?_, ?_, ?_, ?_, ?_, ?_⟩ <;> intro z <;> first | rfl | (exfalso; omega)⟩
    by_cases c4 : x = 4
    · exact ⟨mo, by refine ⟨?_, ?_, ?_, ?_, ?_, ?_, ?_, ?_, ?_, ?_, ?_, ?_⟩ <;> intro z <;> first | rfl | (exfalso; omega)⟩
    by_cases c5 : x = 5
    · exact ⟨sd, by refine ⟨?_, ?_, ?_, ?_, ?_, ?_, ?_, ?_, ?_, ?_, ?_, ?_⟩ <;> intro z <;> first | rfl | (exfalso; omega)⟩
    by_cases c6 : x = 6
    · exact ⟨bo, by refine ⟨?_, ?_, ?_, ?_, ?_, ?_, ?_, ?_, ?_, ?_, ?_, ?_⟩ <;> intro z <;> first | rfl | (exfalso; omega)⟩
    by_cases c7 : x = 7
    · exact ⟨nO bl (wd * ht).toNat, by refine ⟨?_, ?_, ?_, ?_, ?_, ?_, ?_, ?_, ?_, ?_, ?_, ?_⟩ <;> intro z <;> first | rfl | (exfalso; omega)⟩
    by_cases c8 : x = 8
    · exact ⟨le, by refine ⟨?_, ?_, ?_, ?_, ?_, ?_, ?_, ?_, ?_, ?_, ?_, ?_⟩ <;> intro z <;> first | rfl | (exfalso; omega)⟩
    by_cases c9 : x = 9
    · exact ⟨un, by refine ⟨?_, ?_, ?_, ?_, ?_, ?_, ?_, ?_, ?_, ?_, ?_, ?_⟩ <;> intro z <;> first | rfl | (exfalso; omega)⟩
    by_cases c10 : x = 10
    · exact ⟨cn (fh hu) kd.toNat, by refine ⟨?_, ?_, ?_, ?_, ?_, ?_, ?_, ?_, ?_, ?_, ?_, ?_⟩ <;> intro z <;> first | rfl | (exfalso; omega)⟩
    exact ⟨-1, by refine ⟨?_, ?_, ?_, ?_, ?_, ?_, ?_, ?_, ?_, ?_, ?_, ?_⟩ <;> intro z <;> first | rfl | (exfalso; omega)⟩
  refine comb hp (ro_c hc0 (C_count hR hT hL hr) (by decide)) hm0 (fun H1 hm1 => ?_)
  have hm10 := hm1
  obtain ⟨nk, ap, nu, me, op, de, fo, bs, bu, td, ss, ps, kt, h74, h75, h76, hrT, h77, hrS, h78, hps, hpq, h79, h80, hkt, hki, h84, ⟨Z, h81, hZ⟩, ⟨t82, h82, h82l⟩, ⟨s83, h83, h83l⟩, ⟨tt, h85, h85l⟩, ⟨A, h86, h86l⟩, ⟨oa, h87, h87l⟩, ⟨tr, h88, h88l⟩, ⟨fi, h89, h89l⟩, ⟨go, h90, h90l⟩, ⟨cu2, h91, h91l⟩, ⟨pc, h92, h92l⟩⟩ := hm1
  exact ro_m hm10 (M_count h74 hD h75 h76 hrT h77 hrS h85 h85l hr) (by decide)
theorem s_piece (hS : sim H) {p x : Int} : stpR 74 153 [mI p, mI x] H := by
  obtain ⟨le, un, kd, wd, ht, rm, mo, sd, bo, ed, hu, bl, sl, tx, kp, QB, QS, IB, IS, hp, hc, hm⟩ := hS
  have hc0 := hc
  have hm0 := hm
  obtain ⟨pe, ta, tb, sk, PB, PS, hR, hab, hpe, h1, ⟨R, h2, hR8⟩, hT, ⟨kz, wz, hz, rz, mz, sz, bz, ez, uz, skz, hvz, hTs⟩, hL, ⟨b6, s6, hL6⟩, hP, hQ, hI, h21, h22, ⟨W, h23, hW⟩, ⟨la, hFS⟩, ⟨kn, us, cu, gv, hC, hk⟩, ⟨fq, h37, hfq⟩⟩ := hc
  have hD := okD_of hT.2.2.2.2.2
  have hta : ta = 3 ∨ ta = 8 := by omega
  have hw := wh_bd hD.2.1.1 hD.2.1.2 hD.2.2.1.1 hD.2.2.1.2
  obtain ⟨n, hn⟩ : ∃ n : Nat, (n : Int) = wd * ht := ⟨(wd * ht).toNat, by omega⟩
  have hB : ∀ j : Nat, j < 6 → ix bl j = -9 ∨ (0 ≤ ix bl j ∧ ix bl j < kd * 4) := fun j hj => hp.2.2.2.2.2 j (by omega) (by omega)
  have hbl := hL.2.2.2.1
  have hsl := hL.2.2.2.2.1
  obtain ⟨r, hr⟩ : ∃ r : Int, (¬ (0 ≤ p ∧ p < 3 ∧ 0 ≤ x ∧ x ≤ 1) → r = -1) ∧ ((0 ≤ p ∧ p < 3 ∧ x = 0) → r = ix [sd, bo, bo] p) ∧ ((0 ≤ p ∧ p < 3 ∧ x = 1) → r = ix [sd, wd * sd + 2 * bo, ht * sd + 2 * bo] p) := by
    by_cases c0 : ¬ (0 ≤ p ∧ p < 3 ∧ 0 ≤ x ∧ x ≤ 1)
    · exact ⟨-1, by refine ⟨?_, ?_, ?_⟩ <;> intro z <;> first | rfl | (exfalso; omega)⟩
    by_cases c1 : x = 0
    · exact ⟨ix [sd, bo, bo] p, by refine ⟨?_, ?_, ?_⟩ <;> intro z <;> first | rfl | (exfalso; omega)⟩
    exact ⟨ix [sd, wd * sd + 2 * bo, ht * sd + 2 * bo] p, by refine ⟨?_, ?_, ?_⟩ <;> intro z <;> first | rfl | (exfalso; omega)⟩
  refine comb hp (ro_c hc0 (C_piece hR hT hL hC hr) (by decide)) hm0 (fun H1 hm1 => ?_)
  have hm10 := hm1
  obtain ⟨nk, ap, nu, me, op, de, fo, bs, bu, td, ss, ps, kt, h74, h75, h76, hrT, h77, hrS, h78, hps, hpq, h79, h80, hkt, hki, h84, ⟨Z, h81, hZ⟩, ⟨t82, h82, h82l⟩, ⟨s83, h83, h83l⟩, ⟨tt, h85, h85l⟩, ⟨A, h86, h86l⟩, ⟨oa, h87, h87l⟩, ⟨tr, h88, h88l⟩, ⟨fi, h89, h89l⟩, ⟨go, h90, h90l⟩, ⟨cu2, h91, h91l⟩, ⟨pc, h92, h92l⟩⟩ := hm1
  exact ro_m hm10 (M_piece h74 hD h75 hr) (by decide)
theorem s_many (hS : sim H) {L : Int} : stpR 69 142 [mI L] H := by
  obtain ⟨le, un, kd, wd, ht, rm, mo, sd, bo, ed, hu, bl, sl, tx, kp, QB, QS, IB, IS, hp, hc, hm⟩ := hS
  have hc0 := hc
  have hm0 := hm
  obtain ⟨pe, ta, tb, sk, PB, PS, hR, hab, hpe, h1, ⟨R, h2, hR8⟩, hT, ⟨kz, wz, hz, rz, mz, sz, bz, ez, uz, skz, hvz, hTs⟩, hL, ⟨b6, s6, hL6⟩, hP, hQ, hI, h21, h22, ⟨W, h23, hW⟩, ⟨la, hFS⟩, ⟨kn, us, cu, gv, hC, hk⟩, ⟨fq, h37, hfq⟩⟩ := hc
  have hD := okD_of hT.2.2.2.2.2
  have hta : ta = 3 ∨ ta = 8 := by omega
  have hw := wh_bd hD.2.1.1 hD.2.1.2 hD.2.2.1.1 hD.2.2.1.2
  obtain ⟨n, hn⟩ : ∃ n : Nat, (n : Int) = wd * ht := ⟨(wd * ht).toNat, by omega⟩
  have hB : ∀ j : Nat, j < 6 → ix bl j = -9 ∨ (0 ≤ ix bl j ∧ ix bl j < kd * 4) := fun j hj => hp.2.2.2.2.2 j (by omega) (by omega)
  have hbl := hL.2.2.2.1
  have hsl := hL.2.2.2.2.1
  by_cases hg : 1 ≤ L ∧ L ≤ 300
  · obtain ⟨Hc, lc, f1, f2, hcl⟩ := C_many hR hT hta hL hFS h22 h23 hW hn hB hg
    refine comb hp (sc_c hc0 hcl (by decide) (Fr_up f1 (fun a ha => by unfold inQ at ha; unfold inSc; omega)) ⟨b6, s6, lay_fr f1 hL6 (by unfold inQ; omega) (by unfold inQ; omega) (by unfold inQ; omega)⟩ ⟨lc, f2⟩ ⟨kn, us, cu, gv, clo_fr f1 hC (fun a ha => by unfold inQ; omega), hk⟩) hm0 (fun H1 hm1 => ?_)
    have hm10 := hm1
    obtain ⟨nk, ap, nu, me, op, de, fo, bs, bu, td, ss, ps, kt, h74, h75, h76, hrT, h77, hrS, h78, hps, hpq, h79, h80, hkt, hki, h84, ⟨Z, h81, hZ⟩, ⟨t82, h82, h82l⟩, ⟨s83, h83, h83l⟩, ⟨tt, h85, h85l⟩, ⟨A, h86, h86l⟩, ⟨oa, h87, h87l⟩, ⟨tr, h88, h88l⟩, ⟨fi, h89, h89l⟩, ⟨go, h90, h90l⟩, ⟨cu2, h91, h91l⟩, ⟨pc, h92, h92l⟩⟩ := hm1
    obtain ⟨Hm, ⟨g1, op', de', fo', bs', bu', g2⟩, hml⟩ := M_many h74 hD h75 h76 hrT h77 hrS h85 h85l h87 h87l h88 h88l hn hbl hg
    exact sc_m hm10 hml (by decide) (Fr_up g1 (fun a ha => by unfold inMs at ha; unfold inMy; omega)) ⟨_, _, _, _, _, _, _, _, _, g2⟩
  · refine comb hp (ro_c hc0 (C_many_no hR hT hta hg) (by decide)) hm0 (fun H1 hm1 => ?_)
    have hm10 := hm1
    obtain ⟨nk, ap, nu, me, op, de, fo, bs, bu, td, ss, ps, kt, h74, h75, h76, hrT, h77, hrS, h78, hps, hpq, h79, h80, hkt, hki, h84, ⟨Z, h81, hZ⟩, ⟨t82, h82, h82l⟩, ⟨s83, h83, h83l⟩, ⟨tt, h85, h85l⟩, ⟨A, h86, h86l⟩, ⟨oa, h87, h87l⟩, ⟨tr, h88, h88l⟩, ⟨fi, h89, h89l⟩, ⟨go, h90, h90l⟩, ⟨cu2, h91, h91l⟩, ⟨pc, h92, h92l⟩⟩ := hm1
    exact ro_m hm10 (M_many_no h74 hD hg) (by decide)
theorem s_quilt (hS : sim H) {k s : Int} : stpR 70 143 [mI k, mI s] H := by
  obtain ⟨le, un, kd, wd, ht, rm, mo, sd, bo, ed, hu, bl, sl, tx, kp, QB, QS, IB, IS, hp, hc, hm⟩ := hS
  have hc0 := hc
  have hm0 := hm
  obtain ⟨pe, ta, tb, sk, PB, PS, hR, hab, hpe, h1, ⟨R, h2, hR8⟩, hT, ⟨kz, wz, hz, rz, mz, sz, bz, ez, uz, skz, hvz, hTs⟩, hL, ⟨b6, s6, hL6⟩, hP, hQ, hI, h21, h22, ⟨W, h23, hW⟩, ⟨la, hFS⟩, ⟨kn, us, cu, gv, hC, hk⟩, ⟨fq, h37, hfq⟩⟩ := hc
  have hD := okD_of hT.2.2.2.2.2
  have hta : ta = 3 ∨ ta = 8 := by omega
  have hw := wh_bd hD.2.1.1 hD.2.1.2 hD.2.2.1.1 hD.2.2.1.2
  obtain ⟨n, hn⟩ : ∃ n : Nat, (n : Int) = wd * ht := ⟨(wd * ht).toNat, by omega⟩
  have hB : ∀ j : Nat, j < 6 → ix bl j = -9 ∨ (0 ≤ ix bl j ∧ ix bl j < kd * 4) := fun j hj => hp.2.2.2.2.2 j (by omega) (by omega)
  have hbl := hL.2.2.2.1
  have hsl := hL.2.2.2.2.1
  by_cases hg : 0 ≤ k ∧ k < 300 ∧ 0 ≤ s ∧ s < wd * ht
  · obtain ⟨Hc, lc, f1, f2, hcl⟩ := C_quilt hR hT hta hL hFS h22 h23 hW hn hB hg
    refine comb hp (sc_c hc0 hcl (by decide) (Fr_up f1 (fun a ha => by unfold inQ at ha; unfold inSc; omega)) ⟨b6, s6, lay_fr f1 hL6 (by unfold inQ; omega) (by unfold inQ; omega) (by unfold inQ; omega)⟩ ⟨lc, f2⟩ ⟨kn, us, cu, gv, clo_fr f1 hC (fun a ha => by unfold inQ; omega), hk⟩) hm0 (fun H1 hm1 => ?_)
    have hm10 := hm1
    obtain ⟨nk, ap, nu, me, op, de, fo, bs, bu, td, ss, ps, kt, h74, h75, h76, hrT, h77, hrS, h78, hps, hpq, h79, h80, hkt, hki, h84, ⟨Z, h81, hZ⟩, ⟨t82, h82, h82l⟩, ⟨s83, h83, h83l⟩, ⟨tt, h85, h85l⟩, ⟨A, h86, h86l⟩, ⟨oa, h87, h87l⟩, ⟨tr, h88, h88l⟩, ⟨fi, h89, h89l⟩, ⟨go, h90, h90l⟩, ⟨cu2, h91, h91l⟩, ⟨pc, h92, h92l⟩⟩ := hm1
    obtain ⟨Hm, ⟨g1, op', de', fo', bs', bu', g2⟩, hml⟩ := M_quilt h74 hD h75 h76 hrT h77 hrS h85 h85l h87 h87l h88 h88l hn hbl hg
    exact sc_m hm10 hml (by decide) (Fr_up g1 (fun a ha => by unfold inMs at ha; unfold inMy; omega)) ⟨_, _, _, _, _, _, _, _, _, g2⟩
  · refine comb hp (ro_c hc0 (C_quilt_no hR hT hta hL hg) (by decide)) hm0 (fun H1 hm1 => ?_)
    have hm10 := hm1
    obtain ⟨nk, ap, nu, me, op, de, fo, bs, bu, td, ss, ps, kt, h74, h75, h76, hrT, h77, hrS, h78, hps, hpq, h79, h80, hkt, hki, h84, ⟨Z, h81, hZ⟩, ⟨t82, h82, h82l⟩, ⟨s83, h83, h83l⟩, ⟨tt, h85, h85l⟩, ⟨A, h86, h86l⟩, ⟨oa, h87, h87l⟩, ⟨tr, h88, h88l⟩, ⟨fi, h89, h89l⟩, ⟨go, h90, h90l⟩, ⟨cu2, h91, h91l⟩, ⟨pc, h92, h92l⟩⟩ := hm1
    exact ro_m hm10 (M_quilt_no h74 hD h75 hg) (by decide)
theorem s_sure (hS : sim H) : stpR 71 144 [] H := by
  obtain ⟨le, un, kd, wd, ht, rm, mo, sd, bo, ed, hu, bl, sl, tx, kp, QB, QS, IB, IS, hp, hc, hm⟩ := hS
  have hc0 := hc
  have hm0 := hm
  obtain ⟨pe, ta, tb, sk, PB, PS, hR, hab, hpe, h1, ⟨R, h2, hR8⟩, hT, ⟨kz, wz, hz, rz, mz, sz, bz, ez, uz, skz, hvz, hTs⟩, hL, ⟨b6, s6, hL6⟩, hP, hQ, hI, h21, h22, ⟨W, h23, hW⟩, ⟨la, hFS⟩, ⟨kn, us, cu, gv, hC, hk⟩, ⟨fq, h37, hfq⟩⟩ := hc
  have hD := okD_of hT.2.2.2.2.2
  have hta : ta = 3 ∨ ta = 8 := by omega
  have hw := wh_bd hD.2.1.1 hD.2.1.2 hD.2.2.1.1 hD.2.2.1.2
  obtain ⟨n, hn⟩ : ∃ n : Nat, (n : Int) = wd * ht := ⟨(wd * ht).toNat, by omega⟩
  have hB : ∀ j : Nat, j < 6 → ix bl j = -9 ∨ (0 ≤ ix bl j ∧ ix bl j < kd * 4) := fun j hj => hp.2.2.2.2.2 j (by omega) (by omega)
  have hbl := hL.2.2.2.1
  have hsl := hL.2.2.2.2.1
  obtain ⟨Hc, lc, f1, f2, hcl⟩ := C_sure hR hT hta hL hFS h22 h23 hW hn hB h37 hfq
  refine comb hp (sc_c hc0 hcl (by decide) (Fr_up f1 (fun a ha => by unfold inZ at ha; unfold inSc; omega)) ⟨b6, s6, lay_fr f1 hL6 (by unfold inZ; omega) (by unfold inZ; omega) (by unfold inZ; omega)⟩ ⟨lc, f2⟩ ⟨kn, us, cu, gv, clo_fr f1 hC (fun a ha => by unfold inZ; omega), hk⟩) hm0 (fun H1 hm1 => ?_)
  have hm10 := hm1
  obtain ⟨nk, ap, nu, me, op, de, fo, bs, bu, td, ss, ps, kt, h74, h75, h76, hrT, h77, hrS, h78, hps, hpq, h79, h80, hkt, hki, h84, ⟨Z, h81, hZ⟩, ⟨t82, h82, h82l⟩, ⟨s83, h83, h83l⟩, ⟨tt, h85, h85l⟩, ⟨A, h86, h86l⟩, ⟨oa, h87, h87l⟩, ⟨tr, h88, h88l⟩, ⟨fi, h89, h89l⟩, ⟨go, h90, h90l⟩, ⟨cu2, h91, h91l⟩, ⟨pc, h92, h92l⟩⟩ := hm1
  obtain ⟨Hm, ⟨g1, op', de', fo', bs', bu', g2⟩, hml⟩ := M_sure h74 hD h75 h76 hrT h77 hrS h85 h85l h87 h87l h88 h88l hn hbl h89 h89l
  exact sc_m hm10 hml (by decide) (Fr_up g1 (fun a ha => by unfold inMx at ha; unfold inMy; omega)) ⟨_, _, _, _, _, _, _, _, _, g2⟩
theorem s_wanting (hS : sim H) {k : Int} : stpR 73 146 [mI k] H := by
  obtain ⟨le, un, kd, wd, ht, rm, mo, sd, bo, ed, hu, bl, sl, tx, kp, QB, QS, IB, IS, hp, hc, hm⟩ := hS
  have hc0 := hc
  have hm0 := hm
  obtain ⟨pe, ta, tb, sk, PB, PS, hR, hab, hpe, h1, ⟨R, h2, hR8⟩, hT, ⟨kz, wz, hz, rz, mz, sz, bz, ez, uz, skz, hvz, hTs⟩, hL, ⟨b6, s6, hL6⟩, hP, hQ, hI, h21, h22, ⟨W, h23, hW⟩, ⟨la, hFS⟩, ⟨kn, us, cu, gv, hC, hk⟩, ⟨fq, h37, hfq⟩⟩ := hc
  have hD := okD_of hT.2.2.2.2.2
  have hta : ta = 3 ∨ ta = 8 := by omega
  have hw := wh_bd hD.2.1.1 hD.2.1.2 hD.2.2.1.1 hD.2.2.1.2
  obtain ⟨n, hn⟩ : ∃ n : Nat, (n : Int) = wd * ht := ⟨(wd * ht).toNat, by omega⟩
  have hB : ∀ j : Nat, j < 6 → ix bl j = -9 ∨ (0 ≤ ix bl j ∧ ix bl j < kd * 4) := fun j hj => hp.2.2.2.2.2 j (by omega) (by omega)
  have hbl := hL.2.2.2.1
  have hsl := hL.2.2.2.2.1
  by_cases hg : 0 ≤ k ∧ k < kd
  · obtain ⟨r, hr⟩ := wantR_ex (fun t => qts bl (up sl k t) ed hu kd wd ht rm mo (-9) (-9) n)
    obtain ⟨Hc, lc, b7, s7, f1, f2, f3, hcl⟩ := C_wanting hR hT hta hL hL6 hFS h22 h23 hW hn hB hg hr
    refine comb hp (sc_c hc0 hcl (by decide) (Fr_up f1 (fun a ha => by unfold inV at ha; unfold inSc; omega)) ⟨b7, s7, f3⟩ ⟨lc, f2⟩ ⟨kn, us, cu, gv, clo_fr f1 hC (fun a ha => by unfold inV; omega), hk⟩) hm0 (fun H1 hm1 => ?_)
    have hm10 := hm1
    obtain ⟨nk, ap, nu, me, op, de, fo, bs, bu, td, ss, ps, kt, h74, h75, h76, hrT, h77, hrS, h78, hps, hpq, h79, h80, hkt, hki, h84, ⟨Z, h81, hZ⟩, ⟨t82, h82, h82l⟩, ⟨s83, h83, h83l⟩, ⟨tt, h85, h85l⟩, ⟨A, h86, h86l⟩, ⟨oa, h87, h87l⟩, ⟨tr, h88, h88l⟩, ⟨fi, h89, h89l⟩, ⟨go, h90, h90l⟩, ⟨cu2, h91, h91l⟩, ⟨pc, h92, h92l⟩⟩ := hm1
    obtain ⟨Hm, ⟨g1, op', de', fo', bs', bu', g2⟩, hml⟩ := M_wanting h74 hD h75 h76 hrT h77 hrS h85 h85l h87 h87l h88 h88l hn hbl hsl hg hr
    exact sc_m hm10 hml (by decide) (Fr_up g1 (fun a ha => by unfold inMs at ha; unfold inMy; omega)) ⟨_, _, _, _, _, _, _, _, _, g2⟩
  · refine comb hp (ro_c hc0 (C_wanting_no hR hT hta hL hg) (by decide)) hm0 (fun H1 hm1 => ?_)
    have hm10 := hm1
    obtain ⟨nk, ap, nu, me, op, de, fo, bs, bu, td, ss, ps, kt, h74, h75, h76, hrT, h77, hrS, h78, hps, hpq, h79, h80, hkt, hki, h84, ⟨Z, h81, hZ⟩, ⟨t82, h82, h82l⟩, ⟨s83, h83, h83l⟩, ⟨tt, h85, h85l⟩, ⟨A, h86, h86l⟩, ⟨oa, h87, h87l⟩, ⟨tr, h88, h88l⟩, ⟨fi, h89, h89l⟩, ⟨go, h90, h90l⟩, ⟨cu2, h91, h91l⟩, ⟨pc, h92, h92l⟩⟩ := hm1
    exact ro_m hm10 (M_wanting_no h74 hD hg) (by decide)
theorem s_next (hS : sim H) : stpR 72 145 [] H := by
  obtain ⟨le, un, kd, wd, ht, rm, mo, sd, bo, ed, hu, bl, sl, tx, kp, QB, QS, IB, IS, hp, hc, hm⟩ := hS
  have hc0 := hc
  have hm0 := hm
  obtain ⟨pe, ta, tb, sk, PB, PS, hR, hab, hpe, h1, ⟨R, h2, hR8⟩, hT, ⟨kz, wz, hz, rz, mz, sz, bz, ez, uz, skz, hvz, hTs⟩, hL, ⟨b6, s6, hL6⟩, hP, hQ, hI, h21, h22, ⟨W, h23, hW⟩, ⟨la, hFS⟩, ⟨kn, us, cu, gv, hC, hk⟩, ⟨fq, h37, hfq⟩⟩ := hc
  have hD := okD_of hT.2.2.2.2.2
  have hta : ta = 3 ∨ ta = 8 := by omega
  have hw := wh_bd hD.2.1.1 hD.2.1.2 hD.2.2.1.1 hD.2.2.1.2
  obtain ⟨n, hn⟩ : ∃ n : Nat, (n : Int) = wd * ht := ⟨(wd * ht).toNat, by omega⟩
  have hB : ∀ j : Nat, j < 6 → ix bl j = -9 ∨ (0 ≤ ix bl j ∧ ix bl j < kd * 4) := fun j hj => hp.2.2.2.2.2 j (by omega) (by omega)
  have hbl := hL.2.2.2.1
  have hsl := hL.2.2.2.2.1
  obtain ⟨W2, g1, g2, g3, hcl⟩ := C_next hR hT hta hL hFS h22 h23 hW hn hB
  have f1 : Fr inQ H (pt H 23 W2) := Fr_pt (by unfold inQ; omega) h23 (by omega)
  refine comb hp (sc_c hc0 hcl (by decide) (Fr_up f1 (fun a ha => by unfold inQ at ha; unfold inSc; omega)) ⟨b6, s6, lay_fr f1 hL6 (by unfold inQ; omega) (by unfold inQ; omega) (by unfold inQ; omega)⟩ ⟨la, fs_keep hFS (by omega)⟩ ⟨kn, us, cu, gv, clo_fr f1 hC (fun a ha => by unfold inQ; omega), hk⟩) hm0 (fun H1 hm1 => ?_)
  have hm10 := hm1
  obtain ⟨nk, ap, nu, me, op, de, fo, bs, bu, td, ss, ps, kt, h74, h75, h76, hrT, h77, hrS, h78, hps, hpq, h79, h80, hkt, hki, h84, ⟨Z, h81, hZ⟩, ⟨t82, h82, h82l⟩, ⟨s83, h83, h83l⟩, ⟨tt, h85, h85l⟩, ⟨A, h86, h86l⟩, ⟨oa, h87, h87l⟩, ⟨tr, h88, h88l⟩, ⟨fi, h89, h89l⟩, ⟨go, h90, h90l⟩, ⟨cu2, h91, h91l⟩, ⟨pc, h92, h92l⟩⟩ := hm1
  obtain ⟨A2, k1, k2, hml⟩ := M_next h74 hD h75 h76 hrT h77 hrS h85 h85l h86 h86l hn
  rw [nbst_eq k2 g1 n (by omega)] at hml
  have f2 : Fr inMy H1 (pt (pt H1 85 ss) 86 A2) := Fr_and (Fr_pt (by unfold inMy; omega) h85 (by rw [hrS.1]; omega)) (by unfold inMy; omega) h86 (by omega)
  exact sc_m hm10 hml (by decide) f2 ⟨_, _, _, _, _, _, _, _, _, pt_nx (by decide) (pt_nx (by decide) h74)⟩
theorem s_left (hS : sim H) {s i : Int} (him : i ≤ 2147483647) : stpR 67 136 [mI s, mI i] H := by
  obtain ⟨le, un, kd, wd, ht, rm, mo, sd, bo, ed, hu, bl, sl, tx, kp, QB, QS, IB, IS, hp, hc, hm⟩ := hS
  have hc0 := hc
  have hm0 := hm
  obtain ⟨pe, ta, tb, sk, PB, PS, hR, hab, hpe, h1, ⟨R, h2, hR8⟩, hT, ⟨kz, wz, hz, rz, mz, sz, bz, ez, uz, skz, hvz, hTs⟩, hL, ⟨b6, s6, hL6⟩, hP, hQ, hI, h21, h22, ⟨W, h23, hW⟩, ⟨la, hFS⟩, ⟨kn, us, cu, gv, hC, hk⟩, ⟨fq, h37, hfq⟩⟩ := hc
  have hD := okD_of hT.2.2.2.2.2
  have hta : ta = 3 ∨ ta = 8 := by omega
  have hw := wh_bd hD.2.1.1 hD.2.1.2 hD.2.2.1.1 hD.2.2.1.2
  obtain ⟨n, hn⟩ : ∃ n : Nat, (n : Int) = wd * ht := ⟨(wd * ht).toNat, by omega⟩
  have hB : ∀ j : Nat, j < 6 → ix bl j = -9 ∨ (0 ≤ ix bl j ∧ ix bl j < kd * 4) := fun j hj => hp.2.2.2.2.2 j (by omega) (by omega)
  have hbl := hL.2.2.2.1
  have hsl := hL.2.2.2.2.1
  by_cases hg : 0 ≤ s ∧ s < wd * ht ∧ -1 ≤ i ∧ ix bl s = -9
  · obtain ⟨W2, g1, g2, g3, hcl⟩ := C_left hR hT hta hL hFS h22 h23 hW hn hB hg
    obtain ⟨r, e1, e2⟩ : ∃ r, (i = -1 → r = cn (fun b => bit (ix W2 s) b) 24) ∧ (0 ≤ i → bitR (ix W2 s) i r) := by
      by_cases e : i = -1
      · exact ⟨_, fun _ => rfl, fun z => by omega⟩
      · obtain ⟨r, hr⟩ := bitR_ex (ix W2 s) i
        exact ⟨r, fun z => absurd z e, fun _ => hr⟩
    have hcl := hcl r e1 e2
    have f1 : Fr inQ H (pt H 23 W2) := Fr_pt (by unfold inQ; omega) h23 (by omega)
    refine comb hp (sc_c hc0 hcl (by decide) (Fr_up f1 (fun a ha => by unfold inQ at ha; unfold inSc; omega)) ⟨b6, s6, lay_fr f1 hL6 (by unfold inQ; omega) (by unfold inQ; omega) (by unfold inQ; omega)⟩ ⟨la, fs_keep hFS (by omega)⟩ ⟨kn, us, cu, gv, clo_fr f1 hC (fun a ha => by unfold inQ; omega), hk⟩) hm0 (fun H1 hm1 => ?_)
    have hm10 := hm1
    obtain ⟨nk, ap, nu, me, op, de, fo, bs, bu, td, ss, ps, kt, h74, h75, h76, hrT, h77, hrS, h78, hps, hpq, h79, h80, hkt, hki, h84, ⟨Z, h81, hZ⟩, ⟨t82, h82, h82l⟩, ⟨s83, h83, h83l⟩, ⟨tt, h85, h85l⟩, ⟨A, h86, h86l⟩, ⟨oa, h87, h87l⟩, ⟨tr, h88, h88l⟩, ⟨fi, h89, h89l⟩, ⟨go, h90, h90l⟩, ⟨cu2, h91, h91l⟩, ⟨pc, h92, h92l⟩⟩ := hm1
    obtain ⟨A2, k1, k2, k3, hml⟩ := M_left h74 hD h75 h76 hrT h77 hrS h85 h85l h86 h86l hn hg him
    obtain ⟨q, hq⟩ : ∃ q : Nat, (q : Int) = s := ⟨s.toNat, by omega⟩
    subst hq
    have hbit : ∀ b : Nat, bit (ix (rst A2 n) q) b = bit (ix W2 q) b := fun b => gf_bits k2 g1 (by omega) b
    have hcn : ∀ m : Nat, cn (fun b => bit (ix (rst A2 n) q) b) m = cn (fun b => bit (ix W2 q) b) m := fun m => cn_congr (fun b _ => hbit b)
    have hml := hml r (fun z => by rw [hcn]; exact e1 z) (fun z => by
      obtain ⟨z1, z2⟩ := e2 z
      exact ⟨fun k k1 k2 k3 => z1 k k1 (by rw [← hbit]; exact k2) (by rw [← hcn]; exact k3), fun h => z2 (fun k k1 k2 k3 => h k k1 (by rw [hbit]; exact k2) (by rw [hcn]; exact k3))⟩)
    have f2 : Fr inMy H1 (pt (pt H1 85 ss) 86 A2) := Fr_and (Fr_pt (by unfold inMy; omega) h85 (by rw [hrS.1]; omega)) (by unfold inMy; omega) h86 (by omega)
    exact sc_m hm10 hml (by decide) f2 ⟨_, _, _, _, _, _, _, _, _, pt_nx (by decide) (pt_nx (by decide) h74)⟩
  · obtain ⟨r, hr⟩ : ∃ r : Int, (¬ (0 ≤ s ∧ s < wd * ht ∧ -1 ≤ i) → r = -1) ∧ ((0 ≤ s ∧ s < wd * ht ∧ -1 ≤ i) → r = -2) := by
      by_cases c0 : ¬ (0 ≤ s ∧ s < wd * ht ∧ -1 ≤ i)
      · exact ⟨-1, by refine ⟨?_, ?_⟩ <;> intro z <;> first | rfl | (exfalso; omega)⟩
      exact ⟨-2, by refine ⟨?_, ?_⟩ <;> intro z <;> first | rfl | (exfalso; omega)⟩
    refine comb hp (ro_c hc0 (C_left_no hR hT hta hL hg hr) (by decide)) hm0 (fun H1 hm1 => ?_)
    have hm10 := hm1
    obtain ⟨nk, ap, nu, me, op, de, fo, bs, bu, td, ss, ps, kt, h74, h75, h76, hrT, h77, hrS, h78, hps, hpq, h79, h80, hkt, hki, h84, ⟨Z, h81, hZ⟩, ⟨t82, h82, h82l⟩, ⟨s83, h83, h83l⟩, ⟨tt, h85, h85l⟩, ⟨A, h86, h86l⟩, ⟨oa, h87, h87l⟩, ⟨tr, h88, h88l⟩, ⟨fi, h89, h89l⟩, ⟨go, h90, h90l⟩, ⟨cu2, h91, h91l⟩, ⟨pc, h92, h92l⟩⟩ := hm1
    exact ro_m hm10 (M_left_no h74 hD h75 h76 hrT h77 hrS h85 h85l h86 h86l hn hg hr) (by decide)
theorem s_good (hS : sim H) {a b : Int} : stpR 75 154 [mI a, mI b] H := by
  obtain ⟨le, un, kd, wd, ht, rm, mo, sd, bo, ed, hu, bl, sl, tx, kp, QB, QS, IB, IS, hp, hc, hm⟩ := hS
  have hc0 := hc
  have hm0 := hm
  obtain ⟨pe, ta, tb, sk, PB, PS, hR, hab, hpe, h1, ⟨R, h2, hR8⟩, hT, ⟨kz, wz, hz, rz, mz, sz, bz, ez, uz, skz, hvz, hTs⟩, hL, ⟨b6, s6, hL6⟩, hP, hQ, hI, h21, h22, ⟨W, h23, hW⟩, ⟨la, hFS⟩, ⟨kn, us, cu, gv, hC, hk⟩, ⟨fq, h37, hfq⟩⟩ := hc
  have hD := okD_of hT.2.2.2.2.2
  have hta : ta = 3 ∨ ta = 8 := by omega
  have hw := wh_bd hD.2.1.1 hD.2.1.2 hD.2.2.1.1 hD.2.2.1.2
  obtain ⟨n, hn⟩ : ∃ n : Nat, (n : Int) = wd * ht := ⟨(wd * ht).toNat, by omega⟩
  have hB : ∀ j : Nat, j < 6 → ix bl j = -9 ∨ (0 ≤ ix bl j ∧ ix bl j < kd * 4) := fun j hj => hp.2.2.2.2.2 j (by omega) (by omega)
  have hbl := hL.2.2.2.1
  have hsl := hL.2.2.2.2.1
  by_cases hg : 1 ≤ a ∧ a ≤ 24 ∧ 1 ≤ b ∧ b ≤ 24
  · obtain ⟨Hc, us2, cu3, gv2, f1, f2, f3, hcl⟩ := C_good hR hC hk hg
    refine comb hp (sc_c hc0 hcl (by decide) (Fr_up f1 (fun a ha => by unfold inCl at ha; unfold inSc; omega)) ⟨b6, s6, lay_fr f1 hL6 (by unfold inCl; omega) (by unfold inCl; omega) (by unfold inCl; omega)⟩ ⟨la, fs_fr f1 hFS (fun a ha => by unfold inCl; omega)⟩ ⟨1, us2, cu3, gv2, f2, Or.inr ⟨rfl, f3⟩⟩) hm0 (fun H1 hm1 => ?_)
    have hm10 := hm1
    obtain ⟨nk, ap, nu, me, op, de, fo, bs, bu, td, ss, ps, kt, h74, h75, h76, hrT, h77, hrS, h78, hps, hpq, h79, h80, hkt, hki, h84, ⟨Z, h81, hZ⟩, ⟨t82, h82, h82l⟩, ⟨s83, h83, h83l⟩, ⟨tt, h85, h85l⟩, ⟨A, h86, h86l⟩, ⟨oa, h87, h87l⟩, ⟨tr, h88, h88l⟩, ⟨fi, h89, h89l⟩, ⟨go, h90, h90l⟩, ⟨cu2, h91, h91l⟩, ⟨pc, h92, h92l⟩⟩ := hm1
    obtain ⟨Hm, go2, cu4, pc2, g1, g2, g3, hml⟩ := M_good h74 hD h75 h90 h91 h92 ⟨h90l, h91l, h92l⟩ hg
    obtain ⟨qa, hqa⟩ : ∃ q : Nat, (q : Int) = a := ⟨a.toNat, by omega⟩
    obtain ⟨qb, hqb⟩ : ∃ q : Nat, (q : Int) = b := ⟨b.toNat, by omega⟩
    subst hqa hqb
    have heq := okt_one f3 g3 (qa + qb) qa qb (Nat.le_refl _) (by omega) (by omega) (by omega) (by omega)
    rw [← heq] at hml
    subst g1
    have f4 : Fr inMy H1 (mC H1 go2 cu4 pc2) := Fr_and (Fr_and (Fr_pt (by unfold inMy; omega) h90 (by omega)) (by unfold inMy; omega) h91 (by omega)) (by unfold inMy; omega) h92 (by omega)
    exact sc_m hm10 hml (by decide) f4 ⟨_, _, _, _, _, _, _, _, _, mC_74 ⟨h74, ⟨_, h90⟩, ⟨_, h91⟩, ⟨_, h92⟩⟩⟩
  · refine comb hp (ro_c hc0 (C_good_no hg) (by decide)) hm0 (fun H1 hm1 => ?_)
    have hm10 := hm1
    obtain ⟨nk, ap, nu, me, op, de, fo, bs, bu, td, ss, ps, kt, h74, h75, h76, hrT, h77, hrS, h78, hps, hpq, h79, h80, hkt, hki, h84, ⟨Z, h81, hZ⟩, ⟨t82, h82, h82l⟩, ⟨s83, h83, h83l⟩, ⟨tt, h85, h85l⟩, ⟨A, h86, h86l⟩, ⟨oa, h87, h87l⟩, ⟨tr, h88, h88l⟩, ⟨fi, h89, h89l⟩, ⟨go, h90, h90l⟩, ⟨cu2, h91, h91l⟩, ⟨pc, h92, h92l⟩⟩ := hm1
    exact ro_m hm10 (M_good_no hg) (by decide)
theorem s_cut (hS : sim H) {a b : Int} : stpR 76 155 [mI a, mI b] H := by
  obtain ⟨le, un, kd, wd, ht, rm, mo, sd, bo, ed, hu, bl, sl, tx, kp, QB, QS, IB, IS, hp, hc, hm⟩ := hS
  have hc0 := hc
  have hm0 := hm
  obtain ⟨pe, ta, tb, sk, PB, PS, hR, hab, hpe, h1, ⟨R, h2, hR8⟩, hT, ⟨kz, wz, hz, rz, mz, sz, bz, ez, uz, skz, hvz, hTs⟩, hL, ⟨b6, s6, hL6⟩, hP, hQ, hI, h21, h22, ⟨W, h23, hW⟩, ⟨la, hFS⟩, ⟨kn, us, cu, gv, hC, hk⟩, ⟨fq, h37, hfq⟩⟩ := hc
  have hD := okD_of hT.2.2.2.2.2
  have hta : ta = 3 ∨ ta = 8 := by omega
  have hw := wh_bd hD.2.1.1 hD.2.1.2 hD.2.2.1.1 hD.2.2.1.2
  obtain ⟨n, hn⟩ : ∃ n : Nat, (n : Int) = wd * ht := ⟨(wd * ht).toNat, by omega⟩
  have hB : ∀ j : Nat, j < 6 → ix bl j = -9 ∨ (0 ≤ ix bl j ∧ ix bl j < kd * 4) := fun j hj => hp.2.2.2.2.2 j (by omega) (by omega)
  have hbl := hL.2.2.2.1
  have hsl := hL.2.2.2.2.1
  by_cases hg : 1 ≤ a ∧ a ≤ 24 ∧ 1 ≤ b ∧ b ≤ 24
  · obtain ⟨Hc, us2, cu3, gv2, f1, f2, f3, hcl⟩ := C_cut hR hC hk hg
    refine comb hp (sc_c hc0 hcl (by decide) (Fr_up f1 (fun a ha => by unfold inCl at ha; unfold inSc; omega)) ⟨b6, s6, lay_fr f1 hL6 (by unfold inCl; omega) (by unfold inCl; omega) (by unfold inCl; omega)⟩ ⟨la, fs_fr f1 hFS (fun a ha => by unfold inCl; omega)⟩ ⟨1, us2, cu3, gv2, f2, Or.inr ⟨rfl, f3⟩⟩) hm0 (fun H1 hm1 => ?_)
    have hm10 := hm1
    obtain ⟨nk, ap, nu, me, op, de, fo, bs, bu, td, ss, ps, kt, h74, h75, h76, hrT, h77, hrS, h78, hps, hpq, h79, h80, hkt, hki, h84, ⟨Z, h81, hZ⟩, ⟨t82, h82, h82l⟩, ⟨s83, h83, h83l⟩, ⟨tt, h85, h85l⟩, ⟨A, h86, h86l⟩, ⟨oa, h87, h87l⟩, ⟨tr, h88, h88l⟩, ⟨fi, h89, h89l⟩, ⟨go, h90, h90l⟩, ⟨cu2, h91, h91l⟩, ⟨pc, h92, h92l⟩⟩ := hm1
    obtain ⟨Hm, go2, cu4, pc2, g1, g2, g3, hml⟩ := M_cut h74 hD h75 h90 h91 h92 ⟨h90l, h91l, h92l⟩ hg
    obtain ⟨qa, hqa⟩ : ∃ q : Nat, (q : Int) = a := ⟨a.toNat, by omega⟩
    obtain ⟨qb, hqb⟩ : ∃ q : Nat, (q : Int) = b := ⟨b.toNat, by omega⟩
    subst hqa hqb
    have heq := okt_one f3 g3 (qa + qb) qa qb (Nat.le_refl _) (by omega) (by omega) (by omega) (by omega)
    rw [← heq] at hml
    subst g1
    have f4 : Fr inMy H1 (mC H1 go2 cu4 pc2) := Fr_and (Fr_and (Fr_pt (by unfold inMy; omega) h90 (by omega)) (by unfold inMy; omega) h91 (by omega)) (by unfold inMy; omega) h92 (by omega)
    exact sc_m hm10 hml (by decide) f4 ⟨_, _, _, _, _, _, _, _, _, mC_74 ⟨h74, ⟨_, h90⟩, ⟨_, h91⟩, ⟨_, h92⟩⟩⟩
  · refine comb hp (ro_c hc0 (C_cut_no hg) (by decide)) hm0 (fun H1 hm1 => ?_)
    have hm10 := hm1
    obtain ⟨nk, ap, nu, me, op, de, fo, bs, bu, td, ss, ps, kt, h74, h75, h76, hrT, h77, hrS, h78, hps, hpq, h79, h80, hkt, hki, h84, ⟨Z, h81, hZ⟩, ⟨t82, h82, h82l⟩, ⟨s83, h83, h83l⟩, ⟨tt, h85, h85l⟩, ⟨A, h86, h86l⟩, ⟨oa, h87, h87l⟩, ⟨tr, h88, h88l⟩, ⟨fi, h89, h89l⟩, ⟨go, h90, h90l⟩, ⟨cu2, h91, h91l⟩, ⟨pc, h92, h92l⟩⟩ := hm1
    exact ro_m hm10 (M_cut_no hg) (by decide)
theorem s_made (hS : sim H) {a b p : Int} : stpR 77 156 [mI a, mI b, mI p] H := by
  obtain ⟨le, un, kd, wd, ht, rm, mo, sd, bo, ed, hu, bl, sl, tx, kp, QB, QS, IB, IS, hp, hc, hm⟩ := hS
  have hc0 := hc
  have hm0 := hm
  obtain ⟨pe, ta, tb, sk, PB, PS, hR, hab, hpe, h1, ⟨R, h2, hR8⟩, hT, ⟨kz, wz, hz, rz, mz, sz, bz, ez, uz, skz, hvz, hTs⟩, hL, ⟨b6, s6, hL6⟩, hP, hQ, hI, h21, h22, ⟨W, h23, hW⟩, ⟨la, hFS⟩, ⟨kn, us, cu, gv, hC, hk⟩, ⟨fq, h37, hfq⟩⟩ := hc
  have hD := okD_of hT.2.2.2.2.2
  have hta : ta = 3 ∨ ta = 8 := by omega
  have hw := wh_bd hD.2.1.1 hD.2.1.2 hD.2.2.1.1 hD.2.2.1.2
  obtain ⟨n, hn⟩ : ∃ n : Nat, (n : Int) = wd * ht := ⟨(wd * ht).toNat, by omega⟩
  have hB : ∀ j : Nat, j < 6 → ix bl j = -9 ∨ (0 ≤ ix bl j ∧ ix bl j < kd * 4) := fun j hj => hp.2.2.2.2.2 j (by omega) (by omega)
  have hbl := hL.2.2.2.1
  have hsl := hL.2.2.2.2.1
  by_cases hg : 1 ≤ a ∧ a ≤ 24 ∧ 1 ≤ b ∧ b ≤ 24 ∧ 0 ≤ p ∧ p < 3
  · obtain ⟨Hc, us2, cu3, gv2, f1, f2, f3, hcl⟩ := C_made hR hC hk hg
    refine comb hp (sc_c hc0 hcl (by decide) (Fr_up f1 (fun a ha => by unfold inCl at ha; unfold inSc; omega)) ⟨b6, s6, lay_fr f1 hL6 (by unfold inCl; omega) (by unfold inCl; omega) (by unfold inCl; omega)⟩ ⟨la, fs_fr f1 hFS (fun a ha => by unfold inCl; omega)⟩ ⟨1, us2, cu3, gv2, f2, Or.inr ⟨rfl, f3⟩⟩) hm0 (fun H1 hm1 => ?_)
    have hm10 := hm1
    obtain ⟨nk, ap, nu, me, op, de, fo, bs, bu, td, ss, ps, kt, h74, h75, h76, hrT, h77, hrS, h78, hps, hpq, h79, h80, hkt, hki, h84, ⟨Z, h81, hZ⟩, ⟨t82, h82, h82l⟩, ⟨s83, h83, h83l⟩, ⟨tt, h85, h85l⟩, ⟨A, h86, h86l⟩, ⟨oa, h87, h87l⟩, ⟨tr, h88, h88l⟩, ⟨fi, h89, h89l⟩, ⟨go, h90, h90l⟩, ⟨cu2, h91, h91l⟩, ⟨pc, h92, h92l⟩⟩ := hm1
    obtain ⟨Hm, go2, cu4, pc2, g1, g2, g3, hml⟩ := M_made h74 hD h75 h90 h91 h92 ⟨h90l, h91l, h92l⟩ hg
    obtain ⟨qa, hqa⟩ : ∃ q : Nat, (q : Int) = a := ⟨a.toNat, by omega⟩
    obtain ⟨qb, hqb⟩ : ∃ q : Nat, (q : Int) = b := ⟨b.toNat, by omega⟩
    subst hqa hqb
    have heq := okt_one f3 g3 (qa + qb) qa qb (Nat.le_refl _) (by omega) (by omega) (by omega) (by omega)
    rw [← heq] at hml
    subst g1
    have f4 : Fr inMy H1 (mC H1 go2 cu4 pc2) := Fr_and (Fr_and (Fr_pt (by unfold inMy; omega) h90 (by omega)) (by unfold inMy; omega) h91 (by omega)) (by unfold inMy; omega) h92 (by omega)
    exact sc_m hm10 hml (by decide) f4 ⟨_, _, _, _, _, _, _, _, _, mC_74 ⟨h74, ⟨_, h90⟩, ⟨_, h91⟩, ⟨_, h92⟩⟩⟩
  · refine comb hp (ro_c hc0 (C_made_no hg) (by decide)) hm0 (fun H1 hm1 => ?_)
    have hm10 := hm1
    obtain ⟨nk, ap, nu, me, op, de, fo, bs, bu, td, ss, ps, kt, h74, h75, h76, hrT, h77, hrS, h78, hps, hpq, h79, h80, hkt, hki, h84, ⟨Z, h81, hZ⟩, ⟨t82, h82, h82l⟩, ⟨s83, h83, h83l⟩, ⟨tt, h85, h85l⟩, ⟨A, h86, h86l⟩, ⟨oa, h87, h87l⟩, ⟨tr, h88, h88l⟩, ⟨fi, h89, h89l⟩, ⟨go, h90, h90l⟩, ⟨cu2, h91, h91l⟩, ⟨pc, h92, h92l⟩⟩ := hm1
    exact ro_m hm10 (M_made_no hg) (by decide)
end OPS
