/-! QuiltPatches: what is left, all quilts -/
section FRM
variable {A : Nat → Prop} {H H2 : mH} {a ta tb : Nat} {le pe un : Int} {bl sl la : List Int} {kd wd ht rm mo sd bo : Int} {ed hu sk hv : List Int}
theorem lay_fr (hF : Fr A H H2) (hL : isLay H a bl sl) (h0 : ¬ A a) (h1 : ¬ A (a + 1)) (h2 : ¬ A (a + 2)) : isLay H2 a bl sl := by
  obtain ⟨t0, t1, t2, t5⟩ := hL
  exact ⟨by rw [hF.2 _ h0]; exact t0, by rw [hF.2 _ h1]; exact t1, by rw [hF.2 _ h2]; exact t2, t5⟩
theorem told_fr (hF : Fr A H H2) (hT : isTold H a kd wd ht rm mo sd bo ed hu sk hv) (h0 : ¬ A a) (h1 : ¬ A (a + 1)) (h2 : ¬ A (a + 2)) (h3 : ¬ A (a + 3)) (h4 : ¬ A (a + 4)) : isTold H2 a kd wd ht rm mo sd bo ed hu sk hv := by
  obtain ⟨t0, t1, t2, t3, t4, t5⟩ := hT
  exact ⟨by rw [hF.2 _ h0]; exact t0, by rw [hF.2 _ h1]; exact t1, by rw [hF.2 _ h2]; exact t2, by rw [hF.2 _ h3]; exact t3, by rw [hF.2 _ h4]; exact t4, t5⟩
theorem root_fr (hF : Fr A H H2) (hR : isRoot H le ta tb pe un) (h0 : ¬ A 0) : isRoot H2 le ta tb pe un := by
  unfold isRoot at *
  rw [hF.2 _ h0]
  exact hR
theorem fs_keep {x : Nat} {g : List Int} (hF : isFS H la) (hx : x < 24 ∨ 30 < x) : isFS (pt H x g) la := by
  obtain ⟨⟨q1, q2, q3, h24⟩, ⟨h25, l25⟩, ⟨k1, h26, l26⟩, ⟨k2, h27, l27⟩, ⟨k3, h28, l28⟩, ⟨k4, h29, l29⟩, ⟨k5, h30, l30⟩⟩ := hF
  exact ⟨⟨q1, q2, q3, pt_nx (by omega) h24⟩, ⟨pt_nx (by omega) h25, l25⟩, ⟨k1, pt_nx (by omega) h26, l26⟩, ⟨k2, pt_nx (by omega) h27, l27⟩, ⟨k3, pt_nx (by omega) h28, l28⟩, ⟨k4, pt_nx (by omega) h29, l29⟩, ⟨k5, pt_nx (by omega) h30, l30⟩⟩
end FRM
/-- the winnow's and the finder's cells -/
def inQ (a : Nat) : Prop := 23 ≤ a ∧ a ≤ 30
theorem cell_fr {A : Nat → Prop} {H H2 : mH} {a k : Nat} {fs : List Int} (hF : Fr A H H2) (h : H[a]? = some (k, fs)) : ∃ gs, H2[a]? = some (k, gs) ∧ gs.length = fs.length := hF.1.2 a k fs h
theorem adv_val {L : Int} : ∀ {Q : List (List Int)} {f : Int} {la : List Int}, f ≤ L → (adv L (f, la) Q).1 = f + min (L - f) Q.length ∧ ((0 < min (L - f) Q.length) → some (adv L (f, la) Q).2 = Q[(min (L - f) Q.length).toNat - 1]?)
  | [], f, la, h => by
    simp only [adv, List.foldl_nil, List.length_nil]
    refine ⟨by omega, fun z => ?_⟩
    omega
  | x :: Q, f, la, h => by
    by_cases e : f < L
    · have h1 : adv L (f, la) (x :: Q) = adv L (f + 1, x) Q := by
        simp only [adv, List.foldl_cons]
        rw [if_pos e]
      have ih := adv_val (L := L) (Q := Q) (f := f + 1) (la := x) (by omega)
      rw [h1]
      refine ⟨by rw [ih.1]; simp only [List.length_cons]; omega, fun _ => ?_⟩
      by_cases e2 : 0 < min (L - (f + 1)) (Q.length : Int)
      · have h2 := ih.2 e2
        rw [h2]
        have h3 : (min (L - f) ((x :: Q).length : Int)).toNat - 1 = ((min (L - (f + 1)) (Q.length : Int)).toNat - 1) + 1 := by
          simp only [List.length_cons]
          omega
        rw [h3, List.getElem?_cons_succ]
      · have h3 : (min (L - f) ((x :: Q).length : Int)).toNat - 1 = 0 := by
          simp only [List.length_cons]
          omega
        rw [h3, List.getElem?_cons_zero]
        by_cases e3 : f + 1 < L
        · have : Q = [] := List.length_eq_zero_iff.mp (by omega)
          rw [this]
          rfl
        · rw [adv_full (by simpa using e3)]
    · rw [adv_full (by simpa using e)]
      exact ⟨by simp; omega, fun z => absurd z (by omega)⟩
section QG
variable {H : mH} {ta tb lay : Nat} {le pe un : Int} {bl sl b6 s6 : List Int} {kd wd ht rm mo sd bo : Int} {ed hu sk : List Int} {W la fq : List Int} {n : Nat} {L : Int}
theorem C_wins (hR : isRoot H le ta tb pe un) (hT : isTold H ta kd wd ht rm mo sd bo ed hu sk (hvs ed (4 * kd).toNat)) (hta : ta = 3 ∨ ta = 8) (hla : lay = 13 ∨ lay = 16) (hLy : isLay H lay bl sl) (hFS : isFS H la) (h22 : H[22]? = some (5, [((23 : Nat) : Int)])) (h23 : H[23]? = some (8, W)) (hWl : W.length = 6) (hn : (n : Int) = wd * ht) (hB : ∀ j : Nat, j < 6 → ix bl j = -9 ∨ (0 ≤ ix bl j ∧ ix bl j < kd * 4)) : ∃ W2, gfam bl ed wd ht (iniF bl sl ed hu kd wd ht rm mo (-9) (-9) n) W2 ∧ W2.length = 6 ∧ bet W2 0 16777215 ∧ Call 2 48 [mR 22, mR ta, mR lay] H none (pt H 23 (iniL bl sl ed hu kd wd ht rm mo (-9) (-9) n)) ∧ Call 3 49 [mR 22, mR ta, mR lay] (pt H 23 (iniL bl sl ed hu kd wd ht rm mo (-9) (-9) n)) none (pt H 23 W2) := by
  have hT0 := hT
  obtain ⟨t0, t1, t2, t3, t4, ⟨r1, r2, r3, r4, r5, r6, r7, b1, b2, b3, b4, n1, n2, n3, n4⟩⟩ := hT
  have hw := wh_bd r2.1 r2.2 r3.1 r3.2
  have hin : ∀ s b, inW (iniL bl sl ed hu kd wd ht rm mo (-9) (-9) n) s b ↔ iniF bl sl ed hu kd wd ht rm mo (-9) (-9) n s b := fun s b => iniL_in r1 (by omega)
  have hbt : bet (iniL bl sl ed hu kd wd ht rm mo (-9) (-9) n) 0 16777215 := by
    intro j
    by_cases hj : 0 ≤ j ∧ j < 6
    · obtain ⟨c, rfl⟩ : ∃ c : Nat, j = (c : Int) := ⟨j.toNat, by omega⟩
      rw [iniL_ix (by omega)]
      exact mset_in _
    · by_cases hj2 : j < 0
      · have e : ix (iniL bl sl ed hu kd wd ht rm mo (-9) (-9) n) j = ix (iniL bl sl ed hu kd wd ht rm mo (-9) (-9) n) ((0 : Nat) : Int) := by unfold ix; rw [show j.toNat = (((0 : Nat) : Int)).toNat by omega]
        rw [e, iniL_ix (by omega)]
        exact mset_in _
      · have e : ix (iniL bl sl ed hu kd wd ht rm mo (-9) (-9) n) j = 0 := by
          unfold ix
          rw [List.getD_eq_getElem?_getD, List.getElem?_eq_none (by rw [iniL_len]; omega)]
          rfl
        omega
  obtain ⟨W2, x1, x2, hc⟩ := C_settle hT0 hLy (by omega) (by omega) h22 h23 hn iniL_len hbt (fun s b h => by
    have := (hin s b).mp h
    exact ⟨this.1, this.2.1, this.2.2.1⟩)
  exact ⟨W2, fIn_gfam x1 x2 hin, x1.1, x1.2.1, C_wbegin hT0 hLy (by omega) (by omega) h22 h23 hWl hn, hc⟩
theorem C_quiltsOf (hR : isRoot H le ta tb pe un) (hT : isTold H ta kd wd ht rm mo sd bo ed hu sk (hvs ed (4 * kd).toNat)) (hta : ta = 3 ∨ ta = 8) (hla : lay = 13 ∨ lay = 16) (hLy : isLay H lay bl sl) (hFS : isFS H la) (h22 : H[22]? = some (5, [((23 : Nat) : Int)])) (h23 : H[23]? = some (8, W)) (hWl : W.length = 6) (hn : (n : Int) = wd * ht) (hB : ∀ j : Nat, j < 6 → ix bl j = -9 ∨ (0 ≤ ix bl j ∧ ix bl j < kd * 4)) (hL : 1 ≤ L ∧ L ≤ 1000) : ∃ H2, Fr inQ H H2 ∧ isFS H2 (adv L (0, la) (qts bl sl ed hu kd wd ht rm mo (-9) (-9) n)).2 ∧ Call 17 93 [mR 0, mR lay, mI L] H (mI (adv L (0, la) (qts bl sl ed hu kd wd ht rm mo (-9) (-9) n)).1) H2 := by
  obtain ⟨W2, g1, g2, g3, hc1, hc2⟩ := C_wins hR hT hta hla hLy hFS h22 h23 hWl hn hB
  obtain ⟨H2, f1, f2, hc3⟩ := C_find (H := pt H 23 W2) (told_keep hT (by omega)) hta hla (lay_keep hLy (by omega)) (fs_keep hFS (by omega)) (pt_self h23) g2 g3 hn hB g1 hL
  have q0 : H[0]? = _ := hR
  have q24 := hFS.1
  obtain ⟨sq, f0, L0, q24⟩ := q24
  refine ⟨H2, Fr_trans (Fr_pt (A := inQ) ⟨by decide, by decide⟩ h23 (by omega)) (Fr_up f1 (fun a h => ⟨by have := h.1; omega, h.2⟩)), f2, ?_⟩
  refine Call_of rfl ?_
  refine E_aload_n (pc' := 1) g93_0 rfl rfl ?_
  refine E_getR (pc' := 4) g93_1 f93_54 tg6_12 rfl q0 rfl ?_
  refine E_aload_n (pc' := 5) g93_4 rfl rfl ?_
  refine E_getR (pc' := 8) g93_5 f93_23 tg6_3 rfl q0 rfl ?_
  refine E_aload_n (pc' := 9) g93_8 rfl rfl ?_
  refine E_cV2v (pc' := 12) g93_9 k93_155 na48 rfl ow48 rfl (Nat.le_of_ble_eq_true rfl) h22 hc1 (by decide) ?_
  refine E_aload_n (pc' := 13) g93_12 rfl rfl ?_
  refine E_getR (pc' := 16) g93_13 f93_54 tg6_12 rfl (pt_nx (by decide) q0) rfl ?_
  refine E_aload_n (pc' := 17) g93_16 rfl rfl ?_
  refine E_getR (pc' := 20) g93_17 f93_23 tg6_3 rfl (pt_nx (by decide) q0) rfl ?_
  refine E_aload_n (pc' := 21) g93_20 rfl rfl ?_
  refine E_cV2v (pc' := 24) g93_21 k93_158 na49 rfl ow49 rfl (Nat.le_of_ble_eq_true rfl) (pt_nx (by decide) h22) hc2 (by decide) ?_
  refine E_aload_n (pc' := 25) g93_24 rfl rfl ?_
  refine E_getR (pc' := 28) g93_25 f93_61 tg6_13 rfl (pt_nx (by decide) q0) rfl ?_
  refine E_aload_n (pc' := 29) g93_28 rfl rfl ?_
  refine E_getR (pc' := 32) g93_29 f93_23 tg6_3 rfl (pt_nx (by decide) q0) rfl ?_
  refine E_aload_n (pc' := 33) g93_32 rfl rfl ?_
  refine E_aload_n (pc' := 34) g93_33 rfl rfl ?_
  refine E_getR (pc' := 37) g93_34 f93_54 tg6_12 rfl (pt_nx (by decide) q0) rfl ?_
  refine E_getR (pc' := 40) g93_37 f93_161 tg5_0 rfl (pt_nx (by decide) h22) rfl ?_
  refine E_iload_n (pc' := 41) g93_40 rfl rfl ?_
  refine E_cV4i (pc' := 44) g93_41 k93_270 na8 rfl ow8 rfl (Nat.le_of_ble_eq_true rfl) (pt_nx (by decide) q24) hc3 (by decide) ?_
  exact E_iret g93_44 ro93 rfl rfl
theorem C_many_no (hR : isRoot H le ta tb pe un) (hT : isTold H ta kd wd ht rm mo sd bo ed hu sk (hvs ed (4 * kd).toNat)) (hta : ta = 3 ∨ ta = 8) (hno : ¬ (1 ≤ L ∧ L ≤ 300)) : Call 18 69 [mR 0, mI L] H (mI (-1)) H := by
  refine Call_of rfl ?_
  refine E_iload_n (pc' := 1) g69_0 rfl rfl ?_
  refine E_iconst (pc' := 2) g69_1 (by decide) rfl ?_
  refine E_iclt (pc' := 5) (pt := 12) g69_2 rfl rfl (fun c0 => ?_) (fun c0 => ?_)
  · first
    | (exfalso; omega)
    | (refine E_iconst (pc' := 13) g69_12 (by decide) rfl ?_
       exact E_iret g69_13 ro69 rfl rfl)
  · first
    | (exfalso; omega)
    | (refine E_iload_n (pc' := 6) g69_5 rfl rfl ?_
       refine E_sipush (pc' := 9) g69_6 (by decide) rfl ?_
       refine E_icle (pc' := 12) (pt := 14) g69_9 rfl rfl (fun c1 => ?_) (fun c1 => ?_)
       · first
         | (exfalso; omega)
         | (exfalso; omega)
       · first
         | (exfalso; omega)
         | (refine E_iconst (pc' := 13) g69_12 (by decide) rfl ?_
            exact E_iret g69_13 ro69 rfl rfl))
theorem C_many (hR : isRoot H le ta tb pe un) (hT : isTold H ta kd wd ht rm mo sd bo ed hu sk (hvs ed (4 * kd).toNat)) (hta : ta = 3 ∨ ta = 8) (hLy : isLay H 13 bl sl) (hFS : isFS H la) (h22 : H[22]? = some (5, [((23 : Nat) : Int)])) (h23 : H[23]? = some (8, W)) (hWl : W.length = 6) (hn : (n : Int) = wd * ht) (hB : ∀ j : Nat, j < 6 → ix bl j = -9 ∨ (0 ≤ ix bl j ∧ ix bl j < kd * 4)) (hL : 1 ≤ L ∧ L ≤ 300) : ∃ H2 la2, Fr inQ H H2 ∧ isFS H2 la2 ∧ Call 18 69 [mR 0, mI L] H (mI (min L (qts bl sl ed hu kd wd ht rm mo (-9) (-9) n).length)) H2 := by
  obtain ⟨H2, f1, f2, hc3⟩ := C_quiltsOf hR hT hta (Or.inl rfl) hLy hFS h22 h23 hWl hn hB (L := L) (by omega)
  have e := (adv_val (L := L) (Q := (qts bl sl ed hu kd wd ht rm mo (-9) (-9) n)) (f := 0) (la := la) (by omega)).1
  rw [Int.zero_add, Int.sub_zero] at e
  rw [e] at hc3
  have q0 : H[0]? = _ := hR
  refine ⟨H2, _, f1, f2, ?_⟩
  refine Call_of rfl ?_
  refine E_iload_n (pc' := 1) g69_0 rfl rfl ?_
  refine E_iconst (pc' := 2) g69_1 (by decide) rfl ?_
  refine E_iclt (pc' := 5) (pt := 12) g69_2 rfl rfl (fun c0 => ?_) (fun c0 => ?_)
  · first
    | (exfalso; omega)
    | (refine E_iconst (pc' := 13) g69_12 (by decide) rfl ?_
       exact E_iret g69_13 ro69 rfl rfl)
  · first
    | (exfalso; omega)
    | (refine E_iload_n (pc' := 6) g69_5 rfl rfl ?_
       refine E_sipush (pc' := 9) g69_6 (by decide) rfl ?_
       refine E_icle (pc' := 12) (pt := 14) g69_9 rfl rfl (fun c1 => ?_) (fun c1 => ?_)
       · first
         | (exfalso; omega)
         | (refine E_aload_n (pc' := 15) g69_14 rfl rfl ?_
            refine E_aload_n (pc' := 16) g69_15 rfl rfl ?_
            refine E_getR (pc' := 19) g69_16 f69_33 tg6_5 rfl q0 rfl ?_
            refine E_iload_n (pc' := 20) g69_19 rfl rfl ?_
            refine E_cV2i (pc' := 23) g69_20 k69_182 na93 rfl ow93 rfl (Nat.le_of_ble_eq_true rfl) q0 hc3 (by decide) ?_
            exact E_iret g69_23 ro69 rfl rfl)
       · first
         | (exfalso; omega)
         | (refine E_iconst (pc' := 13) g69_12 (by decide) rfl ?_
            exact E_iret g69_13 ro69 rfl rfl))
/-- the k-th quilt's block -/
def qtR (Q : List (List Int)) (k sq : Int) : Int := ((Q[k.toNat]?).map (fun x => ix x sq)).getD (-9)
theorem C_quilt_no (hR : isRoot H le ta tb pe un) (hT : isTold H ta kd wd ht rm mo sd bo ed hu sk (hvs ed (4 * kd).toNat)) (hta : ta = 3 ∨ ta = 8) (hLy : isLay H 13 bl sl) {k s : Int} (hno : ¬ (0 ≤ k ∧ k < 300 ∧ 0 ≤ s ∧ s < wd * ht)) : Call 18 70 [mR 0, mI k, mI s] H (mI (-1)) H := by
  have q0 : H[0]? = _ := hR
  have e1 := inI_or s 0 (wd * ht)
  refine Call_of rfl ?_
  refine E_iload_n (pc' := 1) g70_0 rfl rfl ?_
  refine E_iflt (pc' := 4) (pt := 19) g70_1 rfl rfl (fun c0 => ?_) (fun c0 => ?_)
  · first
    | (exfalso; omega)
    | (refine E_iconst (pc' := 20) g70_19 (by decide) rfl ?_
       exact E_iret g70_20 ro70 rfl rfl)
  · first
    | (exfalso; omega)
    | (refine E_iload_n (pc' := 5) g70_4 rfl rfl ?_
       refine E_sipush (pc' := 8) g70_5 (by decide) rfl ?_
       refine E_icge (pc' := 11) (pt := 19) g70_8 rfl rfl (fun c1 => ?_) (fun c1 => ?_)
       · first
         | (exfalso; omega)
         | (refine E_iconst (pc' := 20) g70_19 (by decide) rfl ?_
            exact E_iret g70_20 ro70 rfl rfl)
       · first
         | (exfalso; omega)
         | (refine E_aload_n (pc' := 12) g70_11 rfl rfl ?_
            refine E_iload_n (pc' := 13) g70_12 rfl rfl ?_
            refine E_cV1i (pc' := 16) g70_13 k70_123 na83 rfl ow83 rfl (Nat.le_of_ble_eq_true rfl) q0 (C_isSquare hR hT hLy) (by decide) ?_
            refine E_ifne (pc' := 19) (pt := 21) g70_16 rfl rfl (fun c2 => ?_) (fun c2 => ?_)
            · first
              | (exfalso; omega)
              | (exfalso; omega)
            · first
              | (exfalso; omega)
              | (refine E_iconst (pc' := 20) g70_19 (by decide) rfl ?_
                 exact E_iret g70_20 ro70 rfl rfl)))
theorem C_quilt (hR : isRoot H le ta tb pe un) (hT : isTold H ta kd wd ht rm mo sd bo ed hu sk (hvs ed (4 * kd).toNat)) (hta : ta = 3 ∨ ta = 8) (hLy : isLay H 13 bl sl) (hFS : isFS H la) (h22 : H[22]? = some (5, [((23 : Nat) : Int)])) (h23 : H[23]? = some (8, W)) (hWl : W.length = 6) (hn : (n : Int) = wd * ht) (hB : ∀ j : Nat, j < 6 → ix bl j = -9 ∨ (0 ≤ ix bl j ∧ ix bl j < kd * 4)) {k s : Int} (hk : 0 ≤ k ∧ k < 300 ∧ 0 ≤ s ∧ s < wd * ht) : ∃ H2 la2, Fr inQ H H2 ∧ isFS H2 la2 ∧ Call 18 70 [mR 0, mI k, mI s] H (mI (qtR (qts bl sl ed hu kd wd ht rm mo (-9) (-9) n) k s)) H2 := by
  obtain ⟨H2, f1, f2, hc3⟩ := C_quiltsOf hR hT hta (Or.inl rfl) hLy hFS h22 h23 hWl hn hB (L := k + 1) (by omega)
  have e := adv_val (L := k + 1) (Q := (qts bl sl ed hu kd wd ht rm mo (-9) (-9) n)) (f := 0) (la := la) (by omega)
  rw [Int.zero_add, Int.sub_zero] at e
  have hw := wh_bd hT.2.2.2.2.2.2.1.1 hT.2.2.2.2.2.2.1.2 hT.2.2.2.2.2.2.2.1.1 hT.2.2.2.2.2.2.2.1.2
  have hval : (k < (qts bl sl ed hu kd wd ht rm mo (-9) (-9) n).length → ix (adv (k + 1) (0, la) (qts bl sl ed hu kd wd ht rm mo (-9) (-9) n)).2 s = qtR (qts bl sl ed hu kd wd ht rm mo (-9) (-9) n) k s) ∧ ((qts bl sl ed hu kd wd ht rm mo (-9) (-9) n).length ≤ k → qtR (qts bl sl ed hu kd wd ht rm mo (-9) (-9) n) k s = -9) := by
    constructor
    · intro hlt
      have h2 := e.2 (by omega)
      rw [show (min (k + 1) ((qts bl sl ed hu kd wd ht rm mo (-9) (-9) n).length : Int)).toNat - 1 = k.toNat by omega] at h2
      unfold qtR
      rw [← h2]
      rfl
    · intro hle
      unfold qtR
      rw [List.getElem?_eq_none (by omega)]
      rfl
  have q0 : H[0]? = _ := hR
  have p0 : H2[0]? = _ := root_fr f1 hR (by unfold inQ; omega)
  have f2' := f2
  obtain ⟨⟨z1, z2, z3, p24⟩, ⟨p25, l25⟩, -⟩ := f2'
  have e1 := inI_or s 0 (wd * ht)
  have e2 := e.1
  refine ⟨H2, _, f1, f2, ?_⟩
  refine Call_of rfl ?_
  refine E_iload_n (pc' := 1) g70_0 rfl rfl ?_
  refine E_iflt (pc' := 4) (pt := 19) g70_1 rfl rfl (fun c0 => ?_) (fun c0 => ?_)
  · first
    | (exfalso; omega)
    | (exfalso; omega)
  · first
    | (exfalso; omega)
    | (refine E_iload_n (pc' := 5) g70_4 rfl rfl ?_
       refine E_sipush (pc' := 8) g70_5 (by decide) rfl ?_
       refine E_icge (pc' := 11) (pt := 19) g70_8 rfl rfl (fun c1 => ?_) (fun c1 => ?_)
       · first
         | (exfalso; omega)
         | (exfalso; omega)
       · first
         | (exfalso; omega)
         | (refine E_aload_n (pc' := 12) g70_11 rfl rfl ?_
            refine E_iload_n (pc' := 13) g70_12 rfl rfl ?_
            refine E_cV1i (pc' := 16) g70_13 k70_123 na83 rfl ow83 rfl (Nat.le_of_ble_eq_true rfl) q0 (C_isSquare hR hT hLy) (by decide) ?_
            refine E_ifne (pc' := 19) (pt := 21) g70_16 rfl rfl (fun c2 => ?_) (fun c2 => ?_)
            · first
              | (exfalso; omega)
              | (refine E_aload_n (pc' := 22) g70_21 rfl rfl ?_
                 refine E_aload_n (pc' := 23) g70_22 rfl rfl ?_
                 refine E_getR (pc' := 26) g70_23 f70_33 tg6_5 rfl q0 rfl ?_
                 refine E_iload_n (pc' := 27) g70_26 rfl rfl ?_
                 refine E_iconst (pc' := 28) g70_27 (by decide) rfl ?_
                 refine E_iadd (pc' := 29) g70_28 (m_in_iff.mpr (by omega)) rfl ?_
                 refine E_cV2i (pc' := 32) g70_29 k70_182 na93 rfl ow93 rfl (Nat.le_of_ble_eq_true rfl) q0 hc3 (by decide) ?_
                 refine E_iload_n (pc' := 33) g70_32 rfl rfl ?_
                 refine E_icle (pc' := 36) (pt := 48) g70_33 rfl rfl (fun c3 => ?_) (fun c3 => ?_)
                 · first
                   | (exfalso; omega)
                   | (refine E_bipush (pc' := 50) g70_48 (by decide) rfl ?_
                      exact E_iret g70_50 ro70 (by first | rw [hval.1 (by omega)] | rw [hval.2 (by omega)]) rfl)
                 · first
                   | (exfalso; omega)
                   | (refine E_aload_n (pc' := 37) g70_36 rfl rfl ?_
                      refine E_getR (pc' := 40) g70_37 f70_61 tg6_13 rfl p0 rfl ?_
                      refine E_getR (pc' := 43) g70_40 f70_186 tg1_0 rfl p24 rfl ?_
                      refine E_iload_n (pc' := 44) g70_43 rfl rfl ?_
                      refine E_iaload (pc' := 45) g70_44 rfl p25 (by omega) (by omega) ?_
                      refine E_goto (pc' := 50) g70_45 rfl ?_
                      exact E_iret g70_50 ro70 (by first | rw [hval.1 (by omega)] | rw [hval.2 (by omega)]) rfl))
            · first
              | (exfalso; omega)
              | (exfalso; omega)))
def bitR (x i r : Int) : Prop := (∀ k : Nat, k < 24 → bit x k = true → cn (fun b => bit x b) k = i → r = k) ∧ ((∀ k : Nat, k < 24 → bit x k = true → ¬ cn (fun b => bit x b) k = i) → r = -9)
theorem C_left_no (hR : isRoot H le ta tb pe un) (hT : isTold H ta kd wd ht rm mo sd bo ed hu sk (hvs ed (4 * kd).toNat)) (hta : ta = 3 ∨ ta = 8) (hLy : isLay H 13 bl sl) {s i r : Int} (hno : ¬ (0 ≤ s ∧ s < wd * ht ∧ -1 ≤ i ∧ ix bl s = -9)) (hr : (¬ (0 ≤ s ∧ s < wd * ht ∧ -1 ≤ i) → r = -1) ∧ ((0 ≤ s ∧ s < wd * ht ∧ -1 ≤ i) → r = -2)) : Call 18 67 [mR 0, mI s, mI i] H (mI r) H := by
  have q0 : H[0]? = _ := hR
  have q13 := hLy.1
  have hw := wh_bd hT.2.2.2.2.2.2.1.1 hT.2.2.2.2.2.2.1.2 hT.2.2.2.2.2.2.2.1.1 hT.2.2.2.2.2.2.2.1.2
  have e1 := inI_or s 0 (wd * ht)
  have e3 := isO_or bl s
  refine Call_of rfl ?_
  refine E_aload_n (pc' := 1) g67_0 rfl rfl ?_
  refine E_iload_n (pc' := 2) g67_1 rfl rfl ?_
  refine E_cV1i (pc' := 5) g67_2 k67_123 na83 rfl ow83 rfl (Nat.le_of_ble_eq_true rfl) q0 (C_isSquare hR hT hLy) (by decide) ?_
  refine E_ifeq (pc' := 8) (pt := 13) g67_5 rfl rfl (fun c0 => ?_) (fun c0 => ?_)
  · first
    | (exfalso; omega)
    | (refine E_iconst (pc' := 14) g67_13 (by decide) rfl ?_
       exact E_iret g67_14 ro67 (congrArg mI (by first | (have q := hr.1 (by omega); first | exact q | omega) | (have q := hr.2 (by omega); first | exact q | omega))) rfl)
  · first
    | (exfalso; omega)
    | (refine E_iload_n (pc' := 9) g67_8 rfl rfl ?_
       refine E_iconst (pc' := 10) g67_9 (by decide) rfl ?_
       refine E_icge (pc' := 13) (pt := 15) g67_10 rfl rfl (fun c1 => ?_) (fun c1 => ?_)
       · first
         | (exfalso; omega)
         | (refine E_aload_n (pc' := 16) g67_15 rfl rfl ?_
            refine E_getR (pc' := 19) g67_16 f67_33 tg6_5 rfl q0 rfl ?_
            refine E_iload_n (pc' := 20) g67_19 rfl rfl ?_
            refine E_cV1i (pc' := 23) g67_20 k67_126 na17 rfl ow17 rfl (Nat.le_of_ble_eq_true rfl) q13 (C_isOpen hLy) (by decide) ?_
            refine E_ifne (pc' := 26) (pt := 29) g67_23 rfl rfl (fun c2 => ?_) (fun c2 => ?_)
            · first
              | (exfalso; omega)
              | (exfalso; omega)
            · first
              | (exfalso; omega)
              | (refine E_bipush (pc' := 28) g67_26 (by decide) rfl ?_
                 exact E_iret g67_28 ro67 (congrArg mI (by first | (have q := hr.1 (by omega); first | exact q | omega) | (have q := hr.2 (by omega); first | exact q | omega))) rfl))
       · first
         | (exfalso; omega)
         | (refine E_iconst (pc' := 14) g67_13 (by decide) rfl ?_
            exact E_iret g67_14 ro67 (congrArg mI (by first | (have q := hr.1 (by omega); first | exact q | omega) | (have q := hr.2 (by omega); first | exact q | omega))) rfl))
theorem C_left (hR : isRoot H le ta tb pe un) (hT : isTold H ta kd wd ht rm mo sd bo ed hu sk (hvs ed (4 * kd).toNat)) (hta : ta = 3 ∨ ta = 8) (hLy : isLay H 13 bl sl) (hFS : isFS H la) (h22 : H[22]? = some (5, [((23 : Nat) : Int)])) (h23 : H[23]? = some (8, W)) (hWl : W.length = 6) (hn : (n : Int) = wd * ht) (hB : ∀ j : Nat, j < 6 → ix bl j = -9 ∨ (0 ≤ ix bl j ∧ ix bl j < kd * 4)) {s i : Int} (hs : 0 ≤ s ∧ s < wd * ht ∧ -1 ≤ i ∧ ix bl s = -9) : ∃ W2, gfam bl ed wd ht (iniF bl sl ed hu kd wd ht rm mo (-9) (-9) n) W2 ∧ W2.length = 6 ∧ bet W2 0 16777215 ∧ ∀ r, (i = -1 → r = cn (fun b => bit (ix W2 s) b) 24) → (0 ≤ i → bitR (ix W2 s) i r) → Call 18 67 [mR 0, mI s, mI i] H (mI r) (pt H 23 W2) := by
  obtain ⟨W2, g1, g2, g3, hc1, hc2⟩ := C_wins hR hT hta (Or.inl rfl) hLy hFS h22 h23 hWl hn hB
  refine ⟨W2, g1, g2, g3, fun r hr1 hr2 => ?_⟩
  have q0 : H[0]? = _ := hR
  have q13 := hLy.1
  have hw := wh_bd hT.2.2.2.2.2.2.1.1 hT.2.2.2.2.2.2.1.2 hT.2.2.2.2.2.2.2.1.1 hT.2.2.2.2.2.2.2.1.2
  have e1 := inI_or s 0 (wd * ht)
  have e3 := isO_or bl s
  have hws := g3 s
  refine Call_of rfl ?_
  refine E_aload_n (pc' := 1) g67_0 rfl rfl ?_
  refine E_iload_n (pc' := 2) g67_1 rfl rfl ?_
  refine E_cV1i (pc' := 5) g67_2 k67_123 na83 rfl ow83 rfl (Nat.le_of_ble_eq_true rfl) q0 (C_isSquare hR hT hLy) (by decide) ?_
  refine E_ifeq (pc' := 8) (pt := 13) g67_5 rfl rfl (fun c0 => ?_) (fun c0 => ?_)
  · first
    | (exfalso; omega)
    | (exfalso; omega)
  · first
    | (exfalso; omega)
    | (refine E_iload_n (pc' := 9) g67_8 rfl rfl ?_
       refine E_iconst (pc' := 10) g67_9 (by decide) rfl ?_
       refine E_icge (pc' := 13) (pt := 15) g67_10 rfl rfl (fun c1 => ?_) (fun c1 => ?_)
       · first
         | (exfalso; omega)
         | (refine E_aload_n (pc' := 16) g67_15 rfl rfl ?_
            refine E_getR (pc' := 19) g67_16 f67_33 tg6_5 rfl q0 rfl ?_
            refine E_iload_n (pc' := 20) g67_19 rfl rfl ?_
            refine E_cV1i (pc' := 23) g67_20 k67_126 na17 rfl ow17 rfl (Nat.le_of_ble_eq_true rfl) q13 (C_isOpen hLy) (by decide) ?_
            refine E_ifne (pc' := 26) (pt := 29) g67_23 rfl rfl (fun c2 => ?_) (fun c2 => ?_)
            · first
              | (exfalso; omega)
              | (refine E_aload_n (pc' := 30) g67_29 rfl rfl ?_
                 refine E_getR (pc' := 33) g67_30 f67_54 tg6_12 rfl q0 rfl ?_
                 refine E_aload_n (pc' := 34) g67_33 rfl rfl ?_
                 refine E_getR (pc' := 37) g67_34 f67_23 tg6_3 rfl q0 rfl ?_
                 refine E_aload_n (pc' := 38) g67_37 rfl rfl ?_
                 refine E_getR (pc' := 41) g67_38 f67_33 tg6_5 rfl q0 rfl ?_
                 refine E_cV2v (pc' := 44) g67_41 k67_155 na48 rfl ow48 rfl (Nat.le_of_ble_eq_true rfl) h22 hc1 (by decide) ?_
                 refine E_aload_n (pc' := 45) g67_44 rfl rfl ?_
                 refine E_getR (pc' := 48) g67_45 f67_54 tg6_12 rfl (pt_nx (by decide) q0) rfl ?_
                 refine E_aload_n (pc' := 49) g67_48 rfl rfl ?_
                 refine E_getR (pc' := 52) g67_49 f67_23 tg6_3 rfl (pt_nx (by decide) q0) rfl ?_
                 refine E_aload_n (pc' := 53) g67_52 rfl rfl ?_
                 refine E_getR (pc' := 56) g67_53 f67_33 tg6_5 rfl (pt_nx (by decide) q0) rfl ?_
                 refine E_cV2v (pc' := 59) g67_56 k67_158 na49 rfl ow49 rfl (Nat.le_of_ble_eq_true rfl) (pt_nx (by decide) h22) hc2 (by decide) ?_
                 refine E_aload_n (pc' := 60) g67_59 rfl rfl ?_
                 refine E_getR (pc' := 63) g67_60 f67_54 tg6_12 rfl (pt_nx (by decide) q0) rfl ?_
                 refine E_getR (pc' := 66) g67_63 f67_161 tg5_0 rfl (pt_nx (by decide) h22) rfl ?_
                 refine E_iload_n (pc' := 67) g67_66 rfl rfl ?_
                 refine E_iaload (pc' := 68) g67_67 rfl (pt_self h23) (by omega) (by omega) ?_
                 refine E_st3 (pc' := 69) g67_68 rfl ?_
                 refine E_iload_n (pc' := 70) g67_69 rfl rfl ?_
                 refine E_iconst (pc' := 71) g67_70 (by decide) rfl ?_
                 refine E_icne (pc' := 74) (pt := 81) g67_71 rfl rfl (fun c3 => ?_) (fun c3 => ?_)
                 · first
                   | (exfalso; omega)
                   | (refine E_iload_n (pc' := 82) g67_81 rfl rfl ?_
                      refine E_iload_n (pc' := 83) g67_82 rfl rfl ?_
                      refine E_cS2i (pc' := 86) g67_83 k67_169 na95 rfl rfl (Nat.le_of_ble_eq_true rfl) (C_bitAt hws (hr2 (by omega))) (by decide) ?_
                      exact E_iret g67_86 ro67 (by first | rfl | rw [hr1 (by omega)]) rfl)
                 · first
                   | (exfalso; omega)
                   | (refine E_iload_n (pc' := 75) g67_74 rfl rfl ?_
                      refine E_cS1i (pc' := 78) g67_75 k67_164 na162 rfl rfl (Nat.le_of_ble_eq_true rfl) (C_bitCount hws) (by decide) ?_
                      refine E_goto (pc' := 86) g67_78 rfl ?_
                      exact E_iret g67_86 ro67 (by first | rfl | rw [hr1 (by omega)]) rfl))
            · first
              | (exfalso; omega)
              | (exfalso; omega))
       · first
         | (exfalso; omega)
         | (exfalso; omega))
/-- the square to lay next -/
def nbst (bl W : List Int) : Nat → Int
  | 0 => -9
  | k + 1 => if ix bl k = -9 ∧ (nbst bl W k = -9 ∨ cn (fun b => bit (ix W k) b) 24 < cn (fun b => bit (ix W (nbst bl W k)) b) 24) then (k : Int) else nbst bl W k
theorem nbst_bd (bl W : List Int) : ∀ k : Nat, nbst bl W k = -9 ∨ (0 ≤ nbst bl W k ∧ nbst bl W k < k)
  | 0 => Or.inl rfl
  | k + 1 => by
    have := nbst_bd bl W k
    simp only [nbst]
    split
    · exact Or.inr (by omega)
    · omega
theorem C_next (hR : isRoot H le ta tb pe un) (hT : isTold H ta kd wd ht rm mo sd bo ed hu sk (hvs ed (4 * kd).toNat)) (hta : ta = 3 ∨ ta = 8) (hLy : isLay H 13 bl sl) (hFS : isFS H la) (h22 : H[22]? = some (5, [((23 : Nat) : Int)])) (h23 : H[23]? = some (8, W)) (hWl : W.length = 6) (hn : (n : Int) = wd * ht) (hB : ∀ j : Nat, j < 6 → ix bl j = -9 ∨ (0 ≤ ix bl j ∧ ix bl j < kd * 4)) : ∃ W2, gfam bl ed wd ht (iniF bl sl ed hu kd wd ht rm mo (-9) (-9) n) W2 ∧ W2.length = 6 ∧ bet W2 0 16777215 ∧ Call 18 72 [mR 0] H (mI (nbst bl W2 n)) (pt H 23 W2) := by
  obtain ⟨W2, g1, g2, g3, hc1, hc2⟩ := C_wins hR hT hta (Or.inl rfl) hLy hFS h22 h23 hWl hn hB
  refine ⟨W2, g1, g2, g3, ?_⟩
  have q0 : H[0]? = _ := hR
  have q13 := hLy.1
  have t0 := hT.1
  have hw := wh_bd hT.2.2.2.2.2.2.1.1 hT.2.2.2.2.2.2.1.2 hT.2.2.2.2.2.2.2.1.1 hT.2.2.2.2.2.2.2.1.2
  have hT1 := told_keep (x := 23) (fs := W2) hT (by omega)
  have hL1 := lay_keep (x := 23) (fs := W2) hLy (by omega)
  refine Call_of rfl ?_
  refine E_aload_n (pc' := 1) g72_0 rfl rfl ?_
  refine E_getR (pc' := 4) g72_1 f72_54 tg6_12 rfl q0 rfl ?_
  refine E_aload_n (pc' := 5) g72_4 rfl rfl ?_
  refine E_getR (pc' := 8) g72_5 f72_23 tg6_3 rfl q0 rfl ?_
  refine E_aload_n (pc' := 9) g72_8 rfl rfl ?_
  refine E_getR (pc' := 12) g72_9 f72_33 tg6_5 rfl q0 rfl ?_
  refine E_cV2v (pc' := 15) g72_12 k72_155 na48 rfl ow48 rfl (Nat.le_of_ble_eq_true rfl) h22 hc1 (by decide) ?_
  refine E_aload_n (pc' := 16) g72_15 rfl rfl ?_
  refine E_getR (pc' := 19) g72_16 f72_54 tg6_12 rfl (pt_nx (by decide) q0) rfl ?_
  refine E_aload_n (pc' := 20) g72_19 rfl rfl ?_
  refine E_getR (pc' := 23) g72_20 f72_23 tg6_3 rfl (pt_nx (by decide) q0) rfl ?_
  refine E_aload_n (pc' := 24) g72_23 rfl rfl ?_
  refine E_getR (pc' := 27) g72_24 f72_33 tg6_5 rfl (pt_nx (by decide) q0) rfl ?_
  refine E_cV2v (pc' := 30) g72_27 k72_158 na49 rfl ow49 rfl (Nat.le_of_ble_eq_true rfl) (pt_nx (by decide) h22) hc2 (by decide) ?_
  refine E_bipush (pc' := 32) g72_30 (by decide) rfl ?_
  refine E_st1 (pc' := 33) g72_32 rfl ?_
  refine E_bipush (pc' := 35) g72_33 (by decide) rfl ?_
  refine E_st2 (pc' := 36) g72_35 rfl ?_
  refine E_iconst (pc' := 37) g72_36 (by decide) rfl ?_
  refine E_st3 (pc' := 38) g72_37 rfl ?_
  refine (E_loop (n := n) (fun i => ∀ u : mV, Ev 18 72 38 [mR 0, mI (nbst bl W2 i), mI (if nbst bl W2 i = -9 then 25 else cn (fun b => bit (ix W2 (nbst bl W2 i)) b) 24), mI (i : Int), u] [] (pt H 23 W2) (mI (nbst bl W2 n)) (pt H 23 W2)) ?_ ?_ 0 (by omega)) none
  · intro i hi hh u
    have e3 := isO_or bl i
    have hcb := cn_bd (fun b => bit (ix W2 i) b) 24
    have hnb := nbst_bd bl W2 i
    have hfe : ∀ v : Int, v = (if nbst bl W2 i = -9 then 25 else cn (fun b => bit (ix W2 (nbst bl W2 i)) b) 24) → (nbst bl W2 i = -9 → v = 25) ∧ (¬ nbst bl W2 i = -9 → v = cn (fun b => bit (ix W2 (nbst bl W2 i)) b) 24) := fun v hv => ⟨fun z => by rw [hv, if_pos z], fun z => by rw [hv, if_neg z]⟩
    have hst : nbst bl W2 (i + 1) = if ix bl i = -9 ∧ (nbst bl W2 i = -9 ∨ cn (fun b => bit (ix W2 i) b) 24 < cn (fun b => bit (ix W2 (nbst bl W2 i)) b) 24) then (i : Int) else nbst bl W2 i := rfl
    generalize hF : (if nbst bl W2 i = -9 then 25 else cn (fun b => bit (ix W2 (nbst bl W2 i)) b) 24) = few at hfe ⊢
    have hfe := hfe few rfl
    refine E_iload_n (pc' := 39) g72_38 rfl rfl ?_
    refine E_aload_n (pc' := 40) g72_39 rfl rfl ?_
    refine E_getR (pc' := 43) g72_40 f72_23 tg6_3 rfl (pt_nx (by decide) q0) rfl ?_
    refine E_cV0i (pc' := 46) g72_43 k72_142 na36 rfl ow36 rfl (Nat.le_of_ble_eq_true rfl) (pt_nx (by omega) t0) (C_squares hT1) (by decide) ?_
    refine E_icge (pc' := 49) (pt := 91) g72_46 rfl rfl (fun c0 => ?_) (fun c0 => ?_)
    · exact absurd c0 (by omega)
    · first
      | (exfalso; omega)
      | (refine E_aload_n (pc' := 50) g72_49 rfl rfl ?_
         refine E_getR (pc' := 53) g72_50 f72_54 tg6_12 rfl (pt_nx (by decide) q0) rfl ?_
         refine E_getR (pc' := 56) g72_53 f72_161 tg5_0 rfl (pt_nx (by decide) h22) rfl ?_
         refine E_iload_n (pc' := 57) g72_56 rfl rfl ?_
         refine E_iaload (pc' := 58) g72_57 rfl (pt_self h23) (by omega) (by omega) ?_
         refine E_cS1i (pc' := 61) g72_58 k72_164 na162 rfl rfl (Nat.le_of_ble_eq_true rfl) (C_bitCount (g3 _)) (by decide) ?_
         refine E_st4 (pc' := 63) g72_61 rfl ?_
         refine E_aload_n (pc' := 64) g72_63 rfl rfl ?_
         refine E_getR (pc' := 67) g72_64 f72_33 tg6_5 rfl (pt_nx (by decide) q0) rfl ?_
         refine E_iload_n (pc' := 68) g72_67 rfl rfl ?_
         refine E_cV1i (pc' := 71) g72_68 k72_126 na17 rfl ow17 rfl (Nat.le_of_ble_eq_true rfl) hL1.1 (C_isOpen hL1) (by decide) ?_
         refine E_ifeq (pc' := 74) (pt := 85) g72_71 rfl rfl (fun c1 => ?_) (fun c1 => ?_)
         · first
           | (exfalso; omega)
           | (refine E_in3 (pc' := 88) g72_85 rfl (m_in_iff.mpr (by omega)) ?_
              refine E_goto (pc' := 38) g72_88 rfl ?_
              by_cases hN : nbst bl W2 i = -9
              · have hf := hfe.1 hN
                first
                | (refine Ev_cast (hh _) (by rw [hst, if_pos ⟨by omega, Or.inl hN⟩, if_neg (by omega)]; rfl) rfl)
                | (refine Ev_cast (hh _) (by rw [hst, if_neg (fun q => by omega), if_pos hN, hf]; rfl) rfl)
              · have hf := hfe.2 hN
                first
                | (refine Ev_cast (hh _) (by rw [hst, if_pos ⟨by omega, Or.inr (by omega)⟩, if_neg (by omega)]; rfl) rfl)
                | (refine Ev_cast (hh _) (by rw [hst, if_neg (fun q => by omega), if_neg hN, hf]; rfl) rfl))
         · first
           | (exfalso; omega)
           | (refine E_iload (pc' := 76) g72_74 rfl rfl ?_
              refine E_iload_n (pc' := 77) g72_76 rfl rfl ?_
              refine E_icge (pc' := 80) (pt := 85) g72_77 rfl rfl (fun c2 => ?_) (fun c2 => ?_)
              · first
                | (exfalso; omega)
                | (refine E_in3 (pc' := 88) g72_85 rfl (m_in_iff.mpr (by omega)) ?_
                   refine E_goto (pc' := 38) g72_88 rfl ?_
                   by_cases hN : nbst bl W2 i = -9
                   · have hf := hfe.1 hN
                     first
                     | (refine Ev_cast (hh _) (by rw [hst, if_pos ⟨by omega, Or.inl hN⟩, if_neg (by omega)]; rfl) rfl)
                     | (refine Ev_cast (hh _) (by rw [hst, if_neg (fun q => by omega), if_pos hN, hf]; rfl) rfl)
                   · have hf := hfe.2 hN
                     first
                     | (refine Ev_cast (hh _) (by rw [hst, if_pos ⟨by omega, Or.inr (by omega)⟩, if_neg (by omega)]; rfl) rfl)
                     | (refine Ev_cast (hh _) (by rw [hst, if_neg (fun q => by omega), if_neg hN, hf]; rfl) rfl))
              · first
                | (exfalso; omega)
                | (refine E_iload_n (pc' := 81) g72_80 rfl rfl ?_
                   refine E_st1 (pc' := 82) g72_81 rfl ?_
                   refine E_iload (pc' := 84) g72_82 rfl rfl ?_
                   refine E_st2 (pc' := 85) g72_84 rfl ?_
                   refine E_in3 (pc' := 88) g72_85 rfl (m_in_iff.mpr (by omega)) ?_
                   refine E_goto (pc' := 38) g72_88 rfl ?_
                   by_cases hN : nbst bl W2 i = -9
                   · have hf := hfe.1 hN
                     first
                     | (refine Ev_cast (hh _) (by rw [hst, if_pos ⟨by omega, Or.inl hN⟩, if_neg (by omega)]; rfl) rfl)
                     | (refine Ev_cast (hh _) (by rw [hst, if_neg (fun q => by omega), if_pos hN, hf]; rfl) rfl)
                   · have hf := hfe.2 hN
                     first
                     | (refine Ev_cast (hh _) (by rw [hst, if_pos ⟨by omega, Or.inr (by omega)⟩, if_neg (by omega)]; rfl) rfl)
                     | (refine Ev_cast (hh _) (by rw [hst, if_neg (fun q => by omega), if_neg hN, hf]; rfl) rfl))))
  · intro u
    refine E_iload_n (pc' := 39) g72_38 rfl rfl ?_
    refine E_aload_n (pc' := 40) g72_39 rfl rfl ?_
    refine E_getR (pc' := 43) g72_40 f72_23 tg6_3 rfl (pt_nx (by decide) q0) rfl ?_
    refine E_cV0i (pc' := 46) g72_43 k72_142 na36 rfl ow36 rfl (Nat.le_of_ble_eq_true rfl) (pt_nx (by omega) t0) (C_squares hT1) (by decide) ?_
    refine E_icge (pc' := 49) (pt := 91) g72_46 rfl rfl (fun c0 => ?_) (fun c0 => ?_)
    · first
      | (exfalso; omega)
      | (refine E_iload_n (pc' := 92) g72_91 rfl rfl ?_
         exact E_iret g72_92 ro72 rfl rfl)
    · exact absurd c0 (by omega)
end QG
