/-! QuiltPatches: images, fits, hue, count; Cloth's measure -/
section QE
variable {H : mH} {ta tb : Nat} {le pe un : Int} {bl sl : List Int} {kd wd ht rm mo sd bo : Int} {ed hu sk hv : List Int} {PB PS IB IS : Nat → List Int} {tx kp : List Int}
theorem C_keep_no (hR : isRoot H le ta tb pe un) (hT : isTold H ta kd wd ht rm mo sd bo ed hu sk hv) (hL : isLay H 13 bl sl) {i : Int} (hi : ¬ (0 ≤ i ∧ i < 2)) : Call 3 78 [mR 0, mI i] H (mI (-1)) H := by
  have hT0 := hT
  have hL0 := hL
  have hR0 : H[0]? = _ := hR
  obtain ⟨t0, t1, t2, t3, t4, ⟨r1, r2, r3, r4, r5, r6, r7, b1, b2, b3, b4, n1, n2, n3, n4⟩⟩ := hT
  obtain ⟨h0, h1, h2, l1, l2, ob, ok⟩ := hL
  have hw := wh_bd r2.1 r2.2 r3.1 r3.2
  have e1 := inI_or i 0 2
  refine Call_of rfl ?_
  refine E_iload_n (pc' := 1) g78_0 rfl rfl ?_
  refine E_cS1i (pc' := 4) g78_1 k78_226 na86 rfl rfl (Nat.le_of_ble_eq_true rfl) C_isImage (by decide) ?_
  refine E_ifne (pc' := 7) (pt := 9) g78_4 rfl rfl (fun c0 => ?_) (fun c0 => ?_)
  · first
    | (exfalso; omega)
    | (exfalso; omega)
  · first
    | (exfalso; omega)
    | (refine E_iconst (pc' := 8) g78_7 (by decide) rfl ?_
       exact E_iret g78_8 ro78 rfl rfl)
theorem C_keep (hR : isRoot H le ta tb pe un) (hT : isTold H ta kd wd ht rm mo sd bo ed hu sk hv) (hL : isLay H 13 bl sl) (hI : isImg H IB IS) (hK : H[21]? = some (9, kp)) (hkl : kp.length = 2) (hta : ta = 3 ∨ ta = 8) {i : Int} (hi : 0 ≤ i ∧ i < 2) : Call 3 78 [mR 0, mI i] H (mI (nO bl (wd * ht).toNat)) (pt (pt (pt H (68 + 3 * i.toNat + 1) bl) (68 + 3 * i.toNat + 2) sl) 21 (up kp i 1)) := by
  have hT0 := hT
  have hL0 := hL
  have hR0 : H[0]? = _ := hR
  obtain ⟨t0, t1, t2, t3, t4, ⟨r1, r2, r3, r4, r5, r6, r7, b1, b2, b3, b4, n1, n2, n3, n4⟩⟩ := hT
  obtain ⟨h0, h1, h2, l1, l2, ob, ok⟩ := hL
  have hw := wh_bd r2.1 r2.2 r3.1 r3.2
  have e1 := inI_or i 0 2
  have hi20 := hI.1
  have hpp := hI.2 i.toNat (by omega)
  have hq := hpp.1
  have gR := root_keep (x := 21) (fs := up kp i 1) (root_keep (x := 68 + 3 * i.toNat + 2) (fs := sl) (root_keep (x := 68 + 3 * i.toNat + 1) (fs := bl) hR (by omega)) (by omega)) (by omega)
  have gT := told_keep (x := 21) (fs := up kp i 1) (told_keep (x := 68 + 3 * i.toNat + 2) (fs := sl) (told_keep (x := 68 + 3 * i.toNat + 1) (fs := bl) hT0 (by omega)) (by omega)) (by omega)
  have gL := lay_keep (x := 21) (fs := up kp i 1) (lay_keep (x := 68 + 3 * i.toNat + 2) (fs := sl) (lay_keep (x := 68 + 3 * i.toNat + 1) (fs := bl) hL0 (by omega)) (by omega)) (by omega)
  refine Call_of rfl ?_
  refine E_iload_n (pc' := 1) g78_0 rfl rfl ?_
  refine E_cS1i (pc' := 4) g78_1 k78_226 na86 rfl rfl (Nat.le_of_ble_eq_true rfl) C_isImage (by decide) ?_
  refine E_ifne (pc' := 7) (pt := 9) g78_4 rfl rfl (fun c0 => ?_) (fun c0 => ?_)
  · first
    | (exfalso; omega)
    | (refine E_aload_n (pc' := 10) g78_9 rfl rfl ?_
       refine E_getR (pc' := 13) g78_10 f78_44 tg6_10 rfl (by first | assumption | exact pt_self (by first | assumption | exact pt_self (by first | assumption | exact pt_self (by assumption) | (rw [pt_ne (by omega)]; assumption)) | (rw [pt_ne (by omega)]; first | assumption | exact pt_self (by assumption) | (rw [pt_ne (by omega)]; assumption))) | (rw [pt_ne (by omega)]; first | assumption | exact pt_self (by first | assumption | exact pt_self (by assumption) | (rw [pt_ne (by omega)]; assumption)) | (rw [pt_ne (by omega)]; first | assumption | exact pt_self (by assumption) | (rw [pt_ne (by omega)]; assumption)))) rfl ?_
       refine E_iload_n (pc' := 14) g78_13 rfl rfl ?_
       refine E_aaload (pc' := 15) g78_14 rfl (by first | assumption | exact pt_self (by first | assumption | exact pt_self (by first | assumption | exact pt_self (by assumption) | (rw [pt_ne (by omega)]; assumption)) | (rw [pt_ne (by omega)]; first | assumption | exact pt_self (by assumption) | (rw [pt_ne (by omega)]; assumption))) | (rw [pt_ne (by omega)]; first | assumption | exact pt_self (by first | assumption | exact pt_self (by assumption) | (rw [pt_ne (by omega)]; assumption)) | (rw [pt_ne (by omega)]; first | assumption | exact pt_self (by assumption) | (rw [pt_ne (by omega)]; assumption)))) (by omega) (img_get hi.1 hi.2) ?_
       refine E_aload_n (pc' := 16) g78_15 rfl rfl ?_
       refine E_getR (pc' := 19) g78_16 f78_33 tg6_5 rfl (by first | assumption | exact pt_self (by first | assumption | exact pt_self (by first | assumption | exact pt_self (by assumption) | (rw [pt_ne (by omega)]; assumption)) | (rw [pt_ne (by omega)]; first | assumption | exact pt_self (by assumption) | (rw [pt_ne (by omega)]; assumption))) | (rw [pt_ne (by omega)]; first | assumption | exact pt_self (by first | assumption | exact pt_self (by assumption) | (rw [pt_ne (by omega)]; assumption)) | (rw [pt_ne (by omega)]; first | assumption | exact pt_self (by assumption) | (rw [pt_ne (by omega)]; assumption)))) rfl ?_
       refine E_cV1v (pc' := 22) g78_19 k78_151 na15 rfl ow15 rfl (Nat.le_of_ble_eq_true rfl) (by first | assumption | exact pt_self (by first | assumption | exact pt_self (by first | assumption | exact pt_self (by assumption) | (rw [pt_ne (by omega)]; assumption)) | (rw [pt_ne (by omega)]; first | assumption | exact pt_self (by assumption) | (rw [pt_ne (by omega)]; assumption))) | (rw [pt_ne (by omega)]; first | assumption | exact pt_self (by first | assumption | exact pt_self (by assumption) | (rw [pt_ne (by omega)]; assumption)) | (rw [pt_ne (by omega)]; first | assumption | exact pt_self (by assumption) | (rw [pt_ne (by omega)]; assumption)))) (C_become hpp hL0 (by omega)) (by decide) ?_
       refine E_aload_n (pc' := 23) g78_22 rfl rfl ?_
       refine E_getR (pc' := 26) g78_23 f78_47 tg6_11 rfl (by first | assumption | exact pt_self (by first | assumption | exact pt_self (by first | assumption | exact pt_self (by assumption) | (rw [pt_ne (by omega)]; assumption)) | (rw [pt_ne (by omega)]; first | assumption | exact pt_self (by assumption) | (rw [pt_ne (by omega)]; assumption))) | (rw [pt_ne (by omega)]; first | assumption | exact pt_self (by first | assumption | exact pt_self (by assumption) | (rw [pt_ne (by omega)]; assumption)) | (rw [pt_ne (by omega)]; first | assumption | exact pt_self (by assumption) | (rw [pt_ne (by omega)]; assumption)))) rfl ?_
       refine E_iload_n (pc' := 27) g78_26 rfl rfl ?_
       refine E_iconst (pc' := 28) g78_27 (by decide) rfl ?_
       refine E_bastore (pc' := 29) g78_28 rfl (Or.inr rfl) (by first | assumption | exact pt_self (by first | assumption | exact pt_self (by first | assumption | exact pt_self (by assumption) | (rw [pt_ne (by omega)]; assumption)) | (rw [pt_ne (by omega)]; first | assumption | exact pt_self (by assumption) | (rw [pt_ne (by omega)]; assumption))) | (rw [pt_ne (by omega)]; first | assumption | exact pt_self (by first | assumption | exact pt_self (by assumption) | (rw [pt_ne (by omega)]; assumption)) | (rw [pt_ne (by omega)]; first | assumption | exact pt_self (by assumption) | (rw [pt_ne (by omega)]; assumption)))) (by omega) (by omega) ?_
       refine E_aload_n (pc' := 30) g78_29 rfl rfl ?_
       refine E_cV0i (pc' := 33) g78_30 k78_138 na87 rfl ow87 rfl (Nat.le_of_ble_eq_true rfl) (by first | assumption | exact pt_self (by first | assumption | exact pt_self (by first | assumption | exact pt_self (by assumption) | (rw [pt_ne (by omega)]; assumption)) | (rw [pt_ne (by omega)]; first | assumption | exact pt_self (by assumption) | (rw [pt_ne (by omega)]; assumption))) | (rw [pt_ne (by omega)]; first | assumption | exact pt_self (by first | assumption | exact pt_self (by assumption) | (rw [pt_ne (by omega)]; assumption)) | (rw [pt_ne (by omega)]; first | assumption | exact pt_self (by assumption) | (rw [pt_ne (by omega)]; assumption)))) (C_openSq gR gT gL) (by decide) ?_
       exact E_iret g78_33 ro78 rfl rfl)
  · first
    | (exfalso; omega)
    | (refine E_iconst (pc' := 8) g78_7 (by decide) rfl ?_
       exact E_iret g78_8 ro78 rfl rfl)
theorem C_back_no (hR : isRoot H le ta tb pe un) (hT : isTold H ta kd wd ht rm mo sd bo ed hu sk hv) (hL : isLay H 13 bl sl) (hK : H[21]? = some (9, kp)) (hkl : kp.length = 2) {i r : Int} (hno : ¬ (0 ≤ i ∧ i < 2 ∧ ¬ ix kp i = 0)) (hr : (¬ (0 ≤ i ∧ i < 2) → r = -1) ∧ ((0 ≤ i ∧ i < 2) → r = -2)) : Call 3 79 [mR 0, mI i] H (mI r) H := by
  have hT0 := hT
  have hL0 := hL
  have hR0 : H[0]? = _ := hR
  obtain ⟨t0, t1, t2, t3, t4, ⟨r1, r2, r3, r4, r5, r6, r7, b1, b2, b3, b4, n1, n2, n3, n4⟩⟩ := hT
  obtain ⟨h0, h1, h2, l1, l2, ob, ok⟩ := hL
  have hw := wh_bd r2.1 r2.2 r3.1 r3.2
  have e1 := inI_or i 0 2
  refine Call_of rfl ?_
  refine E_iload_n (pc' := 1) g79_0 rfl rfl ?_
  refine E_cS1i (pc' := 4) g79_1 k79_226 na86 rfl rfl (Nat.le_of_ble_eq_true rfl) C_isImage (by decide) ?_
  refine E_ifne (pc' := 7) (pt := 9) g79_4 rfl rfl (fun c0 => ?_) (fun c0 => ?_)
  · first
    | (exfalso; omega)
    | (refine E_aload_n (pc' := 10) g79_9 rfl rfl ?_
       refine E_getR (pc' := 13) g79_10 f79_47 tg6_11 rfl (by assumption) rfl ?_
       refine E_iload_n (pc' := 14) g79_13 rfl rfl ?_
       refine E_baload (pc' := 15) g79_14 rfl (by assumption) (by omega) (by omega) ?_
       refine E_ifne (pc' := 18) (pt := 21) g79_15 rfl rfl (fun c1 => ?_) (fun c1 => ?_)
       · first
         | (exfalso; omega)
         | (exfalso; omega)
       · first
         | (exfalso; omega)
         | (refine E_bipush (pc' := 20) g79_18 (by decide) rfl ?_
            exact E_iret g79_20 ro79 (congrArg mI (by first | (have q := hr.1 (by omega); first | exact q | omega) | (have q := hr.2 (by omega); first | exact q | omega))) rfl))
  · first
    | (exfalso; omega)
    | (refine E_iconst (pc' := 8) g79_7 (by decide) rfl ?_
       exact E_iret g79_8 ro79 (congrArg mI (by first | (have q := hr.1 (by omega); first | exact q | omega) | (have q := hr.2 (by omega); first | exact q | omega))) rfl)
theorem C_back (hR : isRoot H le ta tb pe un) (hT : isTold H ta kd wd ht rm mo sd bo ed hu sk hv) (hL : isLay H 13 bl sl) (hI : isImg H IB IS) (hK : H[21]? = some (9, kp)) (hkl : kp.length = 2) (hta : ta = 3 ∨ ta = 8) {i : Int} (hi : 0 ≤ i ∧ i < 2) (hk : ¬ ix kp i = 0) : Call 3 79 [mR 0, mI i] H (mI (nO (IB i.toNat) (wd * ht).toNat)) (pt (pt (pt H 14 (IB i.toNat)) 15 (IS i.toNat)) 0 (rootL le ta tb pe 0)) := by
  have hT0 := hT
  have hL0 := hL
  have hR0 : H[0]? = _ := hR
  obtain ⟨t0, t1, t2, t3, t4, ⟨r1, r2, r3, r4, r5, r6, r7, b1, b2, b3, b4, n1, n2, n3, n4⟩⟩ := hT
  obtain ⟨h0, h1, h2, l1, l2, ob, ok⟩ := hL
  have hw := wh_bd r2.1 r2.2 r3.1 r3.2
  have e1 := inI_or i 0 2
  have hi20 := hI.1
  have hpp := hI.2 i.toNat (by omega)
  have hq := hpp.1
  have hL2 := lay_s (lay_b (bl2 := IB i.toNat) hL0 hpp.2.2.2.1 hpp.2.2.2.2.2.1) (sl2 := IS i.toNat) hpp.2.2.2.2.1 hpp.2.2.2.2.2.2
  have gR : isRoot (pt (pt (pt H 14 (IB i.toNat)) 15 (IS i.toNat)) 0 (rootL le ta tb pe 0)) le ta tb pe 0 := root_new (root_keep (x := 15) (fs := IS i.toNat) (root_keep (x := 14) (fs := IB i.toNat) hR (by omega)) (by omega))
  have gT := told_keep (x := 0) (fs := rootL le ta tb pe 0) (told_keep (x := 15) (fs := IS i.toNat) (told_keep (x := 14) (fs := IB i.toNat) hT0 (by omega)) (by omega)) (by omega)
  have gL := lay_keep (x := 0) (fs := rootL le ta tb pe 0) hL2 (by omega)
  refine Call_of rfl ?_
  refine E_iload_n (pc' := 1) g79_0 rfl rfl ?_
  refine E_cS1i (pc' := 4) g79_1 k79_226 na86 rfl rfl (Nat.le_of_ble_eq_true rfl) C_isImage (by decide) ?_
  refine E_ifne (pc' := 7) (pt := 9) g79_4 rfl rfl (fun c0 => ?_) (fun c0 => ?_)
  · first
    | (exfalso; omega)
    | (refine E_aload_n (pc' := 10) g79_9 rfl rfl ?_
       refine E_getR (pc' := 13) g79_10 f79_47 tg6_11 rfl (by first | assumption | exact pt_self (by first | assumption | exact pt_self (by first | assumption | exact pt_self (by assumption) | (rw [pt_ne (by omega)]; assumption)) | (rw [pt_ne (by omega)]; first | assumption | exact pt_self (by assumption) | (rw [pt_ne (by omega)]; assumption))) | (rw [pt_ne (by omega)]; first | assumption | exact pt_self (by first | assumption | exact pt_self (by assumption) | (rw [pt_ne (by omega)]; assumption)) | (rw [pt_ne (by omega)]; first | assumption | exact pt_self (by assumption) | (rw [pt_ne (by omega)]; assumption)))) rfl ?_
       refine E_iload_n (pc' := 14) g79_13 rfl rfl ?_
       refine E_baload (pc' := 15) g79_14 rfl (by first | assumption | exact pt_self (by first | assumption | exact pt_self (by first | assumption | exact pt_self (by assumption) | (rw [pt_ne (by omega)]; assumption)) | (rw [pt_ne (by omega)]; first | assumption | exact pt_self (by assumption) | (rw [pt_ne (by omega)]; assumption))) | (rw [pt_ne (by omega)]; first | assumption | exact pt_self (by first | assumption | exact pt_self (by assumption) | (rw [pt_ne (by omega)]; assumption)) | (rw [pt_ne (by omega)]; first | assumption | exact pt_self (by assumption) | (rw [pt_ne (by omega)]; assumption)))) (by omega) (by omega) ?_
       refine E_ifne (pc' := 18) (pt := 21) g79_15 rfl rfl (fun c1 => ?_) (fun c1 => ?_)
       · first
         | (exfalso; omega)
         | (refine E_aload_n (pc' := 22) g79_21 rfl rfl ?_
            refine E_getR (pc' := 25) g79_22 f79_33 tg6_5 rfl (by first | assumption | exact pt_self (by first | assumption | exact pt_self (by first | assumption | exact pt_self (by assumption) | (rw [pt_ne (by omega)]; assumption)) | (rw [pt_ne (by omega)]; first | assumption | exact pt_self (by assumption) | (rw [pt_ne (by omega)]; assumption))) | (rw [pt_ne (by omega)]; first | assumption | exact pt_self (by first | assumption | exact pt_self (by assumption) | (rw [pt_ne (by omega)]; assumption)) | (rw [pt_ne (by omega)]; first | assumption | exact pt_self (by assumption) | (rw [pt_ne (by omega)]; assumption)))) rfl ?_
            refine E_aload_n (pc' := 26) g79_25 rfl rfl ?_
            refine E_getR (pc' := 29) g79_26 f79_44 tg6_10 rfl (by first | assumption | exact pt_self (by first | assumption | exact pt_self (by first | assumption | exact pt_self (by assumption) | (rw [pt_ne (by omega)]; assumption)) | (rw [pt_ne (by omega)]; first | assumption | exact pt_self (by assumption) | (rw [pt_ne (by omega)]; assumption))) | (rw [pt_ne (by omega)]; first | assumption | exact pt_self (by first | assumption | exact pt_self (by assumption) | (rw [pt_ne (by omega)]; assumption)) | (rw [pt_ne (by omega)]; first | assumption | exact pt_self (by assumption) | (rw [pt_ne (by omega)]; assumption)))) rfl ?_
            refine E_iload_n (pc' := 30) g79_29 rfl rfl ?_
            refine E_aaload (pc' := 31) g79_30 rfl (by first | assumption | exact pt_self (by first | assumption | exact pt_self (by first | assumption | exact pt_self (by assumption) | (rw [pt_ne (by omega)]; assumption)) | (rw [pt_ne (by omega)]; first | assumption | exact pt_self (by assumption) | (rw [pt_ne (by omega)]; assumption))) | (rw [pt_ne (by omega)]; first | assumption | exact pt_self (by first | assumption | exact pt_self (by assumption) | (rw [pt_ne (by omega)]; assumption)) | (rw [pt_ne (by omega)]; first | assumption | exact pt_self (by assumption) | (rw [pt_ne (by omega)]; assumption)))) (by omega) (img_get hi.1 hi.2) ?_
            refine E_cV1v (pc' := 34) g79_31 k79_151 na15 rfl ow15 rfl (Nat.le_of_ble_eq_true rfl) (by first | assumption | exact pt_self (by first | assumption | exact pt_self (by first | assumption | exact pt_self (by assumption) | (rw [pt_ne (by omega)]; assumption)) | (rw [pt_ne (by omega)]; first | assumption | exact pt_self (by assumption) | (rw [pt_ne (by omega)]; assumption))) | (rw [pt_ne (by omega)]; first | assumption | exact pt_self (by first | assumption | exact pt_self (by assumption) | (rw [pt_ne (by omega)]; assumption)) | (rw [pt_ne (by omega)]; first | assumption | exact pt_self (by assumption) | (rw [pt_ne (by omega)]; assumption)))) (C_become hL0 hpp (by omega)) (by decide) ?_
            refine E_aload_n (pc' := 35) g79_34 rfl rfl ?_
            refine E_iconst (pc' := 36) g79_35 (by decide) rfl ?_
            refine E_putf (pc' := 39) g79_36 f79_93 tg6_9 fn6_9 rfl rfl (by first | assumption | exact pt_self (by first | assumption | exact pt_self (by first | assumption | exact pt_self (by assumption) | (rw [pt_ne (by omega)]; assumption)) | (rw [pt_ne (by omega)]; first | assumption | exact pt_self (by assumption) | (rw [pt_ne (by omega)]; assumption))) | (rw [pt_ne (by omega)]; first | assumption | exact pt_self (by first | assumption | exact pt_self (by assumption) | (rw [pt_ne (by omega)]; assumption)) | (rw [pt_ne (by omega)]; first | assumption | exact pt_self (by assumption) | (rw [pt_ne (by omega)]; assumption)))) (Nat.le_of_ble_eq_true rfl) ?_
            refine E_aload_n (pc' := 40) g79_39 rfl rfl ?_
            refine E_cV0i (pc' := 43) g79_40 k79_138 na87 rfl ow87 rfl (Nat.le_of_ble_eq_true rfl) (by first | assumption | exact pt_self (by first | assumption | exact pt_self (by first | assumption | exact pt_self (by assumption) | (rw [pt_ne (by omega)]; assumption)) | (rw [pt_ne (by omega)]; first | assumption | exact pt_self (by assumption) | (rw [pt_ne (by omega)]; assumption))) | (rw [pt_ne (by omega)]; first | assumption | exact pt_self (by first | assumption | exact pt_self (by assumption) | (rw [pt_ne (by omega)]; assumption)) | (rw [pt_ne (by omega)]; first | assumption | exact pt_self (by assumption) | (rw [pt_ne (by omega)]; assumption)))) (C_openSq gR gT gL) (by decide) ?_
            exact E_iret g79_43 ro79 rfl rfl)
       · first
         | (exfalso; omega)
         | (refine E_bipush (pc' := 20) g79_18 (by decide) rfl ?_
            exact E_iret g79_20 ro79 rfl rfl))
  · first
    | (exfalso; omega)
    | (refine E_iconst (pc' := 8) g79_7 (by decide) rfl ?_
       exact E_iret g79_8 ro79 rfl rfl)
theorem C_fits (hR : isRoot H le ta tb pe un) (hT : isTold H ta kd wd ht rm mo sd bo ed hu sk hv) (hL : isLay H 13 bl sl) {s b v r : Int} (hv : (0 ≤ s ∧ s < 6 ∧ 0 ≤ b ∧ b < 24) → why bl sl ed hu wd ht rm mo s b v)
    (hr : (¬ (0 ≤ s ∧ s < wd * ht ∧ 0 ≤ b ∧ b < kd * 4) → r = -1) ∧ ((0 ≤ s ∧ s < wd * ht ∧ 0 ≤ b ∧ b < kd * 4 ∧ ¬ ix bl s = -9) → r = -2) ∧ ((0 ≤ s ∧ s < wd * ht ∧ 0 ≤ b ∧ b < kd * 4 ∧ ix bl s = -9) → r = v)) : Call 3 66 [mR 0, mI s, mI b] H (mI r) H := by
  have hT0 := hT
  have hL0 := hL
  have hR0 : H[0]? = _ := hR
  obtain ⟨t0, t1, t2, t3, t4, ⟨r1, r2, r3, r4, r5, r6, r7, b1, b2, b3, b4, n1, n2, n3, n4⟩⟩ := hT
  obtain ⟨h0, h1, h2, l1, l2, ob, ok⟩ := hL
  have hw := wh_bd r2.1 r2.2 r3.1 r3.2
  have e1 := inI_or s 0 (wd * ht)
  have e2 := inI_or b 0 (kd * 4)
  have e3 := isO_or bl s
  refine Call_of rfl ?_
  refine E_aload_n (pc' := 1) g66_0 rfl rfl ?_
  refine E_iload_n (pc' := 2) g66_1 rfl rfl ?_
  refine E_cV1i (pc' := 5) g66_2 k66_123 na83 rfl ow83 rfl (Nat.le_of_ble_eq_true rfl) (by assumption) (C_isSquare hR hT0 hL0) (by decide) ?_
  refine E_ifeq (pc' := 8) (pt := 16) g66_5 rfl rfl (fun c0 => ?_) (fun c0 => ?_)
  · first
    | (exfalso; omega)
    | (refine E_iconst (pc' := 17) g66_16 (by decide) rfl ?_
       exact E_iret g66_17 ro66 (congrArg mI (by first | (have q := hr.1 (by omega); first | exact q | omega) | (have q := hr.2.1 (by omega); first | exact q | omega) | (have q := hr.2.2 (by omega); first | exact q | omega))) rfl)
  · first
    | (exfalso; omega)
    | (refine E_aload_n (pc' := 9) g66_8 rfl rfl ?_
       refine E_iload_n (pc' := 10) g66_9 rfl rfl ?_
       refine E_cV1i (pc' := 13) g66_10 k66_117 na82 rfl ow82 rfl (Nat.le_of_ble_eq_true rfl) (by assumption) (C_isBlock hR hT0 hL0) (by decide) ?_
       refine E_ifne (pc' := 16) (pt := 18) g66_13 rfl rfl (fun c1 => ?_) (fun c1 => ?_)
       · first
         | (exfalso; omega)
         | (refine E_aload_n (pc' := 19) g66_18 rfl rfl ?_
            refine E_getR (pc' := 22) g66_19 f66_33 tg6_5 rfl (by assumption) rfl ?_
            refine E_iload_n (pc' := 23) g66_22 rfl rfl ?_
            refine E_cV1i (pc' := 26) g66_23 k66_126 na17 rfl ow17 rfl (Nat.le_of_ble_eq_true rfl) (by assumption) (C_isOpen hL0) (by decide) ?_
            refine E_ifne (pc' := 29) (pt := 32) g66_26 rfl rfl (fun c2 => ?_) (fun c2 => ?_)
            · first
              | (exfalso; omega)
              | (refine E_aload_n (pc' := 33) g66_32 rfl rfl ?_
                 refine E_iload_n (pc' := 34) g66_33 rfl rfl ?_
                 refine E_iload_n (pc' := 35) g66_34 rfl rfl ?_
                 refine E_cV2i (pc' := 38) g66_35 k66_129 na90 rfl ow90 rfl (Nat.le_of_ble_eq_true rfl) (by assumption) (C_whyNot hR hT0 hL0 (s := s) (b := b) (r := v) (by omega) (by omega) (hv (by omega))) (by decide) ?_
                 exact E_iret g66_38 ro66 (congrArg mI (by first | (have q := hr.1 (by omega); first | exact q | omega) | (have q := hr.2.1 (by omega); first | exact q | omega) | (have q := hr.2.2 (by omega); first | exact q | omega))) rfl)
            · first
              | (exfalso; omega)
              | (refine E_bipush (pc' := 31) g66_29 (by decide) rfl ?_
                 exact E_iret g66_31 ro66 (congrArg mI (by first | (have q := hr.1 (by omega); first | exact q | omega) | (have q := hr.2.1 (by omega); first | exact q | omega) | (have q := hr.2.2 (by omega); first | exact q | omega))) rfl))
       · first
         | (exfalso; omega)
         | (refine E_iconst (pc' := 17) g66_16 (by decide) rfl ?_
            exact E_iret g66_17 ro66 (congrArg mI (by first | (have q := hr.1 (by omega); first | exact q | omega) | (have q := hr.2.1 (by omega); first | exact q | omega) | (have q := hr.2.2 (by omega); first | exact q | omega))) rfl))
/-- the i-th hue -/
def hueR (hu : List Int) (kd i r : Int) : Prop := (∀ k : Nat, (k : Int) < kd → fh hu k = true → cn (fh hu) k = i → r = ix hu k) ∧ ((∀ k : Nat, (k : Int) < kd → fh hu k = true → ¬ cn (fh hu) k = i) → r = -9)
theorem C_hue (hR : isRoot H le ta tb pe un) (hT : isTold H ta kd wd ht rm mo sd bo ed hu sk hv) (hL : isLay H 13 bl sl) {i x w r : Int} (hw0 : hueR hu kd i w)
    (hr : (¬ (0 ≤ i ∧ 0 ≤ x ∧ x ≤ 2) → r = -1) ∧ ((0 ≤ i ∧ 0 ≤ x ∧ x ≤ 2 ∧ (w < 0 ∨ x = 0)) → r = w) ∧ ((0 ≤ i ∧ x = 1 ∧ 0 ≤ w) → r = cn (fun k => decide (ix hu k = w)) kd.toNat) ∧ ((0 ≤ i ∧ x = 2 ∧ 0 ≤ w) → r = nH bl hu w 6)) : Call 2 68 [mR 0, mI i, mI x] H (mI r) H := by
  have hT0 := hT
  have hL0 := hL
  have hR0 : H[0]? = _ := hR
  obtain ⟨t0, t1, t2, t3, t4, ⟨r1, r2, r3, r4, r5, r6, r7, b1, b2, b3, b4, n1, n2, n3, n4⟩⟩ := hT
  obtain ⟨h0, h1, h2, l1, l2, ob, ok⟩ := hL
  have hw := wh_bd r2.1 r2.2 r3.1 r3.2
  refine Call_of rfl ?_
  refine E_iload_n (pc' := 1) g68_0 rfl rfl ?_
  refine E_iflt (pc' := 4) (pt := 13) g68_1 rfl rfl (fun c0 => ?_) (fun c0 => ?_)
  · first
    | (exfalso; omega)
    | (refine E_iconst (pc' := 14) g68_13 (by decide) rfl ?_
       exact E_iret g68_14 ro68 (congrArg mI (by first | (have q := hr.1 (by omega); first | exact q | omega) | (have q := hr.2.1 (by omega); first | exact q | omega) | (have q := hr.2.2.1 (by omega); first | exact q | omega) | (have q := hr.2.2.2 (by omega); first | exact q | omega))) rfl)
  · first
    | (exfalso; omega)
    | (refine E_iload_n (pc' := 5) g68_4 rfl rfl ?_
       refine E_iflt (pc' := 8) (pt := 13) g68_5 rfl rfl (fun c1 => ?_) (fun c1 => ?_)
       · first
         | (exfalso; omega)
         | (refine E_iconst (pc' := 14) g68_13 (by decide) rfl ?_
            exact E_iret g68_14 ro68 (congrArg mI (by first | (have q := hr.1 (by omega); first | exact q | omega) | (have q := hr.2.1 (by omega); first | exact q | omega) | (have q := hr.2.2.1 (by omega); first | exact q | omega) | (have q := hr.2.2.2 (by omega); first | exact q | omega))) rfl)
       · first
         | (exfalso; omega)
         | (refine E_iload_n (pc' := 9) g68_8 rfl rfl ?_
            refine E_iconst (pc' := 10) g68_9 (by decide) rfl ?_
            refine E_icle (pc' := 13) (pt := 15) g68_10 rfl rfl (fun c2 => ?_) (fun c2 => ?_)
            · first
              | (exfalso; omega)
              | (refine E_aload_n (pc' := 16) g68_15 rfl rfl ?_
                 refine E_getR (pc' := 19) g68_16 f68_23 tg6_3 rfl (by assumption) rfl ?_
                 refine E_iload_n (pc' := 20) g68_19 rfl rfl ?_
                 refine E_cV1i (pc' := 23) g68_20 k68_172 na45 rfl ow45 rfl (Nat.le_of_ble_eq_true rfl) (by assumption) (C_hueAt hT0 hw0) (by decide) ?_
                 refine E_st3 (pc' := 24) g68_23 rfl ?_
                 refine E_iload_n (pc' := 25) g68_24 rfl rfl ?_
                 refine E_iflt (pc' := 28) (pt := 32) g68_25 rfl rfl (fun c3 => ?_) (fun c3 => ?_)
                 · first
                   | (exfalso; omega)
                   | (refine E_iload_n (pc' := 33) g68_32 rfl rfl ?_
                      exact E_iret g68_33 ro68 (congrArg mI (by first | (have q := hr.1 (by omega); first | exact q | omega) | (have q := hr.2.1 (by omega); first | exact q | omega) | (have q := hr.2.2.1 (by omega); first | exact q | omega) | (have q := hr.2.2.2 (by omega); first | exact q | omega))) rfl)
                 · first
                   | (exfalso; omega)
                   | (refine E_iload_n (pc' := 29) g68_28 rfl rfl ?_
                      refine E_ifne (pc' := 32) (pt := 34) g68_29 rfl rfl (fun c4 => ?_) (fun c4 => ?_)
                      · first
                        | (exfalso; omega)
                        | (refine E_iload_n (pc' := 35) g68_34 rfl rfl ?_
                           refine E_iconst (pc' := 36) g68_35 (by decide) rfl ?_
                           refine E_icne (pc' := 39) (pt := 50) g68_36 rfl rfl (fun c5 => ?_) (fun c5 => ?_)
                           · first
                             | (exfalso; omega)
                             | (refine E_aload_n (pc' := 51) g68_50 rfl rfl ?_
                                refine E_getR (pc' := 54) g68_51 f68_33 tg6_5 rfl (by assumption) rfl ?_
                                refine E_aload_n (pc' := 55) g68_54 rfl rfl ?_
                                refine E_getR (pc' := 58) g68_55 f68_23 tg6_3 rfl (by assumption) rfl ?_
                                refine E_iload_n (pc' := 59) g68_58 rfl rfl ?_
                                refine E_cV2i (pc' := 62) g68_59 k68_178 na19 rfl ow19 rfl (Nat.le_of_ble_eq_true rfl) (by assumption) (C_sqHue hL0 hT0) (by decide) ?_
                                exact E_iret g68_62 ro68 (congrArg mI (by first | (have q := hr.1 (by omega); first | exact q | omega) | (have q := hr.2.1 (by omega); first | exact q | omega) | (have q := hr.2.2.1 (by omega); first | exact q | omega) | (have q := hr.2.2.2 (by omega); first | exact q | omega))) rfl)
                           · first
                             | (exfalso; omega)
                             | (refine E_aload_n (pc' := 40) g68_39 rfl rfl ?_
                                refine E_getR (pc' := 43) g68_40 f68_23 tg6_3 rfl (by assumption) rfl ?_
                                refine E_iload_n (pc' := 44) g68_43 rfl rfl ?_
                                refine E_cV1i (pc' := 47) g68_44 k68_175 na46 rfl ow46 rfl (Nat.le_of_ble_eq_true rfl) (by assumption) (C_kindsOfHue hT0) (by decide) ?_
                                refine E_goto (pc' := 62) g68_47 rfl ?_
                                exact E_iret g68_62 ro68 (congrArg mI (by first | (have q := hr.1 (by omega); first | exact q | omega) | (have q := hr.2.1 (by omega); first | exact q | omega) | (have q := hr.2.2.1 (by omega); first | exact q | omega) | (have q := hr.2.2.2 (by omega); first | exact q | omega))) rfl))
                      · first
                        | (exfalso; omega)
                        | (refine E_iload_n (pc' := 33) g68_32 rfl rfl ?_
                           exact E_iret g68_33 ro68 (congrArg mI (by first | (have q := hr.1 (by omega); first | exact q | omega) | (have q := hr.2.1 (by omega); first | exact q | omega) | (have q := hr.2.2.1 (by omega); first | exact q | omega) | (have q := hr.2.2.2 (by omega); first | exact q | omega))) rfl)))
            · first
              | (exfalso; omega)
              | (refine E_iconst (pc' := 14) g68_13 (by decide) rfl ?_
                 exact E_iret g68_14 ro68 (congrArg mI (by first | (have q := hr.1 (by omega); first | exact q | omega) | (have q := hr.2.1 (by omega); first | exact q | omega) | (have q := hr.2.2.1 (by omega); first | exact q | omega) | (have q := hr.2.2.2 (by omega); first | exact q | omega))) rfl)))
theorem C_count (hR : isRoot H le ta tb pe un) (hT : isTold H ta kd wd ht rm mo sd bo ed hu sk hv) (hL : isLay H 13 bl sl) {x r : Int} (hr : (x = 0 → r = kd) ∧ (x = 1 → r = wd) ∧ (x = 2 → r = ht) ∧ (x = 3 → r = rm) ∧ (x = 4 → r = mo) ∧ (x = 5 → r = sd) ∧ (x = 6 → r = bo) ∧ (x = 7 → r = nO bl (wd * ht).toNat) ∧ (x = 8 → r = le) ∧ (x = 9 → r = un) ∧ (x = 10 → r = cn (fh hu) kd.toNat) ∧ (¬ (0 ≤ x ∧ x ≤ 10) → r = -1)) : Call 3 80 [mR 0, mI x] H (mI r) H := by
  have hT0 := hT
  have hL0 := hL
  have hR0 : H[0]? = _ := hR
  obtain ⟨t0, t1, t2, t3, t4, ⟨r1, r2, r3, r4, r5, r6, r7, b1, b2, b3, b4, n1, n2, n3, n4⟩⟩ := hT
  obtain ⟨h0, h1, h2, l1, l2, ob, ok⟩ := hL
  have hw := wh_bd r2.1 r2.2 r3.1 r3.2
  refine Call_of rfl ?_
  refine E_iload_n (pc' := 1) g80_0 rfl rfl ?_
  by_cases e0 : x = 0
  · refine E_table (pt := 60) g80_1 (by rw [e0]; rfl) ?_
    refine E_aload_n (pc' := 61) g80_60 rfl rfl ?_
    refine E_getR (pc' := 64) g80_61 f80_23 tg6_3 rfl (by assumption) rfl ?_
    refine E_getI (pc' := 67) g80_64 f80_229 tg4_0 (by decide) rfl (by assumption) rfl ?_
    exact E_iret g80_67 ro80 (congrArg mI (by first | (have q := hr.1 (by omega); first | exact q | omega) | (have q := hr.2.1 (by omega); first | exact q | omega) | (have q := hr.2.2.1 (by omega); first | exact q | omega) | (have q := hr.2.2.2.1 (by omega); first | exact q | omega) | (have q := hr.2.2.2.2.1 (by omega); first | exact q | omega) | (have q := hr.2.2.2.2.2.1 (by omega); first | exact q | omega) | (have q := hr.2.2.2.2.2.2.1 (by omega); first | exact q | omega) | (have q := hr.2.2.2.2.2.2.2.1 (by omega); first | exact q | omega) | (have q := hr.2.2.2.2.2.2.2.2.1 (by omega); first | exact q | omega) | (have q := hr.2.2.2.2.2.2.2.2.2.1 (by omega); first | exact q | omega) | (have q := hr.2.2.2.2.2.2.2.2.2.2.1 (by omega); first | exact q | omega) | (have q := hr.2.2.2.2.2.2.2.2.2.2.2 (by omega); first | exact q | omega))) rfl
  by_cases e1 : x = 1
  · refine E_table (pt := 68) g80_1 (by rw [e1]; rfl) ?_
    refine E_aload_n (pc' := 69) g80_68 rfl rfl ?_
    refine E_getR (pc' := 72) g80_69 f80_23 tg6_3 rfl (by assumption) rfl ?_
    refine E_getI (pc' := 75) g80_72 f80_232 tg4_1 (by decide) rfl (by assumption) rfl ?_
    exact E_iret g80_75 ro80 (congrArg mI (by first | (have q := hr.1 (by omega); first | exact q | omega) | (have q := hr.2.1 (by omega); first | exact q | omega) | (have q := hr.2.2.1 (by omega); first | exact q | omega) | (have q := hr.2.2.2.1 (by omega); first | exact q | omega) | (have q := hr.2.2.2.2.1 (by omega); first | exact q | omega) | (have q := hr.2.2.2.2.2.1 (by omega); first | exact q | omega) | (have q := hr.2.2.2.2.2.2.1 (by omega); first | exact q | omega) | (have q := hr.2.2.2.2.2.2.2.1 (by omega); first | exact q | omega) | (have q := hr.2.2.2.2.2.2.2.2.1 (by omega); first | exact q | omega) | (have q := hr.2.2.2.2.2.2.2.2.2.1 (by omega); first | exact q | omega) | (have q := hr.2.2.2.2.2.2.2.2.2.2.1 (by omega); first | exact q | omega) | (have q := hr.2.2.2.2.2.2.2.2.2.2.2 (by omega); first | exact q | omega))) rfl
  by_cases e2 : x = 2
  · refine E_table (pt := 76) g80_1 (by rw [e2]; rfl) ?_
    refine E_aload_n (pc' := 77) g80_76 rfl rfl ?_
    refine E_getR (pc' := 80) g80_77 f80_23 tg6_3 rfl (by assumption) rfl ?_
    refine E_getI (pc' := 83) g80_80 f80_235 tg4_2 (by decide) rfl (by assumption) rfl ?_
    exact E_iret g80_83 ro80 (congrArg mI (by first | (have q := hr.1 (by omega); first | exact q | omega) | (have q := hr.2.1 (by omega); first | exact q | omega) | (have q := hr.2.2.1 (by omega); first | exact q | omega) | (have q := hr.2.2.2.1 (by omega); first | exact q | omega) | (have q := hr.2.2.2.2.1 (by omega); first | exact q | omega) | (have q := hr.2.2.2.2.2.1 (by omega); first | exact q | omega) | (have q := hr.2.2.2.2.2.2.1 (by omega); first | exact q | omega) | (have q := hr.2.2.2.2.2.2.2.1 (by omega); first | exact q | omega) | (have q := hr.2.2.2.2.2.2.2.2.1 (by omega); first | exact q | omega) | (have q := hr.2.2.2.2.2.2.2.2.2.1 (by omega); first | exact q | omega) | (have q := hr.2.2.2.2.2.2.2.2.2.2.1 (by omega); first | exact q | omega) | (have q := hr.2.2.2.2.2.2.2.2.2.2.2 (by omega); first | exact q | omega))) rfl
  by_cases e3 : x = 3
  · refine E_table (pt := 84) g80_1 (by rw [e3]; rfl) ?_
    refine E_aload_n (pc' := 85) g80_84 rfl rfl ?_
    refine E_getR (pc' := 88) g80_85 f80_23 tg6_3 rfl (by assumption) rfl ?_
    refine E_getI (pc' := 91) g80_88 f80_238 tg4_3 (by decide) rfl (by assumption) rfl ?_
    exact E_iret g80_91 ro80 (congrArg mI (by first | (have q := hr.1 (by omega); first | exact q | omega) | (have q := hr.2.1 (by omega); first | exact q | omega) | (have q := hr.2.2.1 (by omega); first | exact q | omega) | (have q := hr.2.2.2.1 (by omega); first | exact q | omega) | (have q := hr.2.2.2.2.1 (by omega); first | exact q | omega) | (have q := hr.2.2.2.2.2.1 (by omega); first | exact q | omega) | (have q := hr.2.2.2.2.2.2.1 (by omega); first | exact q | omega) | (have q := hr.2.2.2.2.2.2.2.1 (by omega); first | exact q | omega) | (have q := hr.2.2.2.2.2.2.2.2.1 (by omega); first | exact q | omega) | (have q := hr.2.2.2.2.2.2.2.2.2.1 (by omega); first | exact q | omega) | (have q := hr.2.2.2.2.2.2.2.2.2.2.1 (by omega); first | exact q | omega) | (have q := hr.2.2.2.2.2.2.2.2.2.2.2 (by omega); first | exact q | omega))) rfl
  by_cases e4 : x = 4
  · refine E_table (pt := 92) g80_1 (by rw [e4]; rfl) ?_
    refine E_aload_n (pc' := 93) g80_92 rfl rfl ?_
    refine E_getR (pc' := 96) g80_93 f80_23 tg6_3 rfl (by assumption) rfl ?_
    refine E_getI (pc' := 99) g80_96 f80_241 tg4_4 (by decide) rfl (by assumption) rfl ?_
    exact E_iret g80_99 ro80 (congrArg mI (by first | (have q := hr.1 (by omega); first | exact q | omega) | (have q := hr.2.1 (by omega); first | exact q | omega) | (have q := hr.2.2.1 (by omega); first | exact q | omega) | (have q := hr.2.2.2.1 (by omega); first | exact q | omega) | (have q := hr.2.2.2.2.1 (by omega); first | exact q | omega) | (have q := hr.2.2.2.2.2.1 (by omega); first | exact q | omega) | (have q := hr.2.2.2.2.2.2.1 (by omega); first | exact q | omega) | (have q := hr.2.2.2.2.2.2.2.1 (by omega); first | exact q | omega) | (have q := hr.2.2.2.2.2.2.2.2.1 (by omega); first | exact q | omega) | (have q := hr.2.2.2.2.2.2.2.2.2.1 (by omega); first | exact q | omega) | (have q := hr.2.2.2.2.2.2.2.2.2.2.1 (by omega); first | exact q | omega) | (have q := hr.2.2.2.2.2.2.2.2.2.2.2 (by omega); first | exact q | omega))) rfl
  by_cases e5 : x = 5
  · refine E_table (pt := 100) g80_1 (by rw [e5]; rfl) ?_
    refine E_aload_n (pc' := 101) g80_100 rfl rfl ?_
    refine E_getR (pc' := 104) g80_101 f80_23 tg6_3 rfl (by assumption) rfl ?_
    refine E_getI (pc' := 107) g80_104 f80_244 tg4_5 (by decide) rfl (by assumption) rfl ?_
    exact E_iret g80_107 ro80 (congrArg mI (by first | (have q := hr.1 (by omega); first | exact q | omega) | (have q := hr.2.1 (by omega); first | exact q | omega) | (have q := hr.2.2.1 (by omega); first | exact q | omega) | (have q := hr.2.2.2.1 (by omega); first | exact q | omega) | (have q := hr.2.2.2.2.1 (by omega); first | exact q | omega) | (have q := hr.2.2.2.2.2.1 (by omega); first | exact q | omega) | (have q := hr.2.2.2.2.2.2.1 (by omega); first | exact q | omega) | (have q := hr.2.2.2.2.2.2.2.1 (by omega); first | exact q | omega) | (have q := hr.2.2.2.2.2.2.2.2.1 (by omega); first | exact q | omega) | (have q := hr.2.2.2.2.2.2.2.2.2.1 (by omega); first | exact q | omega) | (have q := hr.2.2.2.2.2.2.2.2.2.2.1 (by omega); first | exact q | omega) | (have q := hr.2.2.2.2.2.2.2.2.2.2.2 (by omega); first | exact q | omega))) rfl
  by_cases e6 : x = 6
  · refine E_table (pt := 108) g80_1 (by rw [e6]; rfl) ?_
    refine E_aload_n (pc' := 109) g80_108 rfl rfl ?_
    refine E_getR (pc' := 112) g80_109 f80_23 tg6_3 rfl (by assumption) rfl ?_
    refine E_getI (pc' := 115) g80_112 f80_247 tg4_6 (by decide) rfl (by assumption) rfl ?_
    exact E_iret g80_115 ro80 (congrArg mI (by first | (have q := hr.1 (by omega); first | exact q | omega) | (have q := hr.2.1 (by omega); first | exact q | omega) | (have q := hr.2.2.1 (by omega); first | exact q | omega) | (have q := hr.2.2.2.1 (by omega); first | exact q | omega) | (have q := hr.2.2.2.2.1 (by omega); first | exact q | omega) | (have q := hr.2.2.2.2.2.1 (by omega); first | exact q | omega) | (have q := hr.2.2.2.2.2.2.1 (by omega); first | exact q | omega) | (have q := hr.2.2.2.2.2.2.2.1 (by omega); first | exact q | omega) | (have q := hr.2.2.2.2.2.2.2.2.1 (by omega); first | exact q | omega) | (have q := hr.2.2.2.2.2.2.2.2.2.1 (by omega); first | exact q | omega) | (have q := hr.2.2.2.2.2.2.2.2.2.2.1 (by omega); first | exact q | omega) | (have q := hr.2.2.2.2.2.2.2.2.2.2.2 (by omega); first | exact q | omega))) rfl
  by_cases e7 : x = 7
  · refine E_table (pt := 116) g80_1 (by rw [e7]; rfl) ?_
    refine E_aload_n (pc' := 117) g80_116 rfl rfl ?_
    refine E_cV0i (pc' := 120) g80_117 k80_138 na87 rfl ow87 rfl (Nat.le_of_ble_eq_true rfl) (by assumption) (C_openSq hR hT0 hL0) (by decide) ?_
    exact E_iret g80_120 ro80 (congrArg mI (by first | (have q := hr.1 (by omega); first | exact q | omega) | (have q := hr.2.1 (by omega); first | exact q | omega) | (have q := hr.2.2.1 (by omega); first | exact q | omega) | (have q := hr.2.2.2.1 (by omega); first | exact q | omega) | (have q := hr.2.2.2.2.1 (by omega); first | exact q | omega) | (have q := hr.2.2.2.2.2.1 (by omega); first | exact q | omega) | (have q := hr.2.2.2.2.2.2.1 (by omega); first | exact q | omega) | (have q := hr.2.2.2.2.2.2.2.1 (by omega); first | exact q | omega) | (have q := hr.2.2.2.2.2.2.2.2.1 (by omega); first | exact q | omega) | (have q := hr.2.2.2.2.2.2.2.2.2.1 (by omega); first | exact q | omega) | (have q := hr.2.2.2.2.2.2.2.2.2.2.1 (by omega); first | exact q | omega) | (have q := hr.2.2.2.2.2.2.2.2.2.2.2 (by omega); first | exact q | omega))) rfl
  by_cases e8 : x = 8
  · refine E_table (pt := 121) g80_1 (by rw [e8]; rfl) ?_
    refine E_aload_n (pc' := 122) g80_121 rfl rfl ?_
    refine E_getI (pc' := 125) g80_122 f80_79 tg6_1 (by decide) rfl (by assumption) rfl ?_
    exact E_iret g80_125 ro80 (congrArg mI (by first | (have q := hr.1 (by omega); first | exact q | omega) | (have q := hr.2.1 (by omega); first | exact q | omega) | (have q := hr.2.2.1 (by omega); first | exact q | omega) | (have q := hr.2.2.2.1 (by omega); first | exact q | omega) | (have q := hr.2.2.2.2.1 (by omega); first | exact q | omega) | (have q := hr.2.2.2.2.2.1 (by omega); first | exact q | omega) | (have q := hr.2.2.2.2.2.2.1 (by omega); first | exact q | omega) | (have q := hr.2.2.2.2.2.2.2.1 (by omega); first | exact q | omega) | (have q := hr.2.2.2.2.2.2.2.2.1 (by omega); first | exact q | omega) | (have q := hr.2.2.2.2.2.2.2.2.2.1 (by omega); first | exact q | omega) | (have q := hr.2.2.2.2.2.2.2.2.2.2.1 (by omega); first | exact q | omega) | (have q := hr.2.2.2.2.2.2.2.2.2.2.2 (by omega); first | exact q | omega))) rfl
  by_cases e9 : x = 9
  · refine E_table (pt := 126) g80_1 (by rw [e9]; rfl) ?_
    refine E_aload_n (pc' := 127) g80_126 rfl rfl ?_
    refine E_getI (pc' := 130) g80_127 f80_93 tg6_9 (by decide) rfl (by assumption) rfl ?_
    exact E_iret g80_130 ro80 (congrArg mI (by first | (have q := hr.1 (by omega); first | exact q | omega) | (have q := hr.2.1 (by omega); first | exact q | omega) | (have q := hr.2.2.1 (by omega); first | exact q | omega) | (have q := hr.2.2.2.1 (by omega); first | exact q | omega) | (have q := hr.2.2.2.2.1 (by omega); first | exact q | omega) | (have q := hr.2.2.2.2.2.1 (by omega); first | exact q | omega) | (have q := hr.2.2.2.2.2.2.1 (by omega); first | exact q | omega) | (have q := hr.2.2.2.2.2.2.2.1 (by omega); first | exact q | omega) | (have q := hr.2.2.2.2.2.2.2.2.1 (by omega); first | exact q | omega) | (have q := hr.2.2.2.2.2.2.2.2.2.1 (by omega); first | exact q | omega) | (have q := hr.2.2.2.2.2.2.2.2.2.2.1 (by omega); first | exact q | omega) | (have q := hr.2.2.2.2.2.2.2.2.2.2.2 (by omega); first | exact q | omega))) rfl
  by_cases e10 : x = 10
  · refine E_table (pt := 131) g80_1 (by rw [e10]; rfl) ?_
    refine E_aload_n (pc' := 132) g80_131 rfl rfl ?_
    refine E_getR (pc' := 135) g80_132 f80_23 tg6_3 rfl (by assumption) rfl ?_
    refine E_cV0i (pc' := 138) g80_135 k80_250 na44 rfl ow44 rfl (Nat.le_of_ble_eq_true rfl) (by assumption) (C_hueCount hT0) (by decide) ?_
    exact E_iret g80_138 ro80 (congrArg mI (by first | (have q := hr.1 (by omega); first | exact q | omega) | (have q := hr.2.1 (by omega); first | exact q | omega) | (have q := hr.2.2.1 (by omega); first | exact q | omega) | (have q := hr.2.2.2.1 (by omega); first | exact q | omega) | (have q := hr.2.2.2.2.1 (by omega); first | exact q | omega) | (have q := hr.2.2.2.2.2.1 (by omega); first | exact q | omega) | (have q := hr.2.2.2.2.2.2.1 (by omega); first | exact q | omega) | (have q := hr.2.2.2.2.2.2.2.1 (by omega); first | exact q | omega) | (have q := hr.2.2.2.2.2.2.2.2.1 (by omega); first | exact q | omega) | (have q := hr.2.2.2.2.2.2.2.2.2.1 (by omega); first | exact q | omega) | (have q := hr.2.2.2.2.2.2.2.2.2.2.1 (by omega); first | exact q | omega) | (have q := hr.2.2.2.2.2.2.2.2.2.2.2 (by omega); first | exact q | omega))) rfl
  refine E_table (pt := 139) g80_1 (by rw [if_pos (by omega)]; rfl) ?_
  refine E_iconst (pc' := 140) g80_139 (by decide) rfl ?_
  exact E_iret g80_140 ro80 (congrArg mI (by first | (have q := hr.1 (by omega); first | exact q | omega) | (have q := hr.2.1 (by omega); first | exact q | omega) | (have q := hr.2.2.1 (by omega); first | exact q | omega) | (have q := hr.2.2.2.1 (by omega); first | exact q | omega) | (have q := hr.2.2.2.2.1 (by omega); first | exact q | omega) | (have q := hr.2.2.2.2.2.1 (by omega); first | exact q | omega) | (have q := hr.2.2.2.2.2.2.1 (by omega); first | exact q | omega) | (have q := hr.2.2.2.2.2.2.2.1 (by omega); first | exact q | omega) | (have q := hr.2.2.2.2.2.2.2.2.1 (by omega); first | exact q | omega) | (have q := hr.2.2.2.2.2.2.2.2.2.1 (by omega); first | exact q | omega) | (have q := hr.2.2.2.2.2.2.2.2.2.2.1 (by omega); first | exact q | omega) | (have q := hr.2.2.2.2.2.2.2.2.2.2.2 (by omega); first | exact q | omega))) rfl
theorem pt_swap {H : mH} {a b : Nat} {f g : List Int} (h : a ≠ b) : pt (pt H a f) b g = pt (pt H b g) a f := by
  apply List.ext_getElem?
  intro j
  simp only [pt, List.getElem?_modify]
  by_cases e1 : a = j
  · subst e1
    have : ¬ b = a := fun q => h q.symm
    simp [this]
  · by_cases e2 : b = j
    · subst e2; simp [e1]
    · simp [e1, e2]
/-- the pieces' sides -/
def clL (kn : Int) : List Int := [((32 : Nat) : Int), ((33 : Nat) : Int), ((34 : Nat) : Int), ((35 : Nat) : Int), ((36 : Nat) : Int), kn]
def isClo (H : mH) (kn : Int) (ls gr us cu gv : List Int) : Prop := H[31]? = some (0, clL kn) ∧ H[32]? = some (8, ls) ∧ H[33]? = some (8, gr) ∧ H[34]? = some (8, us) ∧ H[35]? = some (8, cu) ∧ H[36]? = some (8, gv) ∧ ls.length = 3 ∧ gr.length = 3 ∧ us.length = 625 ∧ cu.length = 625 ∧ gv.length = 1875
theorem prod_bd {a b : Int} (h1 : 1 ≤ a) (h2 : a ≤ 3) (h3 : 1 ≤ b) (h4 : b ≤ 9) : 1 ≤ a * b ∧ a * b ≤ 27 := by
  have : a = 1 ∨ a = 2 ∨ a = 3 := by omega
  rcases this with rfl | rfl | rfl <;> omega
theorem C_measure (hT : isTold H ta kd wd ht rm mo sd bo ed hu sk hv) (hta : ta = 3 ∨ ta = 8) {kn : Int} {ls gr us cu gv : List Int} (hC : isClo H kn ls gr us cu gv) : Call 0 2 [mR 31, mR ta] H none (pt (pt (pt H 32 [sd, bo, bo]) 33 [sd, wd * sd + 2 * bo, ht * sd + 2 * bo]) 31 (clL 0)) := by
  obtain ⟨c0, c1, c2, c3, c4, c5, m1, m2, m3, m4, m5⟩ := hC
  obtain ⟨t0, t1, t2, t3, t4, ⟨r1, r2, r3, r4, r5, r6, r7, b1, b2, b3, b4, n1, n2, n3, n4⟩⟩ := hT
  have p1 := prod_bd r2.1 r2.2 r6.1 r6.2
  have p2 := prod_bd (a := ht) (b := sd) r3.1 (by omega) r6.1 r6.2
  obtain ⟨x0, x1, x2, rfl⟩ : ∃ x0 x1 x2, ls = [x0, x1, x2] := by
    match ls, m1 with
    | [x0, x1, x2], _ => exact ⟨x0, x1, x2, rfl⟩
  obtain ⟨y0, y1, y2, rfl⟩ : ∃ y0 y1 y2, gr = [y0, y1, y2] := by
    match gr, m2 with
    | [y0, y1, y2], _ => exact ⟨y0, y1, y2, rfl⟩
  refine Call_of rfl ?_
  refine E_aload_n (pc' := 1) g2_0 rfl rfl ?_
  refine E_getR (pc' := 4) g2_1 f2_9 tg0_0 rfl (by first | assumption | exact pt_self (by first | assumption | exact pt_self (by first | assumption | exact pt_self (by assumption) | (rw [pt_ne (by omega)]; assumption)) | (rw [pt_ne (by omega)]; first | assumption | exact pt_self (by assumption) | (rw [pt_ne (by omega)]; assumption))) | (rw [pt_ne (by omega)]; first | assumption | exact pt_self (by first | assumption | exact pt_self (by assumption) | (rw [pt_ne (by omega)]; assumption)) | (rw [pt_ne (by omega)]; first | assumption | exact pt_self (by assumption) | (rw [pt_ne (by omega)]; assumption)))) rfl ?_
  refine E_iconst (pc' := 5) g2_4 (by decide) rfl ?_
  refine E_aload_n (pc' := 6) g2_5 rfl rfl ?_
  refine E_getI (pc' := 9) g2_6 f2_27 tg4_5 (by decide) rfl (by first | assumption | exact pt_self (by first | assumption | exact pt_self (by first | assumption | exact pt_self (by assumption) | (rw [pt_ne (by omega)]; assumption)) | (rw [pt_ne (by omega)]; first | assumption | exact pt_self (by assumption) | (rw [pt_ne (by omega)]; assumption))) | (rw [pt_ne (by omega)]; first | assumption | exact pt_self (by first | assumption | exact pt_self (by assumption) | (rw [pt_ne (by omega)]; assumption)) | (rw [pt_ne (by omega)]; first | assumption | exact pt_self (by assumption) | (rw [pt_ne (by omega)]; assumption)))) rfl ?_
  refine E_iastore (pc' := 10) g2_9 rfl (by first | assumption | exact pt_self (by first | assumption | exact pt_self (by first | assumption | exact pt_self (by assumption) | (rw [pt_ne (by omega)]; assumption)) | (rw [pt_ne (by omega)]; first | assumption | exact pt_self (by assumption) | (rw [pt_ne (by omega)]; assumption))) | (rw [pt_ne (by omega)]; first | assumption | exact pt_self (by first | assumption | exact pt_self (by assumption) | (rw [pt_ne (by omega)]; assumption)) | (rw [pt_ne (by omega)]; first | assumption | exact pt_self (by assumption) | (rw [pt_ne (by omega)]; assumption)))) (by simp) (by simp) ?_
  refine Ev_cast (H := pt H 32 [sd, x1, x2]) ?_ rfl rfl
  refine E_aload_n (pc' := 11) g2_10 rfl rfl ?_
  refine E_getR (pc' := 14) g2_11 f2_15 tg0_1 rfl (by first | assumption | exact pt_self (by first | assumption | exact pt_self (by first | assumption | exact pt_self (by assumption) | (rw [pt_ne (by omega)]; assumption)) | (rw [pt_ne (by omega)]; first | assumption | exact pt_self (by assumption) | (rw [pt_ne (by omega)]; assumption))) | (rw [pt_ne (by omega)]; first | assumption | exact pt_self (by first | assumption | exact pt_self (by assumption) | (rw [pt_ne (by omega)]; assumption)) | (rw [pt_ne (by omega)]; first | assumption | exact pt_self (by assumption) | (rw [pt_ne (by omega)]; assumption)))) rfl ?_
  refine E_iconst (pc' := 15) g2_14 (by decide) rfl ?_
  refine E_aload_n (pc' := 16) g2_15 rfl rfl ?_
  refine E_getI (pc' := 19) g2_16 f2_27 tg4_5 (by decide) rfl (by first | assumption | exact pt_self (by first | assumption | exact pt_self (by first | assumption | exact pt_self (by assumption) | (rw [pt_ne (by omega)]; assumption)) | (rw [pt_ne (by omega)]; first | assumption | exact pt_self (by assumption) | (rw [pt_ne (by omega)]; assumption))) | (rw [pt_ne (by omega)]; first | assumption | exact pt_self (by first | assumption | exact pt_self (by assumption) | (rw [pt_ne (by omega)]; assumption)) | (rw [pt_ne (by omega)]; first | assumption | exact pt_self (by assumption) | (rw [pt_ne (by omega)]; assumption)))) rfl ?_
  refine E_iastore (pc' := 20) g2_19 rfl (by first | assumption | exact pt_self (by first | assumption | exact pt_self (by first | assumption | exact pt_self (by assumption) | (rw [pt_ne (by omega)]; assumption)) | (rw [pt_ne (by omega)]; first | assumption | exact pt_self (by assumption) | (rw [pt_ne (by omega)]; assumption))) | (rw [pt_ne (by omega)]; first | assumption | exact pt_self (by first | assumption | exact pt_self (by assumption) | (rw [pt_ne (by omega)]; assumption)) | (rw [pt_ne (by omega)]; first | assumption | exact pt_self (by assumption) | (rw [pt_ne (by omega)]; assumption)))) (by simp) (by simp) ?_
  refine Ev_cast (H := pt (pt H 32 [sd, x1, x2]) 33 [sd, y1, y2]) ?_ rfl rfl
  refine E_aload_n (pc' := 21) g2_20 rfl rfl ?_
  refine E_getR (pc' := 24) g2_21 f2_9 tg0_0 rfl (by first | assumption | exact pt_self (by first | assumption | exact pt_self (by first | assumption | exact pt_self (by assumption) | (rw [pt_ne (by omega)]; assumption)) | (rw [pt_ne (by omega)]; first | assumption | exact pt_self (by assumption) | (rw [pt_ne (by omega)]; assumption))) | (rw [pt_ne (by omega)]; first | assumption | exact pt_self (by first | assumption | exact pt_self (by assumption) | (rw [pt_ne (by omega)]; assumption)) | (rw [pt_ne (by omega)]; first | assumption | exact pt_self (by assumption) | (rw [pt_ne (by omega)]; assumption)))) rfl ?_
  refine E_iconst (pc' := 25) g2_24 (by decide) rfl ?_
  refine E_aload_n (pc' := 26) g2_25 rfl rfl ?_
  refine E_getI (pc' := 29) g2_26 f2_33 tg4_6 (by decide) rfl (by first | assumption | exact pt_self (by first | assumption | exact pt_self (by first | assumption | exact pt_self (by assumption) | (rw [pt_ne (by omega)]; assumption)) | (rw [pt_ne (by omega)]; first | assumption | exact pt_self (by assumption) | (rw [pt_ne (by omega)]; assumption))) | (rw [pt_ne (by omega)]; first | assumption | exact pt_self (by first | assumption | exact pt_self (by assumption) | (rw [pt_ne (by omega)]; assumption)) | (rw [pt_ne (by omega)]; first | assumption | exact pt_self (by assumption) | (rw [pt_ne (by omega)]; assumption)))) rfl ?_
  refine E_iastore (pc' := 30) g2_29 rfl (by first | assumption | exact pt_self (by first | assumption | exact pt_self (by first | assumption | exact pt_self (by assumption) | (rw [pt_ne (by omega)]; assumption)) | (rw [pt_ne (by omega)]; first | assumption | exact pt_self (by assumption) | (rw [pt_ne (by omega)]; assumption))) | (rw [pt_ne (by omega)]; first | assumption | exact pt_self (by first | assumption | exact pt_self (by assumption) | (rw [pt_ne (by omega)]; assumption)) | (rw [pt_ne (by omega)]; first | assumption | exact pt_self (by assumption) | (rw [pt_ne (by omega)]; assumption)))) (by simp) (by simp) ?_
  refine Ev_cast (H := pt (pt H 32 [sd, bo, x2]) 33 [sd, y1, y2]) ?_ rfl (by rw [pt_swap (by decide), pt_pt]; rfl)
  refine E_aload_n (pc' := 31) g2_30 rfl rfl ?_
  refine E_getR (pc' := 34) g2_31 f2_15 tg0_1 rfl (by first | assumption | exact pt_self (by first | assumption | exact pt_self (by first | assumption | exact pt_self (by assumption) | (rw [pt_ne (by omega)]; assumption)) | (rw [pt_ne (by omega)]; first | assumption | exact pt_self (by assumption) | (rw [pt_ne (by omega)]; assumption))) | (rw [pt_ne (by omega)]; first | assumption | exact pt_self (by first | assumption | exact pt_self (by assumption) | (rw [pt_ne (by omega)]; assumption)) | (rw [pt_ne (by omega)]; first | assumption | exact pt_self (by assumption) | (rw [pt_ne (by omega)]; assumption)))) rfl ?_
  refine E_iconst (pc' := 35) g2_34 (by decide) rfl ?_
  refine E_aload_n (pc' := 36) g2_35 rfl rfl ?_
  refine E_getI (pc' := 39) g2_36 f2_36 tg4_1 (by decide) rfl (by first | assumption | exact pt_self (by first | assumption | exact pt_self (by first | assumption | exact pt_self (by assumption) | (rw [pt_ne (by omega)]; assumption)) | (rw [pt_ne (by omega)]; first | assumption | exact pt_self (by assumption) | (rw [pt_ne (by omega)]; assumption))) | (rw [pt_ne (by omega)]; first | assumption | exact pt_self (by first | assumption | exact pt_self (by assumption) | (rw [pt_ne (by omega)]; assumption)) | (rw [pt_ne (by omega)]; first | assumption | exact pt_self (by assumption) | (rw [pt_ne (by omega)]; assumption)))) rfl ?_
  refine E_aload_n (pc' := 40) g2_39 rfl rfl ?_
  refine E_getI (pc' := 43) g2_40 f2_27 tg4_5 (by decide) rfl (by first | assumption | exact pt_self (by first | assumption | exact pt_self (by first | assumption | exact pt_self (by assumption) | (rw [pt_ne (by omega)]; assumption)) | (rw [pt_ne (by omega)]; first | assumption | exact pt_self (by assumption) | (rw [pt_ne (by omega)]; assumption))) | (rw [pt_ne (by omega)]; first | assumption | exact pt_self (by first | assumption | exact pt_self (by assumption) | (rw [pt_ne (by omega)]; assumption)) | (rw [pt_ne (by omega)]; first | assumption | exact pt_self (by assumption) | (rw [pt_ne (by omega)]; assumption)))) rfl ?_
  refine E_imul (pc' := 44) g2_43 (m_in_iff.mpr (by omega)) rfl ?_
  refine E_iconst (pc' := 45) g2_44 (by decide) rfl ?_
  refine E_aload_n (pc' := 46) g2_45 rfl rfl ?_
  refine E_getI (pc' := 49) g2_46 f2_33 tg4_6 (by decide) rfl (by first | assumption | exact pt_self (by first | assumption | exact pt_self (by first | assumption | exact pt_self (by assumption) | (rw [pt_ne (by omega)]; assumption)) | (rw [pt_ne (by omega)]; first | assumption | exact pt_self (by assumption) | (rw [pt_ne (by omega)]; assumption))) | (rw [pt_ne (by omega)]; first | assumption | exact pt_self (by first | assumption | exact pt_self (by assumption) | (rw [pt_ne (by omega)]; assumption)) | (rw [pt_ne (by omega)]; first | assumption | exact pt_self (by assumption) | (rw [pt_ne (by omega)]; assumption)))) rfl ?_
  refine E_imul (pc' := 50) g2_49 (m_in_iff.mpr (by omega)) rfl ?_
  refine E_iadd (pc' := 51) g2_50 (m_in_iff.mpr (by omega)) rfl ?_
  refine E_iastore (pc' := 52) g2_51 rfl (by first | assumption | exact pt_self (by first | assumption | exact pt_self (by first | assumption | exact pt_self (by assumption) | (rw [pt_ne (by omega)]; assumption)) | (rw [pt_ne (by omega)]; first | assumption | exact pt_self (by assumption) | (rw [pt_ne (by omega)]; assumption))) | (rw [pt_ne (by omega)]; first | assumption | exact pt_self (by first | assumption | exact pt_self (by assumption) | (rw [pt_ne (by omega)]; assumption)) | (rw [pt_ne (by omega)]; first | assumption | exact pt_self (by assumption) | (rw [pt_ne (by omega)]; assumption)))) (by simp) (by simp) ?_
  refine Ev_cast (H := pt (pt H 32 [sd, bo, x2]) 33 [sd, wd * sd + 2 * bo, y2]) ?_ rfl (by rw [pt_pt]; rfl)
  refine E_aload_n (pc' := 53) g2_52 rfl rfl ?_
  refine E_getR (pc' := 56) g2_53 f2_9 tg0_0 rfl (by first | assumption | exact pt_self (by first | assumption | exact pt_self (by first | assumption | exact pt_self (by assumption) | (rw [pt_ne (by omega)]; assumption)) | (rw [pt_ne (by omega)]; first | assumption | exact pt_self (by assumption) | (rw [pt_ne (by omega)]; assumption))) | (rw [pt_ne (by omega)]; first | assumption | exact pt_self (by first | assumption | exact pt_self (by assumption) | (rw [pt_ne (by omega)]; assumption)) | (rw [pt_ne (by omega)]; first | assumption | exact pt_self (by assumption) | (rw [pt_ne (by omega)]; assumption)))) rfl ?_
  refine E_iconst (pc' := 57) g2_56 (by decide) rfl ?_
  refine E_aload_n (pc' := 58) g2_57 rfl rfl ?_
  refine E_getI (pc' := 61) g2_58 f2_33 tg4_6 (by decide) rfl (by first | assumption | exact pt_self (by first | assumption | exact pt_self (by first | assumption | exact pt_self (by assumption) | (rw [pt_ne (by omega)]; assumption)) | (rw [pt_ne (by omega)]; first | assumption | exact pt_self (by assumption) | (rw [pt_ne (by omega)]; assumption))) | (rw [pt_ne (by omega)]; first | assumption | exact pt_self (by first | assumption | exact pt_self (by assumption) | (rw [pt_ne (by omega)]; assumption)) | (rw [pt_ne (by omega)]; first | assumption | exact pt_self (by assumption) | (rw [pt_ne (by omega)]; assumption)))) rfl ?_
  refine E_iastore (pc' := 62) g2_61 rfl (by first | assumption | exact pt_self (by first | assumption | exact pt_self (by first | assumption | exact pt_self (by assumption) | (rw [pt_ne (by omega)]; assumption)) | (rw [pt_ne (by omega)]; first | assumption | exact pt_self (by assumption) | (rw [pt_ne (by omega)]; assumption))) | (rw [pt_ne (by omega)]; first | assumption | exact pt_self (by first | assumption | exact pt_self (by assumption) | (rw [pt_ne (by omega)]; assumption)) | (rw [pt_ne (by omega)]; first | assumption | exact pt_self (by assumption) | (rw [pt_ne (by omega)]; assumption)))) (by simp) (by simp) ?_
  refine Ev_cast (H := pt (pt H 32 [sd, bo, bo]) 33 [sd, wd * sd + 2 * bo, y2]) ?_ rfl (by rw [pt_swap (by decide), pt_pt]; rfl)
  refine E_aload_n (pc' := 63) g2_62 rfl rfl ?_
  refine E_getR (pc' := 66) g2_63 f2_15 tg0_1 rfl (by first | assumption | exact pt_self (by first | assumption | exact pt_self (by first | assumption | exact pt_self (by assumption) | (rw [pt_ne (by omega)]; assumption)) | (rw [pt_ne (by omega)]; first | assumption | exact pt_self (by assumption) | (rw [pt_ne (by omega)]; assumption))) | (rw [pt_ne (by omega)]; first | assumption | exact pt_self (by first | assumption | exact pt_self (by assumption) | (rw [pt_ne (by omega)]; assumption)) | (rw [pt_ne (by omega)]; first | assumption | exact pt_self (by assumption) | (rw [pt_ne (by omega)]; assumption)))) rfl ?_
  refine E_iconst (pc' := 67) g2_66 (by decide) rfl ?_
  refine E_aload_n (pc' := 68) g2_67 rfl rfl ?_
  refine E_getI (pc' := 71) g2_68 f2_39 tg4_2 (by decide) rfl (by first | assumption | exact pt_self (by first | assumption | exact pt_self (by first | assumption | exact pt_self (by assumption) | (rw [pt_ne (by omega)]; assumption)) | (rw [pt_ne (by omega)]; first | assumption | exact pt_self (by assumption) | (rw [pt_ne (by omega)]; assumption))) | (rw [pt_ne (by omega)]; first | assumption | exact pt_self (by first | assumption | exact pt_self (by assumption) | (rw [pt_ne (by omega)]; assumption)) | (rw [pt_ne (by omega)]; first | assumption | exact pt_self (by assumption) | (rw [pt_ne (by omega)]; assumption)))) rfl ?_
  refine E_aload_n (pc' := 72) g2_71 rfl rfl ?_
  refine E_getI (pc' := 75) g2_72 f2_27 tg4_5 (by decide) rfl (by first | assumption | exact pt_self (by first | assumption | exact pt_self (by first | assumption | exact pt_self (by assumption) | (rw [pt_ne (by omega)]; assumption)) | (rw [pt_ne (by omega)]; first | assumption | exact pt_self (by assumption) | (rw [pt_ne (by omega)]; assumption))) | (rw [pt_ne (by omega)]; first | assumption | exact pt_self (by first | assumption | exact pt_self (by assumption) | (rw [pt_ne (by omega)]; assumption)) | (rw [pt_ne (by omega)]; first | assumption | exact pt_self (by assumption) | (rw [pt_ne (by omega)]; assumption)))) rfl ?_
  refine E_imul (pc' := 76) g2_75 (m_in_iff.mpr (by omega)) rfl ?_
  refine E_iconst (pc' := 77) g2_76 (by decide) rfl ?_
  refine E_aload_n (pc' := 78) g2_77 rfl rfl ?_
  refine E_getI (pc' := 81) g2_78 f2_33 tg4_6 (by decide) rfl (by first | assumption | exact pt_self (by first | assumption | exact pt_self (by first | assumption | exact pt_self (by assumption) | (rw [pt_ne (by omega)]; assumption)) | (rw [pt_ne (by omega)]; first | assumption | exact pt_self (by assumption) | (rw [pt_ne (by omega)]; assumption))) | (rw [pt_ne (by omega)]; first | assumption | exact pt_self (by first | assumption | exact pt_self (by assumption) | (rw [pt_ne (by omega)]; assumption)) | (rw [pt_ne (by omega)]; first | assumption | exact pt_self (by assumption) | (rw [pt_ne (by omega)]; assumption)))) rfl ?_
  refine E_imul (pc' := 82) g2_81 (m_in_iff.mpr (by omega)) rfl ?_
  refine E_iadd (pc' := 83) g2_82 (m_in_iff.mpr (by omega)) rfl ?_
  refine E_iastore (pc' := 84) g2_83 rfl (by first | assumption | exact pt_self (by first | assumption | exact pt_self (by first | assumption | exact pt_self (by assumption) | (rw [pt_ne (by omega)]; assumption)) | (rw [pt_ne (by omega)]; first | assumption | exact pt_self (by assumption) | (rw [pt_ne (by omega)]; assumption))) | (rw [pt_ne (by omega)]; first | assumption | exact pt_self (by first | assumption | exact pt_self (by assumption) | (rw [pt_ne (by omega)]; assumption)) | (rw [pt_ne (by omega)]; first | assumption | exact pt_self (by assumption) | (rw [pt_ne (by omega)]; assumption)))) (by simp) (by simp) ?_
  refine Ev_cast (H := pt (pt H 32 [sd, bo, bo]) 33 [sd, wd * sd + 2 * bo, ht * sd + 2 * bo]) ?_ rfl (by rw [pt_pt]; rfl)
  refine E_aload_n (pc' := 85) g2_84 rfl rfl ?_
  refine E_iconst (pc' := 86) g2_85 (by decide) rfl ?_
  refine E_putf (pc' := 89) g2_86 f2_42 tg0_5 fn0_5 rfl rfl (by first | assumption | exact pt_self (by first | assumption | exact pt_self (by first | assumption | exact pt_self (by assumption) | (rw [pt_ne (by omega)]; assumption)) | (rw [pt_ne (by omega)]; first | assumption | exact pt_self (by assumption) | (rw [pt_ne (by omega)]; assumption))) | (rw [pt_ne (by omega)]; first | assumption | exact pt_self (by first | assumption | exact pt_self (by assumption) | (rw [pt_ne (by omega)]; assumption)) | (rw [pt_ne (by omega)]; first | assumption | exact pt_self (by assumption) | (rw [pt_ne (by omega)]; assumption)))) (Nat.le_of_ble_eq_true rfl) ?_
  exact E_ret g2_89 rt2 rfl rfl
theorem C_piece (hR : isRoot H le ta tb pe un) (hT : isTold H ta kd wd ht rm mo sd bo ed hu sk hv) (hL : isLay H 13 bl sl) {kn : Int} {ls gr us cu gv : List Int} (hC : isClo H kn ls gr us cu gv) {p x r : Int} (hr : (¬ (0 ≤ p ∧ p < 3 ∧ 0 ≤ x ∧ x ≤ 1) → r = -1) ∧ ((0 ≤ p ∧ p < 3 ∧ x = 0) → r = ix ls p) ∧ ((0 ≤ p ∧ p < 3 ∧ x = 1) → r = ix gr p)) : Call 1 74 [mR 0, mI p, mI x] H (mI r) H := by
  obtain ⟨c0, c1, c2, c3, c4, c5, m1, m2, m3, m4, m5⟩ := hC
  have hT0 := hT
  have hL0 := hL
  have hR0 : H[0]? = _ := hR
  obtain ⟨t0, t1, t2, t3, t4, ⟨r1, r2, r3, r4, r5, r6, r7, b1, b2, b3, b4, n1, n2, n3, n4⟩⟩ := hT
  obtain ⟨h0, h1, h2, l1, l2, ob, ok⟩ := hL
  have hw := wh_bd r2.1 r2.2 r3.1 r3.2
  have e1 := inI_or p 0 3
  refine Call_of rfl ?_
  refine E_iload_n (pc' := 1) g74_0 rfl rfl ?_
  refine E_cS1i (pc' := 4) g74_1 k74_198 na84 rfl rfl (Nat.le_of_ble_eq_true rfl) C_isPiece (by decide) ?_
  refine E_ifeq (pc' := 7) (pt := 16) g74_4 rfl rfl (fun c0 => ?_) (fun c0 => ?_)
  · first
    | (exfalso; omega)
    | (refine E_iconst (pc' := 17) g74_16 (by decide) rfl ?_
       exact E_iret g74_17 ro74 (congrArg mI (by first | (have q := hr.1 (by omega); first | exact q | omega) | (have q := hr.2.1 (by omega); first | exact q | omega) | (have q := hr.2.2 (by omega); first | exact q | omega))) rfl)
  · first
    | (exfalso; omega)
    | (refine E_iload_n (pc' := 8) g74_7 rfl rfl ?_
       refine E_iflt (pc' := 11) (pt := 16) g74_8 rfl rfl (fun c1 => ?_) (fun c1 => ?_)
       · first
         | (exfalso; omega)
         | (refine E_iconst (pc' := 17) g74_16 (by decide) rfl ?_
            exact E_iret g74_17 ro74 (congrArg mI (by first | (have q := hr.1 (by omega); first | exact q | omega) | (have q := hr.2.1 (by omega); first | exact q | omega) | (have q := hr.2.2 (by omega); first | exact q | omega))) rfl)
       · first
         | (exfalso; omega)
         | (refine E_iload_n (pc' := 12) g74_11 rfl rfl ?_
            refine E_iconst (pc' := 13) g74_12 (by decide) rfl ?_
            refine E_icle (pc' := 16) (pt := 18) g74_13 rfl rfl (fun c2 => ?_) (fun c2 => ?_)
            · first
              | (exfalso; omega)
              | (refine E_iload_n (pc' := 19) g74_18 rfl rfl ?_
                 refine E_ifne (pc' := 22) (pt := 34) g74_19 rfl rfl (fun c3 => ?_) (fun c3 => ?_)
                 · first
                   | (exfalso; omega)
                   | (refine E_aload_n (pc' := 35) g74_34 rfl rfl ?_
                      refine E_getR (pc' := 38) g74_35 f74_68 tg6_14 rfl (by assumption) rfl ?_
                      refine E_getR (pc' := 41) g74_38 f74_204 tg0_1 rfl (by assumption) rfl ?_
                      refine E_iload_n (pc' := 42) g74_41 rfl rfl ?_
                      refine E_iaload (pc' := 43) g74_42 rfl (by assumption) (by omega) (by omega) ?_
                      exact E_iret g74_43 ro74 (congrArg mI (by first | (have q := hr.1 (by omega); first | exact q | omega) | (have q := hr.2.1 (by omega); first | exact q | omega) | (have q := hr.2.2 (by omega); first | exact q | omega))) rfl)
                 · first
                   | (exfalso; omega)
                   | (refine E_aload_n (pc' := 23) g74_22 rfl rfl ?_
                      refine E_getR (pc' := 26) g74_23 f74_68 tg6_14 rfl (by assumption) rfl ?_
                      refine E_getR (pc' := 29) g74_26 f74_201 tg0_0 rfl (by assumption) rfl ?_
                      refine E_iload_n (pc' := 30) g74_29 rfl rfl ?_
                      refine E_iaload (pc' := 31) g74_30 rfl (by assumption) (by omega) (by omega) ?_
                      refine E_goto (pc' := 43) g74_31 rfl ?_
                      exact E_iret g74_43 ro74 (congrArg mI (by first | (have q := hr.1 (by omega); first | exact q | omega) | (have q := hr.2.1 (by omega); first | exact q | omega) | (have q := hr.2.2 (by omega); first | exact q | omega))) rfl))
            · first
              | (exfalso; omega)
              | (refine E_iconst (pc' := 17) g74_16 (by decide) rfl ?_
                 exact E_iret g74_17 ro74 (congrArg mI (by first | (have q := hr.1 (by omega); first | exact q | omega) | (have q := hr.2.1 (by omega); first | exact q | omega) | (have q := hr.2.2 (by omega); first | exact q | omega))) rfl)))
end QE
