/-! QuiltPatches: what is done; images; count -/
def why (bl sl ed hu : List Int) (wd ht rm mo s b r : Int) : Prop := (ix sl (b.tdiv 4) - nK bl (b.tdiv 4) 6 ≤ 0 → r = 1) ∧ (0 < ix sl (b.tdiv 4) - nK bl (b.tdiv 4) 6 → (¬ mt bl ed wd ht s b → r = 2) ∧ (mt bl ed wd ht s b → (¬ kr ed wd ht rm s b → r = 3) ∧ (kr ed wd ht rm s b → (mo ≤ nH bl hu (ix hu (b.tdiv 4)) 6 → r = 4) ∧ (nH bl hu (ix hu (b.tdiv 4)) 6 < mo → r = 0))))
theorem why_ex (bl sl ed hu : List Int) (wd ht rm mo s b : Int) : ∃ r, why bl sl ed hu wd ht rm mo s b r ∧ 0 ≤ r ∧ r ≤ 4 := by
  by_cases h1 : ix sl (b.tdiv 4) - nK bl (b.tdiv 4) 6 ≤ 0
  · exact ⟨1, ⟨fun _ => rfl, fun z => absurd z (by omega)⟩, by omega, by omega⟩
  · by_cases h2 : mt bl ed wd ht s b
    · by_cases h3 : kr ed wd ht rm s b
      · by_cases h4 : mo ≤ nH bl hu (ix hu (b.tdiv 4)) 6
        · exact ⟨4, ⟨fun z => absurd z h1, fun _ => ⟨fun z => absurd h2 z, fun _ => ⟨fun z => absurd h3 z, fun _ => ⟨fun _ => rfl, fun z => absurd z (by omega)⟩⟩⟩⟩, by omega, by omega⟩
        · exact ⟨0, ⟨fun z => absurd z h1, fun _ => ⟨fun z => absurd h2 z, fun _ => ⟨fun z => absurd h3 z, fun _ => ⟨fun z => absurd z h4, fun _ => rfl⟩⟩⟩⟩, by omega, by omega⟩
      · exact ⟨3, ⟨fun z => absurd z h1, fun _ => ⟨fun z => absurd h2 z, fun _ => ⟨fun _ => rfl, fun z => absurd z h3⟩⟩⟩, by omega, by omega⟩
    · exact ⟨2, ⟨fun z => absurd z h1, fun _ => ⟨fun _ => rfl, fun z => absurd z h2⟩⟩, by omega, by omega⟩
/-- what remember leaves -/
def remH (H : mH) (pe un le : Int) (ta tb : Nat) (bl sl : List Int) : mH := pt (pt (pt H (pastA pe + 1) bl) (pastA pe + 2) sl) 0 (rootL le ta tb ((pe + 1).tmod 10) (min (un + 1) 10))
def isImg (H : mH) (IB IS : Nat → List Int) : Prop := H[20]? = some (10, [((68 : Nat) : Int), ((71 : Nat) : Int)]) ∧ ∀ i : Nat, i < 2 → isLay H (68 + 3 * i) (IB i) (IS i)
theorem img_get {p : Int} (h0 : 0 ≤ p) (h : p < 2) : [((68 : Nat) : Int), ((71 : Nat) : Int)][p.toNat]? = some ((68 + 3 * p.toNat : Nat) : Int) := by
  have : p = 0 ∨ p = 1 := by omega
  rcases this with rfl | rfl <;> rfl
section QD
variable {H : mH} {ta tb : Nat} {le pe un : Int} {bl sl : List Int} {kd wd ht rm mo sd bo : Int} {ed hu sk hv : List Int} {PB PS IB IS : Nat → List Int} {tx kp : List Int}
theorem rem_facts (hR : isRoot H le ta tb pe un) (hT : isTold H ta kd wd ht rm mo sd bo ed hu sk hv) (hL : isLay H 13 bl sl) (hP : isPast H PB PS) (hpe : 0 ≤ pe ∧ pe < 10) (hun : 0 ≤ un ∧ un ≤ 10) (hta : ta = 3 ∨ ta = 8) : isRoot (remH H pe un le ta tb bl sl) le ta tb ((pe + 1).tmod 10) (min (un + 1) 10) ∧ isTold (remH H pe un le ta tb bl sl) ta kd wd ht rm mo sd bo ed hu sk hv ∧ isLay (remH H pe un le ta tb bl sl) 13 bl sl := by
  have hpa : 38 ≤ pastA pe := by unfold pastA; omega
  unfold remH
  exact ⟨root_new (root_keep (root_keep hR (by omega)) (by omega)), told_keep (told_keep (told_keep hT (by omega)) (by omega)) (by omega), lay_keep (lay_keep (lay_keep hL (by omega)) (by omega)) (by omega)⟩
theorem okB_up {s b : Int} (hB : okB bl) (h0 : 0 ≤ s) (hs : s < bl.length) (hb : b = -9 ∨ (0 ≤ b ∧ b < 24)) : okB (up bl s b) := by
  intro i
  by_cases hi : 0 ≤ i
  · rw [ix_up h0 hs hi]
    split
    · exact hb
    · exact hB i
  · have e : ix (up bl s b) i = ix (up bl s b) 0 := by unfold ix; rw [show i.toNat = (0 : Int).toNat by omega]
    rw [e, ix_up h0 hs (by omega)]
    split
    · exact hb
    · exact hB 0
theorem sml_up {s b : Int} (hB : sml bl) (h0 : 0 ≤ s) (hs : s < bl.length) (hb : -1000 ≤ b ∧ b ≤ 1000) : sml (up bl s b) := bet_up (lo := -1000) (hi := 1000) hB h0 hs hb
theorem C_lays_no (hR : isRoot H le ta tb pe un) (hT : isTold H ta kd wd ht rm mo sd bo ed hu sk hv) (hL : isLay H 13 bl sl) {s b v r : Int} (hv : (0 ≤ s ∧ s < 6 ∧ 0 ≤ b ∧ b < 24) → why bl sl ed hu wd ht rm mo s b v) (hv4 : 0 ≤ v ∧ v ≤ 4) (hno : ¬ (0 ≤ s ∧ s < wd * ht ∧ 0 ≤ b ∧ b < kd * 4 ∧ ix bl s = -9 ∧ v = 0))
    (hr : (¬ (0 ≤ s ∧ s < wd * ht ∧ 0 ≤ b ∧ b < kd * 4) → r = -1) ∧ ((0 ≤ s ∧ s < wd * ht ∧ 0 ≤ b ∧ b < kd * 4 ∧ ¬ ix bl s = -9) → r = -2) ∧ ((0 ≤ s ∧ s < wd * ht ∧ 0 ≤ b ∧ b < kd * 4 ∧ ix bl s = -9) → r = -10 - v)) : Call 3 60 [mR 0, mI s, mI b] H (mI r) H := by
  have hT0 := hT
  have hL0 := hL
  have hR0 : H[0]? = _ := hR
  obtain ⟨t0, t1, t2, t3, t4, ⟨r1, r2, r3, r4, r5, r6, r7, b1, b2, b3, b4, n1, n2, n3, n4⟩⟩ := hT
  obtain ⟨h0, h1, h2, l1, l2, ob, ok⟩ := hL
  have hw := wh_bd r2.1 r2.2 r3.1 r3.2
  have e1 := inI_or s 0 (wd * ht)
  have e2 := inI_or b 0 (kd * 4)
  have e3 := isO_or bl s
  refine Call_of rfl ?_
  refine E_aload_n (pc' := 1) g60_0 rfl rfl ?_
  refine E_iload_n (pc' := 2) g60_1 rfl rfl ?_
  refine E_cV1i (pc' := 5) g60_2 k60_123 na83 rfl ow83 rfl (Nat.le_of_ble_eq_true rfl) (by assumption) (C_isSquare hR hT0 hL0) (by decide) ?_
  refine E_ifeq (pc' := 8) (pt := 16) g60_5 rfl rfl (fun c0 => ?_) (fun c0 => ?_)
  · first
    | (exfalso; omega)
    | (refine E_iconst (pc' := 17) g60_16 (by decide) rfl ?_
       exact E_iret g60_17 ro60 (congrArg mI (by first | (have q := hr.1 (by omega); first | exact q | omega) | (have q := hr.2.1 (by omega); first | exact q | omega) | (have q := hr.2.2 (by omega); first | exact q | omega))) rfl)
  · first
    | (exfalso; omega)
    | (refine E_aload_n (pc' := 9) g60_8 rfl rfl ?_
       refine E_iload_n (pc' := 10) g60_9 rfl rfl ?_
       refine E_cV1i (pc' := 13) g60_10 k60_117 na82 rfl ow82 rfl (Nat.le_of_ble_eq_true rfl) (by assumption) (C_isBlock hR hT0 hL0) (by decide) ?_
       refine E_ifne (pc' := 16) (pt := 18) g60_13 rfl rfl (fun c1 => ?_) (fun c1 => ?_)
       · first
         | (exfalso; omega)
         | (refine E_aload_n (pc' := 19) g60_18 rfl rfl ?_
            refine E_getR (pc' := 22) g60_19 f60_33 tg6_5 rfl (by assumption) rfl ?_
            refine E_iload_n (pc' := 23) g60_22 rfl rfl ?_
            refine E_cV1i (pc' := 26) g60_23 k60_126 na17 rfl ow17 rfl (Nat.le_of_ble_eq_true rfl) (by assumption) (C_isOpen hL0) (by decide) ?_
            refine E_ifne (pc' := 29) (pt := 32) g60_26 rfl rfl (fun c2 => ?_) (fun c2 => ?_)
            · first
              | (exfalso; omega)
              | (refine E_aload_n (pc' := 33) g60_32 rfl rfl ?_
                 refine E_iload_n (pc' := 34) g60_33 rfl rfl ?_
                 refine E_iload_n (pc' := 35) g60_34 rfl rfl ?_
                 refine E_cV2i (pc' := 38) g60_35 k60_129 na90 rfl ow90 rfl (Nat.le_of_ble_eq_true rfl) (by assumption) (C_whyNot hR hT0 hL0 (s := s) (b := b) (r := v) (by omega) (by omega) (hv (by omega))) (by decide) ?_
                 refine E_st3 (pc' := 39) g60_38 rfl ?_
                 refine E_iload_n (pc' := 40) g60_39 rfl rfl ?_
                 refine E_ifeq (pc' := 43) (pt := 48) g60_40 rfl rfl (fun c3 => ?_) (fun c3 => ?_)
                 · first
                   | (exfalso; omega)
                   | (exfalso; omega)
                 · first
                   | (exfalso; omega)
                   | (refine E_bipush (pc' := 45) g60_43 (by decide) rfl ?_
                      refine E_iload_n (pc' := 46) g60_45 rfl rfl ?_
                      refine E_isub (pc' := 47) g60_46 (m_in_iff.mpr (by omega)) rfl ?_
                      exact E_iret g60_47 ro60 (congrArg mI (by first | (have q := hr.1 (by omega); first | exact q | omega) | (have q := hr.2.1 (by omega); first | exact q | omega) | (have q := hr.2.2 (by omega); first | exact q | omega))) rfl))
            · first
              | (exfalso; omega)
              | (refine E_bipush (pc' := 31) g60_29 (by decide) rfl ?_
                 exact E_iret g60_31 ro60 (congrArg mI (by first | (have q := hr.1 (by omega); first | exact q | omega) | (have q := hr.2.1 (by omega); first | exact q | omega) | (have q := hr.2.2 (by omega); first | exact q | omega))) rfl))
       · first
         | (exfalso; omega)
         | (refine E_iconst (pc' := 17) g60_16 (by decide) rfl ?_
            exact E_iret g60_17 ro60 (congrArg mI (by first | (have q := hr.1 (by omega); first | exact q | omega) | (have q := hr.2.1 (by omega); first | exact q | omega) | (have q := hr.2.2 (by omega); first | exact q | omega))) rfl))
theorem C_lays (hR : isRoot H le ta tb pe un) (hT : isTold H ta kd wd ht rm mo sd bo ed hu sk hv) (hL : isLay H 13 bl sl) (hP : isPast H PB PS) (hpe : 0 ≤ pe ∧ pe < 10) (hun : 0 ≤ un ∧ un ≤ 10) (hta : ta = 3 ∨ ta = 8) {s b : Int} (hv : why bl sl ed hu wd ht rm mo s b 0) (hs : 0 ≤ s ∧ s < wd * ht) (hb : 0 ≤ b ∧ b < kd * 4) (hop : ix bl s = -9) : Call 3 60 [mR 0, mI s, mI b] H (mI (nO (up bl s b) (wd * ht).toNat)) (pt (remH H pe un le ta tb bl sl) 14 (up bl s b)) := by
  have hT0 := hT
  have hL0 := hL
  have hR0 : H[0]? = _ := hR
  obtain ⟨t0, t1, t2, t3, t4, ⟨r1, r2, r3, r4, r5, r6, r7, b1, b2, b3, b4, n1, n2, n3, n4⟩⟩ := hT
  obtain ⟨h0, h1, h2, l1, l2, ob, ok⟩ := hL
  have hw := wh_bd r2.1 r2.2 r3.1 r3.2
  have e1 := inI_or s 0 (wd * ht)
  have e2 := inI_or b 0 (kd * 4)
  have e3 := isO_or bl s
  obtain ⟨gR, gT, gL⟩ := rem_facts hR hT0 hL0 hP hpe hun hta (tb := tb)
  have gR0 : (remH H pe un le ta tb bl sl)[0]? = _ := gR
  have g13 := gL.1
  have g14 := gL.2.1
  have gL2 := lay_b (bl2 := up bl s b) gL (by rw [up_len]; exact l1) (okB_up ob (by omega) (by omega) (by omega))
  have gR2 := root_keep (x := 14) (fs := up bl s b) gR (by omega)
  have gT2 := told_keep (x := 14) (fs := up bl s b) gT (by omega)
  have gR3 : (pt (remH H pe un le ta tb bl sl) 14 (up bl s b))[0]? = _ := gR2
  refine Call_of rfl ?_
  refine E_aload_n (pc' := 1) g60_0 rfl rfl ?_
  refine E_iload_n (pc' := 2) g60_1 rfl rfl ?_
  refine E_cV1i (pc' := 5) g60_2 k60_123 na83 rfl ow83 rfl (Nat.le_of_ble_eq_true rfl) (by assumption) (C_isSquare hR hT0 hL0) (by decide) ?_
  refine E_ifeq (pc' := 8) (pt := 16) g60_5 rfl rfl (fun c0 => ?_) (fun c0 => ?_)
  · first
    | (exfalso; omega)
    | (refine E_iconst (pc' := 17) g60_16 (by decide) rfl ?_
       exact E_iret g60_17 ro60 rfl rfl)
  · first
    | (exfalso; omega)
    | (refine E_aload_n (pc' := 9) g60_8 rfl rfl ?_
       refine E_iload_n (pc' := 10) g60_9 rfl rfl ?_
       refine E_cV1i (pc' := 13) g60_10 k60_117 na82 rfl ow82 rfl (Nat.le_of_ble_eq_true rfl) (by assumption) (C_isBlock hR hT0 hL0) (by decide) ?_
       refine E_ifne (pc' := 16) (pt := 18) g60_13 rfl rfl (fun c1 => ?_) (fun c1 => ?_)
       · first
         | (exfalso; omega)
         | (refine E_aload_n (pc' := 19) g60_18 rfl rfl ?_
            refine E_getR (pc' := 22) g60_19 f60_33 tg6_5 rfl (by assumption) rfl ?_
            refine E_iload_n (pc' := 23) g60_22 rfl rfl ?_
            refine E_cV1i (pc' := 26) g60_23 k60_126 na17 rfl ow17 rfl (Nat.le_of_ble_eq_true rfl) (by assumption) (C_isOpen hL0) (by decide) ?_
            refine E_ifne (pc' := 29) (pt := 32) g60_26 rfl rfl (fun c2 => ?_) (fun c2 => ?_)
            · first
              | (exfalso; omega)
              | (refine E_aload_n (pc' := 33) g60_32 rfl rfl ?_
                 refine E_iload_n (pc' := 34) g60_33 rfl rfl ?_
                 refine E_iload_n (pc' := 35) g60_34 rfl rfl ?_
                 refine E_cV2i (pc' := 38) g60_35 k60_129 na90 rfl ow90 rfl (Nat.le_of_ble_eq_true rfl) (by assumption) (C_whyNot hR hT0 hL0 (s := s) (b := b) (r := 0) (by omega) (by omega) hv) (by decide) ?_
                 refine E_st3 (pc' := 39) g60_38 rfl ?_
                 refine E_iload_n (pc' := 40) g60_39 rfl rfl ?_
                 refine E_ifeq (pc' := 43) (pt := 48) g60_40 rfl rfl (fun c3 => ?_) (fun c3 => ?_)
                 · first
                   | (exfalso; omega)
                   | (refine E_aload_n (pc' := 49) g60_48 rfl rfl ?_
                      refine E_cV0v (pc' := 52) g60_49 k60_132 na89 rfl ow89 rfl (Nat.le_of_ble_eq_true rfl) (by assumption) (show Call 2 89 [mR 0] H none (remH H pe un le ta tb bl sl) from C_remember hR hT0 hL0 hP hpe hun) (by decide) ?_
                      refine E_aload_n (pc' := 53) g60_52 rfl rfl ?_
                      refine E_getR (pc' := 56) g60_53 f60_33 tg6_5 rfl (by assumption) rfl ?_
                      refine E_getR (pc' := 59) g60_56 f60_135 tg2_0 rfl (by assumption) rfl ?_
                      refine E_iload_n (pc' := 60) g60_59 rfl rfl ?_
                      refine E_iload_n (pc' := 61) g60_60 rfl rfl ?_
                      refine E_iastore (pc' := 62) g60_61 rfl (by assumption) (by omega) (by omega) ?_
                      refine E_aload_n (pc' := 63) g60_62 rfl rfl ?_
                      refine E_cV0i (pc' := 66) g60_63 k60_138 na87 rfl ow87 rfl (Nat.le_of_ble_eq_true rfl) (by assumption) (C_openSq gR2 gT2 gL2) (by decide) ?_
                      exact E_iret g60_66 ro60 rfl rfl)
                 · first
                   | (exfalso; omega)
                   | (refine E_bipush (pc' := 45) g60_43 (by decide) rfl ?_
                      refine E_iload_n (pc' := 46) g60_45 rfl rfl ?_
                      refine E_isub (pc' := 47) g60_46 (m_in_iff.mpr (by omega)) rfl ?_
                      exact E_iret g60_47 ro60 rfl rfl))
            · first
              | (exfalso; omega)
              | (refine E_bipush (pc' := 31) g60_29 (by decide) rfl ?_
                 exact E_iret g60_31 ro60 rfl rfl))
       · first
         | (exfalso; omega)
         | (refine E_iconst (pc' := 17) g60_16 (by decide) rfl ?_
            exact E_iret g60_17 ro60 rfl rfl))
theorem C_takes_no (hR : isRoot H le ta tb pe un) (hT : isTold H ta kd wd ht rm mo sd bo ed hu sk hv) (hL : isLay H 13 bl sl) {s r : Int} (hno : ¬ (0 ≤ s ∧ s < wd * ht ∧ ¬ ix bl s = -9)) (hr : (¬ (0 ≤ s ∧ s < wd * ht) → r = -1) ∧ ((0 ≤ s ∧ s < wd * ht) → r = -2)) : Call 3 61 [mR 0, mI s] H (mI r) H := by
  have hT0 := hT
  have hL0 := hL
  have hR0 : H[0]? = _ := hR
  obtain ⟨t0, t1, t2, t3, t4, ⟨r1, r2, r3, r4, r5, r6, r7, b1, b2, b3, b4, n1, n2, n3, n4⟩⟩ := hT
  obtain ⟨h0, h1, h2, l1, l2, ob, ok⟩ := hL
  have hw := wh_bd r2.1 r2.2 r3.1 r3.2
  have e1 := inI_or s 0 (wd * ht)
  have e3 := isO_or bl s
  refine Call_of rfl ?_
  refine E_aload_n (pc' := 1) g61_0 rfl rfl ?_
  refine E_iload_n (pc' := 2) g61_1 rfl rfl ?_
  refine E_cV1i (pc' := 5) g61_2 k61_123 na83 rfl ow83 rfl (Nat.le_of_ble_eq_true rfl) (by assumption) (C_isSquare hR hT0 hL0) (by decide) ?_
  refine E_ifne (pc' := 8) (pt := 10) g61_5 rfl rfl (fun c0 => ?_) (fun c0 => ?_)
  · first
    | (exfalso; omega)
    | (refine E_aload_n (pc' := 11) g61_10 rfl rfl ?_
       refine E_getR (pc' := 14) g61_11 f61_33 tg6_5 rfl (by assumption) rfl ?_
       refine E_iload_n (pc' := 15) g61_14 rfl rfl ?_
       refine E_cV1i (pc' := 18) g61_15 k61_126 na17 rfl ow17 rfl (Nat.le_of_ble_eq_true rfl) (by assumption) (C_isOpen hL0) (by decide) ?_
       refine E_ifeq (pc' := 21) (pt := 24) g61_18 rfl rfl (fun c1 => ?_) (fun c1 => ?_)
       · first
         | (exfalso; omega)
         | (exfalso; omega)
       · first
         | (exfalso; omega)
         | (refine E_bipush (pc' := 23) g61_21 (by decide) rfl ?_
            exact E_iret g61_23 ro61 (congrArg mI (by first | (have q := hr.1 (by omega); first | exact q | omega) | (have q := hr.2 (by omega); first | exact q | omega))) rfl))
  · first
    | (exfalso; omega)
    | (refine E_iconst (pc' := 9) g61_8 (by decide) rfl ?_
       exact E_iret g61_9 ro61 (congrArg mI (by first | (have q := hr.1 (by omega); first | exact q | omega) | (have q := hr.2 (by omega); first | exact q | omega))) rfl)
theorem C_takes (hR : isRoot H le ta tb pe un) (hT : isTold H ta kd wd ht rm mo sd bo ed hu sk hv) (hL : isLay H 13 bl sl) (hP : isPast H PB PS) (hpe : 0 ≤ pe ∧ pe < 10) (hun : 0 ≤ un ∧ un ≤ 10) (hta : ta = 3 ∨ ta = 8) {s : Int} (hs : 0 ≤ s ∧ s < wd * ht) (hop : ¬ ix bl s = -9) : Call 3 61 [mR 0, mI s] H (mI (ix bl s)) (pt (remH H pe un le ta tb bl sl) 14 (up bl s (-9))) := by
  have hT0 := hT
  have hL0 := hL
  have hR0 : H[0]? = _ := hR
  obtain ⟨t0, t1, t2, t3, t4, ⟨r1, r2, r3, r4, r5, r6, r7, b1, b2, b3, b4, n1, n2, n3, n4⟩⟩ := hT
  obtain ⟨h0, h1, h2, l1, l2, ob, ok⟩ := hL
  have hw := wh_bd r2.1 r2.2 r3.1 r3.2
  have e1 := inI_or s 0 (wd * ht)
  have e3 := isO_or bl s
  obtain ⟨gR, gT, gL⟩ := rem_facts hR hT0 hL0 hP hpe hun hta (tb := tb)
  have gR0 : (remH H pe un le ta tb bl sl)[0]? = _ := gR
  have g13 := gL.1
  have g14 := gL.2.1
  refine Call_of rfl ?_
  refine E_aload_n (pc' := 1) g61_0 rfl rfl ?_
  refine E_iload_n (pc' := 2) g61_1 rfl rfl ?_
  refine E_cV1i (pc' := 5) g61_2 k61_123 na83 rfl ow83 rfl (Nat.le_of_ble_eq_true rfl) (by assumption) (C_isSquare hR hT0 hL0) (by decide) ?_
  refine E_ifne (pc' := 8) (pt := 10) g61_5 rfl rfl (fun c0 => ?_) (fun c0 => ?_)
  · first
    | (exfalso; omega)
    | (refine E_aload_n (pc' := 11) g61_10 rfl rfl ?_
       refine E_getR (pc' := 14) g61_11 f61_33 tg6_5 rfl (by assumption) rfl ?_
       refine E_iload_n (pc' := 15) g61_14 rfl rfl ?_
       refine E_cV1i (pc' := 18) g61_15 k61_126 na17 rfl ow17 rfl (Nat.le_of_ble_eq_true rfl) (by assumption) (C_isOpen hL0) (by decide) ?_
       refine E_ifeq (pc' := 21) (pt := 24) g61_18 rfl rfl (fun c1 => ?_) (fun c1 => ?_)
       · first
         | (exfalso; omega)
         | (refine E_aload_n (pc' := 25) g61_24 rfl rfl ?_
            refine E_cV0v (pc' := 28) g61_25 k61_132 na89 rfl ow89 rfl (Nat.le_of_ble_eq_true rfl) (by assumption) (show Call 2 89 [mR 0] H none (remH H pe un le ta tb bl sl) from C_remember hR hT0 hL0 hP hpe hun) (by decide) ?_
            refine E_aload_n (pc' := 29) g61_28 rfl rfl ?_
            refine E_getR (pc' := 32) g61_29 f61_33 tg6_5 rfl (by assumption) rfl ?_
            refine E_getR (pc' := 35) g61_32 f61_135 tg2_0 rfl (by assumption) rfl ?_
            refine E_iload_n (pc' := 36) g61_35 rfl rfl ?_
            refine E_iaload (pc' := 37) g61_36 rfl (by assumption) (by omega) (by omega) ?_
            refine E_st2 (pc' := 38) g61_37 rfl ?_
            refine E_aload_n (pc' := 39) g61_38 rfl rfl ?_
            refine E_getR (pc' := 42) g61_39 f61_33 tg6_5 rfl (by assumption) rfl ?_
            refine E_getR (pc' := 45) g61_42 f61_135 tg2_0 rfl (by assumption) rfl ?_
            refine E_iload_n (pc' := 46) g61_45 rfl rfl ?_
            refine E_bipush (pc' := 48) g61_46 (by decide) rfl ?_
            refine E_iastore (pc' := 49) g61_48 rfl (by assumption) (by omega) (by omega) ?_
            refine E_iload_n (pc' := 50) g61_49 rfl rfl ?_
            exact E_iret g61_50 ro61 rfl rfl)
       · first
         | (exfalso; omega)
         | (refine E_bipush (pc' := 23) g61_21 (by decide) rfl ?_
            exact E_iret g61_23 ro61 rfl rfl))
  · first
    | (exfalso; omega)
    | (refine E_iconst (pc' := 9) g61_8 (by decide) rfl ?_
       exact E_iret g61_9 ro61 rfl rfl)
theorem C_buys_no (hR : isRoot H le ta tb pe un) (hT : isTold H ta kd wd ht rm mo sd bo ed hu sk hv) (hL : isLay H 13 bl sl) {k x r : Int} (hno : ¬ (0 ≤ k ∧ k < kd ∧ 0 ≤ x ∧ x ≤ 9 ∧ ¬ ix sl k = x)) (hr : (¬ (0 ≤ k ∧ k < kd ∧ 0 ≤ x ∧ x ≤ 9) → r = -1) ∧ ((0 ≤ k ∧ k < kd ∧ 0 ≤ x ∧ x ≤ 9) → r = -2)) : Call 3 62 [mR 0, mI k, mI x] H (mI r) H := by
  have hT0 := hT
  have hL0 := hL
  have hR0 : H[0]? = _ := hR
  obtain ⟨t0, t1, t2, t3, t4, ⟨r1, r2, r3, r4, r5, r6, r7, b1, b2, b3, b4, n1, n2, n3, n4⟩⟩ := hT
  obtain ⟨h0, h1, h2, l1, l2, ob, ok⟩ := hL
  have hw := wh_bd r2.1 r2.2 r3.1 r3.2
  have e1 := inI_or k 0 kd
  refine Call_of rfl ?_
  refine E_aload_n (pc' := 1) g62_0 rfl rfl ?_
  refine E_iload_n (pc' := 2) g62_1 rfl rfl ?_
  refine E_cV1i (pc' := 5) g62_2 k62_99 na81 rfl ow81 rfl (Nat.le_of_ble_eq_true rfl) (by assumption) (C_isKind hR hT0 hL0) (by decide) ?_
  refine E_ifeq (pc' := 8) (pt := 18) g62_5 rfl rfl (fun c0 => ?_) (fun c0 => ?_)
  · first
    | (exfalso; omega)
    | (refine E_iconst (pc' := 19) g62_18 (by decide) rfl ?_
       exact E_iret g62_19 ro62 (congrArg mI (by first | (have q := hr.1 (by omega); first | exact q | omega) | (have q := hr.2 (by omega); first | exact q | omega))) rfl)
  · first
    | (exfalso; omega)
    | (refine E_iload_n (pc' := 9) g62_8 rfl rfl ?_
       refine E_iflt (pc' := 12) (pt := 18) g62_9 rfl rfl (fun c1 => ?_) (fun c1 => ?_)
       · first
         | (exfalso; omega)
         | (refine E_iconst (pc' := 19) g62_18 (by decide) rfl ?_
            exact E_iret g62_19 ro62 (congrArg mI (by first | (have q := hr.1 (by omega); first | exact q | omega) | (have q := hr.2 (by omega); first | exact q | omega))) rfl)
       · first
         | (exfalso; omega)
         | (refine E_iload_n (pc' := 13) g62_12 rfl rfl ?_
            refine E_bipush (pc' := 15) g62_13 (by decide) rfl ?_
            refine E_icle (pc' := 18) (pt := 20) g62_15 rfl rfl (fun c2 => ?_) (fun c2 => ?_)
            · first
              | (exfalso; omega)
              | (refine E_aload_n (pc' := 21) g62_20 rfl rfl ?_
                 refine E_getR (pc' := 24) g62_21 f62_33 tg6_5 rfl (by assumption) rfl ?_
                 refine E_getR (pc' := 27) g62_24 f62_106 tg2_1 rfl (by assumption) rfl ?_
                 refine E_iload_n (pc' := 28) g62_27 rfl rfl ?_
                 refine E_iaload (pc' := 29) g62_28 rfl (by assumption) (by omega) (by omega) ?_
                 refine E_st3 (pc' := 30) g62_29 rfl ?_
                 refine E_iload_n (pc' := 31) g62_30 rfl rfl ?_
                 refine E_iload_n (pc' := 32) g62_31 rfl rfl ?_
                 refine E_icne (pc' := 35) (pt := 38) g62_32 rfl rfl (fun c3 => ?_) (fun c3 => ?_)
                 · first
                   | (exfalso; omega)
                   | (exfalso; omega)
                 · first
                   | (exfalso; omega)
                   | (refine E_bipush (pc' := 37) g62_35 (by decide) rfl ?_
                      exact E_iret g62_37 ro62 (congrArg mI (by first | (have q := hr.1 (by omega); first | exact q | omega) | (have q := hr.2 (by omega); first | exact q | omega))) rfl))
            · first
              | (exfalso; omega)
              | (refine E_iconst (pc' := 19) g62_18 (by decide) rfl ?_
                 exact E_iret g62_19 ro62 (congrArg mI (by first | (have q := hr.1 (by omega); first | exact q | omega) | (have q := hr.2 (by omega); first | exact q | omega))) rfl)))
theorem C_buys (hR : isRoot H le ta tb pe un) (hT : isTold H ta kd wd ht rm mo sd bo ed hu sk hv) (hL : isLay H 13 bl sl) (hP : isPast H PB PS) (hpe : 0 ≤ pe ∧ pe < 10) (hun : 0 ≤ un ∧ un ≤ 10) (hta : ta = 3 ∨ ta = 8) {k x : Int} (hk : 0 ≤ k ∧ k < kd) (hx : 0 ≤ x ∧ x ≤ 9) (hne : ¬ ix sl k = x) : Call 3 62 [mR 0, mI k, mI x] H (mI (ix sl k)) (pt (remH H pe un le ta tb bl sl) 15 (up sl k x)) := by
  have hT0 := hT
  have hL0 := hL
  have hR0 : H[0]? = _ := hR
  obtain ⟨t0, t1, t2, t3, t4, ⟨r1, r2, r3, r4, r5, r6, r7, b1, b2, b3, b4, n1, n2, n3, n4⟩⟩ := hT
  obtain ⟨h0, h1, h2, l1, l2, ob, ok⟩ := hL
  have hw := wh_bd r2.1 r2.2 r3.1 r3.2
  have e1 := inI_or k 0 kd
  obtain ⟨gR, gT, gL⟩ := rem_facts hR hT0 hL0 hP hpe hun hta (tb := tb)
  have gR0 : (remH H pe un le ta tb bl sl)[0]? = _ := gR
  have g13 := gL.1
  have g15 := gL.2.2.1
  refine Call_of rfl ?_
  refine E_aload_n (pc' := 1) g62_0 rfl rfl ?_
  refine E_iload_n (pc' := 2) g62_1 rfl rfl ?_
  refine E_cV1i (pc' := 5) g62_2 k62_99 na81 rfl ow81 rfl (Nat.le_of_ble_eq_true rfl) (by assumption) (C_isKind hR hT0 hL0) (by decide) ?_
  refine E_ifeq (pc' := 8) (pt := 18) g62_5 rfl rfl (fun c0 => ?_) (fun c0 => ?_)
  · first
    | (exfalso; omega)
    | (refine E_iconst (pc' := 19) g62_18 (by decide) rfl ?_
       exact E_iret g62_19 ro62 rfl rfl)
  · first
    | (exfalso; omega)
    | (refine E_iload_n (pc' := 9) g62_8 rfl rfl ?_
       refine E_iflt (pc' := 12) (pt := 18) g62_9 rfl rfl (fun c1 => ?_) (fun c1 => ?_)
       · first
         | (exfalso; omega)
         | (refine E_iconst (pc' := 19) g62_18 (by decide) rfl ?_
            exact E_iret g62_19 ro62 rfl rfl)
       · first
         | (exfalso; omega)
         | (refine E_iload_n (pc' := 13) g62_12 rfl rfl ?_
            refine E_bipush (pc' := 15) g62_13 (by decide) rfl ?_
            refine E_icle (pc' := 18) (pt := 20) g62_15 rfl rfl (fun c2 => ?_) (fun c2 => ?_)
            · first
              | (exfalso; omega)
              | (refine E_aload_n (pc' := 21) g62_20 rfl rfl ?_
                 refine E_getR (pc' := 24) g62_21 f62_33 tg6_5 rfl (by assumption) rfl ?_
                 refine E_getR (pc' := 27) g62_24 f62_106 tg2_1 rfl (by assumption) rfl ?_
                 refine E_iload_n (pc' := 28) g62_27 rfl rfl ?_
                 refine E_iaload (pc' := 29) g62_28 rfl (by assumption) (by omega) (by omega) ?_
                 refine E_st3 (pc' := 30) g62_29 rfl ?_
                 refine E_iload_n (pc' := 31) g62_30 rfl rfl ?_
                 refine E_iload_n (pc' := 32) g62_31 rfl rfl ?_
                 refine E_icne (pc' := 35) (pt := 38) g62_32 rfl rfl (fun c3 => ?_) (fun c3 => ?_)
                 · first
                   | (exfalso; omega)
                   | (refine E_aload_n (pc' := 39) g62_38 rfl rfl ?_
                      refine E_cV0v (pc' := 42) g62_39 k62_132 na89 rfl ow89 rfl (Nat.le_of_ble_eq_true rfl) (by assumption) (show Call 2 89 [mR 0] H none (remH H pe un le ta tb bl sl) from C_remember hR hT0 hL0 hP hpe hun) (by decide) ?_
                      refine E_aload_n (pc' := 43) g62_42 rfl rfl ?_
                      refine E_getR (pc' := 46) g62_43 f62_33 tg6_5 rfl (by assumption) rfl ?_
                      refine E_getR (pc' := 49) g62_46 f62_106 tg2_1 rfl (by assumption) rfl ?_
                      refine E_iload_n (pc' := 50) g62_49 rfl rfl ?_
                      refine E_iload_n (pc' := 51) g62_50 rfl rfl ?_
                      refine E_iastore (pc' := 52) g62_51 rfl (by assumption) (by omega) (by omega) ?_
                      refine E_iload_n (pc' := 53) g62_52 rfl rfl ?_
                      exact E_iret g62_53 ro62 rfl rfl)
                 · first
                   | (exfalso; omega)
                   | (refine E_bipush (pc' := 37) g62_35 (by decide) rfl ?_
                      exact E_iret g62_37 ro62 rfl rfl))
            · first
              | (exfalso; omega)
              | (refine E_iconst (pc' := 19) g62_18 (by decide) rfl ?_
                 exact E_iret g62_19 ro62 rfl rfl)))
theorem C_clears (hR : isRoot H le ta tb pe un) (hT : isTold H ta kd wd ht rm mo sd bo ed hu sk hv) (hL : isLay H 13 bl sl) (hP : isPast H PB PS) (hpe : 0 ≤ pe ∧ pe < 10) (hun : 0 ≤ un ∧ un ≤ 10) (hta : ta = 3 ∨ ta = 8) : Call 3 63 [mR 0] H (mI (wd * ht - nO bl (wd * ht).toNat)) (pt (remH H pe un le ta tb bl sl) 14 (List.replicate 6 (-9))) := by
  have hT0 := hT
  have hL0 := hL
  have hR0 : H[0]? = _ := hR
  obtain ⟨t0, t1, t2, t3, t4, ⟨r1, r2, r3, r4, r5, r6, r7, b1, b2, b3, b4, n1, n2, n3, n4⟩⟩ := hT
  obtain ⟨h0, h1, h2, l1, l2, ob, ok⟩ := hL
  have hw := wh_bd r2.1 r2.2 r3.1 r3.2
  obtain ⟨gR, gT, gL⟩ := rem_facts hR hT0 hL0 hP hpe hun hta (tb := tb)
  have gR0 : (remH H pe un le ta tb bl sl)[0]? = _ := gR
  have g13 := gL.1
  have hnO : 0 ≤ nO bl (wd * ht).toNat ∧ nO bl (wd * ht).toNat ≤ (wd * ht).toNat := cn_bd _ _
  refine Call_of rfl ?_
  refine E_aload_n (pc' := 1) g63_0 rfl rfl ?_
  refine E_getR (pc' := 4) g63_1 f63_23 tg6_3 rfl (by assumption) rfl ?_
  refine E_cV0i (pc' := 7) g63_4 k63_142 na36 rfl ow36 rfl (Nat.le_of_ble_eq_true rfl) (by assumption) (C_squares hT0) (by decide) ?_
  refine E_aload_n (pc' := 8) g63_7 rfl rfl ?_
  refine E_cV0i (pc' := 11) g63_8 k63_138 na87 rfl ow87 rfl (Nat.le_of_ble_eq_true rfl) (by assumption) (C_openSq hR hT0 hL0) (by decide) ?_
  refine E_isub (pc' := 12) g63_11 (m_in_iff.mpr (by omega)) rfl ?_
  refine E_st1 (pc' := 13) g63_12 rfl ?_
  refine E_aload_n (pc' := 14) g63_13 rfl rfl ?_
  refine E_cV0v (pc' := 17) g63_14 k63_132 na89 rfl ow89 rfl (Nat.le_of_ble_eq_true rfl) (by assumption) (show Call 2 89 [mR 0] H none (remH H pe un le ta tb bl sl) from C_remember hR hT0 hL0 hP hpe hun) (by decide) ?_
  refine E_aload_n (pc' := 18) g63_17 rfl rfl ?_
  refine E_getR (pc' := 21) g63_18 f63_33 tg6_5 rfl (by assumption) rfl ?_
  refine E_cV0v (pc' := 24) g63_21 k63_145 na16 rfl ow16 rfl (Nat.le_of_ble_eq_true rfl) (by assumption) (C_openAll gL) (by decide) ?_
  refine E_iload_n (pc' := 25) g63_24 rfl rfl ?_
  exact E_iret g63_25 ro63 rfl rfl
theorem C_undo_no (hR : isRoot H le ta tb pe un) (hT : isTold H ta kd wd ht rm mo sd bo ed hu sk hv) (hL : isLay H 13 bl sl) (hun : un < 1) : Call 2 64 [mR 0] H (mI (-2)) H := by
  have hT0 := hT
  have hL0 := hL
  have hR0 : H[0]? = _ := hR
  obtain ⟨t0, t1, t2, t3, t4, ⟨r1, r2, r3, r4, r5, r6, r7, b1, b2, b3, b4, n1, n2, n3, n4⟩⟩ := hT
  obtain ⟨h0, h1, h2, l1, l2, ob, ok⟩ := hL
  have hw := wh_bd r2.1 r2.2 r3.1 r3.2
  refine Call_of rfl ?_
  refine E_aload_n (pc' := 1) g64_0 rfl rfl ?_
  refine E_getI (pc' := 4) g64_1 f64_93 tg6_9 (by decide) rfl (by assumption) rfl ?_
  refine E_iconst (pc' := 5) g64_4 (by decide) rfl ?_
  refine E_icge (pc' := 8) (pt := 11) g64_5 rfl rfl (fun c0 => ?_) (fun c0 => ?_)
  · first
    | (exfalso; omega)
    | (exfalso; omega)
  · first
    | (exfalso; omega)
    | (refine E_bipush (pc' := 10) g64_8 (by decide) rfl ?_
       exact E_iret g64_10 ro64 rfl rfl)
theorem C_undo (hR : isRoot H le ta tb pe un) (hT : isTold H ta kd wd ht rm mo sd bo ed hu sk hv) (hL : isLay H 13 bl sl) (hP : isPast H PB PS) (hpe : 0 ≤ pe ∧ pe < 10) (hun : 1 ≤ un ∧ un ≤ 10) (hta : ta = 3 ∨ ta = 8) : Call 2 64 [mR 0] H (mI (un - 1)) (pt (pt (pt H 0 (rootL le ta tb ((pe + 10 - 1).tmod 10) (un - 1))) 14 (PB ((pe + 10 - 1).tmod 10).toNat)) 15 (PS ((pe + 10 - 1).tmod 10).toNat)) := by
  have hT0 := hT
  have hL0 := hL
  have hR0 : H[0]? = _ := hR
  obtain ⟨t0, t1, t2, t3, t4, ⟨r1, r2, r3, r4, r5, r6, r7, b1, b2, b3, b4, n1, n2, n3, n4⟩⟩ := hT
  obtain ⟨h0, h1, h2, l1, l2, ob, ok⟩ := hL
  have hw := wh_bd r2.1 r2.2 r3.1 r3.2
  have hm : 0 ≤ (pe + 10 - 1).tmod 10 ∧ (pe + 10 - 1).tmod 10 < 10 := by
    rw [Int.tmod_eq_emod_of_nonneg (by omega)]
    omega
  obtain ⟨p2, hp2⟩ : ∃ p2, p2 = (pe + 10 - 1).tmod 10 := ⟨_, rfl⟩
  rw [← hp2] at hm ⊢
  have hp19 := hP.1
  have hpp := lay_keep (x := 0) (fs := rootL le ta tb p2 (un - 1)) (hP.2 p2.toNat (by omega)) (by omega)
  have hL2 := lay_keep (x := 0) (fs := rootL le ta tb p2 (un - 1)) hL0 (by omega)
  have hpa : 38 ≤ pastA p2 := by unfold pastA; omega
  have gR : (pt H 0 (rootL le ta tb p2 (un - 1)))[0]? = some (6, rootL le ta tb p2 (un - 1)) := pt_self hR0
  refine Call_of rfl ?_
  refine E_aload_n (pc' := 1) g64_0 rfl rfl ?_
  refine E_getI (pc' := 4) g64_1 f64_93 tg6_9 (by decide) rfl (by first | assumption | exact pt_self (by first | assumption | exact pt_self (by first | assumption | exact pt_self (by assumption) | (rw [pt_ne (by omega)]; assumption)) | (rw [pt_ne (by omega)]; first | assumption | exact pt_self (by assumption) | (rw [pt_ne (by omega)]; assumption))) | (rw [pt_ne (by omega)]; first | assumption | exact pt_self (by first | assumption | exact pt_self (by assumption) | (rw [pt_ne (by omega)]; assumption)) | (rw [pt_ne (by omega)]; first | assumption | exact pt_self (by assumption) | (rw [pt_ne (by omega)]; assumption)))) rfl ?_
  refine E_iconst (pc' := 5) g64_4 (by decide) rfl ?_
  refine E_icge (pc' := 8) (pt := 11) g64_5 rfl rfl (fun c0 => ?_) (fun c0 => ?_)
  · first
    | (exfalso; omega)
    | (refine E_aload_n (pc' := 12) g64_11 rfl rfl ?_
       refine E_aload_n (pc' := 13) g64_12 rfl rfl ?_
       refine E_getI (pc' := 16) g64_13 f64_148 tg6_8 (by decide) rfl (by first | assumption | exact pt_self (by first | assumption | exact pt_self (by first | assumption | exact pt_self (by assumption) | (rw [pt_ne (by omega)]; assumption)) | (rw [pt_ne (by omega)]; first | assumption | exact pt_self (by assumption) | (rw [pt_ne (by omega)]; assumption))) | (rw [pt_ne (by omega)]; first | assumption | exact pt_self (by first | assumption | exact pt_self (by assumption) | (rw [pt_ne (by omega)]; assumption)) | (rw [pt_ne (by omega)]; first | assumption | exact pt_self (by assumption) | (rw [pt_ne (by omega)]; assumption)))) rfl ?_
       refine E_bipush (pc' := 18) g64_16 (by decide) rfl ?_
       refine E_iadd (pc' := 19) g64_18 (m_in_iff.mpr (by omega)) rfl ?_
       refine E_iconst (pc' := 20) g64_19 (by decide) rfl ?_
       refine E_isub (pc' := 21) g64_20 (m_in_iff.mpr (by omega)) rfl ?_
       refine E_bipush (pc' := 23) g64_21 (by decide) rfl ?_
       refine E_irem (pc' := 24) g64_23 (by omega) rfl ?_
       rw [← hp2]
       refine E_putf (pc' := 27) g64_24 f64_148 tg6_8 fn6_8 rfl rfl (by first | assumption | exact pt_self (by first | assumption | exact pt_self (by first | assumption | exact pt_self (by assumption) | (rw [pt_ne (by omega)]; assumption)) | (rw [pt_ne (by omega)]; first | assumption | exact pt_self (by assumption) | (rw [pt_ne (by omega)]; assumption))) | (rw [pt_ne (by omega)]; first | assumption | exact pt_self (by first | assumption | exact pt_self (by assumption) | (rw [pt_ne (by omega)]; assumption)) | (rw [pt_ne (by omega)]; first | assumption | exact pt_self (by assumption) | (rw [pt_ne (by omega)]; assumption)))) (Nat.le_of_ble_eq_true rfl) ?_
       refine E_aload_n (pc' := 28) g64_27 rfl rfl ?_
       refine E_dup (pc' := 29) g64_28 rfl ?_
       refine E_getI (pc' := 32) g64_29 f64_93 tg6_9 (by decide) rfl (by first | assumption | exact pt_self (by first | assumption | exact pt_self (by first | assumption | exact pt_self (by assumption) | (rw [pt_ne (by omega)]; assumption)) | (rw [pt_ne (by omega)]; first | assumption | exact pt_self (by assumption) | (rw [pt_ne (by omega)]; assumption))) | (rw [pt_ne (by omega)]; first | assumption | exact pt_self (by first | assumption | exact pt_self (by assumption) | (rw [pt_ne (by omega)]; assumption)) | (rw [pt_ne (by omega)]; first | assumption | exact pt_self (by assumption) | (rw [pt_ne (by omega)]; assumption)))) rfl ?_
       refine E_iconst (pc' := 33) g64_32 (by decide) rfl ?_
       refine E_isub (pc' := 34) g64_33 (m_in_iff.mpr (by omega)) rfl ?_
       refine E_putf (pc' := 37) g64_34 f64_93 tg6_9 fn6_9 rfl rfl (by first | assumption | exact pt_self (by first | assumption | exact pt_self (by first | assumption | exact pt_self (by assumption) | (rw [pt_ne (by omega)]; assumption)) | (rw [pt_ne (by omega)]; first | assumption | exact pt_self (by assumption) | (rw [pt_ne (by omega)]; assumption))) | (rw [pt_ne (by omega)]; first | assumption | exact pt_self (by first | assumption | exact pt_self (by assumption) | (rw [pt_ne (by omega)]; assumption)) | (rw [pt_ne (by omega)]; first | assumption | exact pt_self (by assumption) | (rw [pt_ne (by omega)]; assumption)))) (Nat.le_of_ble_eq_true rfl) ?_
       refine Ev_cast (H := pt H 0 (rootL le ta tb p2 (un - 1))) ?_ rfl (by rw [pt_pt]; rfl)
       refine E_aload_n (pc' := 38) g64_37 rfl rfl ?_
       refine E_getR (pc' := 41) g64_38 f64_33 tg6_5 rfl (by first | assumption | exact pt_self (by first | assumption | exact pt_self (by first | assumption | exact pt_self (by assumption) | (rw [pt_ne (by omega)]; assumption)) | (rw [pt_ne (by omega)]; first | assumption | exact pt_self (by assumption) | (rw [pt_ne (by omega)]; assumption))) | (rw [pt_ne (by omega)]; first | assumption | exact pt_self (by first | assumption | exact pt_self (by assumption) | (rw [pt_ne (by omega)]; assumption)) | (rw [pt_ne (by omega)]; first | assumption | exact pt_self (by assumption) | (rw [pt_ne (by omega)]; assumption)))) rfl ?_
       refine E_aload_n (pc' := 42) g64_41 rfl rfl ?_
       refine E_getR (pc' := 45) g64_42 f64_40 tg6_7 rfl (by first | assumption | exact pt_self (by first | assumption | exact pt_self (by first | assumption | exact pt_self (by assumption) | (rw [pt_ne (by omega)]; assumption)) | (rw [pt_ne (by omega)]; first | assumption | exact pt_self (by assumption) | (rw [pt_ne (by omega)]; assumption))) | (rw [pt_ne (by omega)]; first | assumption | exact pt_self (by first | assumption | exact pt_self (by assumption) | (rw [pt_ne (by omega)]; assumption)) | (rw [pt_ne (by omega)]; first | assumption | exact pt_self (by assumption) | (rw [pt_ne (by omega)]; assumption)))) rfl ?_
       refine E_aload_n (pc' := 46) g64_45 rfl rfl ?_
       refine E_getI (pc' := 49) g64_46 f64_148 tg6_8 (by decide) rfl (by first | assumption | exact pt_self (by first | assumption | exact pt_self (by first | assumption | exact pt_self (by assumption) | (rw [pt_ne (by omega)]; assumption)) | (rw [pt_ne (by omega)]; first | assumption | exact pt_self (by assumption) | (rw [pt_ne (by omega)]; assumption))) | (rw [pt_ne (by omega)]; first | assumption | exact pt_self (by first | assumption | exact pt_self (by assumption) | (rw [pt_ne (by omega)]; assumption)) | (rw [pt_ne (by omega)]; first | assumption | exact pt_self (by assumption) | (rw [pt_ne (by omega)]; assumption)))) rfl ?_
       refine E_aaload (pc' := 50) g64_49 rfl (by first | assumption | exact pt_self (by first | assumption | exact pt_self (by first | assumption | exact pt_self (by assumption) | (rw [pt_ne (by omega)]; assumption)) | (rw [pt_ne (by omega)]; first | assumption | exact pt_self (by assumption) | (rw [pt_ne (by omega)]; assumption))) | (rw [pt_ne (by omega)]; first | assumption | exact pt_self (by first | assumption | exact pt_self (by assumption) | (rw [pt_ne (by omega)]; assumption)) | (rw [pt_ne (by omega)]; first | assumption | exact pt_self (by assumption) | (rw [pt_ne (by omega)]; assumption)))) (by omega) (past_get hm.1 hm.2) ?_
       refine E_cV1v (pc' := 53) g64_50 k64_151 na15 rfl ow15 rfl (Nat.le_of_ble_eq_true rfl) (by first | assumption | exact pt_self (by first | assumption | exact pt_self (by first | assumption | exact pt_self (by assumption) | (rw [pt_ne (by omega)]; assumption)) | (rw [pt_ne (by omega)]; first | assumption | exact pt_self (by assumption) | (rw [pt_ne (by omega)]; assumption))) | (rw [pt_ne (by omega)]; first | assumption | exact pt_self (by first | assumption | exact pt_self (by assumption) | (rw [pt_ne (by omega)]; assumption)) | (rw [pt_ne (by omega)]; first | assumption | exact pt_self (by assumption) | (rw [pt_ne (by omega)]; assumption)))) (C_become hL2 (show isLay _ (pastA p2) _ _ from hpp) (by omega)) (by decide) ?_
       refine E_aload_n (pc' := 54) g64_53 rfl rfl ?_
       refine E_getI (pc' := 57) g64_54 f64_93 tg6_9 (by decide) rfl (by first | assumption | exact pt_self (by first | assumption | exact pt_self (by first | assumption | exact pt_self (by assumption) | (rw [pt_ne (by omega)]; assumption)) | (rw [pt_ne (by omega)]; first | assumption | exact pt_self (by assumption) | (rw [pt_ne (by omega)]; assumption))) | (rw [pt_ne (by omega)]; first | assumption | exact pt_self (by first | assumption | exact pt_self (by assumption) | (rw [pt_ne (by omega)]; assumption)) | (rw [pt_ne (by omega)]; first | assumption | exact pt_self (by assumption) | (rw [pt_ne (by omega)]; assumption)))) rfl ?_
       exact E_iret g64_57 ro64 rfl rfl)
  · first
    | (exfalso; omega)
    | (refine E_bipush (pc' := 10) g64_8 (by decide) rfl ?_
       exact E_iret g64_10 ro64 rfl rfl)
end QD
