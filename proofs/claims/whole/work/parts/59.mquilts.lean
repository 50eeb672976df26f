/-! the model: many, quilt, sure, wanting -/
section NT
variable {H0 H : mH} {kd un nk le ap nu me op de fo bs bu wd ht rm mo sd bo : Int} {ed hu bl sl td tt ss : List Int} {A W oa tr T : List Int} {n N : Nat} {fi : List Int}
theorem M_go (hM : H[74]? = some (7, mdL kd un nk le ap nu me op de fo bs bu)) (hD : okD kd wd ht rm mo sd bo ed hu) (hz : H[75]? = some (8, [wd, ht, rm, mo, sd, bo])) (htd : H[76]? = some (8, td)) (hrT : relT td ed hu kd) (hss : H[77]? = some (8, ss)) (hrS : relS ss bl sl kd) (htt : H[85]? = some (8, tt)) (ht15 : tt.length = 15) (h87 : H[87]? = some (8, oa)) (hol : oa.length = 9) (h88 : H[88]? = some (8, tr)) (htl : tr.length = 9) (hn : (n : Int) = wd * ht) (hbl : bl.length = 6) : ∃ H2, fre H bl sl td ed hu kd wd ht rm mo sd bo un nk le ap nu me (-9) (-9) n H2 ∧ Call 0 116 [mR 74] H none (pt H 85 ss) ∧ Call 1 139 [mR 74] (pt H 85 ss) none H2 := by
  obtain ⟨H2, h1, h2⟩ := M_starts (H := pt H 85 ss) (pt_nx (by decide) hM) hD (pt_nx (by decide) hz) (pt_nx (by decide) htd) hrT (pt_self htt) hrS (pt_nx (by decide) h87) hol (pt_nx (by decide) h88) htl hn hbl
  exact ⟨H2, fre_fr (Fr_pt (by unfold inMs; omega) htt (by rw [hrS.1, ht15])) h1, M_tries hM htt ht15 hss hrS.1, h2⟩
theorem M_many_no (hM : H[74]? = some (7, mdL kd un nk le ap nu me op de fo bs bu)) (hD : okD kd wd ht rm mo sd bo ed hu) {L : Int} (hno : ¬ (1 ≤ L ∧ L ≤ 300)) : Call 5 142 [mR 74, mI L] H (mI (-1)) H := by
  have e1 := inC_or L 1 300
  refine Call_of rfl ?_
  refine E_iload_n (pc' := 1) g142_0 rfl rfl ?_
  refine E_iconst (pc' := 2) g142_1 (by decide) rfl ?_
  refine E_sipush (pc' := 5) g142_2 (by decide) rfl ?_
  refine E_cS3i (pc' := 8) g142_5 k142_81 na97 rfl rfl (Nat.le_of_ble_eq_true rfl) M_in (by decide) ?_
  refine E_ifne (pc' := 11) (pt := 13) g142_8 rfl rfl (fun c0 => ?_) (fun c0 => ?_)
  · first
    | (exfalso; omega)
    | (exfalso; omega)
  · first
    | (exfalso; omega)
    | (refine E_iconst (pc' := 12) g142_11 (by decide) rfl ?_
       exact E_iret g142_12 ro142 rfl rfl)
theorem M_manyL {L : Int} (hL : L ≤ 300) : ∀ (k : Nat) (c : Int) (R : List (List Int)) (H2 : mH), 0 ≤ c → c + k = L → sst H0 bl sl td ed hu kd wd ht rm mo sd bo un nk le ap nu me bs bu n R H2 → ∃ H3, mOut H0 H3 kd un nk le ap nu me ∧ Ev 5 142 23 [mR 74, mI L, mI c] [] H2 (mI (c + min (k : Int) R.length)) H3
  | 0, c, R, H2, h0, hc, hs => by
    refine ⟨H2, sst_out hs, ?_⟩
    refine E_iload_n (pc' := 24) g142_23 rfl rfl ?_
    refine E_iload_n (pc' := 25) g142_24 rfl rfl ?_
    refine E_icge (pc' := 28) (pt := 41) g142_25 rfl rfl (fun c0 => ?_) (fun c0 => ?_)
    · first
      | (exfalso; omega)
      | (refine E_iload_n (pc' := 42) g142_41 rfl rfl ?_
         exact E_iret g142_42 ro142 (congrArg mI (by omega)) rfl)
    · first
      | (exfalso; omega)
      | (exfalso; omega)
  | k + 1, c, R, H2, h0, hc, hs => by
    obtain ⟨f1, op, de, fo, bs, bu, g74⟩ := sst_out hs
    rcases M_nq hs with ⟨rfl, H3, h3, hq⟩ | ⟨x, xs, H3, rfl, h3, hq⟩
    · refine ⟨H3, h3, ?_⟩
      have e0 : (([] : List (List Int)).length : Int) = 0 := rfl
      refine E_iload_n (pc' := 24) g142_23 rfl rfl ?_
      refine E_iload_n (pc' := 25) g142_24 rfl rfl ?_
      refine E_icge (pc' := 28) (pt := 41) g142_25 rfl rfl (fun c0 => ?_) (fun c0 => ?_)
      · first
        | (exfalso; omega)
        | (refine E_iload_n (pc' := 42) g142_41 rfl rfl ?_
           exact E_iret g142_42 ro142 (congrArg mI (by omega)) rfl)
      · first
        | (exfalso; omega)
        | (refine E_aload_n (pc' := 29) g142_28 rfl rfl ?_
           refine E_cV0i (pc' := 32) g142_29 k142_198 na141 rfl ow141 rfl (Nat.le_of_ble_eq_true rfl) g74 hq (by decide) ?_
           refine E_ifeq (pc' := 35) (pt := 41) g142_32 rfl rfl (fun c1 => ?_) (fun c1 => ?_)
           · first
             | (exfalso; omega)
             | (refine E_iload_n (pc' := 42) g142_41 rfl rfl ?_
                exact E_iret g142_42 ro142 (congrArg mI (by omega)) rfl)
           · first
             | (exfalso; omega)
             | (exfalso; omega))
    · obtain ⟨H4, h4, hev⟩ := M_manyL hL k (c + 1) xs H3 (by omega) (by omega) (Or.inr ⟨x, h3⟩)
      refine ⟨H4, h4, ?_⟩
      have e : c + min ((k + 1 : Nat) : Int) ((x :: xs).length : Int) = c + 1 + min (k : Int) xs.length := by
        rw [List.length_cons]
        omega
      rw [e]
      refine E_iload_n (pc' := 24) g142_23 rfl rfl ?_
      refine E_iload_n (pc' := 25) g142_24 rfl rfl ?_
      refine E_icge (pc' := 28) (pt := 41) g142_25 rfl rfl (fun c0 => ?_) (fun c0 => ?_)
      · first
        | (exfalso; omega)
        | (refine E_iload_n (pc' := 42) g142_41 rfl rfl ?_
           exact E_iret g142_42 ro142 (congrArg mI (by omega)) rfl)
      · first
        | (exfalso; omega)
        | (refine E_aload_n (pc' := 29) g142_28 rfl rfl ?_
           refine E_cV0i (pc' := 32) g142_29 k142_198 na141 rfl ow141 rfl (Nat.le_of_ble_eq_true rfl) g74 hq (by decide) ?_
           refine E_ifeq (pc' := 35) (pt := 41) g142_32 rfl rfl (fun c1 => ?_) (fun c1 => ?_)
           · first
             | (exfalso; omega)
             | (refine E_iload_n (pc' := 42) g142_41 rfl rfl ?_
                exact E_iret g142_42 ro142 (congrArg mI (by omega)) rfl)
           · first
             | (exfalso; omega)
             | (refine E_in2 (pc' := 38) g142_35 rfl (m_in_iff.mpr (by omega)) ?_
                refine E_goto (pc' := 23) g142_38 rfl ?_
                exact hev))
theorem M_many (hM : H[74]? = some (7, mdL kd un nk le ap nu me op de fo bs bu)) (hD : okD kd wd ht rm mo sd bo ed hu) (hz : H[75]? = some (8, [wd, ht, rm, mo, sd, bo])) (htd : H[76]? = some (8, td)) (hrT : relT td ed hu kd) (hss : H[77]? = some (8, ss)) (hrS : relS ss bl sl kd) (htt : H[85]? = some (8, tt)) (ht15 : tt.length = 15) (h87 : H[87]? = some (8, oa)) (hol : oa.length = 9) (h88 : H[88]? = some (8, tr)) (htl : tr.length = 9) (hn : (n : Int) = wd * ht) (hbl : bl.length = 6) {L : Int} (hL : 1 ≤ L ∧ L ≤ 300) : ∃ H2, mOut H H2 kd un nk le ap nu me ∧ Call 5 142 [mR 74, mI L] H (mI (min L (qts bl sl ed hu kd wd ht rm mo (-9) (-9) n).length)) H2 := by
  have e1 := inC_or L 1 300
  obtain ⟨H1, g1, g2, g3⟩ := M_go hM hD hz htd hrT hss hrS htt ht15 h87 hol h88 htl hn hbl
  obtain ⟨H2, g4, hev⟩ := M_manyL hL.2 L.toNat 0 _ H1 (by omega) (by omega) (Or.inl ⟨g1, rfl⟩)
  rw [show (L.toNat : Int) = L by omega, Int.zero_add] at hev
  refine ⟨H2, g4, ?_⟩
  refine Call_of rfl ?_
  refine E_iload_n (pc' := 1) g142_0 rfl rfl ?_
  refine E_iconst (pc' := 2) g142_1 (by decide) rfl ?_
  refine E_sipush (pc' := 5) g142_2 (by decide) rfl ?_
  refine E_cS3i (pc' := 8) g142_5 k142_81 na97 rfl rfl (Nat.le_of_ble_eq_true rfl) M_in (by decide) ?_
  refine E_ifne (pc' := 11) (pt := 13) g142_8 rfl rfl (fun c0 => ?_) (fun c0 => ?_)
  · first
    | (exfalso; omega)
    | (refine E_aload_n (pc' := 14) g142_13 rfl rfl ?_
       refine E_cV0v (pc' := 17) g142_14 k142_140 na116 rfl ow116 rfl (Nat.le_of_ble_eq_true rfl) hM g2 (by decide) ?_
       refine E_aload_n (pc' := 18) g142_17 rfl rfl ?_
       refine E_cV0v (pc' := 21) g142_18 k142_195 na139 rfl ow139 rfl (Nat.le_of_ble_eq_true rfl) (pt_nx (by decide) hM) g3 (by decide) ?_
       refine E_iconst (pc' := 22) g142_21 (by decide) rfl ?_
       refine E_st2 (pc' := 23) g142_22 rfl ?_
       exact hev)
  · first
    | (exfalso; omega)
    | (exfalso; omega)
theorem M_quilt_no (hM : H[74]? = some (7, mdL kd un nk le ap nu me op de fo bs bu)) (hD : okD kd wd ht rm mo sd bo ed hu) (hz : H[75]? = some (8, [wd, ht, rm, mo, sd, bo])) {k s : Int} (hno : ¬ (0 ≤ k ∧ k < 300 ∧ 0 ≤ s ∧ s < wd * ht)) : Call 5 143 [mR 74, mI k, mI s] H (mI (-1)) H := by
  have e1 := inC_or k 0 299
  have e2 := inI_or s 0 (wd * ht)
  have hD0 := hD
  refine Call_of rfl ?_
  refine E_iload_n (pc' := 1) g143_0 rfl rfl ?_
  refine E_iconst (pc' := 2) g143_1 (by decide) rfl ?_
  refine E_sipush (pc' := 5) g143_2 (by decide) rfl ?_
  refine E_cS3i (pc' := 8) g143_5 k143_81 na97 rfl rfl (Nat.le_of_ble_eq_true rfl) M_in (by decide) ?_
  refine E_ifeq (pc' := 11) (pt := 19) g143_8 rfl rfl (fun c0 => ?_) (fun c0 => ?_)
  · first
    | (exfalso; omega)
    | (refine E_iconst (pc' := 20) g143_19 (by decide) rfl ?_
       exact E_iret g143_20 ro143 rfl rfl)
  · first
    | (exfalso; omega)
    | (refine E_aload_n (pc' := 12) g143_11 rfl rfl ?_
       refine E_iload_n (pc' := 13) g143_12 rfl rfl ?_
       refine E_cV1i (pc' := 16) g143_13 k143_149 na112 rfl ow112 rfl (Nat.le_of_ble_eq_true rfl) hM (M_isSquare hM hD0 hz) (by decide) ?_
       refine E_ifne (pc' := 19) (pt := 21) g143_16 rfl rfl (fun c1 => ?_) (fun c1 => ?_)
       · first
         | (exfalso; omega)
         | (exfalso; omega)
       · first
         | (exfalso; omega)
         | (refine E_iconst (pc' := 20) g143_19 (by decide) rfl ?_
            exact E_iret g143_20 ro143 rfl rfl))
theorem M_quiltL {k s : Int} (hk : k < 300) (hs6 : 0 ≤ s ∧ s < 6) : ∀ (j : Nat) (c : Int) (R : List (List Int)) (H2 : mH), 0 ≤ c → c + j = k → sst H0 bl sl td ed hu kd wd ht rm mo sd bo un nk le ap nu me bs bu n R H2 → ∃ H3, mOut H0 H3 kd un nk le ap nu me ∧ Ev 5 143 31 [mR 74, mI k, mI s, mI c] [] H2 (mI (qtR R j s)) H3
  | 0, c, R, H2, h0, hc, hs => by
    obtain ⟨f1, op, de, fo, bs, bu, g74⟩ := sst_out hs
    rcases M_nq hs with ⟨rfl, H3, h3, hq⟩ | ⟨x, xs, H3, rfl, h3, hq⟩
    · refine ⟨H3, h3, ?_⟩
      refine E_iload_n (pc' := 32) g143_31 rfl rfl ?_
      refine E_iload_n (pc' := 33) g143_32 rfl rfl ?_
      refine E_icgt (pc' := 36) (pt := 52) g143_33 rfl rfl (fun c0 => ?_) (fun c0 => ?_)
      · first
        | (exfalso; omega)
        | (exfalso; omega)
      · first
        | (exfalso; omega)
        | (refine E_aload_n (pc' := 37) g143_36 rfl rfl ?_
           refine E_cV0i (pc' := 40) g143_37 k143_198 na141 rfl ow141 rfl (Nat.le_of_ble_eq_true rfl) g74 hq (by decide) ?_
           refine E_ifne (pc' := 43) (pt := 46) g143_40 rfl rfl (fun c1 => ?_) (fun c1 => ?_)
           · first
             | (exfalso; omega)
             | (exfalso; omega)
           · first
             | (exfalso; omega)
             | (refine E_bipush (pc' := 45) g143_43 (by decide) rfl ?_
                exact E_iret g143_45 ro143 rfl rfl))
    · obtain ⟨⟨f3, op3, de3, fo3, bs3, bu3, k74⟩, tt3, k85, hr3⟩ := fou_out h3
      refine ⟨H3, (fou_out h3).1, ?_⟩
      have hl3 := hr3.1
      have hv3 := hr3.2.1 s (by omega) (by omega)
      refine E_iload_n (pc' := 32) g143_31 rfl rfl ?_
      refine E_iload_n (pc' := 33) g143_32 rfl rfl ?_
      refine E_icgt (pc' := 36) (pt := 52) g143_33 rfl rfl (fun c0 => ?_) (fun c0 => ?_)
      · first
        | (exfalso; omega)
        | (exfalso; omega)
      · first
        | (exfalso; omega)
        | (refine E_aload_n (pc' := 37) g143_36 rfl rfl ?_
           refine E_cV0i (pc' := 40) g143_37 k143_198 na141 rfl ow141 rfl (Nat.le_of_ble_eq_true rfl) g74 hq (by decide) ?_
           refine E_ifne (pc' := 43) (pt := 46) g143_40 rfl rfl (fun c1 => ?_) (fun c1 => ?_)
           · first
             | (exfalso; omega)
             | (refine E_in3 (pc' := 49) g143_46 rfl (m_in_iff.mpr (by omega)) ?_
                refine E_goto (pc' := 31) g143_49 rfl ?_
                refine E_iload_n (pc' := 32) g143_31 rfl rfl ?_
                refine E_iload_n (pc' := 33) g143_32 rfl rfl ?_
                refine E_icgt (pc' := 36) (pt := 52) g143_33 rfl rfl (fun c0 => ?_) (fun c0 => ?_)
                · first
                  | (exfalso; omega)
                  | (refine E_aload_n (pc' := 53) g143_52 rfl rfl ?_
                     refine E_getR (pc' := 56) g143_53 f143_41 tg7_17 rfl k74 rfl ?_
                     refine E_iload_n (pc' := 57) g143_56 rfl rfl ?_
                     refine E_iald (pc' := 58) (v := ix x s) g143_57 rfl k85 (by omega) (by omega) hv3 ?_
                     exact E_iret g143_58 ro143 rfl rfl)
                · first
                  | (exfalso; omega)
                  | (exfalso; omega))
           · first
             | (exfalso; omega)
             | (exfalso; omega))
  | j + 1, c, R, H2, h0, hc, hs => by
    obtain ⟨f1, op, de, fo, bs, bu, g74⟩ := sst_out hs
    rcases M_nq hs with ⟨rfl, H3, h3, hq⟩ | ⟨x, xs, H3, rfl, h3, hq⟩
    · refine ⟨H3, h3, ?_⟩
      refine E_iload_n (pc' := 32) g143_31 rfl rfl ?_
      refine E_iload_n (pc' := 33) g143_32 rfl rfl ?_
      refine E_icgt (pc' := 36) (pt := 52) g143_33 rfl rfl (fun c0 => ?_) (fun c0 => ?_)
      · first
        | (exfalso; omega)
        | (exfalso; omega)
      · first
        | (exfalso; omega)
        | (refine E_aload_n (pc' := 37) g143_36 rfl rfl ?_
           refine E_cV0i (pc' := 40) g143_37 k143_198 na141 rfl ow141 rfl (Nat.le_of_ble_eq_true rfl) g74 hq (by decide) ?_
           refine E_ifne (pc' := 43) (pt := 46) g143_40 rfl rfl (fun c1 => ?_) (fun c1 => ?_)
           · first
             | (exfalso; omega)
             | (exfalso; omega)
           · first
             | (exfalso; omega)
             | (refine E_bipush (pc' := 45) g143_43 (by decide) rfl ?_
                exact E_iret g143_45 ro143 rfl rfl))
    · obtain ⟨H4, h4, hev⟩ := M_quiltL hk hs6 j (c + 1) xs H3 (by omega) (by omega) (Or.inr ⟨x, h3⟩)
      refine ⟨H4, h4, ?_⟩
      have e : qtR (x :: xs) ((j + 1 : Nat) : Int) s = qtR xs (j : Int) s := by
        unfold qtR
        rw [Int.toNat_natCast, Int.toNat_natCast, List.getElem?_cons_succ]
      rw [e]
      refine E_iload_n (pc' := 32) g143_31 rfl rfl ?_
      refine E_iload_n (pc' := 33) g143_32 rfl rfl ?_
      refine E_icgt (pc' := 36) (pt := 52) g143_33 rfl rfl (fun c0 => ?_) (fun c0 => ?_)
      · first
        | (exfalso; omega)
        | (exfalso; omega)
      · first
        | (exfalso; omega)
        | (refine E_aload_n (pc' := 37) g143_36 rfl rfl ?_
           refine E_cV0i (pc' := 40) g143_37 k143_198 na141 rfl ow141 rfl (Nat.le_of_ble_eq_true rfl) g74 hq (by decide) ?_
           refine E_ifne (pc' := 43) (pt := 46) g143_40 rfl rfl (fun c1 => ?_) (fun c1 => ?_)
           · first
             | (exfalso; omega)
             | (refine E_in3 (pc' := 49) g143_46 rfl (m_in_iff.mpr (by omega)) ?_
                refine E_goto (pc' := 31) g143_49 rfl ?_
                exact hev)
           · first
             | (exfalso; omega)
             | (exfalso; omega))
theorem M_quilt (hM : H[74]? = some (7, mdL kd un nk le ap nu me op de fo bs bu)) (hD : okD kd wd ht rm mo sd bo ed hu) (hz : H[75]? = some (8, [wd, ht, rm, mo, sd, bo])) (htd : H[76]? = some (8, td)) (hrT : relT td ed hu kd) (hss : H[77]? = some (8, ss)) (hrS : relS ss bl sl kd) (htt : H[85]? = some (8, tt)) (ht15 : tt.length = 15) (h87 : H[87]? = some (8, oa)) (hol : oa.length = 9) (h88 : H[88]? = some (8, tr)) (htl : tr.length = 9) (hn : (n : Int) = wd * ht) (hbl : bl.length = 6) {k s : Int} (hk : 0 ≤ k ∧ k < 300 ∧ 0 ≤ s ∧ s < wd * ht) : ∃ H2, mOut H H2 kd un nk le ap nu me ∧ Call 5 143 [mR 74, mI k, mI s] H (mI (qtR (qts bl sl ed hu kd wd ht rm mo (-9) (-9) n) k s)) H2 := by
  have e1 := inC_or k 0 299
  have e2 := inI_or s 0 (wd * ht)
  have hD0 := hD
  obtain ⟨H1, g1, g2, g3⟩ := M_go hM hD hz htd hrT hss hrS htt ht15 h87 hol h88 htl hn hbl
  obtain ⟨r1, r2, r3, r4, r5, r6, r7, b1, b2⟩ := hD
  have hw := wh_bd r2.1 r2.2 r3.1 r3.2
  obtain ⟨H2, g4, hev⟩ := M_quiltL (k := k) (s := s) (by omega) (by omega) k.toNat 0 _ H1 (by omega) (by omega) (Or.inl ⟨g1, rfl⟩)
  rw [show (k.toNat : Int) = k by omega] at hev
  refine ⟨H2, g4, ?_⟩
  refine Call_of rfl ?_
  refine E_iload_n (pc' := 1) g143_0 rfl rfl ?_
  refine E_iconst (pc' := 2) g143_1 (by decide) rfl ?_
  refine E_sipush (pc' := 5) g143_2 (by decide) rfl ?_
  refine E_cS3i (pc' := 8) g143_5 k143_81 na97 rfl rfl (Nat.le_of_ble_eq_true rfl) M_in (by decide) ?_
  refine E_ifeq (pc' := 11) (pt := 19) g143_8 rfl rfl (fun c0 => ?_) (fun c0 => ?_)
  · first
    | (exfalso; omega)
    | (exfalso; omega)
  · first
    | (exfalso; omega)
    | (refine E_aload_n (pc' := 12) g143_11 rfl rfl ?_
       refine E_iload_n (pc' := 13) g143_12 rfl rfl ?_
       refine E_cV1i (pc' := 16) g143_13 k143_149 na112 rfl ow112 rfl (Nat.le_of_ble_eq_true rfl) hM (M_isSquare hM hD0 hz) (by decide) ?_
       refine E_ifne (pc' := 19) (pt := 21) g143_16 rfl rfl (fun c1 => ?_) (fun c1 => ?_)
       · first
         | (exfalso; omega)
         | (refine E_aload_n (pc' := 22) g143_21 rfl rfl ?_
            refine E_cV0v (pc' := 25) g143_22 k143_140 na116 rfl ow116 rfl (Nat.le_of_ble_eq_true rfl) hM g2 (by decide) ?_
            refine E_aload_n (pc' := 26) g143_25 rfl rfl ?_
            refine E_cV0v (pc' := 29) g143_26 k143_195 na139 rfl ow139 rfl (Nat.le_of_ble_eq_true rfl) (pt_nx (by decide) hM) g3 (by decide) ?_
            refine E_iconst (pc' := 30) g143_29 (by decide) rfl ?_
            refine E_st3 (pc' := 31) g143_30 rfl ?_
            exact hev)
       · first
         | (exfalso; omega)
         | (exfalso; omega))
theorem M_wanting_no (hM : H[74]? = some (7, mdL kd un nk le ap nu me op de fo bs bu)) (hD : okD kd wd ht rm mo sd bo ed hu) {k : Int} (hno : ¬ (0 ≤ k ∧ k < kd)) : Call 5 146 [mR 74, mI k] H (mI (-1)) H := by
  have e1 := inI_or k 0 kd
  have hD0 := hD
  refine Call_of rfl ?_
  refine E_aload_n (pc' := 1) g146_0 rfl rfl ?_
  refine E_iload_n (pc' := 2) g146_1 rfl rfl ?_
  refine E_cV1i (pc' := 5) g146_2 k146_136 na109 rfl ow109 rfl (Nat.le_of_ble_eq_true rfl) hM (M_isKind hM hD0) (by decide) ?_
  refine E_ifne (pc' := 8) (pt := 10) g146_5 rfl rfl (fun c0 => ?_) (fun c0 => ?_)
  · first
    | (exfalso; omega)
    | (exfalso; omega)
  · first
    | (exfalso; omega)
    | (refine E_iconst (pc' := 9) g146_8 (by decide) rfl ?_
       exact E_iret g146_9 ro146 rfl rfl)
theorem M_wanting (hM : H[74]? = some (7, mdL kd un nk le ap nu me op de fo bs bu)) (hD : okD kd wd ht rm mo sd bo ed hu) (hz : H[75]? = some (8, [wd, ht, rm, mo, sd, bo])) (htd : H[76]? = some (8, td)) (hrT : relT td ed hu kd) (hss : H[77]? = some (8, ss)) (hrS : relS ss bl sl kd) (htt : H[85]? = some (8, tt)) (ht15 : tt.length = 15) (h87 : H[87]? = some (8, oa)) (hol : oa.length = 9) (h88 : H[88]? = some (8, tr)) (htl : tr.length = 9) (hn : (n : Int) = wd * ht) (hbl : bl.length = 6) (hsl : sl.length = 6) {k r : Int} (hk : 0 ≤ k ∧ k < kd) (hr : wantR (fun t => qts bl (up sl k t) ed hu kd wd ht rm mo (-9) (-9) n) r) : ∃ H2, mOut H H2 kd un nk le ap nu me ∧ Call 5 146 [mR 74, mI k] H (mI r) H2 := by
  have e1 := inI_or k 0 kd
  have hD0 := hD
  obtain ⟨r1, r2, r3, r4, r5, r6, r7, b1, b2⟩ := hD
  have hlo : ∀ i : Nat, i ≤ 10 → ∀ Hc, mOut H Hc kd un nk le ap nu me → (∀ u : Int, 0 ≤ u → u < i → qts bl (up sl k u) ed hu kd wd ht rm mo (-9) (-9) n = []) → ∃ H2, mOut H H2 kd un nk le ap nu me ∧ Ev 5 146 12 [mR 74, mI k, mI (i : Int)] [] Hc (mI r) H2 := by
    refine E_loop (n := 10) _ ?_ ?_
    · intro i hi hh Hc hO hall
      obtain ⟨hF, op2, de2, fo2, bs2, bu2, cM⟩ := hO
      have cz : Hc[75]? = _ := (hF.2 75 (by unfold inMs; omega)).trans hz
      have ctd : Hc[76]? = _ := (hF.2 76 (by unfold inMs; omega)).trans htd
      have css : Hc[77]? = _ := (hF.2 77 (by unfold inMs; omega)).trans hss
      obtain ⟨t2, ct, ctl⟩ := cell_fr hF htt
      obtain ⟨o2, co, col⟩ := cell_fr hF h87
      obtain ⟨r2', cr, crl⟩ := cell_fr hF h88
      have hrS2 := relS_s (x := (i : Int)) hrS hsl (by omega) hk (by omega)
      have hs15 := hrS.1
      have htr := M_tries cM ct (by omega) css hrS.1
      have e85 : pt (pt Hc 85 ss) 85 (up ss (9 + k) (i : Int)) = pt Hc 85 (up ss (9 + k) (i : Int)) := pt_pt _ _ _ _
      obtain ⟨H3, g1, g2⟩ := M_starts (H := pt Hc 85 (up ss (9 + k) (i : Int))) (pt_nx (by decide) cM) hD0 (pt_nx (by decide) cz) (pt_nx (by decide) ctd) hrT (pt_self ct) hrS2 (pt_nx (by decide) co) (by omega) (pt_nx (by decide) cr) (by omega) hn hbl
      have g1' := fre_fr (Fr_trans hF (Fr_pt (by unfold inMs; omega) ct (by rw [up_len]; omega))) g1
      obtain ⟨f3, op3, de3, fo3, bs3, bu3, k74⟩ := fre_out g1'
      have c74 : (pt Hc 85 ss)[74]? = _ := pt_nx (by decide) cM
      have c74' : (pt Hc 85 (up ss (9 + k) (i : Int)))[74]? = _ := pt_nx (by decide) cM
      have c85 : (pt Hc 85 ss)[85]? = some (8, ss) := pt_self ct
      rcases M_nq1 g1' with ⟨hQ, H4, h4, hq⟩ | ⟨x, xs, H4, hQ, h4, hq⟩
      · obtain ⟨H5, h5, hev⟩ := hh H4 h4 (fun u h0 hu => by
          by_cases e : u = i
          · rw [e]; exact hQ
          · exact hall u h0 (by omega))
        refine ⟨H5, h5, ?_⟩
        refine E_iload_n (pc' := 13) g146_12 rfl rfl ?_
        refine E_bipush (pc' := 15) g146_13 (by decide) rfl ?_
        refine E_icge (pc' := 18) (pt := 51) g146_15 rfl rfl (fun c0 => ?_) (fun c0 => ?_)
        · first
          | (exfalso; omega)
          | (exfalso; omega)
        · first
          | (exfalso; omega)
          | (refine E_aload_n (pc' := 19) g146_18 rfl rfl ?_
             refine E_cV0v (pc' := 22) g146_19 k146_140 na116 rfl ow116 rfl (Nat.le_of_ble_eq_true rfl) cM htr (by decide) ?_
             refine E_aload_n (pc' := 23) g146_22 rfl rfl ?_
             refine E_getR (pc' := 26) g146_23 f146_41 tg7_17 rfl c74 rfl ?_
             refine E_bipush (pc' := 28) g146_26 (by decide) rfl ?_
             refine E_iload_n (pc' := 29) g146_28 rfl rfl ?_
             refine E_iadd (pc' := 30) g146_29 (m_in_iff.mpr (by omega)) rfl ?_
             refine E_iload_n (pc' := 31) g146_30 rfl rfl ?_
             refine E_iastore (pc' := 32) g146_31 rfl c85 (by omega) (by omega) ?_
             rw [e85]
             refine E_aload_n (pc' := 33) g146_32 rfl rfl ?_
             refine E_cV0v (pc' := 36) g146_33 k146_195 na139 rfl ow139 rfl (Nat.le_of_ble_eq_true rfl) c74' g2 (by decide) ?_
             refine E_aload_n (pc' := 37) g146_36 rfl rfl ?_
             refine E_cV0i (pc' := 40) g146_37 k146_198 na141 rfl ow141 rfl (Nat.le_of_ble_eq_true rfl) k74 hq (by decide) ?_
             refine E_ifeq (pc' := 43) (pt := 45) g146_40 rfl rfl (fun c1 => ?_) (fun c1 => ?_)
             · first
               | (exfalso; omega)
               | (refine E_in2 (pc' := 48) g146_45 rfl (m_in_iff.mpr (by omega)) ?_
                  refine E_goto (pc' := 12) g146_48 rfl ?_
                  exact hev)
             · first
               | (exfalso; omega)
               | (exfalso; omega))
      · refine ⟨H4, (fou_out h4).1, ?_⟩
        have hrv : r = (i : Int) := hr.1 i (by omega) (by omega) (fun z => by have z2 := hQ.symm.trans z; cases z2) hall
        refine E_iload_n (pc' := 13) g146_12 rfl rfl ?_
        refine E_bipush (pc' := 15) g146_13 (by decide) rfl ?_
        refine E_icge (pc' := 18) (pt := 51) g146_15 rfl rfl (fun c0 => ?_) (fun c0 => ?_)
        · first
          | (exfalso; omega)
          | (exfalso; omega)
        · first
          | (exfalso; omega)
          | (refine E_aload_n (pc' := 19) g146_18 rfl rfl ?_
             refine E_cV0v (pc' := 22) g146_19 k146_140 na116 rfl ow116 rfl (Nat.le_of_ble_eq_true rfl) cM htr (by decide) ?_
             refine E_aload_n (pc' := 23) g146_22 rfl rfl ?_
             refine E_getR (pc' := 26) g146_23 f146_41 tg7_17 rfl c74 rfl ?_
             refine E_bipush (pc' := 28) g146_26 (by decide) rfl ?_
             refine E_iload_n (pc' := 29) g146_28 rfl rfl ?_
             refine E_iadd (pc' := 30) g146_29 (m_in_iff.mpr (by omega)) rfl ?_
             refine E_iload_n (pc' := 31) g146_30 rfl rfl ?_
             refine E_iastore (pc' := 32) g146_31 rfl c85 (by omega) (by omega) ?_
             rw [e85]
             refine E_aload_n (pc' := 33) g146_32 rfl rfl ?_
             refine E_cV0v (pc' := 36) g146_33 k146_195 na139 rfl ow139 rfl (Nat.le_of_ble_eq_true rfl) c74' g2 (by decide) ?_
             refine E_aload_n (pc' := 37) g146_36 rfl rfl ?_
             refine E_cV0i (pc' := 40) g146_37 k146_198 na141 rfl ow141 rfl (Nat.le_of_ble_eq_true rfl) k74 hq (by decide) ?_
             refine E_ifeq (pc' := 43) (pt := 45) g146_40 rfl rfl (fun c1 => ?_) (fun c1 => ?_)
             · first
               | (exfalso; omega)
               | (exfalso; omega)
             · first
               | (exfalso; omega)
               | (refine E_iload_n (pc' := 44) g146_43 rfl rfl ?_
                  exact E_iret g146_44 ro146 (congrArg mI hrv) rfl))
    · intro Hc hO hall
      refine ⟨Hc, hO, ?_⟩
      have hrv : r = -9 := hr.2 (fun t h0 h9 => hall t h0 (by omega))
      refine E_iload_n (pc' := 13) g146_12 rfl rfl ?_
      refine E_bipush (pc' := 15) g146_13 (by decide) rfl ?_
      refine E_icge (pc' := 18) (pt := 51) g146_15 rfl rfl (fun c0 => ?_) (fun c0 => ?_)
      · first
        | (exfalso; omega)
        | (refine E_bipush (pc' := 53) g146_51 (by decide) rfl ?_
           exact E_iret g146_53 ro146 (congrArg mI hrv) rfl)
      · first
        | (exfalso; omega)
        | (exfalso; omega)
  obtain ⟨H2, h2, hev⟩ := hlo 0 (by omega) H ⟨Fr_refl H, _, _, _, _, _, hM⟩ (fun u h0 hu => absurd hu (by omega))
  refine ⟨H2, h2, ?_⟩
  refine Call_of rfl ?_
  refine E_aload_n (pc' := 1) g146_0 rfl rfl ?_
  refine E_iload_n (pc' := 2) g146_1 rfl rfl ?_
  refine E_cV1i (pc' := 5) g146_2 k146_136 na109 rfl ow109 rfl (Nat.le_of_ble_eq_true rfl) hM (M_isKind hM hD0) (by decide) ?_
  refine E_ifne (pc' := 8) (pt := 10) g146_5 rfl rfl (fun c0 => ?_) (fun c0 => ?_)
  · first
    | (exfalso; omega)
    | (refine E_iconst (pc' := 11) g146_10 (by decide) rfl ?_
       refine E_st2 (pc' := 12) g146_11 rfl ?_
       exact hev)
  · first
    | (exfalso; omega)
    | (exfalso; omega)
def inMx (a : Nat) : Prop := a = 74 ∨ 85 ≤ a ∧ a ≤ 92
theorem M_sure (hM : H[74]? = some (7, mdL kd un nk le ap nu me op de fo bs bu)) (hD : okD kd wd ht rm mo sd bo ed hu) (hz : H[75]? = some (8, [wd, ht, rm, mo, sd, bo])) (htd : H[76]? = some (8, td)) (hrT : relT td ed hu kd) (hss : H[77]? = some (8, ss)) (hrS : relS ss bl sl kd) (htt : H[85]? = some (8, tt)) (ht15 : tt.length = 15) (h87 : H[87]? = some (8, oa)) (hol : oa.length = 9) (h88 : H[88]? = some (8, tr)) (htl : tr.length = 9) (hn : (n : Int) = wd * ht) (hbl : bl.length = 6) (h89 : H[89]? = some (8, fi)) (hfl : fi.length = 9) : ∃ H2, (Fr inMx H H2 ∧ ∃ op de fo bs bu, H2[74]? = some (7, mdL kd un nk le ap nu me op de fo bs bu)) ∧ Call 5 144 [mR 74] H (mI (surR bl n (qts bl sl ed hu kd wd ht rm mo (-9) (-9) n))) H2 := by
  have hD0 := hD
  have up_x : ∀ {Ha Hb : mH}, Fr inMs Ha Hb → Fr inMx Ha Hb := fun h => Fr_up h (fun a q => by unfold inMs at q; unfold inMx; omega)
  obtain ⟨H1, g1, g2, g3⟩ := M_go hM hD hz htd hrT hss hrS htt ht15 h87 hol h88 htl hn hbl
  obtain ⟨r1, r2, r3, r4, r5, r6, r7, b1, b2⟩ := hD
  have hw := wh_bd r2.1 r2.2 r3.1 r3.2
  have hrS0 := hrS
  obtain ⟨nt, q1, q2, q3, q4, q5⟩ := hrS
  obtain ⟨f1, op1, de1, fo1, bs1, bu1, k74⟩ := fre_out g1
  rcases M_nq1 g1 with ⟨hQ, H4, h4, hq⟩ | ⟨x0, xs, H4, hQ, h4, hq⟩
  · refine ⟨H4, ⟨up_x h4.1, h4.2⟩, ?_⟩
    rw [hQ]
    refine Call_of rfl ?_
    refine E_aload_n (pc' := 1) g144_0 rfl rfl ?_
    refine E_cV0v (pc' := 4) g144_1 k144_140 na116 rfl ow116 rfl (Nat.le_of_ble_eq_true rfl) hM g2 (by decide) ?_
    refine E_aload_n (pc' := 5) g144_4 rfl rfl ?_
    refine E_cV0v (pc' := 8) g144_5 k144_195 na139 rfl ow139 rfl (Nat.le_of_ble_eq_true rfl) (pt_nx (by decide) hM) g3 (by decide) ?_
    refine E_aload_n (pc' := 9) g144_8 rfl rfl ?_
    refine E_cV0i (pc' := 12) g144_9 k144_198 na141 rfl ow141 rfl (Nat.le_of_ble_eq_true rfl) k74 hq (by decide) ?_
    refine E_ifne (pc' := 15) (pt := 17) g144_12 rfl rfl (fun c0 => ?_) (fun c0 => ?_)
    · first
      | (exfalso; omega)
      | (exfalso; omega)
    · first
      | (exfalso; omega)
      | (refine E_iconst (pc' := 16) g144_15 (by decide) rfl ?_
         exact E_iret g144_16 ro144 rfl rfl)
  · obtain ⟨⟨f4, op4, de4, fo4, bs4, bu4, m74⟩, tt4, m85, hr4⟩ := fou_out h4
    have m89 : H4[89]? = some (8, fi) := (f4.2 89 (by unfold inMs; omega)).trans h89
    have m75 : H4[75]? = some (8, [wd, ht, rm, mo, sd, bo]) := (f4.2 75 (by unfold inMs; omega)).trans hz
    have hmem : ∀ x, x ∈ x0 :: xs → x ∈ (qts bl sl ed hu kd wd ht rm mo (-9) (-9) n) := fun x hx => by rw [hQ]; exact hx
    have hJ := leaf_J (x := x0) r2 r3 hn (by omega) (JJ_0 hbl) (hmem x0 List.mem_cons_self)
    have hx0 : ∀ s : Nat, opn bl n s = true → 0 ≤ ix x0 s ∧ ix x0 s < 24 := fun s ho => by
      have := (hJ.2.2.2.1 s (opn_t.mp ho).1 ho).1
      omega
    have hfil : ∀ k : Nat, k < n → ix (fil fi 0 (fun k => ix x0 k) n) k = ix x0 k := by
      intro k hk
      rw [fil_ix (by omega) (by omega) (by omega), if_pos (by omega)]
      congr 1 <;> omega
    have hfll : (fil fi 0 (fun k => ix x0 k) n).length = 9 := by rw [fil_len]; exact hfl
    have hlo : ∀ i : Nat, i ≤ n → ∀ Hc, (Fr inMx H Hc ∧ ∃ op de fo bs bu, Hc[74]? = some (7, mdL kd un nk le ap nu me op de fo bs bu)) → Hc[89]? = some (8, fil fi 0 (fun k => ix x0 k) n) → ∃ H2, (Fr inMx H H2 ∧ ∃ op de fo bs bu, H2[74]? = some (7, mdL kd un nk le ap nu me op de fo bs bu)) ∧ Ev 5 144 49 [mR 74, mI (mset (fun j => j < i ∧ opn bl n j = true ∧ ∀ x ∈ x0 :: xs, ix x j = ix x0 j)), mI (i : Int)] [] Hc (mI (surR bl n (x0 :: xs))) H2 := by
      refine E_loop (n := n) _ ?_ ?_
      · intro i hi hh Hc hO c89
        obtain ⟨hF, op2, de2, fo2, bs2, bu2, cM⟩ := hO
        have cz : Hc[75]? = some (8, [wd, ht, rm, mo, sd, bo]) := (hF.2 75 (by unfold inMx; omega)).trans hz
        have ctd : Hc[76]? = some (8, td) := (hF.2 76 (by unfold inMx; omega)).trans htd
        have css : Hc[77]? = some (8, ss) := (hF.2 77 (by unfold inMx; omega)).trans hss
        have hvi := q1 i (by omega) (by omega)
        have hset : ∀ (P : Prop), (P ↔ ∀ x ∈ x0 :: xs, ix x i = ix x0 i) → opn bl n i = true → mset (fun j => j < i + 1 ∧ opn bl n j = true ∧ ∀ x ∈ x0 :: xs, ix x j = ix x0 j) = mset (fun j => (j < i ∧ opn bl n j = true ∧ ∀ x ∈ x0 :: xs, ix x j = ix x0 j) ∨ (j = i ∧ P)) := by
          intro P hP ho
          refine mset_congr (fun j hj => ?_)
          constructor
          · rintro ⟨a1, a2, a3⟩
            by_cases e : j = i
            · exact Or.inr ⟨e, hP.mpr (by rw [← e]; exact a3)⟩
            · exact Or.inl ⟨by omega, a2, a3⟩
          · rintro (⟨a1, a2, a3⟩ | ⟨rfl, a2⟩)
            · exact ⟨by omega, a2, a3⟩
            · exact ⟨by omega, ho, hP.mp a2⟩
        by_cases ho9 : ix bl i = -9
        · have ho : opn bl n i = true := opn_t.mpr ⟨hi, ho9⟩
          obtain ⟨t2, ct, ctl⟩ := cell_fr hF htt
          obtain ⟨o2, co, col⟩ := cell_fr hF h87
          obtain ⟨r2', cr, crl⟩ := cell_fr hF h88
          obtain ⟨H5, g1, g2, g3⟩ := M_go cM hD0 cz ctd hrT css hrS0 ct (by omega) co (by omega) cr (by omega) hn hbl
          obtain ⟨f5, -⟩ := fre_out g1
          obtain ⟨op6, k74, g6a⟩ := fre_but (bs2 := (i : Int)) (bu2 := -9) g1
          have g6 := fre_but (bs2 := (i : Int)) (bu2 := ix x0 i) g6a
          obtain ⟨op7, l74, g7⟩ := g6
          rw [pt_pt] at g7
          have e7 : op7 = op6 := by
            rw [pt_self k74] at l74
            have := congrArg (fun q => ((q.getD (0, [])).2).getD 19 0) l74
            exact this.symm
          subst e7
          have k89 : H5[89]? = some (8, fil fi 0 (fun k => ix x0 k) n) := (f5.2 89 (by unfold inMs; omega)).trans c89
          have c74 : (pt Hc 85 ss)[74]? = _ := pt_nx (by decide) cM
          obtain ⟨f7, -⟩ := fre_out g7
          have hbutI := fun x => qts_but (sl := sl) (ed := ed) (hu := hu) (kd := kd) (wd := wd) (ht := ht) (rm := rm) (mo := mo) (n := n) (by omega) hbl (b0 := ix x0 i) ho x
          have n89 : ∀ {H6}, Fr inMs Hc H6 → H6[89]? = some (8, fil fi 0 (fun k => ix x0 k) n) := fun h => (h.2 89 (by unfold inMs; omega)).trans c89
          rcases M_nq1 g7 with ⟨hQi, H6, h6, hq6⟩ | ⟨y, ys, H6, hQi, h6, hq6⟩
          · have hall : ∀ x ∈ x0 :: xs, ix x i = ix x0 i := by
              intro x hx
              refine Classical.byContradiction (fun z => ?_)
              have := (hbutI x).mpr ⟨hmem x hx, z⟩
              rw [hQi] at this
              cases this
            obtain ⟨H7, h7, hev⟩ := hh H6 ⟨Fr_trans hF (up_x h6.1), h6.2⟩ (n89 h6.1)
            refine ⟨H7, h7, ?_⟩
            rw [hset True ⟨fun _ => hall, fun _ => trivial⟩ ho, ← or_eq (x := mset (fun j => j < i ∧ opn bl n j = true ∧ ∀ x ∈ x0 :: xs, ix x j = ix x0 j)) (z := m_shl 1 (i : Int)) (mset_in _) (m_shl_in (by omega) (by omega)) (fun j hj => by
              rw [mset_bit, bit_shl (by omega) (by omega) (by omega), decide_eq_true_iff]
              constructor
              · rintro (q | q)
                · exact Or.inl q.2
                · exact Or.inr ⟨by omega, trivial⟩
              · rintro (q | q)
                · exact Or.inl ⟨hj, q⟩
                · exact Or.inr (by omega))] at hev
            refine E_iload_n (pc' := 50) g144_49 rfl rfl ?_
            refine E_aload_n (pc' := 51) g144_50 rfl rfl ?_
            refine E_cV0i (pc' := 54) g144_51 k144_116 na111 rfl ow111 rfl (Nat.le_of_ble_eq_true rfl) cM (M_squares cM hD0 cz) (by decide) ?_
            refine E_icge (pc' := 57) (pt := 114) g144_54 rfl rfl (fun c0 => ?_) (fun c0 => ?_)
            · first
              | (exfalso; omega)
              | (exfalso; omega)
            · first
              | (exfalso; omega)
              | (refine E_aload_n (pc' := 58) g144_57 rfl rfl ?_
                 refine E_getR (pc' := 61) g144_58 f144_16 tg7_3 rfl cM rfl ?_
                 refine E_iload_n (pc' := 62) g144_61 rfl rfl ?_
                 refine E_iald (pc' := 63) (v := ix bl i) g144_62 rfl css (by omega) (by omega) hvi ?_
                 refine E_bipush (pc' := 65) g144_63 (by decide) rfl ?_
                 refine E_icne (pc' := 68) (pt := 108) g144_65 rfl rfl (fun c1 => ?_) (fun c1 => ?_)
                 · first
                   | (exfalso; omega)
                   | (refine E_in2 (pc' := 111) g144_108 rfl (m_in_iff.mpr (by omega)) ?_
                      refine E_goto (pc' := 49) g144_111 rfl ?_
                      exact hev)
                 · first
                   | (exfalso; omega)
                   | (refine E_aload_n (pc' := 69) g144_68 rfl rfl ?_
                      refine E_cV0v (pc' := 72) g144_69 k144_140 na116 rfl ow116 rfl (Nat.le_of_ble_eq_true rfl) cM g2 (by decide) ?_
                      refine E_aload_n (pc' := 73) g144_72 rfl rfl ?_
                      refine E_cV0v (pc' := 76) g144_73 k144_195 na139 rfl ow139 rfl (Nat.le_of_ble_eq_true rfl) c74 g3 (by decide) ?_
                      refine E_aload_n (pc' := 77) g144_76 rfl rfl ?_
                      refine E_iload_n (pc' := 78) g144_77 rfl rfl ?_
                      refine E_putf (pc' := 81) g144_78 f144_186 tg7_24 fn7_24 rfl rfl k74 (Nat.le_of_ble_eq_true rfl) ?_
                      refine Ev_cast (H := pt H5 74 (mdL kd un nk le ap nu me op7 0 0 (i : Int) (-9))) ?_ rfl rfl
                      refine E_aload_n (pc' := 82) g144_81 rfl rfl ?_
                      refine E_aload_n (pc' := 83) g144_82 rfl rfl ?_
                      refine E_getR (pc' := 86) g144_83 f144_53 tg7_26 rfl (pt_self k74) rfl ?_
                      refine E_iload_n (pc' := 87) g144_86 rfl rfl ?_
                      refine E_iald (pc' := 88) (v := ix x0 i) g144_87 rfl (pt_nx (by decide) k89) (by omega) (by omega) (hfil i hi) ?_
                      refine E_putf (pc' := 91) g144_88 f144_189 tg7_25 fn7_25 rfl rfl (pt_self k74) (Nat.le_of_ble_eq_true rfl) ?_
                      refine Ev_cast (H := pt H5 74 (mdL kd un nk le ap nu me op7 0 0 (i : Int) (ix x0 i))) ?_ rfl (pt_pt _ _ _ _)
                      refine E_iload_n (pc' := 92) g144_91 rfl rfl ?_
                      refine E_aload_n (pc' := 93) g144_92 rfl rfl ?_
                      refine E_cV0i (pc' := 96) g144_93 k144_198 na141 rfl ow141 rfl (Nat.le_of_ble_eq_true rfl) (pt_self k74) hq6 (by decide) ?_
                      refine E_ifeq (pc' := 99) (pt := 103) g144_96 rfl rfl (fun c2 => ?_) (fun c2 => ?_)
                      · first
                        | (exfalso; omega)
                        | (refine E_iconst (pc' := 104) g144_103 (by decide) rfl ?_
                           refine E_iload_n (pc' := 105) g144_104 rfl rfl ?_
                           refine E_ishl (pc' := 106) g144_105 rfl ?_
                           refine E_ior (pc' := 107) g144_106 rfl ?_
                           refine E_st1 (pc' := 108) g144_107 rfl ?_
                           refine E_in2 (pc' := 111) g144_108 rfl (m_in_iff.mpr (by omega)) ?_
                           refine E_goto (pc' := 49) g144_111 rfl ?_
                           exact hev)
                      · first
                        | (exfalso; omega)
                        | (exfalso; omega)))
          · have hy := (hbutI y).mp (by rw [hQi]; exact List.mem_cons_self)
            obtain ⟨⟨f6, op8, de8, fo8, bs8, bu8, n74⟩, -⟩ := fou_out h6
            obtain ⟨H7, h7, hev⟩ := hh H6 ⟨Fr_trans hF (up_x f6), _, _, _, _, _, n74⟩ (n89 f6)
            refine ⟨H7, h7, ?_⟩
            rw [hset False ⟨fun q => q.elim, fun q => hy.2 (q y (by rw [← hQ]; exact hy.1))⟩ ho, ← or_eq (x := mset (fun j => j < i ∧ opn bl n j = true ∧ ∀ x ∈ x0 :: xs, ix x j = ix x0 j)) (z := 0) (mset_in _) (by omega) (fun j hj => by
              rw [mset_bit, bit_zero]
              constructor
              · rintro (q | q)
                · exact Or.inl q.2
                · cases q
              · rintro (q | q)
                · exact Or.inl ⟨hj, q⟩
                · exact q.2.elim)] at hev
            refine E_iload_n (pc' := 50) g144_49 rfl rfl ?_
            refine E_aload_n (pc' := 51) g144_50 rfl rfl ?_
            refine E_cV0i (pc' := 54) g144_51 k144_116 na111 rfl ow111 rfl (Nat.le_of_ble_eq_true rfl) cM (M_squares cM hD0 cz) (by decide) ?_
            refine E_icge (pc' := 57) (pt := 114) g144_54 rfl rfl (fun c0 => ?_) (fun c0 => ?_)
            · first
              | (exfalso; omega)
              | (exfalso; omega)
            · first
              | (exfalso; omega)
              | (refine E_aload_n (pc' := 58) g144_57 rfl rfl ?_
                 refine E_getR (pc' := 61) g144_58 f144_16 tg7_3 rfl cM rfl ?_
                 refine E_iload_n (pc' := 62) g144_61 rfl rfl ?_
                 refine E_iald (pc' := 63) (v := ix bl i) g144_62 rfl css (by omega) (by omega) hvi ?_
                 refine E_bipush (pc' := 65) g144_63 (by decide) rfl ?_
                 refine E_icne (pc' := 68) (pt := 108) g144_65 rfl rfl (fun c1 => ?_) (fun c1 => ?_)
                 · first
                   | (exfalso; omega)
                   | (refine E_in2 (pc' := 111) g144_108 rfl (m_in_iff.mpr (by omega)) ?_
                      refine E_goto (pc' := 49) g144_111 rfl ?_
                      exact hev)
                 · first
                   | (exfalso; omega)
                   | (refine E_aload_n (pc' := 69) g144_68 rfl rfl ?_
                      refine E_cV0v (pc' := 72) g144_69 k144_140 na116 rfl ow116 rfl (Nat.le_of_ble_eq_true rfl) cM g2 (by decide) ?_
                      refine E_aload_n (pc' := 73) g144_72 rfl rfl ?_
                      refine E_cV0v (pc' := 76) g144_73 k144_195 na139 rfl ow139 rfl (Nat.le_of_ble_eq_true rfl) c74 g3 (by decide) ?_
                      refine E_aload_n (pc' := 77) g144_76 rfl rfl ?_
                      refine E_iload_n (pc' := 78) g144_77 rfl rfl ?_
                      refine E_putf (pc' := 81) g144_78 f144_186 tg7_24 fn7_24 rfl rfl k74 (Nat.le_of_ble_eq_true rfl) ?_
                      refine Ev_cast (H := pt H5 74 (mdL kd un nk le ap nu me op7 0 0 (i : Int) (-9))) ?_ rfl rfl
                      refine E_aload_n (pc' := 82) g144_81 rfl rfl ?_
                      refine E_aload_n (pc' := 83) g144_82 rfl rfl ?_
                      refine E_getR (pc' := 86) g144_83 f144_53 tg7_26 rfl (pt_self k74) rfl ?_
                      refine E_iload_n (pc' := 87) g144_86 rfl rfl ?_
                      refine E_iald (pc' := 88) (v := ix x0 i) g144_87 rfl (pt_nx (by decide) k89) (by omega) (by omega) (hfil i hi) ?_
                      refine E_putf (pc' := 91) g144_88 f144_189 tg7_25 fn7_25 rfl rfl (pt_self k74) (Nat.le_of_ble_eq_true rfl) ?_
                      refine Ev_cast (H := pt H5 74 (mdL kd un nk le ap nu me op7 0 0 (i : Int) (ix x0 i))) ?_ rfl (pt_pt _ _ _ _)
                      refine E_iload_n (pc' := 92) g144_91 rfl rfl ?_
                      refine E_aload_n (pc' := 93) g144_92 rfl rfl ?_
                      refine E_cV0i (pc' := 96) g144_93 k144_198 na141 rfl ow141 rfl (Nat.le_of_ble_eq_true rfl) (pt_self k74) hq6 (by decide) ?_
                      refine E_ifeq (pc' := 99) (pt := 103) g144_96 rfl rfl (fun c2 => ?_) (fun c2 => ?_)
                      · first
                        | (exfalso; omega)
                        | (exfalso; omega)
                      · first
                        | (exfalso; omega)
                        | (refine E_iconst (pc' := 100) g144_99 (by decide) rfl ?_
                           refine E_goto (pc' := 106) g144_100 rfl ?_
                           refine E_ior (pc' := 107) g144_106 rfl ?_
                           refine E_st1 (pc' := 108) g144_107 rfl ?_
                           refine E_in2 (pc' := 111) g144_108 rfl (m_in_iff.mpr (by omega)) ?_
                           refine E_goto (pc' := 49) g144_111 rfl ?_
                           exact hev)))
        · obtain ⟨H7, h7, hev⟩ := hh Hc ⟨hF, _, _, _, _, _, cM⟩ c89
          refine ⟨H7, h7, ?_⟩
          rw [mset_congr (P := fun j => j < i + 1 ∧ opn bl n j = true ∧ ∀ x ∈ x0 :: xs, ix x j = ix x0 j) (Q := fun j => j < i ∧ opn bl n j = true ∧ ∀ x ∈ x0 :: xs, ix x j = ix x0 j) (fun j hj => ⟨fun q => ⟨by
            rcases Nat.lt_or_ge j i with y | y
            · exact y
            · have q1 := q.1
              have q2 := (opn_t.mp q.2.1).2
              rw [show j = i by omega] at q2
              exact absurd q2 ho9, q.2⟩, fun q => ⟨by have := q.1; omega, q.2⟩⟩)] at hev
          refine E_iload_n (pc' := 50) g144_49 rfl rfl ?_
          refine E_aload_n (pc' := 51) g144_50 rfl rfl ?_
          refine E_cV0i (pc' := 54) g144_51 k144_116 na111 rfl ow111 rfl (Nat.le_of_ble_eq_true rfl) cM (M_squares cM hD0 cz) (by decide) ?_
          refine E_icge (pc' := 57) (pt := 114) g144_54 rfl rfl (fun c0 => ?_) (fun c0 => ?_)
          · first
            | (exfalso; omega)
            | (exfalso; omega)
          · first
            | (exfalso; omega)
            | (refine E_aload_n (pc' := 58) g144_57 rfl rfl ?_
               refine E_getR (pc' := 61) g144_58 f144_16 tg7_3 rfl cM rfl ?_
               refine E_iload_n (pc' := 62) g144_61 rfl rfl ?_
               refine E_iald (pc' := 63) (v := ix bl i) g144_62 rfl css (by omega) (by omega) hvi ?_
               refine E_bipush (pc' := 65) g144_63 (by decide) rfl ?_
               refine E_icne (pc' := 68) (pt := 108) g144_65 rfl rfl (fun c1 => ?_) (fun c1 => ?_)
               · first
                 | (exfalso; omega)
                 | (refine E_in2 (pc' := 111) g144_108 rfl (m_in_iff.mpr (by omega)) ?_
                    refine E_goto (pc' := 49) g144_111 rfl ?_
                    exact hev)
               · first
                 | (exfalso; omega)
                 | (exfalso; omega))
      · intro Hc hO c89
        have hO2 := hO
        obtain ⟨hF, op2, de2, fo2, bs2, bu2, cM⟩ := hO
        have cz : Hc[75]? = some (8, [wd, ht, rm, mo, sd, bo]) := (hF.2 75 (by unfold inMx; omega)).trans hz
        refine ⟨Hc, hO2, ?_⟩
        have e : surR bl n (x0 :: xs) = mset (fun j => j < n ∧ opn bl n j = true ∧ ∀ x ∈ x0 :: xs, ix x j = ix x0 j) := mset_congr (fun j hj => ⟨fun q => ⟨(opn_t.mp q.1).1, q.1, q.2⟩, fun q => q.2⟩)
        rw [e]
        refine E_iload_n (pc' := 50) g144_49 rfl rfl ?_
        refine E_aload_n (pc' := 51) g144_50 rfl rfl ?_
        refine E_cV0i (pc' := 54) g144_51 k144_116 na111 rfl ow111 rfl (Nat.le_of_ble_eq_true rfl) cM (M_squares cM hD0 cz) (by decide) ?_
        refine E_icge (pc' := 57) (pt := 114) g144_54 rfl rfl (fun c0 => ?_) (fun c0 => ?_)
        · first
          | (exfalso; omega)
          | (refine E_iload_n (pc' := 115) g144_114 rfl rfl ?_
             exact E_iret g144_115 ro144 rfl rfl)
        · first
          | (exfalso; omega)
          | (exfalso; omega)
    have hFx : Fr inMx H (pt H4 89 (fil fi 0 (fun k => ix x0 k) n)) := Fr_trans (up_x f4) (Fr_pt (by unfold inMx; omega) m89 (by rw [hfll, hfl]))
    obtain ⟨H2, h2, hev⟩ := hlo 0 (by omega) _ ⟨hFx, _, _, _, _, _, pt_nx (by decide) m74⟩ (pt_self m89)
    rw [mset_0 (fun b hb z => absurd z.1 (by omega))] at hev
    rw [hQ]
    refine ⟨H2, h2, ?_⟩
    have g4l := hr4.1
    refine Call_of rfl ?_
    refine E_aload_n (pc' := 1) g144_0 rfl rfl ?_
    refine E_cV0v (pc' := 4) g144_1 k144_140 na116 rfl ow116 rfl (Nat.le_of_ble_eq_true rfl) hM g2 (by decide) ?_
    refine E_aload_n (pc' := 5) g144_4 rfl rfl ?_
    refine E_cV0v (pc' := 8) g144_5 k144_195 na139 rfl ow139 rfl (Nat.le_of_ble_eq_true rfl) (pt_nx (by decide) hM) g3 (by decide) ?_
    refine E_aload_n (pc' := 9) g144_8 rfl rfl ?_
    refine E_cV0i (pc' := 12) g144_9 k144_198 na141 rfl ow141 rfl (Nat.le_of_ble_eq_true rfl) k74 hq (by decide) ?_
    refine E_ifne (pc' := 15) (pt := 17) g144_12 rfl rfl (fun c0 => ?_) (fun c0 => ?_)
    · first
      | (exfalso; omega)
      | (refine E_iconst (pc' := 18) g144_17 (by decide) rfl ?_
         refine E_st1 (pc' := 19) g144_18 rfl ?_
         refine Ev_cast (H := pt H4 89 (fil fi 0 (fun k => ix x0 k) 0)) ?_ rfl (pt_same m89).symm
         refine E_loop (n := n) (fun i => Ev 5 144 19 [mR 74, mI (i : Int), none] [] (pt H4 89 (fil fi 0 (fun k => ix x0 k) i)) (mI (surR bl n (x0 :: xs))) H2) ?_ ?_ 0 (by omega)
         · intro i hi hh
           have hv4 := hr4.2.1 i (by omega) (by omega)
           refine E_iload_n (pc' := 20) g144_19 rfl rfl ?_
           refine E_aload_n (pc' := 21) g144_20 rfl rfl ?_
           refine E_cV0i (pc' := 24) g144_21 k144_116 na111 rfl ow111 rfl (Nat.le_of_ble_eq_true rfl) (pt_nx (by decide) m74) (M_squares (pt_nx (by decide) m74) hD0 (pt_nx (by decide) m75)) (by decide) ?_
           refine E_icge (pc' := 27) (pt := 45) g144_24 rfl rfl (fun c0 => ?_) (fun c0 => ?_)
           · exact absurd c0 (by omega)
           · refine E_aload_n (pc' := 28) g144_27 rfl rfl ?_
             refine E_getR (pc' := 31) g144_28 f144_53 tg7_26 rfl (pt_nx (by decide) m74) rfl ?_
             refine E_iload_n (pc' := 32) g144_31 rfl rfl ?_
             refine E_aload_n (pc' := 33) g144_32 rfl rfl ?_
             refine E_getR (pc' := 36) g144_33 f144_41 tg7_17 rfl (pt_nx (by decide) m74) rfl ?_
             refine E_iload_n (pc' := 37) g144_36 rfl rfl ?_
             refine E_iald (pc' := 38) (v := ix x0 i) g144_37 rfl (pt_nx (by decide) m85) (by omega) (by omega) hv4 ?_
             refine E_iastore (pc' := 39) g144_38 rfl (pt_self m89) (by omega) (by rw [fil_len]; omega) ?_
             rw [pt_pt]
             refine E_in1 (pc' := 42) g144_39 rfl (m_in_iff.mpr (by omega)) ?_
             refine E_goto (pc' := 19) g144_42 rfl ?_
             exact Ev_cast hh rfl (by simp only [fil]; rw [Int.zero_add])
         · refine E_iload_n (pc' := 20) g144_19 rfl rfl ?_
           refine E_aload_n (pc' := 21) g144_20 rfl rfl ?_
           refine E_cV0i (pc' := 24) g144_21 k144_116 na111 rfl ow111 rfl (Nat.le_of_ble_eq_true rfl) (pt_nx (by decide) m74) (M_squares (pt_nx (by decide) m74) hD0 (pt_nx (by decide) m75)) (by decide) ?_
           refine E_icge (pc' := 27) (pt := 45) g144_24 rfl rfl (fun c0 => ?_) (fun c0 => ?_)
           · refine E_iconst (pc' := 46) g144_45 (by decide) rfl ?_
             refine E_st1 (pc' := 47) g144_46 rfl ?_
             refine E_iconst (pc' := 48) g144_47 (by decide) rfl ?_
             refine E_st2 (pc' := 49) g144_48 rfl ?_
             exact hev
           · exact absurd c0 (by omega))
    · first
      | (exfalso; omega)
      | (exfalso; omega)
end NT
