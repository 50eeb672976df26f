/-! the model: calls without the winnow -/
section MR
variable {H : mH} {kd un nk le ap nu me op de fo bs bu wd ht rm mo sd bo : Int} {ed hu bl sl td tt ss : List Int} {ps kt ik tx : List Int}
theorem eo_k4 {k x : Int} (hk : 0 ≤ k ∧ k < 6) (hx : 0 ≤ x ∧ x < 4) : eo ed (k * 4) x = ix ed (k * 4 + x) := by
  unfold eo
  rw [if_pos (by omega), Int.tdiv_eq_ediv_of_nonneg (by omega), Int.tmod_eq_emod_of_nonneg (by omega : 0 ≤ k * 4), Int.tmod_eq_emod_of_nonneg (by omega)]
  congr 1
  omega
theorem M_kind (hM : H[74]? = some (7, mdL kd un nk le ap nu me op de fo bs bu)) (hD : okD kd wd ht rm mo sd bo ed hu) (hz : H[75]? = some (8, [wd, ht, rm, mo, sd, bo])) (htd : H[76]? = some (8, td)) (hrT : relT td ed hu kd) (hss : H[77]? = some (8, ss)) (hrS : relS ss bl sl kd) (htt : H[85]? = some (8, tt)) (ht15 : tt.length = 15) {k x r : Int} (hr : (¬ (0 ≤ k ∧ k < kd ∧ 0 ≤ x ∧ x ≤ 6) → r = -1) ∧ ((0 ≤ k ∧ k < kd ∧ 0 ≤ x ∧ x ≤ 3) → r = eo ed (k * 4) x) ∧ ((0 ≤ k ∧ k < kd ∧ x = 4) → r = ix hu k) ∧ ((0 ≤ k ∧ k < kd ∧ x = 5) → r = ix sl k) ∧ ((0 ≤ k ∧ k < kd ∧ x = 6) → r = ix sl k - nK bl k 6 + 100)) : ∃ H2, (H2 = H ∨ H2 = pt H 85 ss) ∧ Call 3 121 [mR 74, mI k, mI x] H (mI r) H2 := by
  have hD0 := hD
  have hrS0 := hrS
  have hrT0 := hrT
  obtain ⟨r1, r2, r3, r4, r5, r6, r7, b1, b2⟩ := hD
  obtain ⟨nt, q1, q2, q3, q4, q5⟩ := hrS
  obtain ⟨nd, u1, u2⟩ := hrT
  have hw := wh_bd r2.1 r2.2 r3.1 r3.2
  have e1 := inI_or k 0 kd
  have e2 := inC_or x 0 6
  by_cases hg : 0 ≤ k ∧ k < kd ∧ 0 ≤ x ∧ x ≤ 6
  · refine ⟨_, Or.inr rfl, ?_⟩
    have e3 := q3 k (by omega) (by omega)
    have e4 := q5 k (by omega) (by omega)
    have e6 := cn_bd (fun s => decide (0 ≤ ix bl s ∧ (ix bl s).tdiv 4 = k)) 6
    have e7 : nK bl k 6 = cn (fun s => decide (0 ≤ ix bl s ∧ (ix bl s).tdiv 4 = k)) 6 := rfl
    have e5 : x < 5 → ix td (5 * k + x) = r := by
      intro h5
      by_cases h4 : x = 4
      · rw [hr.2.2.1 (by omega), h4, u2 k (by omega) (by omega)]
      · rw [hr.2.1 (by omega), u1 k x (by omega) (by omega) (by omega) (by omega), eo_k4 (by omega) (by omega)]
    have e8 : x = 5 → r = ix sl k := fun h => hr.2.2.2.1 (by omega)
    have e9 : x = 6 → r = ix sl k - nK bl k 6 + 100 := fun h => hr.2.2.2.2 (by omega)
    refine Call_of rfl ?_
    refine E_aload_n (pc' := 1) g121_0 rfl rfl ?_
    refine E_iload_n (pc' := 2) g121_1 rfl rfl ?_
    refine E_cV1i (pc' := 5) g121_2 k121_136 na109 rfl ow109 rfl (Nat.le_of_ble_eq_true rfl) (by first | assumption | exact pt_self (by first | assumption | exact pt_self (by first | assumption | exact pt_self (by first | assumption | exact pt_self (by assumption) | (rw [pt_ne (by omega)]; assumption)) | (rw [pt_ne (by omega)]; first | assumption | exact pt_self (by assumption) | (rw [pt_ne (by omega)]; assumption))) | (rw [pt_ne (by omega)]; first | assumption | exact pt_self (by first | assumption | exact pt_self (by assumption) | (rw [pt_ne (by omega)]; assumption)) | (rw [pt_ne (by omega)]; first | assumption | exact pt_self (by assumption) | (rw [pt_ne (by omega)]; assumption)))) | (rw [pt_ne (by omega)]; first | assumption | exact pt_self (by first | assumption | exact pt_self (by first | assumption | exact pt_self (by assumption) | (rw [pt_ne (by omega)]; assumption)) | (rw [pt_ne (by omega)]; first | assumption | exact pt_self (by assumption) | (rw [pt_ne (by omega)]; assumption))) | (rw [pt_ne (by omega)]; first | assumption | exact pt_self (by first | assumption | exact pt_self (by assumption) | (rw [pt_ne (by omega)]; assumption)) | (rw [pt_ne (by omega)]; first | assumption | exact pt_self (by assumption) | (rw [pt_ne (by omega)]; assumption))))) (M_isKind hM hD0) (by decide) ?_
    refine E_ifeq (pc' := 8) (pt := 18) g121_5 rfl rfl (fun c0 => ?_) (fun c0 => ?_)
    · first
      | (exfalso; omega)
      | (refine E_iconst (pc' := 19) g121_18 (by decide) rfl ?_
         exact E_iret g121_19 ro121 (congrArg mI (by first | (have q := e5 (by omega); omega) | (have q := e8 (by omega); omega) | (have q := e9 (by omega); omega))) rfl)
    · first
      | (exfalso; omega)
      | (refine E_iload_n (pc' := 9) g121_8 rfl rfl ?_
         refine E_iconst (pc' := 10) g121_9 (by decide) rfl ?_
         refine E_bipush (pc' := 12) g121_10 (by decide) rfl ?_
         refine E_cS3i (pc' := 15) g121_12 k121_81 na97 rfl rfl (Nat.le_of_ble_eq_true rfl) M_in (by decide) ?_
         refine E_ifne (pc' := 18) (pt := 20) g121_15 rfl rfl (fun c1 => ?_) (fun c1 => ?_)
         · first
           | (exfalso; omega)
           | (refine E_aload_n (pc' := 21) g121_20 rfl rfl ?_
              refine E_cV0v (pc' := 24) g121_21 k121_140 na116 rfl ow116 rfl (Nat.le_of_ble_eq_true rfl) (by first | assumption | exact pt_self (by first | assumption | exact pt_self (by first | assumption | exact pt_self (by first | assumption | exact pt_self (by assumption) | (rw [pt_ne (by omega)]; assumption)) | (rw [pt_ne (by omega)]; first | assumption | exact pt_self (by assumption) | (rw [pt_ne (by omega)]; assumption))) | (rw [pt_ne (by omega)]; first | assumption | exact pt_self (by first | assumption | exact pt_self (by assumption) | (rw [pt_ne (by omega)]; assumption)) | (rw [pt_ne (by omega)]; first | assumption | exact pt_self (by assumption) | (rw [pt_ne (by omega)]; assumption)))) | (rw [pt_ne (by omega)]; first | assumption | exact pt_self (by first | assumption | exact pt_self (by first | assumption | exact pt_self (by assumption) | (rw [pt_ne (by omega)]; assumption)) | (rw [pt_ne (by omega)]; first | assumption | exact pt_self (by assumption) | (rw [pt_ne (by omega)]; assumption))) | (rw [pt_ne (by omega)]; first | assumption | exact pt_self (by first | assumption | exact pt_self (by assumption) | (rw [pt_ne (by omega)]; assumption)) | (rw [pt_ne (by omega)]; first | assumption | exact pt_self (by assumption) | (rw [pt_ne (by omega)]; assumption))))) (M_tries hM htt ht15 hss hrS0.1) (by decide) ?_
              refine E_iload_n (pc' := 25) g121_24 rfl rfl ?_
              refine E_iconst (pc' := 26) g121_25 (by decide) rfl ?_
              refine E_icge (pc' := 29) (pt := 42) g121_26 rfl rfl (fun c2 => ?_) (fun c2 => ?_)
              · first
                | (exfalso; omega)
                | (refine E_iload_n (pc' := 43) g121_42 rfl rfl ?_
                   refine E_iconst (pc' := 44) g121_43 (by decide) rfl ?_
                   refine E_icne (pc' := 47) (pt := 59) g121_44 rfl rfl (fun c3 => ?_) (fun c3 => ?_)
                   · first
                     | (exfalso; omega)
                     | (refine E_aload_n (pc' := 60) g121_59 rfl rfl ?_
                        refine E_iload_n (pc' := 61) g121_60 rfl rfl ?_
                        refine E_cV1i (pc' := 64) g121_61 k121_127 na117 rfl ow117 rfl (Nat.le_of_ble_eq_true rfl) (by first | assumption | exact pt_self (by first | assumption | exact pt_self (by first | assumption | exact pt_self (by first | assumption | exact pt_self (by assumption) | (rw [pt_ne (by omega)]; assumption)) | (rw [pt_ne (by omega)]; first | assumption | exact pt_self (by assumption) | (rw [pt_ne (by omega)]; assumption))) | (rw [pt_ne (by omega)]; first | assumption | exact pt_self (by first | assumption | exact pt_self (by assumption) | (rw [pt_ne (by omega)]; assumption)) | (rw [pt_ne (by omega)]; first | assumption | exact pt_self (by assumption) | (rw [pt_ne (by omega)]; assumption)))) | (rw [pt_ne (by omega)]; first | assumption | exact pt_self (by first | assumption | exact pt_self (by first | assumption | exact pt_self (by assumption) | (rw [pt_ne (by omega)]; assumption)) | (rw [pt_ne (by omega)]; first | assumption | exact pt_self (by assumption) | (rw [pt_ne (by omega)]; assumption))) | (rw [pt_ne (by omega)]; first | assumption | exact pt_self (by first | assumption | exact pt_self (by assumption) | (rw [pt_ne (by omega)]; assumption)) | (rw [pt_ne (by omega)]; first | assumption | exact pt_self (by assumption) | (rw [pt_ne (by omega)]; assumption))))) (M_leftOf (pt_nx (by decide) hM) hD0 (pt_self htt) hrS0 (by omega)) (by decide) ?_
                        refine E_bipush (pc' := 66) g121_64 (by decide) rfl ?_
                        refine E_iadd (pc' := 67) g121_66 (m_in_iff.mpr (by omega)) rfl ?_
                        exact E_iret g121_67 ro121 (congrArg mI (by first | (have q := e5 (by omega); omega) | (have q := e8 (by omega); omega) | (have q := e9 (by omega); omega))) rfl)
                   · first
                     | (exfalso; omega)
                     | (refine E_aload_n (pc' := 48) g121_47 rfl rfl ?_
                        refine E_getR (pc' := 51) g121_48 f121_16 tg7_3 rfl (by first | assumption | exact pt_self (by first | assumption | exact pt_self (by first | assumption | exact pt_self (by first | assumption | exact pt_self (by assumption) | (rw [pt_ne (by omega)]; assumption)) | (rw [pt_ne (by omega)]; first | assumption | exact pt_self (by assumption) | (rw [pt_ne (by omega)]; assumption))) | (rw [pt_ne (by omega)]; first | assumption | exact pt_self (by first | assumption | exact pt_self (by assumption) | (rw [pt_ne (by omega)]; assumption)) | (rw [pt_ne (by omega)]; first | assumption | exact pt_self (by assumption) | (rw [pt_ne (by omega)]; assumption)))) | (rw [pt_ne (by omega)]; first | assumption | exact pt_self (by first | assumption | exact pt_self (by first | assumption | exact pt_self (by assumption) | (rw [pt_ne (by omega)]; assumption)) | (rw [pt_ne (by omega)]; first | assumption | exact pt_self (by assumption) | (rw [pt_ne (by omega)]; assumption))) | (rw [pt_ne (by omega)]; first | assumption | exact pt_self (by first | assumption | exact pt_self (by assumption) | (rw [pt_ne (by omega)]; assumption)) | (rw [pt_ne (by omega)]; first | assumption | exact pt_self (by assumption) | (rw [pt_ne (by omega)]; assumption))))) rfl ?_
                        refine E_bipush (pc' := 53) g121_51 (by decide) rfl ?_
                        refine E_iload_n (pc' := 54) g121_53 rfl rfl ?_
                        refine E_iadd (pc' := 55) g121_54 (m_in_iff.mpr (by omega)) rfl ?_
                        refine E_iaload (pc' := 56) g121_55 rfl (by first | assumption | exact pt_self (by first | assumption | exact pt_self (by first | assumption | exact pt_self (by first | assumption | exact pt_self (by assumption) | (rw [pt_ne (by omega)]; assumption)) | (rw [pt_ne (by omega)]; first | assumption | exact pt_self (by assumption) | (rw [pt_ne (by omega)]; assumption))) | (rw [pt_ne (by omega)]; first | assumption | exact pt_self (by first | assumption | exact pt_self (by assumption) | (rw [pt_ne (by omega)]; assumption)) | (rw [pt_ne (by omega)]; first | assumption | exact pt_self (by assumption) | (rw [pt_ne (by omega)]; assumption)))) | (rw [pt_ne (by omega)]; first | assumption | exact pt_self (by first | assumption | exact pt_self (by first | assumption | exact pt_self (by assumption) | (rw [pt_ne (by omega)]; assumption)) | (rw [pt_ne (by omega)]; first | assumption | exact pt_self (by assumption) | (rw [pt_ne (by omega)]; assumption))) | (rw [pt_ne (by omega)]; first | assumption | exact pt_self (by first | assumption | exact pt_self (by assumption) | (rw [pt_ne (by omega)]; assumption)) | (rw [pt_ne (by omega)]; first | assumption | exact pt_self (by assumption) | (rw [pt_ne (by omega)]; assumption))))) (by omega) (by omega) ?_
                        refine E_goto (pc' := 67) g121_56 rfl ?_
                        exact E_iret g121_67 ro121 (congrArg mI (by first | (have q := e5 (by omega); omega) | (have q := e8 (by omega); omega) | (have q := e9 (by omega); omega))) rfl))
              · first
                | (exfalso; omega)
                | (refine E_aload_n (pc' := 30) g121_29 rfl rfl ?_
                   refine E_getR (pc' := 33) g121_30 f121_13 tg7_2 rfl (by first | assumption | exact pt_self (by first | assumption | exact pt_self (by first | assumption | exact pt_self (by first | assumption | exact pt_self (by assumption) | (rw [pt_ne (by omega)]; assumption)) | (rw [pt_ne (by omega)]; first | assumption | exact pt_self (by assumption) | (rw [pt_ne (by omega)]; assumption))) | (rw [pt_ne (by omega)]; first | assumption | exact pt_self (by first | assumption | exact pt_self (by assumption) | (rw [pt_ne (by omega)]; assumption)) | (rw [pt_ne (by omega)]; first | assumption | exact pt_self (by assumption) | (rw [pt_ne (by omega)]; assumption)))) | (rw [pt_ne (by omega)]; first | assumption | exact pt_self (by first | assumption | exact pt_self (by first | assumption | exact pt_self (by assumption) | (rw [pt_ne (by omega)]; assumption)) | (rw [pt_ne (by omega)]; first | assumption | exact pt_self (by assumption) | (rw [pt_ne (by omega)]; assumption))) | (rw [pt_ne (by omega)]; first | assumption | exact pt_self (by first | assumption | exact pt_self (by assumption) | (rw [pt_ne (by omega)]; assumption)) | (rw [pt_ne (by omega)]; first | assumption | exact pt_self (by assumption) | (rw [pt_ne (by omega)]; assumption))))) rfl ?_
                   refine E_iconst (pc' := 34) g121_33 (by decide) rfl ?_
                   refine E_iload_n (pc' := 35) g121_34 rfl rfl ?_
                   refine E_imul (pc' := 36) g121_35 (m_in_iff.mpr (by omega)) rfl ?_
                   refine E_iload_n (pc' := 37) g121_36 rfl rfl ?_
                   refine E_iadd (pc' := 38) g121_37 (m_in_iff.mpr (by omega)) rfl ?_
                   refine E_iaload (pc' := 39) g121_38 rfl (by first | assumption | exact pt_self (by first | assumption | exact pt_self (by first | assumption | exact pt_self (by first | assumption | exact pt_self (by assumption) | (rw [pt_ne (by omega)]; assumption)) | (rw [pt_ne (by omega)]; first | assumption | exact pt_self (by assumption) | (rw [pt_ne (by omega)]; assumption))) | (rw [pt_ne (by omega)]; first | assumption | exact pt_self (by first | assumption | exact pt_self (by assumption) | (rw [pt_ne (by omega)]; assumption)) | (rw [pt_ne (by omega)]; first | assumption | exact pt_self (by assumption) | (rw [pt_ne (by omega)]; assumption)))) | (rw [pt_ne (by omega)]; first | assumption | exact pt_self (by first | assumption | exact pt_self (by first | assumption | exact pt_self (by assumption) | (rw [pt_ne (by omega)]; assumption)) | (rw [pt_ne (by omega)]; first | assumption | exact pt_self (by assumption) | (rw [pt_ne (by omega)]; assumption))) | (rw [pt_ne (by omega)]; first | assumption | exact pt_self (by first | assumption | exact pt_self (by assumption) | (rw [pt_ne (by omega)]; assumption)) | (rw [pt_ne (by omega)]; first | assumption | exact pt_self (by assumption) | (rw [pt_ne (by omega)]; assumption))))) (by omega) (by omega) ?_
                   refine E_goto (pc' := 67) g121_39 rfl ?_
                   exact E_iret g121_67 ro121 (congrArg mI (by first | (have q := e5 (by omega); omega) | (have q := e8 (by omega); omega) | (have q := e9 (by omega); omega))) rfl))
         · first
           | (exfalso; omega)
           | (refine E_iconst (pc' := 19) g121_18 (by decide) rfl ?_
              exact E_iret g121_19 ro121 (congrArg mI (by first | (have q := e5 (by omega); omega) | (have q := e8 (by omega); omega) | (have q := e9 (by omega); omega))) rfl))
  · refine ⟨_, Or.inl rfl, ?_⟩
    have hq := hr.1 hg
    refine Call_of rfl ?_
    refine E_aload_n (pc' := 1) g121_0 rfl rfl ?_
    refine E_iload_n (pc' := 2) g121_1 rfl rfl ?_
    refine E_cV1i (pc' := 5) g121_2 k121_136 na109 rfl ow109 rfl (Nat.le_of_ble_eq_true rfl) (by first | assumption | exact pt_self (by first | assumption | exact pt_self (by first | assumption | exact pt_self (by first | assumption | exact pt_self (by assumption) | (rw [pt_ne (by omega)]; assumption)) | (rw [pt_ne (by omega)]; first | assumption | exact pt_self (by assumption) | (rw [pt_ne (by omega)]; assumption))) | (rw [pt_ne (by omega)]; first | assumption | exact pt_self (by first | assumption | exact pt_self (by assumption) | (rw [pt_ne (by omega)]; assumption)) | (rw [pt_ne (by omega)]; first | assumption | exact pt_self (by assumption) | (rw [pt_ne (by omega)]; assumption)))) | (rw [pt_ne (by omega)]; first | assumption | exact pt_self (by first | assumption | exact pt_self (by first | assumption | exact pt_self (by assumption) | (rw [pt_ne (by omega)]; assumption)) | (rw [pt_ne (by omega)]; first | assumption | exact pt_self (by assumption) | (rw [pt_ne (by omega)]; assumption))) | (rw [pt_ne (by omega)]; first | assumption | exact pt_self (by first | assumption | exact pt_self (by assumption) | (rw [pt_ne (by omega)]; assumption)) | (rw [pt_ne (by omega)]; first | assumption | exact pt_self (by assumption) | (rw [pt_ne (by omega)]; assumption))))) (M_isKind hM hD0) (by decide) ?_
    refine E_ifeq (pc' := 8) (pt := 18) g121_5 rfl rfl (fun c0 => ?_) (fun c0 => ?_)
    · first
      | (exfalso; omega)
      | (refine E_iconst (pc' := 19) g121_18 (by decide) rfl ?_
         exact E_iret g121_19 ro121 (congrArg mI (by omega)) rfl)
    · first
      | (exfalso; omega)
      | (refine E_iload_n (pc' := 9) g121_8 rfl rfl ?_
         refine E_iconst (pc' := 10) g121_9 (by decide) rfl ?_
         refine E_bipush (pc' := 12) g121_10 (by decide) rfl ?_
         refine E_cS3i (pc' := 15) g121_12 k121_81 na97 rfl rfl (Nat.le_of_ble_eq_true rfl) M_in (by decide) ?_
         refine E_ifne (pc' := 18) (pt := 20) g121_15 rfl rfl (fun c1 => ?_) (fun c1 => ?_)
         · first
           | (exfalso; omega)
           | (exfalso; omega)
         · first
           | (exfalso; omega)
           | (refine E_iconst (pc' := 19) g121_18 (by decide) rfl ?_
              exact E_iret g121_19 ro121 (congrArg mI (by omega)) rfl))
theorem M_block (hM : H[74]? = some (7, mdL kd un nk le ap nu me op de fo bs bu)) (hD : okD kd wd ht rm mo sd bo ed hu) (hz : H[75]? = some (8, [wd, ht, rm, mo, sd, bo])) (htd : H[76]? = some (8, td)) (hrT : relT td ed hu kd) (hss : H[77]? = some (8, ss)) (hrS : relS ss bl sl kd) (htt : H[85]? = some (8, tt)) (ht15 : tt.length = 15) {b x r : Int} (hr : (¬ (0 ≤ b ∧ b < kd * 4 ∧ 0 ≤ x ∧ x ≤ 4) → r = -1) ∧ ((0 ≤ b ∧ b < kd * 4 ∧ 0 ≤ x ∧ x ≤ 3) → r = eo ed b x) ∧ ((0 ≤ b ∧ b < kd * 4 ∧ x = 4) → r = b01 (plB ed b))) : Call 3 122 [mR 74, mI b, mI x] H (mI r) H := by
  have hD0 := hD
  have hrS0 := hrS
  have hrT0 := hrT
  obtain ⟨r1, r2, r3, r4, r5, r6, r7, b1, b2⟩ := hD
  obtain ⟨nt, q1, q2, q3, q4, q5⟩ := hrS
  obtain ⟨nd, u1, u2⟩ := hrT
  have hw := wh_bd r2.1 r2.2 r3.1 r3.2
  have e1 := inI_or b 0 (kd * 4)
  have e2 := inC_or x 0 4
  have e3 := b01_in (plB ed b)
  refine Call_of rfl ?_
  refine E_aload_n (pc' := 1) g122_0 rfl rfl ?_
  refine E_iload_n (pc' := 2) g122_1 rfl rfl ?_
  refine E_cV1i (pc' := 5) g122_2 k122_143 na110 rfl ow110 rfl (Nat.le_of_ble_eq_true rfl) (by first | assumption | exact pt_self (by first | assumption | exact pt_self (by first | assumption | exact pt_self (by first | assumption | exact pt_self (by assumption) | (rw [pt_ne (by omega)]; assumption)) | (rw [pt_ne (by omega)]; first | assumption | exact pt_self (by assumption) | (rw [pt_ne (by omega)]; assumption))) | (rw [pt_ne (by omega)]; first | assumption | exact pt_self (by first | assumption | exact pt_self (by assumption) | (rw [pt_ne (by omega)]; assumption)) | (rw [pt_ne (by omega)]; first | assumption | exact pt_self (by assumption) | (rw [pt_ne (by omega)]; assumption)))) | (rw [pt_ne (by omega)]; first | assumption | exact pt_self (by first | assumption | exact pt_self (by first | assumption | exact pt_self (by assumption) | (rw [pt_ne (by omega)]; assumption)) | (rw [pt_ne (by omega)]; first | assumption | exact pt_self (by assumption) | (rw [pt_ne (by omega)]; assumption))) | (rw [pt_ne (by omega)]; first | assumption | exact pt_self (by first | assumption | exact pt_self (by assumption) | (rw [pt_ne (by omega)]; assumption)) | (rw [pt_ne (by omega)]; first | assumption | exact pt_self (by assumption) | (rw [pt_ne (by omega)]; assumption))))) (M_isBlock hM hD0) (by decide) ?_
  refine E_ifeq (pc' := 8) (pt := 17) g122_5 rfl rfl (fun c0 => ?_) (fun c0 => ?_)
  · first
    | (exfalso; omega)
    | (refine E_iconst (pc' := 18) g122_17 (by decide) rfl ?_
       exact E_iret g122_18 ro122 (congrArg mI (by first | (have q := hr.1 (by omega); first | exact q | omega) | (have q := hr.2.1 (by omega); first | exact q | omega) | (have q := hr.2.2 (by omega); first | exact q | omega))) rfl)
  · first
    | (exfalso; omega)
    | (refine E_iload_n (pc' := 9) g122_8 rfl rfl ?_
       refine E_iconst (pc' := 10) g122_9 (by decide) rfl ?_
       refine E_iconst (pc' := 11) g122_10 (by decide) rfl ?_
       refine E_cS3i (pc' := 14) g122_11 k122_81 na97 rfl rfl (Nat.le_of_ble_eq_true rfl) M_in (by decide) ?_
       refine E_ifne (pc' := 17) (pt := 19) g122_14 rfl rfl (fun c1 => ?_) (fun c1 => ?_)
       · first
         | (exfalso; omega)
         | (refine E_iload_n (pc' := 20) g122_19 rfl rfl ?_
            refine E_iconst (pc' := 21) g122_20 (by decide) rfl ?_
            refine E_icge (pc' := 24) (pt := 33) g122_21 rfl rfl (fun c2 => ?_) (fun c2 => ?_)
            · first
              | (exfalso; omega)
              | (refine E_aload_n (pc' := 34) g122_33 rfl rfl ?_
                 refine E_iload_n (pc' := 35) g122_34 rfl rfl ?_
                 refine E_cV1i (pc' := 38) g122_35 k122_146 na114 rfl ow114 rfl (Nat.le_of_ble_eq_true rfl) (by first | assumption | exact pt_self (by first | assumption | exact pt_self (by first | assumption | exact pt_self (by first | assumption | exact pt_self (by assumption) | (rw [pt_ne (by omega)]; assumption)) | (rw [pt_ne (by omega)]; first | assumption | exact pt_self (by assumption) | (rw [pt_ne (by omega)]; assumption))) | (rw [pt_ne (by omega)]; first | assumption | exact pt_self (by first | assumption | exact pt_self (by assumption) | (rw [pt_ne (by omega)]; assumption)) | (rw [pt_ne (by omega)]; first | assumption | exact pt_self (by assumption) | (rw [pt_ne (by omega)]; assumption)))) | (rw [pt_ne (by omega)]; first | assumption | exact pt_self (by first | assumption | exact pt_self (by first | assumption | exact pt_self (by assumption) | (rw [pt_ne (by omega)]; assumption)) | (rw [pt_ne (by omega)]; first | assumption | exact pt_self (by assumption) | (rw [pt_ne (by omega)]; assumption))) | (rw [pt_ne (by omega)]; first | assumption | exact pt_self (by first | assumption | exact pt_self (by assumption) | (rw [pt_ne (by omega)]; assumption)) | (rw [pt_ne (by omega)]; first | assumption | exact pt_self (by assumption) | (rw [pt_ne (by omega)]; assumption))))) (M_isPlain hM hD0 htd hrT0 (by omega)) (by decide) ?_
                 refine E_ifeq (pc' := 41) (pt := 45) g122_38 rfl rfl (fun c3 => ?_) (fun c3 => ?_)
                 · first
                   | (exfalso; omega)
                   | (refine E_iconst (pc' := 46) g122_45 (by decide) rfl ?_
                      exact E_iret g122_46 ro122 (congrArg mI (by first | (have q := hr.1 (by omega); first | exact q | omega) | (have q := hr.2.1 (by omega); first | exact q | omega) | (have q := hr.2.2 (by omega); first | exact q | omega))) rfl)
                 · first
                   | (exfalso; omega)
                   | (refine E_iconst (pc' := 42) g122_41 (by decide) rfl ?_
                      refine E_goto (pc' := 46) g122_42 rfl ?_
                      exact E_iret g122_46 ro122 (congrArg mI (by first | (have q := hr.1 (by omega); first | exact q | omega) | (have q := hr.2.1 (by omega); first | exact q | omega) | (have q := hr.2.2 (by omega); first | exact q | omega))) rfl))
            · first
              | (exfalso; omega)
              | (refine E_aload_n (pc' := 25) g122_24 rfl rfl ?_
                 refine E_iload_n (pc' := 26) g122_25 rfl rfl ?_
                 refine E_iload_n (pc' := 27) g122_26 rfl rfl ?_
                 refine E_cV2i (pc' := 30) g122_27 k122_119 na113 rfl ow113 rfl (Nat.le_of_ble_eq_true rfl) (by first | assumption | exact pt_self (by first | assumption | exact pt_self (by first | assumption | exact pt_self (by first | assumption | exact pt_self (by assumption) | (rw [pt_ne (by omega)]; assumption)) | (rw [pt_ne (by omega)]; first | assumption | exact pt_self (by assumption) | (rw [pt_ne (by omega)]; assumption))) | (rw [pt_ne (by omega)]; first | assumption | exact pt_self (by first | assumption | exact pt_self (by assumption) | (rw [pt_ne (by omega)]; assumption)) | (rw [pt_ne (by omega)]; first | assumption | exact pt_self (by assumption) | (rw [pt_ne (by omega)]; assumption)))) | (rw [pt_ne (by omega)]; first | assumption | exact pt_self (by first | assumption | exact pt_self (by first | assumption | exact pt_self (by assumption) | (rw [pt_ne (by omega)]; assumption)) | (rw [pt_ne (by omega)]; first | assumption | exact pt_self (by assumption) | (rw [pt_ne (by omega)]; assumption))) | (rw [pt_ne (by omega)]; first | assumption | exact pt_self (by first | assumption | exact pt_self (by assumption) | (rw [pt_ne (by omega)]; assumption)) | (rw [pt_ne (by omega)]; first | assumption | exact pt_self (by assumption) | (rw [pt_ne (by omega)]; assumption))))) (M_edge hM hD0 htd hrT0 (by omega) (by omega)) (by decide) ?_
                 refine E_goto (pc' := 46) g122_30 rfl ?_
                 exact E_iret g122_46 ro122 (congrArg mI (by first | (have q := hr.1 (by omega); first | exact q | omega) | (have q := hr.2.1 (by omega); first | exact q | omega) | (have q := hr.2.2 (by omega); first | exact q | omega))) rfl))
       · first
         | (exfalso; omega)
         | (refine E_iconst (pc' := 18) g122_17 (by decide) rfl ?_
            exact E_iret g122_18 ro122 (congrArg mI (by first | (have q := hr.1 (by omega); first | exact q | omega) | (have q := hr.2.1 (by omega); first | exact q | omega) | (have q := hr.2.2 (by omega); first | exact q | omega))) rfl))
theorem M_lays_no (hM : H[74]? = some (7, mdL kd un nk le ap nu me op de fo bs bu)) (hD : okD kd wd ht rm mo sd bo ed hu) (hz : H[75]? = some (8, [wd, ht, rm, mo, sd, bo])) (htd : H[76]? = some (8, td)) (hrT : relT td ed hu kd) (hss : H[77]? = some (8, ss)) (hrS : relS ss bl sl kd) (htt : H[85]? = some (8, tt)) (ht15 : tt.length = 15) {s b v r : Int} (hv : (0 ≤ s ∧ s < wd * ht ∧ 0 ≤ b ∧ b < kd * 4) → why bl sl ed hu wd ht rm mo s b v) (hv4 : 0 ≤ v ∧ v ≤ 4) (hno : ¬ (0 ≤ s ∧ s < wd * ht ∧ 0 ≤ b ∧ b < kd * 4 ∧ ix bl s = -9 ∧ v = 0))
    (hr : (¬ (0 ≤ s ∧ s < wd * ht ∧ 0 ≤ b ∧ b < kd * 4) → r = -1) ∧ ((0 ≤ s ∧ s < wd * ht ∧ 0 ≤ b ∧ b < kd * 4 ∧ ¬ ix bl s = -9) → r = -2) ∧ ((0 ≤ s ∧ s < wd * ht ∧ 0 ≤ b ∧ b < kd * 4 ∧ ix bl s = -9) → r = -10 - v)) : ∃ H2, (H2 = H ∨ H2 = pt H 85 ss) ∧ Call 3 125 [mR 74, mI s, mI b] H (mI r) H2 := by
  have hD0 := hD
  have hrS0 := hrS
  have hrT0 := hrT
  obtain ⟨r1, r2, r3, r4, r5, r6, r7, b1, b2⟩ := hD
  obtain ⟨nt, q1, q2, q3, q4, q5⟩ := hrS
  obtain ⟨nd, u1, u2⟩ := hrT
  have hw := wh_bd r2.1 r2.2 r3.1 r3.2
  have e1 := inI_or s 0 (wd * ht)
  have e2 := inI_or b 0 (kd * 4)
  by_cases hg : 0 ≤ s ∧ s < wd * ht ∧ 0 ≤ b ∧ b < kd * 4 ∧ ix bl s = -9
  · refine ⟨_, Or.inr rfl, ?_⟩
    have hq := hr.2.2 hg
    refine Call_of rfl ?_
    refine E_aload_n (pc' := 1) g125_0 rfl rfl ?_
    refine E_iload_n (pc' := 2) g125_1 rfl rfl ?_
    refine E_cV1i (pc' := 5) g125_2 k125_149 na112 rfl ow112 rfl (Nat.le_of_ble_eq_true rfl) (by first | assumption | exact pt_self (by first | assumption | exact pt_self (by first | assumption | exact pt_self (by first | assumption | exact pt_self (by assumption) | (rw [pt_ne (by omega)]; assumption)) | (rw [pt_ne (by omega)]; first | assumption | exact pt_self (by assumption) | (rw [pt_ne (by omega)]; assumption))) | (rw [pt_ne (by omega)]; first | assumption | exact pt_self (by first | assumption | exact pt_self (by assumption) | (rw [pt_ne (by omega)]; assumption)) | (rw [pt_ne (by omega)]; first | assumption | exact pt_self (by assumption) | (rw [pt_ne (by omega)]; assumption)))) | (rw [pt_ne (by omega)]; first | assumption | exact pt_self (by first | assumption | exact pt_self (by first | assumption | exact pt_self (by assumption) | (rw [pt_ne (by omega)]; assumption)) | (rw [pt_ne (by omega)]; first | assumption | exact pt_self (by assumption) | (rw [pt_ne (by omega)]; assumption))) | (rw [pt_ne (by omega)]; first | assumption | exact pt_self (by first | assumption | exact pt_self (by assumption) | (rw [pt_ne (by omega)]; assumption)) | (rw [pt_ne (by omega)]; first | assumption | exact pt_self (by assumption) | (rw [pt_ne (by omega)]; assumption))))) (M_isSquare hM hD0 hz) (by decide) ?_
    refine E_ifeq (pc' := 8) (pt := 16) g125_5 rfl rfl (fun c0 => ?_) (fun c0 => ?_)
    · first
      | (exfalso; omega)
      | (refine E_iconst (pc' := 17) g125_16 (by decide) rfl ?_
         exact E_iret g125_17 ro125 (congrArg mI (by omega)) rfl)
    · first
      | (exfalso; omega)
      | (refine E_aload_n (pc' := 9) g125_8 rfl rfl ?_
         refine E_iload_n (pc' := 10) g125_9 rfl rfl ?_
         refine E_cV1i (pc' := 13) g125_10 k125_143 na110 rfl ow110 rfl (Nat.le_of_ble_eq_true rfl) (by first | assumption | exact pt_self (by first | assumption | exact pt_self (by first | assumption | exact pt_self (by first | assumption | exact pt_self (by assumption) | (rw [pt_ne (by omega)]; assumption)) | (rw [pt_ne (by omega)]; first | assumption | exact pt_self (by assumption) | (rw [pt_ne (by omega)]; assumption))) | (rw [pt_ne (by omega)]; first | assumption | exact pt_self (by first | assumption | exact pt_self (by assumption) | (rw [pt_ne (by omega)]; assumption)) | (rw [pt_ne (by omega)]; first | assumption | exact pt_self (by assumption) | (rw [pt_ne (by omega)]; assumption)))) | (rw [pt_ne (by omega)]; first | assumption | exact pt_self (by first | assumption | exact pt_self (by first | assumption | exact pt_self (by assumption) | (rw [pt_ne (by omega)]; assumption)) | (rw [pt_ne (by omega)]; first | assumption | exact pt_self (by assumption) | (rw [pt_ne (by omega)]; assumption))) | (rw [pt_ne (by omega)]; first | assumption | exact pt_self (by first | assumption | exact pt_self (by assumption) | (rw [pt_ne (by omega)]; assumption)) | (rw [pt_ne (by omega)]; first | assumption | exact pt_self (by assumption) | (rw [pt_ne (by omega)]; assumption))))) (M_isBlock hM hD0) (by decide) ?_
         refine E_ifne (pc' := 16) (pt := 18) g125_13 rfl rfl (fun c1 => ?_) (fun c1 => ?_)
         · first
           | (exfalso; omega)
           | (refine E_aload_n (pc' := 19) g125_18 rfl rfl ?_
              refine E_getR (pc' := 22) g125_19 f125_16 tg7_3 rfl (by first | assumption | exact pt_self (by first | assumption | exact pt_self (by first | assumption | exact pt_self (by first | assumption | exact pt_self (by assumption) | (rw [pt_ne (by omega)]; assumption)) | (rw [pt_ne (by omega)]; first | assumption | exact pt_self (by assumption) | (rw [pt_ne (by omega)]; assumption))) | (rw [pt_ne (by omega)]; first | assumption | exact pt_self (by first | assumption | exact pt_self (by assumption) | (rw [pt_ne (by omega)]; assumption)) | (rw [pt_ne (by omega)]; first | assumption | exact pt_self (by assumption) | (rw [pt_ne (by omega)]; assumption)))) | (rw [pt_ne (by omega)]; first | assumption | exact pt_self (by first | assumption | exact pt_self (by first | assumption | exact pt_self (by assumption) | (rw [pt_ne (by omega)]; assumption)) | (rw [pt_ne (by omega)]; first | assumption | exact pt_self (by assumption) | (rw [pt_ne (by omega)]; assumption))) | (rw [pt_ne (by omega)]; first | assumption | exact pt_self (by first | assumption | exact pt_self (by assumption) | (rw [pt_ne (by omega)]; assumption)) | (rw [pt_ne (by omega)]; first | assumption | exact pt_self (by assumption) | (rw [pt_ne (by omega)]; assumption))))) rfl ?_
              refine E_iload_n (pc' := 23) g125_22 rfl rfl ?_
              refine E_iald (pc' := 24) (v := ix bl s) g125_23 rfl (by first | assumption | exact pt_self (by first | assumption | exact pt_self (by first | assumption | exact pt_self (by first | assumption | exact pt_self (by assumption) | (rw [pt_ne (by omega)]; assumption)) | (rw [pt_ne (by omega)]; first | assumption | exact pt_self (by assumption) | (rw [pt_ne (by omega)]; assumption))) | (rw [pt_ne (by omega)]; first | assumption | exact pt_self (by first | assumption | exact pt_self (by assumption) | (rw [pt_ne (by omega)]; assumption)) | (rw [pt_ne (by omega)]; first | assumption | exact pt_self (by assumption) | (rw [pt_ne (by omega)]; assumption)))) | (rw [pt_ne (by omega)]; first | assumption | exact pt_self (by first | assumption | exact pt_self (by first | assumption | exact pt_self (by assumption) | (rw [pt_ne (by omega)]; assumption)) | (rw [pt_ne (by omega)]; first | assumption | exact pt_self (by assumption) | (rw [pt_ne (by omega)]; assumption))) | (rw [pt_ne (by omega)]; first | assumption | exact pt_self (by first | assumption | exact pt_self (by assumption) | (rw [pt_ne (by omega)]; assumption)) | (rw [pt_ne (by omega)]; first | assumption | exact pt_self (by assumption) | (rw [pt_ne (by omega)]; assumption))))) (by omega) (by omega) (q1 s (by omega) (by omega)) ?_
              refine E_bipush (pc' := 26) g125_24 (by decide) rfl ?_
              refine E_iceq (pc' := 29) (pt := 32) g125_26 rfl rfl (fun c2 => ?_) (fun c2 => ?_)
              · first
                | (exfalso; omega)
                | (refine E_aload_n (pc' := 33) g125_32 rfl rfl ?_
                   refine E_cV0v (pc' := 36) g125_33 k125_140 na116 rfl ow116 rfl (Nat.le_of_ble_eq_true rfl) (by first | assumption | exact pt_self (by first | assumption | exact pt_self (by first | assumption | exact pt_self (by first | assumption | exact pt_self (by assumption) | (rw [pt_ne (by omega)]; assumption)) | (rw [pt_ne (by omega)]; first | assumption | exact pt_self (by assumption) | (rw [pt_ne (by omega)]; assumption))) | (rw [pt_ne (by omega)]; first | assumption | exact pt_self (by first | assumption | exact pt_self (by assumption) | (rw [pt_ne (by omega)]; assumption)) | (rw [pt_ne (by omega)]; first | assumption | exact pt_self (by assumption) | (rw [pt_ne (by omega)]; assumption)))) | (rw [pt_ne (by omega)]; first | assumption | exact pt_self (by first | assumption | exact pt_self (by first | assumption | exact pt_self (by assumption) | (rw [pt_ne (by omega)]; assumption)) | (rw [pt_ne (by omega)]; first | assumption | exact pt_self (by assumption) | (rw [pt_ne (by omega)]; assumption))) | (rw [pt_ne (by omega)]; first | assumption | exact pt_self (by first | assumption | exact pt_self (by assumption) | (rw [pt_ne (by omega)]; assumption)) | (rw [pt_ne (by omega)]; first | assumption | exact pt_self (by assumption) | (rw [pt_ne (by omega)]; assumption))))) (M_tries hM htt ht15 hss hrS0.1) (by decide) ?_
                   refine E_aload_n (pc' := 37) g125_36 rfl rfl ?_
                   refine E_iload_n (pc' := 38) g125_37 rfl rfl ?_
                   refine E_iload_n (pc' := 39) g125_38 rfl rfl ?_
                   refine E_cV2i (pc' := 42) g125_39 k125_152 na120 rfl ow120 rfl (Nat.le_of_ble_eq_true rfl) (by first | assumption | exact pt_self (by first | assumption | exact pt_self (by first | assumption | exact pt_self (by first | assumption | exact pt_self (by assumption) | (rw [pt_ne (by omega)]; assumption)) | (rw [pt_ne (by omega)]; first | assumption | exact pt_self (by assumption) | (rw [pt_ne (by omega)]; assumption))) | (rw [pt_ne (by omega)]; first | assumption | exact pt_self (by first | assumption | exact pt_self (by assumption) | (rw [pt_ne (by omega)]; assumption)) | (rw [pt_ne (by omega)]; first | assumption | exact pt_self (by assumption) | (rw [pt_ne (by omega)]; assumption)))) | (rw [pt_ne (by omega)]; first | assumption | exact pt_self (by first | assumption | exact pt_self (by first | assumption | exact pt_self (by assumption) | (rw [pt_ne (by omega)]; assumption)) | (rw [pt_ne (by omega)]; first | assumption | exact pt_self (by assumption) | (rw [pt_ne (by omega)]; assumption))) | (rw [pt_ne (by omega)]; first | assumption | exact pt_self (by first | assumption | exact pt_self (by assumption) | (rw [pt_ne (by omega)]; assumption)) | (rw [pt_ne (by omega)]; first | assumption | exact pt_self (by assumption) | (rw [pt_ne (by omega)]; assumption))))) (M_whyNot (pt_nx (by decide) hM) hD0 (pt_nx (by decide) hz) (pt_nx (by decide) htd) hrT0 (pt_self htt) hrS0 (s := s) (b := b) (r := v) (by omega) (by omega) (hv (by omega))) (by decide) ?_
                   refine E_st3 (pc' := 43) g125_42 rfl ?_
                   refine E_iload_n (pc' := 44) g125_43 rfl rfl ?_
                   refine E_ifeq (pc' := 47) (pt := 52) g125_44 rfl rfl (fun c3 => ?_) (fun c3 => ?_)
                   · first
                     | (exfalso; omega)
                     | (exfalso; omega)
                   · first
                     | (exfalso; omega)
                     | (refine E_bipush (pc' := 49) g125_47 (by decide) rfl ?_
                        refine E_iload_n (pc' := 50) g125_49 rfl rfl ?_
                        refine E_isub (pc' := 51) g125_50 (m_in_iff.mpr (by omega)) rfl ?_
                        exact E_iret g125_51 ro125 (congrArg mI (by omega)) rfl))
              · first
                | (exfalso; omega)
                | (refine E_bipush (pc' := 31) g125_29 (by decide) rfl ?_
                   exact E_iret g125_31 ro125 (congrArg mI (by omega)) rfl))
         · first
           | (exfalso; omega)
           | (refine E_iconst (pc' := 17) g125_16 (by decide) rfl ?_
              exact E_iret g125_17 ro125 (congrArg mI (by omega)) rfl))
  · refine ⟨_, Or.inl rfl, ?_⟩
    refine Call_of rfl ?_
    refine E_aload_n (pc' := 1) g125_0 rfl rfl ?_
    refine E_iload_n (pc' := 2) g125_1 rfl rfl ?_
    refine E_cV1i (pc' := 5) g125_2 k125_149 na112 rfl ow112 rfl (Nat.le_of_ble_eq_true rfl) (by first | assumption | exact pt_self (by first | assumption | exact pt_self (by first | assumption | exact pt_self (by first | assumption | exact pt_self (by assumption) | (rw [pt_ne (by omega)]; assumption)) | (rw [pt_ne (by omega)]; first | assumption | exact pt_self (by assumption) | (rw [pt_ne (by omega)]; assumption))) | (rw [pt_ne (by omega)]; first | assumption | exact pt_self (by first | assumption | exact pt_self (by assumption) | (rw [pt_ne (by omega)]; assumption)) | (rw [pt_ne (by omega)]; first | assumption | exact pt_self (by assumption) | (rw [pt_ne (by omega)]; assumption)))) | (rw [pt_ne (by omega)]; first | assumption | exact pt_self (by first | assumption | exact pt_self (by first | assumption | exact pt_self (by assumption) | (rw [pt_ne (by omega)]; assumption)) | (rw [pt_ne (by omega)]; first | assumption | exact pt_self (by assumption) | (rw [pt_ne (by omega)]; assumption))) | (rw [pt_ne (by omega)]; first | assumption | exact pt_self (by first | assumption | exact pt_self (by assumption) | (rw [pt_ne (by omega)]; assumption)) | (rw [pt_ne (by omega)]; first | assumption | exact pt_self (by assumption) | (rw [pt_ne (by omega)]; assumption))))) (M_isSquare hM hD0 hz) (by decide) ?_
    refine E_ifeq (pc' := 8) (pt := 16) g125_5 rfl rfl (fun c0 => ?_) (fun c0 => ?_)
    · first
      | (exfalso; omega)
      | (refine E_iconst (pc' := 17) g125_16 (by decide) rfl ?_
         exact E_iret g125_17 ro125 (congrArg mI (by first | (have q := hr.1 (by omega); first | exact q | omega) | (have q := hr.2.1 (by omega); first | exact q | omega) | (have q := hr.2.2 (by omega); first | exact q | omega))) rfl)
    · first
      | (exfalso; omega)
      | (refine E_aload_n (pc' := 9) g125_8 rfl rfl ?_
         refine E_iload_n (pc' := 10) g125_9 rfl rfl ?_
         refine E_cV1i (pc' := 13) g125_10 k125_143 na110 rfl ow110 rfl (Nat.le_of_ble_eq_true rfl) (by first | assumption | exact pt_self (by first | assumption | exact pt_self (by first | assumption | exact pt_self (by first | assumption | exact pt_self (by assumption) | (rw [pt_ne (by omega)]; assumption)) | (rw [pt_ne (by omega)]; first | assumption | exact pt_self (by assumption) | (rw [pt_ne (by omega)]; assumption))) | (rw [pt_ne (by omega)]; first | assumption | exact pt_self (by first | assumption | exact pt_self (by assumption) | (rw [pt_ne (by omega)]; assumption)) | (rw [pt_ne (by omega)]; first | assumption | exact pt_self (by assumption) | (rw [pt_ne (by omega)]; assumption)))) | (rw [pt_ne (by omega)]; first | assumption | exact pt_self (by first | assumption | exact pt_self (by first | assumption | exact pt_self (by assumption) | (rw [pt_ne (by omega)]; assumption)) | (rw [pt_ne (by omega)]; first | assumption | exact pt_self (by assumption) | (rw [pt_ne (by omega)]; assumption))) | (rw [pt_ne (by omega)]; first | assumption | exact pt_self (by first | assumption | exact pt_self (by assumption) | (rw [pt_ne (by omega)]; assumption)) | (rw [pt_ne (by omega)]; first | assumption | exact pt_self (by assumption) | (rw [pt_ne (by omega)]; assumption))))) (M_isBlock hM hD0) (by decide) ?_
         refine E_ifne (pc' := 16) (pt := 18) g125_13 rfl rfl (fun c1 => ?_) (fun c1 => ?_)
         · first
           | (exfalso; omega)
           | (refine E_aload_n (pc' := 19) g125_18 rfl rfl ?_
              refine E_getR (pc' := 22) g125_19 f125_16 tg7_3 rfl (by first | assumption | exact pt_self (by first | assumption | exact pt_self (by first | assumption | exact pt_self (by first | assumption | exact pt_self (by assumption) | (rw [pt_ne (by omega)]; assumption)) | (rw [pt_ne (by omega)]; first | assumption | exact pt_self (by assumption) | (rw [pt_ne (by omega)]; assumption))) | (rw [pt_ne (by omega)]; first | assumption | exact pt_self (by first | assumption | exact pt_self (by assumption) | (rw [pt_ne (by omega)]; assumption)) | (rw [pt_ne (by omega)]; first | assumption | exact pt_self (by assumption) | (rw [pt_ne (by omega)]; assumption)))) | (rw [pt_ne (by omega)]; first | assumption | exact pt_self (by first | assumption | exact pt_self (by first | assumption | exact pt_self (by assumption) | (rw [pt_ne (by omega)]; assumption)) | (rw [pt_ne (by omega)]; first | assumption | exact pt_self (by assumption) | (rw [pt_ne (by omega)]; assumption))) | (rw [pt_ne (by omega)]; first | assumption | exact pt_self (by first | assumption | exact pt_self (by assumption) | (rw [pt_ne (by omega)]; assumption)) | (rw [pt_ne (by omega)]; first | assumption | exact pt_self (by assumption) | (rw [pt_ne (by omega)]; assumption))))) rfl ?_
              refine E_iload_n (pc' := 23) g125_22 rfl rfl ?_
              refine E_iald (pc' := 24) (v := ix bl s) g125_23 rfl (by first | assumption | exact pt_self (by first | assumption | exact pt_self (by first | assumption | exact pt_self (by first | assumption | exact pt_self (by assumption) | (rw [pt_ne (by omega)]; assumption)) | (rw [pt_ne (by omega)]; first | assumption | exact pt_self (by assumption) | (rw [pt_ne (by omega)]; assumption))) | (rw [pt_ne (by omega)]; first | assumption | exact pt_self (by first | assumption | exact pt_self (by assumption) | (rw [pt_ne (by omega)]; assumption)) | (rw [pt_ne (by omega)]; first | assumption | exact pt_self (by assumption) | (rw [pt_ne (by omega)]; assumption)))) | (rw [pt_ne (by omega)]; first | assumption | exact pt_self (by first | assumption | exact pt_self (by first | assumption | exact pt_self (by assumption) | (rw [pt_ne (by omega)]; assumption)) | (rw [pt_ne (by omega)]; first | assumption | exact pt_self (by assumption) | (rw [pt_ne (by omega)]; assumption))) | (rw [pt_ne (by omega)]; first | assumption | exact pt_self (by first | assumption | exact pt_self (by assumption) | (rw [pt_ne (by omega)]; assumption)) | (rw [pt_ne (by omega)]; first | assumption | exact pt_self (by assumption) | (rw [pt_ne (by omega)]; assumption))))) (by omega) (by omega) (q1 s (by omega) (by omega)) ?_
              refine E_bipush (pc' := 26) g125_24 (by decide) rfl ?_
              refine E_iceq (pc' := 29) (pt := 32) g125_26 rfl rfl (fun c2 => ?_) (fun c2 => ?_)
              · first
                | (exfalso; omega)
                | (exfalso; omega)
              · first
                | (exfalso; omega)
                | (refine E_bipush (pc' := 31) g125_29 (by decide) rfl ?_
                   exact E_iret g125_31 ro125 (congrArg mI (by first | (have q := hr.1 (by omega); first | exact q | omega) | (have q := hr.2.1 (by omega); first | exact q | omega) | (have q := hr.2.2 (by omega); first | exact q | omega))) rfl))
         · first
           | (exfalso; omega)
           | (refine E_iconst (pc' := 17) g125_16 (by decide) rfl ?_
              exact E_iret g125_17 ro125 (congrArg mI (by first | (have q := hr.1 (by omega); first | exact q | omega) | (have q := hr.2.1 (by omega); first | exact q | omega) | (have q := hr.2.2 (by omega); first | exact q | omega))) rfl))
theorem relS_b {s b : Int} (hrS : relS ss bl sl kd) (hbl : bl.length = 6) (hs : 0 ≤ s ∧ s < 6) (hb : b = -9 ∨ (0 ≤ b ∧ b < kd * 4)) : relS (up ss s b) (up bl s b) sl kd := by
  obtain ⟨nt, q1, q2, q3, q4, q5⟩ := hrS
  refine ⟨by rw [up_len, nt], fun i i0 i1 => ?_, fun i i0 i1 => ?_, fun k k0 k1 => ?_, fun i i0 i1 => ?_, q5⟩
  · rw [ix_up hs.1 (by omega) i0, ix_up hs.1 (by omega) i0, q1 i i0 i1]
  · rw [ix_up hs.1 (by omega) (by omega), if_neg (by omega), q2 i i0 i1]
  · rw [ix_up hs.1 (by omega) (by omega), if_neg (by omega), q3 k k0 k1]
  · rw [ix_up hs.1 (by omega) i0]
    split
    · exact hb
    · exact q4 i i0 i1
theorem relS_s {k x : Int} (hrS : relS ss bl sl kd) (hsl : sl.length = 6) (hkd : kd ≤ 6) (hk : 0 ≤ k ∧ k < kd) (hx : 0 ≤ x ∧ x ≤ 9) : relS (up ss (9 + k) x) bl (up sl k x) kd := by
  obtain ⟨nt, q1, q2, q3, q4, q5⟩ := hrS
  refine ⟨by rw [up_len, nt], fun i i0 i1 => ?_, fun i i0 i1 => ?_, fun j k0 k1 => ?_, q4, fun j k0 k1 => ?_⟩
  · rw [ix_up (by omega) (by omega) i0, if_neg (by omega), q1 i i0 i1]
  · rw [ix_up (by omega) (by omega) (by omega), if_neg (by omega), q2 i i0 i1]
  · rw [ix_up (by omega) (by omega) (by omega), ix_up (by omega) (by omega) (by omega), q3 j k0 k1]
    by_cases e : k = j
    · rw [if_pos (by omega), if_pos e]
    · rw [if_neg (by omega), if_neg e]
  · rw [ix_up (by omega) (by omega) (by omega)]
    split
    · omega
    · exact q5 j k0 k1
theorem relS_0 (hrS : relS ss bl sl kd) : relS (fil ss 0 (fun _ => -9) 9) (List.replicate 6 (-9)) sl kd := by
  obtain ⟨nt, q1, q2, q3, q4, q5⟩ := hrS
  refine ⟨by rw [fil_len, nt], fun i i0 i1 => ?_, fun i i0 i1 => ?_, fun k k0 k1 => ?_, fun i i0 i1 => ?_, q5⟩
  · rw [fil_ix (by omega) (by omega) i0, if_pos (by omega), ix_rep i0 (by omega)]
  · rw [fil_ix (by omega) (by omega) (by omega), if_pos (by omega)]
  · rw [fil_ix (by omega) (by omega) (by omega), if_neg (by omega), q3 k k0 k1]
  · exact Or.inl (ix_rep i0 (by omega))
theorem M_lays (hM : H[74]? = some (7, mdL kd un nk le ap nu me op de fo bs bu)) (hD : okD kd wd ht rm mo sd bo ed hu) (hz : H[75]? = some (8, [wd, ht, rm, mo, sd, bo])) (htd : H[76]? = some (8, td)) (hrT : relT td ed hu kd) (hss : H[77]? = some (8, ss)) (hrS : relS ss bl sl kd) (htt : H[85]? = some (8, tt)) (ht15 : tt.length = 15) (hps : H[78]? = some (8, ps)) (hpl : ps.length = 150) (hun : 0 ≤ un ∧ un ≤ 10) (hbl : bl.length = 6) {s b : Int} (hv : why bl sl ed hu wd ht rm mo s b 0) (hs : 0 ≤ s ∧ s < wd * ht) (hb : 0 ≤ b ∧ b < kd * 4) (hop : ix bl s = -9) : ∃ ps2, notR ps ps2 ss un ∧ Call 3 125 [mR 74, mI s, mI b] H (mI (nO (up bl s b) (wd * ht).toNat)) (pt (pt (pt (pt H 85 ss) 78 ps2) 74 (mdL kd (min (un + 1) 10) nk le ap nu me op de fo bs bu)) 77 (up ss s b)) := by
  have hD0 := hD
  have hrS0 := hrS
  have hrT0 := hrT
  obtain ⟨r1, r2, r3, r4, r5, r6, r7, b1, b2⟩ := hD
  obtain ⟨nt, q1, q2, q3, q4, q5⟩ := hrS
  obtain ⟨nd, u1, u2⟩ := hrT
  have hw := wh_bd r2.1 r2.2 r3.1 r3.2
  have e1 := inI_or s 0 (wd * ht)
  have e2 := inI_or b 0 (kd * 4)
  have hrb := relS_b hrS0 hbl (s := s) (b := b) (by omega) (by omega)
  obtain ⟨ps2, hn, hc⟩ := M_notes (H := pt H 85 ss) (pt_nx (by decide) hM) hun (pt_nx (by decide) hps) hpl (pt_nx (by decide) hss) hrS0.1
  refine ⟨ps2, hn, Call_of rfl ?_⟩
  refine E_aload_n (pc' := 1) g125_0 rfl rfl ?_
  refine E_iload_n (pc' := 2) g125_1 rfl rfl ?_
  refine E_cV1i (pc' := 5) g125_2 k125_149 na112 rfl ow112 rfl (Nat.le_of_ble_eq_true rfl) (by first | assumption | exact pt_self (by first | assumption | exact pt_self (by first | assumption | exact pt_self (by first | assumption | exact pt_self (by assumption) | (rw [pt_ne (by omega)]; assumption)) | (rw [pt_ne (by omega)]; first | assumption | exact pt_self (by assumption) | (rw [pt_ne (by omega)]; assumption))) | (rw [pt_ne (by omega)]; first | assumption | exact pt_self (by first | assumption | exact pt_self (by assumption) | (rw [pt_ne (by omega)]; assumption)) | (rw [pt_ne (by omega)]; first | assumption | exact pt_self (by assumption) | (rw [pt_ne (by omega)]; assumption)))) | (rw [pt_ne (by omega)]; first | assumption | exact pt_self (by first | assumption | exact pt_self (by first | assumption | exact pt_self (by assumption) | (rw [pt_ne (by omega)]; assumption)) | (rw [pt_ne (by omega)]; first | assumption | exact pt_self (by assumption) | (rw [pt_ne (by omega)]; assumption))) | (rw [pt_ne (by omega)]; first | assumption | exact pt_self (by first | assumption | exact pt_self (by assumption) | (rw [pt_ne (by omega)]; assumption)) | (rw [pt_ne (by omega)]; first | assumption | exact pt_self (by assumption) | (rw [pt_ne (by omega)]; assumption))))) (M_isSquare hM hD0 hz) (by decide) ?_
  refine E_ifeq (pc' := 8) (pt := 16) g125_5 rfl rfl (fun c0 => ?_) (fun c0 => ?_)
  · first
    | (exfalso; omega)
    | (refine E_iconst (pc' := 17) g125_16 (by decide) rfl ?_
       exact E_iret g125_17 ro125 rfl rfl)
  · first
    | (exfalso; omega)
    | (refine E_aload_n (pc' := 9) g125_8 rfl rfl ?_
       refine E_iload_n (pc' := 10) g125_9 rfl rfl ?_
       refine E_cV1i (pc' := 13) g125_10 k125_143 na110 rfl ow110 rfl (Nat.le_of_ble_eq_true rfl) (by first | assumption | exact pt_self (by first | assumption | exact pt_self (by first | assumption | exact pt_self (by first | assumption | exact pt_self (by assumption) | (rw [pt_ne (by omega)]; assumption)) | (rw [pt_ne (by omega)]; first | assumption | exact pt_self (by assumption) | (rw [pt_ne (by omega)]; assumption))) | (rw [pt_ne (by omega)]; first | assumption | exact pt_self (by first | assumption | exact pt_self (by assumption) | (rw [pt_ne (by omega)]; assumption)) | (rw [pt_ne (by omega)]; first | assumption | exact pt_self (by assumption) | (rw [pt_ne (by omega)]; assumption)))) | (rw [pt_ne (by omega)]; first | assumption | exact pt_self (by first | assumption | exact pt_self (by first | assumption | exact pt_self (by assumption) | (rw [pt_ne (by omega)]; assumption)) | (rw [pt_ne (by omega)]; first | assumption | exact pt_self (by assumption) | (rw [pt_ne (by omega)]; assumption))) | (rw [pt_ne (by omega)]; first | assumption | exact pt_self (by first | assumption | exact pt_self (by assumption) | (rw [pt_ne (by omega)]; assumption)) | (rw [pt_ne (by omega)]; first | assumption | exact pt_self (by assumption) | (rw [pt_ne (by omega)]; assumption))))) (M_isBlock hM hD0) (by decide) ?_
       refine E_ifne (pc' := 16) (pt := 18) g125_13 rfl rfl (fun c1 => ?_) (fun c1 => ?_)
       · first
         | (exfalso; omega)
         | (refine E_aload_n (pc' := 19) g125_18 rfl rfl ?_
            refine E_getR (pc' := 22) g125_19 f125_16 tg7_3 rfl (by first | assumption | exact pt_self (by first | assumption | exact pt_self (by first | assumption | exact pt_self (by first | assumption | exact pt_self (by assumption) | (rw [pt_ne (by omega)]; assumption)) | (rw [pt_ne (by omega)]; first | assumption | exact pt_self (by assumption) | (rw [pt_ne (by omega)]; assumption))) | (rw [pt_ne (by omega)]; first | assumption | exact pt_self (by first | assumption | exact pt_self (by assumption) | (rw [pt_ne (by omega)]; assumption)) | (rw [pt_ne (by omega)]; first | assumption | exact pt_self (by assumption) | (rw [pt_ne (by omega)]; assumption)))) | (rw [pt_ne (by omega)]; first | assumption | exact pt_self (by first | assumption | exact pt_self (by first | assumption | exact pt_self (by assumption) | (rw [pt_ne (by omega)]; assumption)) | (rw [pt_ne (by omega)]; first | assumption | exact pt_self (by assumption) | (rw [pt_ne (by omega)]; assumption))) | (rw [pt_ne (by omega)]; first | assumption | exact pt_self (by first | assumption | exact pt_self (by assumption) | (rw [pt_ne (by omega)]; assumption)) | (rw [pt_ne (by omega)]; first | assumption | exact pt_self (by assumption) | (rw [pt_ne (by omega)]; assumption))))) rfl ?_
            refine E_iload_n (pc' := 23) g125_22 rfl rfl ?_
            refine E_iald (pc' := 24) (v := ix bl s) g125_23 rfl (by first | assumption | exact pt_self (by first | assumption | exact pt_self (by first | assumption | exact pt_self (by first | assumption | exact pt_self (by assumption) | (rw [pt_ne (by omega)]; assumption)) | (rw [pt_ne (by omega)]; first | assumption | exact pt_self (by assumption) | (rw [pt_ne (by omega)]; assumption))) | (rw [pt_ne (by omega)]; first | assumption | exact pt_self (by first | assumption | exact pt_self (by assumption) | (rw [pt_ne (by omega)]; assumption)) | (rw [pt_ne (by omega)]; first | assumption | exact pt_self (by assumption) | (rw [pt_ne (by omega)]; assumption)))) | (rw [pt_ne (by omega)]; first | assumption | exact pt_self (by first | assumption | exact pt_self (by first | assumption | exact pt_self (by assumption) | (rw [pt_ne (by omega)]; assumption)) | (rw [pt_ne (by omega)]; first | assumption | exact pt_self (by assumption) | (rw [pt_ne (by omega)]; assumption))) | (rw [pt_ne (by omega)]; first | assumption | exact pt_self (by first | assumption | exact pt_self (by assumption) | (rw [pt_ne (by omega)]; assumption)) | (rw [pt_ne (by omega)]; first | assumption | exact pt_self (by assumption) | (rw [pt_ne (by omega)]; assumption))))) (by omega) (by omega) (q1 s (by omega) (by omega)) ?_
            refine E_bipush (pc' := 26) g125_24 (by decide) rfl ?_
            refine E_iceq (pc' := 29) (pt := 32) g125_26 rfl rfl (fun c2 => ?_) (fun c2 => ?_)
            · first
              | (exfalso; omega)
              | (refine E_aload_n (pc' := 33) g125_32 rfl rfl ?_
                 refine E_cV0v (pc' := 36) g125_33 k125_140 na116 rfl ow116 rfl (Nat.le_of_ble_eq_true rfl) (by first | assumption | exact pt_self (by first | assumption | exact pt_self (by first | assumption | exact pt_self (by first | assumption | exact pt_self (by assumption) | (rw [pt_ne (by omega)]; assumption)) | (rw [pt_ne (by omega)]; first | assumption | exact pt_self (by assumption) | (rw [pt_ne (by omega)]; assumption))) | (rw [pt_ne (by omega)]; first | assumption | exact pt_self (by first | assumption | exact pt_self (by assumption) | (rw [pt_ne (by omega)]; assumption)) | (rw [pt_ne (by omega)]; first | assumption | exact pt_self (by assumption) | (rw [pt_ne (by omega)]; assumption)))) | (rw [pt_ne (by omega)]; first | assumption | exact pt_self (by first | assumption | exact pt_self (by first | assumption | exact pt_self (by assumption) | (rw [pt_ne (by omega)]; assumption)) | (rw [pt_ne (by omega)]; first | assumption | exact pt_self (by assumption) | (rw [pt_ne (by omega)]; assumption))) | (rw [pt_ne (by omega)]; first | assumption | exact pt_self (by first | assumption | exact pt_self (by assumption) | (rw [pt_ne (by omega)]; assumption)) | (rw [pt_ne (by omega)]; first | assumption | exact pt_self (by assumption) | (rw [pt_ne (by omega)]; assumption))))) (M_tries hM htt ht15 hss hrS0.1) (by decide) ?_
                 refine E_aload_n (pc' := 37) g125_36 rfl rfl ?_
                 refine E_iload_n (pc' := 38) g125_37 rfl rfl ?_
                 refine E_iload_n (pc' := 39) g125_38 rfl rfl ?_
                 refine E_cV2i (pc' := 42) g125_39 k125_152 na120 rfl ow120 rfl (Nat.le_of_ble_eq_true rfl) (by first | assumption | exact pt_self (by first | assumption | exact pt_self (by first | assumption | exact pt_self (by first | assumption | exact pt_self (by assumption) | (rw [pt_ne (by omega)]; assumption)) | (rw [pt_ne (by omega)]; first | assumption | exact pt_self (by assumption) | (rw [pt_ne (by omega)]; assumption))) | (rw [pt_ne (by omega)]; first | assumption | exact pt_self (by first | assumption | exact pt_self (by assumption) | (rw [pt_ne (by omega)]; assumption)) | (rw [pt_ne (by omega)]; first | assumption | exact pt_self (by assumption) | (rw [pt_ne (by omega)]; assumption)))) | (rw [pt_ne (by omega)]; first | assumption | exact pt_self (by first | assumption | exact pt_self (by first | assumption | exact pt_self (by assumption) | (rw [pt_ne (by omega)]; assumption)) | (rw [pt_ne (by omega)]; first | assumption | exact pt_self (by assumption) | (rw [pt_ne (by omega)]; assumption))) | (rw [pt_ne (by omega)]; first | assumption | exact pt_self (by first | assumption | exact pt_self (by assumption) | (rw [pt_ne (by omega)]; assumption)) | (rw [pt_ne (by omega)]; first | assumption | exact pt_self (by assumption) | (rw [pt_ne (by omega)]; assumption))))) (M_whyNot (pt_nx (by decide) hM) hD0 (pt_nx (by decide) hz) (pt_nx (by decide) htd) hrT0 (pt_self htt) hrS0 (s := s) (b := b) (r := 0) (by omega) (by omega) hv) (by decide) ?_
                 refine E_st3 (pc' := 43) g125_42 rfl ?_
                 refine E_iload_n (pc' := 44) g125_43 rfl rfl ?_
                 refine E_ifeq (pc' := 47) (pt := 52) g125_44 rfl rfl (fun c3 => ?_) (fun c3 => ?_)
                 · first
                   | (exfalso; omega)
                   | (refine E_aload_n (pc' := 53) g125_52 rfl rfl ?_
                      refine E_cV0v (pc' := 56) g125_53 k125_155 na124 rfl ow124 rfl (Nat.le_of_ble_eq_true rfl) (by first | assumption | exact pt_self (by first | assumption | exact pt_self (by first | assumption | exact pt_self (by first | assumption | exact pt_self (by assumption) | (rw [pt_ne (by omega)]; assumption)) | (rw [pt_ne (by omega)]; first | assumption | exact pt_self (by assumption) | (rw [pt_ne (by omega)]; assumption))) | (rw [pt_ne (by omega)]; first | assumption | exact pt_self (by first | assumption | exact pt_self (by assumption) | (rw [pt_ne (by omega)]; assumption)) | (rw [pt_ne (by omega)]; first | assumption | exact pt_self (by assumption) | (rw [pt_ne (by omega)]; assumption)))) | (rw [pt_ne (by omega)]; first | assumption | exact pt_self (by first | assumption | exact pt_self (by first | assumption | exact pt_self (by assumption) | (rw [pt_ne (by omega)]; assumption)) | (rw [pt_ne (by omega)]; first | assumption | exact pt_self (by assumption) | (rw [pt_ne (by omega)]; assumption))) | (rw [pt_ne (by omega)]; first | assumption | exact pt_self (by first | assumption | exact pt_self (by assumption) | (rw [pt_ne (by omega)]; assumption)) | (rw [pt_ne (by omega)]; first | assumption | exact pt_self (by assumption) | (rw [pt_ne (by omega)]; assumption))))) hc (by decide) ?_
                      refine E_aload_n (pc' := 57) g125_56 rfl rfl ?_
                      refine E_getR (pc' := 60) g125_57 f125_16 tg7_3 rfl (by first | assumption | exact pt_self (by first | assumption | exact pt_self (by first | assumption | exact pt_self (by first | assumption | exact pt_self (by assumption) | (rw [pt_ne (by omega)]; assumption)) | (rw [pt_ne (by omega)]; first | assumption | exact pt_self (by assumption) | (rw [pt_ne (by omega)]; assumption))) | (rw [pt_ne (by omega)]; first | assumption | exact pt_self (by first | assumption | exact pt_self (by assumption) | (rw [pt_ne (by omega)]; assumption)) | (rw [pt_ne (by omega)]; first | assumption | exact pt_self (by assumption) | (rw [pt_ne (by omega)]; assumption)))) | (rw [pt_ne (by omega)]; first | assumption | exact pt_self (by first | assumption | exact pt_self (by first | assumption | exact pt_self (by assumption) | (rw [pt_ne (by omega)]; assumption)) | (rw [pt_ne (by omega)]; first | assumption | exact pt_self (by assumption) | (rw [pt_ne (by omega)]; assumption))) | (rw [pt_ne (by omega)]; first | assumption | exact pt_self (by first | assumption | exact pt_self (by assumption) | (rw [pt_ne (by omega)]; assumption)) | (rw [pt_ne (by omega)]; first | assumption | exact pt_self (by assumption) | (rw [pt_ne (by omega)]; assumption))))) rfl ?_
                      refine E_iload_n (pc' := 61) g125_60 rfl rfl ?_
                      refine E_iload_n (pc' := 62) g125_61 rfl rfl ?_
                      refine E_iastore (pc' := 63) g125_62 rfl (by first | assumption | exact pt_self (by first | assumption | exact pt_self (by first | assumption | exact pt_self (by first | assumption | exact pt_self (by assumption) | (rw [pt_ne (by omega)]; assumption)) | (rw [pt_ne (by omega)]; first | assumption | exact pt_self (by assumption) | (rw [pt_ne (by omega)]; assumption))) | (rw [pt_ne (by omega)]; first | assumption | exact pt_self (by first | assumption | exact pt_self (by assumption) | (rw [pt_ne (by omega)]; assumption)) | (rw [pt_ne (by omega)]; first | assumption | exact pt_self (by assumption) | (rw [pt_ne (by omega)]; assumption)))) | (rw [pt_ne (by omega)]; first | assumption | exact pt_self (by first | assumption | exact pt_self (by first | assumption | exact pt_self (by assumption) | (rw [pt_ne (by omega)]; assumption)) | (rw [pt_ne (by omega)]; first | assumption | exact pt_self (by assumption) | (rw [pt_ne (by omega)]; assumption))) | (rw [pt_ne (by omega)]; first | assumption | exact pt_self (by first | assumption | exact pt_self (by assumption) | (rw [pt_ne (by omega)]; assumption)) | (rw [pt_ne (by omega)]; first | assumption | exact pt_self (by assumption) | (rw [pt_ne (by omega)]; assumption))))) (by omega) (by omega) ?_
                      refine E_aload_n (pc' := 64) g125_63 rfl rfl ?_
                      refine E_cV0i (pc' := 67) g125_64 k125_158 na123 rfl ow123 rfl (Nat.le_of_ble_eq_true rfl) (by first | assumption | exact pt_self (by first | assumption | exact pt_self (by first | assumption | exact pt_self (by first | assumption | exact pt_self (by assumption) | (rw [pt_ne (by omega)]; assumption)) | (rw [pt_ne (by omega)]; first | assumption | exact pt_self (by assumption) | (rw [pt_ne (by omega)]; assumption))) | (rw [pt_ne (by omega)]; first | assumption | exact pt_self (by first | assumption | exact pt_self (by assumption) | (rw [pt_ne (by omega)]; assumption)) | (rw [pt_ne (by omega)]; first | assumption | exact pt_self (by assumption) | (rw [pt_ne (by omega)]; assumption)))) | (rw [pt_ne (by omega)]; first | assumption | exact pt_self (by first | assumption | exact pt_self (by first | assumption | exact pt_self (by assumption) | (rw [pt_ne (by omega)]; assumption)) | (rw [pt_ne (by omega)]; first | assumption | exact pt_self (by assumption) | (rw [pt_ne (by omega)]; assumption))) | (rw [pt_ne (by omega)]; first | assumption | exact pt_self (by first | assumption | exact pt_self (by assumption) | (rw [pt_ne (by omega)]; assumption)) | (rw [pt_ne (by omega)]; first | assumption | exact pt_self (by assumption) | (rw [pt_ne (by omega)]; assumption))))) (M_open (bl := up bl s b) (ss := up ss s b) (pt_nx (by decide) (pt_self (pt_nx (by decide) (pt_nx (by decide) hM)))) hD0 (pt_nx (by decide) (pt_nx (by decide) (pt_nx (by decide) (pt_nx (by decide) hz)))) (pt_self (pt_nx (by decide) (pt_nx (by decide) (pt_nx (by decide) hss)))) hrb) (by decide) ?_
                      exact E_iret g125_67 ro125 rfl rfl)
                 · first
                   | (exfalso; omega)
                   | (refine E_bipush (pc' := 49) g125_47 (by decide) rfl ?_
                      refine E_iload_n (pc' := 50) g125_49 rfl rfl ?_
                      refine E_isub (pc' := 51) g125_50 (m_in_iff.mpr (by omega)) rfl ?_
                      exact E_iret g125_51 ro125 rfl rfl))
            · first
              | (exfalso; omega)
              | (refine E_bipush (pc' := 31) g125_29 (by decide) rfl ?_
                 exact E_iret g125_31 ro125 rfl rfl))
       · first
         | (exfalso; omega)
         | (refine E_iconst (pc' := 17) g125_16 (by decide) rfl ?_
            exact E_iret g125_17 ro125 rfl rfl))
theorem M_takes_no (hM : H[74]? = some (7, mdL kd un nk le ap nu me op de fo bs bu)) (hD : okD kd wd ht rm mo sd bo ed hu) (hz : H[75]? = some (8, [wd, ht, rm, mo, sd, bo])) (htd : H[76]? = some (8, td)) (hrT : relT td ed hu kd) (hss : H[77]? = some (8, ss)) (hrS : relS ss bl sl kd) (htt : H[85]? = some (8, tt)) (ht15 : tt.length = 15) {s r : Int} (hno : ¬ (0 ≤ s ∧ s < wd * ht ∧ ¬ ix bl s = -9)) (hr : (¬ (0 ≤ s ∧ s < wd * ht) → r = -1) ∧ ((0 ≤ s ∧ s < wd * ht) → r = -2)) : Call 3 126 [mR 74, mI s] H (mI r) H := by
  have hD0 := hD
  have hrS0 := hrS
  have hrT0 := hrT
  obtain ⟨r1, r2, r3, r4, r5, r6, r7, b1, b2⟩ := hD
  obtain ⟨nt, q1, q2, q3, q4, q5⟩ := hrS
  obtain ⟨nd, u1, u2⟩ := hrT
  have hw := wh_bd r2.1 r2.2 r3.1 r3.2
  have e1 := inI_or s 0 (wd * ht)
  refine Call_of rfl ?_
  refine E_aload_n (pc' := 1) g126_0 rfl rfl ?_
  refine E_iload_n (pc' := 2) g126_1 rfl rfl ?_
  refine E_cV1i (pc' := 5) g126_2 k126_149 na112 rfl ow112 rfl (Nat.le_of_ble_eq_true rfl) (by first | assumption | exact pt_self (by first | assumption | exact pt_self (by first | assumption | exact pt_self (by first | assumption | exact pt_self (by assumption) | (rw [pt_ne (by omega)]; assumption)) | (rw [pt_ne (by omega)]; first | assumption | exact pt_self (by assumption) | (rw [pt_ne (by omega)]; assumption))) | (rw [pt_ne (by omega)]; first | assumption | exact pt_self (by first | assumption | exact pt_self (by assumption) | (rw [pt_ne (by omega)]; assumption)) | (rw [pt_ne (by omega)]; first | assumption | exact pt_self (by assumption) | (rw [pt_ne (by omega)]; assumption)))) | (rw [pt_ne (by omega)]; first | assumption | exact pt_self (by first | assumption | exact pt_self (by first | assumption | exact pt_self (by assumption) | (rw [pt_ne (by omega)]; assumption)) | (rw [pt_ne (by omega)]; first | assumption | exact pt_self (by assumption) | (rw [pt_ne (by omega)]; assumption))) | (rw [pt_ne (by omega)]; first | assumption | exact pt_self (by first | assumption | exact pt_self (by assumption) | (rw [pt_ne (by omega)]; assumption)) | (rw [pt_ne (by omega)]; first | assumption | exact pt_self (by assumption) | (rw [pt_ne (by omega)]; assumption))))) (M_isSquare hM hD0 hz) (by decide) ?_
  refine E_ifne (pc' := 8) (pt := 10) g126_5 rfl rfl (fun c0 => ?_) (fun c0 => ?_)
  · first
    | (exfalso; omega)
    | (refine E_aload_n (pc' := 11) g126_10 rfl rfl ?_
       refine E_getR (pc' := 14) g126_11 f126_16 tg7_3 rfl (by first | assumption | exact pt_self (by first | assumption | exact pt_self (by first | assumption | exact pt_self (by first | assumption | exact pt_self (by assumption) | (rw [pt_ne (by omega)]; assumption)) | (rw [pt_ne (by omega)]; first | assumption | exact pt_self (by assumption) | (rw [pt_ne (by omega)]; assumption))) | (rw [pt_ne (by omega)]; first | assumption | exact pt_self (by first | assumption | exact pt_self (by assumption) | (rw [pt_ne (by omega)]; assumption)) | (rw [pt_ne (by omega)]; first | assumption | exact pt_self (by assumption) | (rw [pt_ne (by omega)]; assumption)))) | (rw [pt_ne (by omega)]; first | assumption | exact pt_self (by first | assumption | exact pt_self (by first | assumption | exact pt_self (by assumption) | (rw [pt_ne (by omega)]; assumption)) | (rw [pt_ne (by omega)]; first | assumption | exact pt_self (by assumption) | (rw [pt_ne (by omega)]; assumption))) | (rw [pt_ne (by omega)]; first | assumption | exact pt_self (by first | assumption | exact pt_self (by assumption) | (rw [pt_ne (by omega)]; assumption)) | (rw [pt_ne (by omega)]; first | assumption | exact pt_self (by assumption) | (rw [pt_ne (by omega)]; assumption))))) rfl ?_
       refine E_iload_n (pc' := 15) g126_14 rfl rfl ?_
       refine E_iald (pc' := 16) (v := ix bl s) g126_15 rfl (by first | assumption | exact pt_self (by first | assumption | exact pt_self (by first | assumption | exact pt_self (by first | assumption | exact pt_self (by assumption) | (rw [pt_ne (by omega)]; assumption)) | (rw [pt_ne (by omega)]; first | assumption | exact pt_self (by assumption) | (rw [pt_ne (by omega)]; assumption))) | (rw [pt_ne (by omega)]; first | assumption | exact pt_self (by first | assumption | exact pt_self (by assumption) | (rw [pt_ne (by omega)]; assumption)) | (rw [pt_ne (by omega)]; first | assumption | exact pt_self (by assumption) | (rw [pt_ne (by omega)]; assumption)))) | (rw [pt_ne (by omega)]; first | assumption | exact pt_self (by first | assumption | exact pt_self (by first | assumption | exact pt_self (by assumption) | (rw [pt_ne (by omega)]; assumption)) | (rw [pt_ne (by omega)]; first | assumption | exact pt_self (by assumption) | (rw [pt_ne (by omega)]; assumption))) | (rw [pt_ne (by omega)]; first | assumption | exact pt_self (by first | assumption | exact pt_self (by assumption) | (rw [pt_ne (by omega)]; assumption)) | (rw [pt_ne (by omega)]; first | assumption | exact pt_self (by assumption) | (rw [pt_ne (by omega)]; assumption))))) (by omega) (by omega) (q1 s (by omega) (by omega)) ?_
       refine E_st2 (pc' := 17) g126_16 rfl ?_
       refine E_iload_n (pc' := 18) g126_17 rfl rfl ?_
       refine E_bipush (pc' := 20) g126_18 (by decide) rfl ?_
       refine E_icne (pc' := 23) (pt := 26) g126_20 rfl rfl (fun c1 => ?_) (fun c1 => ?_)
       · first
         | (exfalso; omega)
         | (exfalso; omega)
       · first
         | (exfalso; omega)
         | (refine E_bipush (pc' := 25) g126_23 (by decide) rfl ?_
            exact E_iret g126_25 ro126 (congrArg mI (by first | (have q := hr.1 (by omega); first | exact q | omega) | (have q := hr.2 (by omega); first | exact q | omega))) rfl))
  · first
    | (exfalso; omega)
    | (refine E_iconst (pc' := 9) g126_8 (by decide) rfl ?_
       exact E_iret g126_9 ro126 (congrArg mI (by first | (have q := hr.1 (by omega); first | exact q | omega) | (have q := hr.2 (by omega); first | exact q | omega))) rfl)
theorem M_takes (hM : H[74]? = some (7, mdL kd un nk le ap nu me op de fo bs bu)) (hD : okD kd wd ht rm mo sd bo ed hu) (hz : H[75]? = some (8, [wd, ht, rm, mo, sd, bo])) (htd : H[76]? = some (8, td)) (hrT : relT td ed hu kd) (hss : H[77]? = some (8, ss)) (hrS : relS ss bl sl kd) (htt : H[85]? = some (8, tt)) (ht15 : tt.length = 15) (hps : H[78]? = some (8, ps)) (hpl : ps.length = 150) (hun : 0 ≤ un ∧ un ≤ 10) {s : Int} (hs : 0 ≤ s ∧ s < wd * ht) (hop : ¬ ix bl s = -9) : ∃ ps2, notR ps ps2 ss un ∧ Call 3 126 [mR 74, mI s] H (mI (ix bl s)) (pt (pt (pt H 78 ps2) 74 (mdL kd (min (un + 1) 10) nk le ap nu me op de fo bs bu)) 77 (up ss s (-9))) := by
  have hD0 := hD
  have hrS0 := hrS
  have hrT0 := hrT
  obtain ⟨r1, r2, r3, r4, r5, r6, r7, b1, b2⟩ := hD
  obtain ⟨nt, q1, q2, q3, q4, q5⟩ := hrS
  obtain ⟨nd, u1, u2⟩ := hrT
  have hw := wh_bd r2.1 r2.2 r3.1 r3.2
  have e1 := inI_or s 0 (wd * ht)
  obtain ⟨ps2, hn, hc⟩ := M_notes (H := H) hM hun hps hpl hss hrS0.1
  refine ⟨ps2, hn, Call_of rfl ?_⟩
  refine E_aload_n (pc' := 1) g126_0 rfl rfl ?_
  refine E_iload_n (pc' := 2) g126_1 rfl rfl ?_
  refine E_cV1i (pc' := 5) g126_2 k126_149 na112 rfl ow112 rfl (Nat.le_of_ble_eq_true rfl) (by first | assumption | exact pt_self (by first | assumption | exact pt_self (by first | assumption | exact pt_self (by first | assumption | exact pt_self (by assumption) | (rw [pt_ne (by omega)]; assumption)) | (rw [pt_ne (by omega)]; first | assumption | exact pt_self (by assumption) | (rw [pt_ne (by omega)]; assumption))) | (rw [pt_ne (by omega)]; first | assumption | exact pt_self (by first | assumption | exact pt_self (by assumption) | (rw [pt_ne (by omega)]; assumption)) | (rw [pt_ne (by omega)]; first | assumption | exact pt_self (by assumption) | (rw [pt_ne (by omega)]; assumption)))) | (rw [pt_ne (by omega)]; first | assumption | exact pt_self (by first | assumption | exact pt_self (by first | assumption | exact pt_self (by assumption) | (rw [pt_ne (by omega)]; assumption)) | (rw [pt_ne (by omega)]; first | assumption | exact pt_self (by assumption) | (rw [pt_ne (by omega)]; assumption))) | (rw [pt_ne (by omega)]; first | assumption | exact pt_self (by first | assumption | exact pt_self (by assumption) | (rw [pt_ne (by omega)]; assumption)) | (rw [pt_ne (by omega)]; first | assumption | exact pt_self (by assumption) | (rw [pt_ne (by omega)]; assumption))))) (M_isSquare hM hD0 hz) (by decide) ?_
  refine E_ifne (pc' := 8) (pt := 10) g126_5 rfl rfl (fun c0 => ?_) (fun c0 => ?_)
  · first
    | (exfalso; omega)
    | (refine E_aload_n (pc' := 11) g126_10 rfl rfl ?_
       refine E_getR (pc' := 14) g126_11 f126_16 tg7_3 rfl (by first | assumption | exact pt_self (by first | assumption | exact pt_self (by first | assumption | exact pt_self (by first | assumption | exact pt_self (by assumption) | (rw [pt_ne (by omega)]; assumption)) | (rw [pt_ne (by omega)]; first | assumption | exact pt_self (by assumption) | (rw [pt_ne (by omega)]; assumption))) | (rw [pt_ne (by omega)]; first | assumption | exact pt_self (by first | assumption | exact pt_self (by assumption) | (rw [pt_ne (by omega)]; assumption)) | (rw [pt_ne (by omega)]; first | assumption | exact pt_self (by assumption) | (rw [pt_ne (by omega)]; assumption)))) | (rw [pt_ne (by omega)]; first | assumption | exact pt_self (by first | assumption | exact pt_self (by first | assumption | exact pt_self (by assumption) | (rw [pt_ne (by omega)]; assumption)) | (rw [pt_ne (by omega)]; first | assumption | exact pt_self (by assumption) | (rw [pt_ne (by omega)]; assumption))) | (rw [pt_ne (by omega)]; first | assumption | exact pt_self (by first | assumption | exact pt_self (by assumption) | (rw [pt_ne (by omega)]; assumption)) | (rw [pt_ne (by omega)]; first | assumption | exact pt_self (by assumption) | (rw [pt_ne (by omega)]; assumption))))) rfl ?_
       refine E_iload_n (pc' := 15) g126_14 rfl rfl ?_
       refine E_iald (pc' := 16) (v := ix bl s) g126_15 rfl (by first | assumption | exact pt_self (by first | assumption | exact pt_self (by first | assumption | exact pt_self (by first | assumption | exact pt_self (by assumption) | (rw [pt_ne (by omega)]; assumption)) | (rw [pt_ne (by omega)]; first | assumption | exact pt_self (by assumption) | (rw [pt_ne (by omega)]; assumption))) | (rw [pt_ne (by omega)]; first | assumption | exact pt_self (by first | assumption | exact pt_self (by assumption) | (rw [pt_ne (by omega)]; assumption)) | (rw [pt_ne (by omega)]; first | assumption | exact pt_self (by assumption) | (rw [pt_ne (by omega)]; assumption)))) | (rw [pt_ne (by omega)]; first | assumption | exact pt_self (by first | assumption | exact pt_self (by first | assumption | exact pt_self (by assumption) | (rw [pt_ne (by omega)]; assumption)) | (rw [pt_ne (by omega)]; first | assumption | exact pt_self (by assumption) | (rw [pt_ne (by omega)]; assumption))) | (rw [pt_ne (by omega)]; first | assumption | exact pt_self (by first | assumption | exact pt_self (by assumption) | (rw [pt_ne (by omega)]; assumption)) | (rw [pt_ne (by omega)]; first | assumption | exact pt_self (by assumption) | (rw [pt_ne (by omega)]; assumption))))) (by omega) (by omega) (q1 s (by omega) (by omega)) ?_
       refine E_st2 (pc' := 17) g126_16 rfl ?_
       refine E_iload_n (pc' := 18) g126_17 rfl rfl ?_
       refine E_bipush (pc' := 20) g126_18 (by decide) rfl ?_
       refine E_icne (pc' := 23) (pt := 26) g126_20 rfl rfl (fun c1 => ?_) (fun c1 => ?_)
       · first
         | (exfalso; omega)
         | (refine E_aload_n (pc' := 27) g126_26 rfl rfl ?_
            refine E_cV0v (pc' := 30) g126_27 k126_155 na124 rfl ow124 rfl (Nat.le_of_ble_eq_true rfl) (by first | assumption | exact pt_self (by first | assumption | exact pt_self (by first | assumption | exact pt_self (by first | assumption | exact pt_self (by assumption) | (rw [pt_ne (by omega)]; assumption)) | (rw [pt_ne (by omega)]; first | assumption | exact pt_self (by assumption) | (rw [pt_ne (by omega)]; assumption))) | (rw [pt_ne (by omega)]; first | assumption | exact pt_self (by first | assumption | exact pt_self (by assumption) | (rw [pt_ne (by omega)]; assumption)) | (rw [pt_ne (by omega)]; first | assumption | exact pt_self (by assumption) | (rw [pt_ne (by omega)]; assumption)))) | (rw [pt_ne (by omega)]; first | assumption | exact pt_self (by first | assumption | exact pt_self (by first | assumption | exact pt_self (by assumption) | (rw [pt_ne (by omega)]; assumption)) | (rw [pt_ne (by omega)]; first | assumption | exact pt_self (by assumption) | (rw [pt_ne (by omega)]; assumption))) | (rw [pt_ne (by omega)]; first | assumption | exact pt_self (by first | assumption | exact pt_self (by assumption) | (rw [pt_ne (by omega)]; assumption)) | (rw [pt_ne (by omega)]; first | assumption | exact pt_self (by assumption) | (rw [pt_ne (by omega)]; assumption))))) hc (by decide) ?_
            refine E_aload_n (pc' := 31) g126_30 rfl rfl ?_
            refine E_getR (pc' := 34) g126_31 f126_16 tg7_3 rfl (by first | assumption | exact pt_self (by first | assumption | exact pt_self (by first | assumption | exact pt_self (by first | assumption | exact pt_self (by assumption) | (rw [pt_ne (by omega)]; assumption)) | (rw [pt_ne (by omega)]; first | assumption | exact pt_self (by assumption) | (rw [pt_ne (by omega)]; assumption))) | (rw [pt_ne (by omega)]; first | assumption | exact pt_self (by first | assumption | exact pt_self (by assumption) | (rw [pt_ne (by omega)]; assumption)) | (rw [pt_ne (by omega)]; first | assumption | exact pt_self (by assumption) | (rw [pt_ne (by omega)]; assumption)))) | (rw [pt_ne (by omega)]; first | assumption | exact pt_self (by first | assumption | exact pt_self (by first | assumption | exact pt_self (by assumption) | (rw [pt_ne (by omega)]; assumption)) | (rw [pt_ne (by omega)]; first | assumption | exact pt_self (by assumption) | (rw [pt_ne (by omega)]; assumption))) | (rw [pt_ne (by omega)]; first | assumption | exact pt_self (by first | assumption | exact pt_self (by assumption) | (rw [pt_ne (by omega)]; assumption)) | (rw [pt_ne (by omega)]; first | assumption | exact pt_self (by assumption) | (rw [pt_ne (by omega)]; assumption))))) rfl ?_
            refine E_iload_n (pc' := 35) g126_34 rfl rfl ?_
            refine E_bipush (pc' := 37) g126_35 (by decide) rfl ?_
            refine E_iastore (pc' := 38) g126_37 rfl (by first | assumption | exact pt_self (by first | assumption | exact pt_self (by first | assumption | exact pt_self (by first | assumption | exact pt_self (by assumption) | (rw [pt_ne (by omega)]; assumption)) | (rw [pt_ne (by omega)]; first | assumption | exact pt_self (by assumption) | (rw [pt_ne (by omega)]; assumption))) | (rw [pt_ne (by omega)]; first | assumption | exact pt_self (by first | assumption | exact pt_self (by assumption) | (rw [pt_ne (by omega)]; assumption)) | (rw [pt_ne (by omega)]; first | assumption | exact pt_self (by assumption) | (rw [pt_ne (by omega)]; assumption)))) | (rw [pt_ne (by omega)]; first | assumption | exact pt_self (by first | assumption | exact pt_self (by first | assumption | exact pt_self (by assumption) | (rw [pt_ne (by omega)]; assumption)) | (rw [pt_ne (by omega)]; first | assumption | exact pt_self (by assumption) | (rw [pt_ne (by omega)]; assumption))) | (rw [pt_ne (by omega)]; first | assumption | exact pt_self (by first | assumption | exact pt_self (by assumption) | (rw [pt_ne (by omega)]; assumption)) | (rw [pt_ne (by omega)]; first | assumption | exact pt_self (by assumption) | (rw [pt_ne (by omega)]; assumption))))) (by omega) (by omega) ?_
            refine E_iload_n (pc' := 39) g126_38 rfl rfl ?_
            exact E_iret g126_39 ro126 rfl rfl)
       · first
         | (exfalso; omega)
         | (refine E_bipush (pc' := 25) g126_23 (by decide) rfl ?_
            exact E_iret g126_25 ro126 rfl rfl))
  · first
    | (exfalso; omega)
    | (refine E_iconst (pc' := 9) g126_8 (by decide) rfl ?_
       exact E_iret g126_9 ro126 rfl rfl)
theorem M_buys_no (hM : H[74]? = some (7, mdL kd un nk le ap nu me op de fo bs bu)) (hD : okD kd wd ht rm mo sd bo ed hu) (hz : H[75]? = some (8, [wd, ht, rm, mo, sd, bo])) (htd : H[76]? = some (8, td)) (hrT : relT td ed hu kd) (hss : H[77]? = some (8, ss)) (hrS : relS ss bl sl kd) (htt : H[85]? = some (8, tt)) (ht15 : tt.length = 15) {k x r : Int} (hno : ¬ (0 ≤ k ∧ k < kd ∧ 0 ≤ x ∧ x ≤ 9 ∧ ¬ ix sl k = x)) (hr : (¬ (0 ≤ k ∧ k < kd ∧ 0 ≤ x ∧ x ≤ 9) → r = -1) ∧ ((0 ≤ k ∧ k < kd ∧ 0 ≤ x ∧ x ≤ 9) → r = -2)) : Call 3 127 [mR 74, mI k, mI x] H (mI r) H := by
  have hD0 := hD
  have hrS0 := hrS
  have hrT0 := hrT
  obtain ⟨r1, r2, r3, r4, r5, r6, r7, b1, b2⟩ := hD
  obtain ⟨nt, q1, q2, q3, q4, q5⟩ := hrS
  obtain ⟨nd, u1, u2⟩ := hrT
  have hw := wh_bd r2.1 r2.2 r3.1 r3.2
  have e1 := inI_or k 0 kd
  have e2 := inC_or x 0 9
  refine Call_of rfl ?_
  refine E_aload_n (pc' := 1) g127_0 rfl rfl ?_
  refine E_iload_n (pc' := 2) g127_1 rfl rfl ?_
  refine E_cV1i (pc' := 5) g127_2 k127_136 na109 rfl ow109 rfl (Nat.le_of_ble_eq_true rfl) (by first | assumption | exact pt_self (by first | assumption | exact pt_self (by first | assumption | exact pt_self (by first | assumption | exact pt_self (by assumption) | (rw [pt_ne (by omega)]; assumption)) | (rw [pt_ne (by omega)]; first | assumption | exact pt_self (by assumption) | (rw [pt_ne (by omega)]; assumption))) | (rw [pt_ne (by omega)]; first | assumption | exact pt_self (by first | assumption | exact pt_self (by assumption) | (rw [pt_ne (by omega)]; assumption)) | (rw [pt_ne (by omega)]; first | assumption | exact pt_self (by assumption) | (rw [pt_ne (by omega)]; assumption)))) | (rw [pt_ne (by omega)]; first | assumption | exact pt_self (by first | assumption | exact pt_self (by first | assumption | exact pt_self (by assumption) | (rw [pt_ne (by omega)]; assumption)) | (rw [pt_ne (by omega)]; first | assumption | exact pt_self (by assumption) | (rw [pt_ne (by omega)]; assumption))) | (rw [pt_ne (by omega)]; first | assumption | exact pt_self (by first | assumption | exact pt_self (by assumption) | (rw [pt_ne (by omega)]; assumption)) | (rw [pt_ne (by omega)]; first | assumption | exact pt_self (by assumption) | (rw [pt_ne (by omega)]; assumption))))) (M_isKind hM hD0) (by decide) ?_
  refine E_ifeq (pc' := 8) (pt := 18) g127_5 rfl rfl (fun c0 => ?_) (fun c0 => ?_)
  · first
    | (exfalso; omega)
    | (refine E_iconst (pc' := 19) g127_18 (by decide) rfl ?_
       exact E_iret g127_19 ro127 (congrArg mI (by first | (have q := hr.1 (by omega); first | exact q | omega) | (have q := hr.2 (by omega); first | exact q | omega))) rfl)
  · first
    | (exfalso; omega)
    | (refine E_iload_n (pc' := 9) g127_8 rfl rfl ?_
       refine E_iconst (pc' := 10) g127_9 (by decide) rfl ?_
       refine E_bipush (pc' := 12) g127_10 (by decide) rfl ?_
       refine E_cS3i (pc' := 15) g127_12 k127_81 na97 rfl rfl (Nat.le_of_ble_eq_true rfl) M_in (by decide) ?_
       refine E_ifne (pc' := 18) (pt := 20) g127_15 rfl rfl (fun c1 => ?_) (fun c1 => ?_)
       · first
         | (exfalso; omega)
         | (refine E_aload_n (pc' := 21) g127_20 rfl rfl ?_
            refine E_getR (pc' := 24) g127_21 f127_16 tg7_3 rfl (by first | assumption | exact pt_self (by first | assumption | exact pt_self (by first | assumption | exact pt_self (by first | assumption | exact pt_self (by assumption) | (rw [pt_ne (by omega)]; assumption)) | (rw [pt_ne (by omega)]; first | assumption | exact pt_self (by assumption) | (rw [pt_ne (by omega)]; assumption))) | (rw [pt_ne (by omega)]; first | assumption | exact pt_self (by first | assumption | exact pt_self (by assumption) | (rw [pt_ne (by omega)]; assumption)) | (rw [pt_ne (by omega)]; first | assumption | exact pt_self (by assumption) | (rw [pt_ne (by omega)]; assumption)))) | (rw [pt_ne (by omega)]; first | assumption | exact pt_self (by first | assumption | exact pt_self (by first | assumption | exact pt_self (by assumption) | (rw [pt_ne (by omega)]; assumption)) | (rw [pt_ne (by omega)]; first | assumption | exact pt_self (by assumption) | (rw [pt_ne (by omega)]; assumption))) | (rw [pt_ne (by omega)]; first | assumption | exact pt_self (by first | assumption | exact pt_self (by assumption) | (rw [pt_ne (by omega)]; assumption)) | (rw [pt_ne (by omega)]; first | assumption | exact pt_self (by assumption) | (rw [pt_ne (by omega)]; assumption))))) rfl ?_
            refine E_bipush (pc' := 26) g127_24 (by decide) rfl ?_
            refine E_iload_n (pc' := 27) g127_26 rfl rfl ?_
            refine E_iadd (pc' := 28) g127_27 (m_in_iff.mpr (by omega)) rfl ?_
            refine E_iald (pc' := 29) (v := ix sl k) g127_28 rfl (by first | assumption | exact pt_self (by first | assumption | exact pt_self (by first | assumption | exact pt_self (by first | assumption | exact pt_self (by assumption) | (rw [pt_ne (by omega)]; assumption)) | (rw [pt_ne (by omega)]; first | assumption | exact pt_self (by assumption) | (rw [pt_ne (by omega)]; assumption))) | (rw [pt_ne (by omega)]; first | assumption | exact pt_self (by first | assumption | exact pt_self (by assumption) | (rw [pt_ne (by omega)]; assumption)) | (rw [pt_ne (by omega)]; first | assumption | exact pt_self (by assumption) | (rw [pt_ne (by omega)]; assumption)))) | (rw [pt_ne (by omega)]; first | assumption | exact pt_self (by first | assumption | exact pt_self (by first | assumption | exact pt_self (by assumption) | (rw [pt_ne (by omega)]; assumption)) | (rw [pt_ne (by omega)]; first | assumption | exact pt_self (by assumption) | (rw [pt_ne (by omega)]; assumption))) | (rw [pt_ne (by omega)]; first | assumption | exact pt_self (by first | assumption | exact pt_self (by assumption) | (rw [pt_ne (by omega)]; assumption)) | (rw [pt_ne (by omega)]; first | assumption | exact pt_self (by assumption) | (rw [pt_ne (by omega)]; assumption))))) (by omega) (by omega) (q3 k (by omega) (by omega)) ?_
            refine E_st3 (pc' := 30) g127_29 rfl ?_
            refine E_iload_n (pc' := 31) g127_30 rfl rfl ?_
            refine E_iload_n (pc' := 32) g127_31 rfl rfl ?_
            refine E_icne (pc' := 35) (pt := 38) g127_32 rfl rfl (fun c2 => ?_) (fun c2 => ?_)
            · first
              | (exfalso; omega)
              | (exfalso; omega)
            · first
              | (exfalso; omega)
              | (refine E_bipush (pc' := 37) g127_35 (by decide) rfl ?_
                 exact E_iret g127_37 ro127 (congrArg mI (by first | (have q := hr.1 (by omega); first | exact q | omega) | (have q := hr.2 (by omega); first | exact q | omega))) rfl))
       · first
         | (exfalso; omega)
         | (refine E_iconst (pc' := 19) g127_18 (by decide) rfl ?_
            exact E_iret g127_19 ro127 (congrArg mI (by first | (have q := hr.1 (by omega); first | exact q | omega) | (have q := hr.2 (by omega); first | exact q | omega))) rfl))
theorem M_buys (hM : H[74]? = some (7, mdL kd un nk le ap nu me op de fo bs bu)) (hD : okD kd wd ht rm mo sd bo ed hu) (hz : H[75]? = some (8, [wd, ht, rm, mo, sd, bo])) (htd : H[76]? = some (8, td)) (hrT : relT td ed hu kd) (hss : H[77]? = some (8, ss)) (hrS : relS ss bl sl kd) (htt : H[85]? = some (8, tt)) (ht15 : tt.length = 15) (hps : H[78]? = some (8, ps)) (hpl : ps.length = 150) (hun : 0 ≤ un ∧ un ≤ 10) {k x : Int} (hk : 0 ≤ k ∧ k < kd) (hx : 0 ≤ x ∧ x ≤ 9) (hne : ¬ ix sl k = x) : ∃ ps2, notR ps ps2 ss un ∧ Call 3 127 [mR 74, mI k, mI x] H (mI (ix sl k)) (pt (pt (pt H 78 ps2) 74 (mdL kd (min (un + 1) 10) nk le ap nu me op de fo bs bu)) 77 (up ss (9 + k) x)) := by
  have hD0 := hD
  have hrS0 := hrS
  have hrT0 := hrT
  obtain ⟨r1, r2, r3, r4, r5, r6, r7, b1, b2⟩ := hD
  obtain ⟨nt, q1, q2, q3, q4, q5⟩ := hrS
  obtain ⟨nd, u1, u2⟩ := hrT
  have hw := wh_bd r2.1 r2.2 r3.1 r3.2
  have e1 := inI_or k 0 kd
  have e2 := inC_or x 0 9
  obtain ⟨ps2, hn, hc⟩ := M_notes (H := H) hM hun hps hpl hss hrS0.1
  refine ⟨ps2, hn, Call_of rfl ?_⟩
  refine E_aload_n (pc' := 1) g127_0 rfl rfl ?_
  refine E_iload_n (pc' := 2) g127_1 rfl rfl ?_
  refine E_cV1i (pc' := 5) g127_2 k127_136 na109 rfl ow109 rfl (Nat.le_of_ble_eq_true rfl) (by first | assumption | exact pt_self (by first | assumption | exact pt_self (by first | assumption | exact pt_self (by first | assumption | exact pt_self (by assumption) | (rw [pt_ne (by omega)]; assumption)) | (rw [pt_ne (by omega)]; first | assumption | exact pt_self (by assumption) | (rw [pt_ne (by omega)]; assumption))) | (rw [pt_ne (by omega)]; first | assumption | exact pt_self (by first | assumption | exact pt_self (by assumption) | (rw [pt_ne (by omega)]; assumption)) | (rw [pt_ne (by omega)]; first | assumption | exact pt_self (by assumption) | (rw [pt_ne (by omega)]; assumption)))) | (rw [pt_ne (by omega)]; first | assumption | exact pt_self (by first | assumption | exact pt_self (by first | assumption | exact pt_self (by assumption) | (rw [pt_ne (by omega)]; assumption)) | (rw [pt_ne (by omega)]; first | assumption | exact pt_self (by assumption) | (rw [pt_ne (by omega)]; assumption))) | (rw [pt_ne (by omega)]; first | assumption | exact pt_self (by first | assumption | exact pt_self (by assumption) | (rw [pt_ne (by omega)]; assumption)) | (rw [pt_ne (by omega)]; first | assumption | exact pt_self (by assumption) | (rw [pt_ne (by omega)]; assumption))))) (M_isKind hM hD0) (by decide) ?_
  refine E_ifeq (pc' := 8) (pt := 18) g127_5 rfl rfl (fun c0 => ?_) (fun c0 => ?_)
  · first
    | (exfalso; omega)
    | (refine E_iconst (pc' := 19) g127_18 (by decide) rfl ?_
       exact E_iret g127_19 ro127 rfl rfl)
  · first
    | (exfalso; omega)
    | (refine E_iload_n (pc' := 9) g127_8 rfl rfl ?_
       refine E_iconst (pc' := 10) g127_9 (by decide) rfl ?_
       refine E_bipush (pc' := 12) g127_10 (by decide) rfl ?_
       refine E_cS3i (pc' := 15) g127_12 k127_81 na97 rfl rfl (Nat.le_of_ble_eq_true rfl) M_in (by decide) ?_
       refine E_ifne (pc' := 18) (pt := 20) g127_15 rfl rfl (fun c1 => ?_) (fun c1 => ?_)
       · first
         | (exfalso; omega)
         | (refine E_aload_n (pc' := 21) g127_20 rfl rfl ?_
            refine E_getR (pc' := 24) g127_21 f127_16 tg7_3 rfl (by first | assumption | exact pt_self (by first | assumption | exact pt_self (by first | assumption | exact pt_self (by first | assumption | exact pt_self (by assumption) | (rw [pt_ne (by omega)]; assumption)) | (rw [pt_ne (by omega)]; first | assumption | exact pt_self (by assumption) | (rw [pt_ne (by omega)]; assumption))) | (rw [pt_ne (by omega)]; first | assumption | exact pt_self (by first | assumption | exact pt_self (by assumption) | (rw [pt_ne (by omega)]; assumption)) | (rw [pt_ne (by omega)]; first | assumption | exact pt_self (by assumption) | (rw [pt_ne (by omega)]; assumption)))) | (rw [pt_ne (by omega)]; first | assumption | exact pt_self (by first | assumption | exact pt_self (by first | assumption | exact pt_self (by assumption) | (rw [pt_ne (by omega)]; assumption)) | (rw [pt_ne (by omega)]; first | assumption | exact pt_self (by assumption) | (rw [pt_ne (by omega)]; assumption))) | (rw [pt_ne (by omega)]; first | assumption | exact pt_self (by first | assumption | exact pt_self (by assumption) | (rw [pt_ne (by omega)]; assumption)) | (rw [pt_ne (by omega)]; first | assumption | exact pt_self (by assumption) | (rw [pt_ne (by omega)]; assumption))))) rfl ?_
            refine E_bipush (pc' := 26) g127_24 (by decide) rfl ?_
            refine E_iload_n (pc' := 27) g127_26 rfl rfl ?_
            refine E_iadd (pc' := 28) g127_27 (m_in_iff.mpr (by omega)) rfl ?_
            refine E_iald (pc' := 29) (v := ix sl k) g127_28 rfl (by first | assumption | exact pt_self (by first | assumption | exact pt_self (by first | assumption | exact pt_self (by first | assumption | exact pt_self (by assumption) | (rw [pt_ne (by omega)]; assumption)) | (rw [pt_ne (by omega)]; first | assumption | exact pt_self (by assumption) | (rw [pt_ne (by omega)]; assumption))) | (rw [pt_ne (by omega)]; first | assumption | exact pt_self (by first | assumption | exact pt_self (by assumption) | (rw [pt_ne (by omega)]; assumption)) | (rw [pt_ne (by omega)]; first | assumption | exact pt_self (by assumption) | (rw [pt_ne (by omega)]; assumption)))) | (rw [pt_ne (by omega)]; first | assumption | exact pt_self (by first | assumption | exact pt_self (by first | assumption | exact pt_self (by assumption) | (rw [pt_ne (by omega)]; assumption)) | (rw [pt_ne (by omega)]; first | assumption | exact pt_self (by assumption) | (rw [pt_ne (by omega)]; assumption))) | (rw [pt_ne (by omega)]; first | assumption | exact pt_self (by first | assumption | exact pt_self (by assumption) | (rw [pt_ne (by omega)]; assumption)) | (rw [pt_ne (by omega)]; first | assumption | exact pt_self (by assumption) | (rw [pt_ne (by omega)]; assumption))))) (by omega) (by omega) (q3 k (by omega) (by omega)) ?_
            refine E_st3 (pc' := 30) g127_29 rfl ?_
            refine E_iload_n (pc' := 31) g127_30 rfl rfl ?_
            refine E_iload_n (pc' := 32) g127_31 rfl rfl ?_
            refine E_icne (pc' := 35) (pt := 38) g127_32 rfl rfl (fun c2 => ?_) (fun c2 => ?_)
            · first
              | (exfalso; omega)
              | (refine E_aload_n (pc' := 39) g127_38 rfl rfl ?_
                 refine E_cV0v (pc' := 42) g127_39 k127_155 na124 rfl ow124 rfl (Nat.le_of_ble_eq_true rfl) (by first | assumption | exact pt_self (by first | assumption | exact pt_self (by first | assumption | exact pt_self (by first | assumption | exact pt_self (by assumption) | (rw [pt_ne (by omega)]; assumption)) | (rw [pt_ne (by omega)]; first | assumption | exact pt_self (by assumption) | (rw [pt_ne (by omega)]; assumption))) | (rw [pt_ne (by omega)]; first | assumption | exact pt_self (by first | assumption | exact pt_self (by assumption) | (rw [pt_ne (by omega)]; assumption)) | (rw [pt_ne (by omega)]; first | assumption | exact pt_self (by assumption) | (rw [pt_ne (by omega)]; assumption)))) | (rw [pt_ne (by omega)]; first | assumption | exact pt_self (by first | assumption | exact pt_self (by first | assumption | exact pt_self (by assumption) | (rw [pt_ne (by omega)]; assumption)) | (rw [pt_ne (by omega)]; first | assumption | exact pt_self (by assumption) | (rw [pt_ne (by omega)]; assumption))) | (rw [pt_ne (by omega)]; first | assumption | exact pt_self (by first | assumption | exact pt_self (by assumption) | (rw [pt_ne (by omega)]; assumption)) | (rw [pt_ne (by omega)]; first | assumption | exact pt_self (by assumption) | (rw [pt_ne (by omega)]; assumption))))) hc (by decide) ?_
                 refine E_aload_n (pc' := 43) g127_42 rfl rfl ?_
                 refine E_getR (pc' := 46) g127_43 f127_16 tg7_3 rfl (by first | assumption | exact pt_self (by first | assumption | exact pt_self (by first | assumption | exact pt_self (by first | assumption | exact pt_self (by assumption) | (rw [pt_ne (by omega)]; assumption)) | (rw [pt_ne (by omega)]; first | assumption | exact pt_self (by assumption) | (rw [pt_ne (by omega)]; assumption))) | (rw [pt_ne (by omega)]; first | assumption | exact pt_self (by first | assumption | exact pt_self (by assumption) | (rw [pt_ne (by omega)]; assumption)) | (rw [pt_ne (by omega)]; first | assumption | exact pt_self (by assumption) | (rw [pt_ne (by omega)]; assumption)))) | (rw [pt_ne (by omega)]; first | assumption | exact pt_self (by first | assumption | exact pt_self (by first | assumption | exact pt_self (by assumption) | (rw [pt_ne (by omega)]; assumption)) | (rw [pt_ne (by omega)]; first | assumption | exact pt_self (by assumption) | (rw [pt_ne (by omega)]; assumption))) | (rw [pt_ne (by omega)]; first | assumption | exact pt_self (by first | assumption | exact pt_self (by assumption) | (rw [pt_ne (by omega)]; assumption)) | (rw [pt_ne (by omega)]; first | assumption | exact pt_self (by assumption) | (rw [pt_ne (by omega)]; assumption))))) rfl ?_
                 refine E_bipush (pc' := 48) g127_46 (by decide) rfl ?_
                 refine E_iload_n (pc' := 49) g127_48 rfl rfl ?_
                 refine E_iadd (pc' := 50) g127_49 (m_in_iff.mpr (by omega)) rfl ?_
                 refine E_iload_n (pc' := 51) g127_50 rfl rfl ?_
                 refine E_iastore (pc' := 52) g127_51 rfl (by first | assumption | exact pt_self (by first | assumption | exact pt_self (by first | assumption | exact pt_self (by first | assumption | exact pt_self (by assumption) | (rw [pt_ne (by omega)]; assumption)) | (rw [pt_ne (by omega)]; first | assumption | exact pt_self (by assumption) | (rw [pt_ne (by omega)]; assumption))) | (rw [pt_ne (by omega)]; first | assumption | exact pt_self (by first | assumption | exact pt_self (by assumption) | (rw [pt_ne (by omega)]; assumption)) | (rw [pt_ne (by omega)]; first | assumption | exact pt_self (by assumption) | (rw [pt_ne (by omega)]; assumption)))) | (rw [pt_ne (by omega)]; first | assumption | exact pt_self (by first | assumption | exact pt_self (by first | assumption | exact pt_self (by assumption) | (rw [pt_ne (by omega)]; assumption)) | (rw [pt_ne (by omega)]; first | assumption | exact pt_self (by assumption) | (rw [pt_ne (by omega)]; assumption))) | (rw [pt_ne (by omega)]; first | assumption | exact pt_self (by first | assumption | exact pt_self (by assumption) | (rw [pt_ne (by omega)]; assumption)) | (rw [pt_ne (by omega)]; first | assumption | exact pt_self (by assumption) | (rw [pt_ne (by omega)]; assumption))))) (by omega) (by omega) ?_
                 refine E_iload_n (pc' := 53) g127_52 rfl rfl ?_
                 exact E_iret g127_53 ro127 rfl rfl)
            · first
              | (exfalso; omega)
              | (refine E_bipush (pc' := 37) g127_35 (by decide) rfl ?_
                 exact E_iret g127_37 ro127 rfl rfl))
       · first
         | (exfalso; omega)
         | (refine E_iconst (pc' := 19) g127_18 (by decide) rfl ?_
            exact E_iret g127_19 ro127 rfl rfl))
theorem M_clears (hM : H[74]? = some (7, mdL kd un nk le ap nu me op de fo bs bu)) (hD : okD kd wd ht rm mo sd bo ed hu) (hz : H[75]? = some (8, [wd, ht, rm, mo, sd, bo])) (htd : H[76]? = some (8, td)) (hrT : relT td ed hu kd) (hss : H[77]? = some (8, ss)) (hrS : relS ss bl sl kd) (htt : H[85]? = some (8, tt)) (ht15 : tt.length = 15) (hps : H[78]? = some (8, ps)) (hpl : ps.length = 150) (hun : 0 ≤ un ∧ un ≤ 10) : ∃ ps2, notR ps ps2 ss un ∧ Call 3 128 [mR 74] H (mI (wd * ht - nO bl (wd * ht).toNat)) (pt (pt (pt H 78 ps2) 74 (mdL kd (min (un + 1) 10) nk le ap nu me op de fo bs bu)) 77 (fil ss 0 (fun _ => -9) 9)) := by
  have hD0 := hD
  have hrS0 := hrS
  have hrT0 := hrT
  obtain ⟨r1, r2, r3, r4, r5, r6, r7, b1, b2⟩ := hD
  obtain ⟨nt, q1, q2, q3, q4, q5⟩ := hrS
  obtain ⟨nd, u1, u2⟩ := hrT
  have hw := wh_bd r2.1 r2.2 r3.1 r3.2
  have hnO : 0 ≤ nO bl (wd * ht).toNat ∧ nO bl (wd * ht).toNat ≤ (wd * ht).toNat := cn_bd _ _
  obtain ⟨ps2, hn, hc⟩ := M_notes (H := H) hM hun hps hpl hss hrS0.1
  refine ⟨ps2, hn, Call_of rfl ?_⟩
  refine E_aload_n (pc' := 1) g128_0 rfl rfl ?_
  refine E_cV0i (pc' := 4) g128_1 k128_116 na111 rfl ow111 rfl (Nat.le_of_ble_eq_true rfl) (by first | assumption | exact pt_self (by first | assumption | exact pt_self (by first | assumption | exact pt_self (by first | assumption | exact pt_self (by assumption) | (rw [pt_ne (by omega)]; assumption)) | (rw [pt_ne (by omega)]; first | assumption | exact pt_self (by assumption) | (rw [pt_ne (by omega)]; assumption))) | (rw [pt_ne (by omega)]; first | assumption | exact pt_self (by first | assumption | exact pt_self (by assumption) | (rw [pt_ne (by omega)]; assumption)) | (rw [pt_ne (by omega)]; first | assumption | exact pt_self (by assumption) | (rw [pt_ne (by omega)]; assumption)))) | (rw [pt_ne (by omega)]; first | assumption | exact pt_self (by first | assumption | exact pt_self (by first | assumption | exact pt_self (by assumption) | (rw [pt_ne (by omega)]; assumption)) | (rw [pt_ne (by omega)]; first | assumption | exact pt_self (by assumption) | (rw [pt_ne (by omega)]; assumption))) | (rw [pt_ne (by omega)]; first | assumption | exact pt_self (by first | assumption | exact pt_self (by assumption) | (rw [pt_ne (by omega)]; assumption)) | (rw [pt_ne (by omega)]; first | assumption | exact pt_self (by assumption) | (rw [pt_ne (by omega)]; assumption))))) (M_squares hM hD0 hz) (by decide) ?_
  refine E_aload_n (pc' := 5) g128_4 rfl rfl ?_
  refine E_cV0i (pc' := 8) g128_5 k128_158 na123 rfl ow123 rfl (Nat.le_of_ble_eq_true rfl) (by first | assumption | exact pt_self (by first | assumption | exact pt_self (by first | assumption | exact pt_self (by first | assumption | exact pt_self (by assumption) | (rw [pt_ne (by omega)]; assumption)) | (rw [pt_ne (by omega)]; first | assumption | exact pt_self (by assumption) | (rw [pt_ne (by omega)]; assumption))) | (rw [pt_ne (by omega)]; first | assumption | exact pt_self (by first | assumption | exact pt_self (by assumption) | (rw [pt_ne (by omega)]; assumption)) | (rw [pt_ne (by omega)]; first | assumption | exact pt_self (by assumption) | (rw [pt_ne (by omega)]; assumption)))) | (rw [pt_ne (by omega)]; first | assumption | exact pt_self (by first | assumption | exact pt_self (by first | assumption | exact pt_self (by assumption) | (rw [pt_ne (by omega)]; assumption)) | (rw [pt_ne (by omega)]; first | assumption | exact pt_self (by assumption) | (rw [pt_ne (by omega)]; assumption))) | (rw [pt_ne (by omega)]; first | assumption | exact pt_self (by first | assumption | exact pt_self (by assumption) | (rw [pt_ne (by omega)]; assumption)) | (rw [pt_ne (by omega)]; first | assumption | exact pt_self (by assumption) | (rw [pt_ne (by omega)]; assumption))))) (M_open hM hD0 hz hss hrS0) (by decide) ?_
  refine E_isub (pc' := 9) g128_8 (m_in_iff.mpr (by omega)) rfl ?_
  refine E_st1 (pc' := 10) g128_9 rfl ?_
  refine E_aload_n (pc' := 11) g128_10 rfl rfl ?_
  refine E_cV0v (pc' := 14) g128_11 k128_155 na124 rfl ow124 rfl (Nat.le_of_ble_eq_true rfl) (by first | assumption | exact pt_self (by first | assumption | exact pt_self (by first | assumption | exact pt_self (by first | assumption | exact pt_self (by assumption) | (rw [pt_ne (by omega)]; assumption)) | (rw [pt_ne (by omega)]; first | assumption | exact pt_self (by assumption) | (rw [pt_ne (by omega)]; assumption))) | (rw [pt_ne (by omega)]; first | assumption | exact pt_self (by first | assumption | exact pt_self (by assumption) | (rw [pt_ne (by omega)]; assumption)) | (rw [pt_ne (by omega)]; first | assumption | exact pt_self (by assumption) | (rw [pt_ne (by omega)]; assumption)))) | (rw [pt_ne (by omega)]; first | assumption | exact pt_self (by first | assumption | exact pt_self (by first | assumption | exact pt_self (by assumption) | (rw [pt_ne (by omega)]; assumption)) | (rw [pt_ne (by omega)]; first | assumption | exact pt_self (by assumption) | (rw [pt_ne (by omega)]; assumption))) | (rw [pt_ne (by omega)]; first | assumption | exact pt_self (by first | assumption | exact pt_self (by assumption) | (rw [pt_ne (by omega)]; assumption)) | (rw [pt_ne (by omega)]; first | assumption | exact pt_self (by assumption) | (rw [pt_ne (by omega)]; assumption))))) hc (by decide) ?_
  refine E_iconst (pc' := 15) g128_14 (by decide) rfl ?_
  refine E_st2 (pc' := 16) g128_15 rfl ?_
  refine Ev_cast (H := (pt (pt (pt H 78 ps2) 74 (mdL kd (min (un + 1) 10) nk le ap nu me op de fo bs bu)) 77 (fil ss 0 (fun _ => -9) 0))) ?_ rfl (by simp only [fil]; rw [pt_same (pt_nx (by decide) (pt_nx (by decide) hss))])
  refine E_loop (n := 9) (fun i => Ev 3 128 16 [mR 74, mI (wd * ht - nO bl (wd * ht).toNat), mI (i : Int)] [] (pt (pt (pt H 78 ps2) 74 (mdL kd (min (un + 1) 10) nk le ap nu me op de fo bs bu)) 77 (fil ss 0 (fun _ => -9) i)) (mI (wd * ht - nO bl (wd * ht).toNat)) (pt (pt (pt H 78 ps2) 74 (mdL kd (min (un + 1) 10) nk le ap nu me op de fo bs bu)) 77 (fil ss 0 (fun _ => -9) 9))) ?_ ?_ 0 (by omega)
  · intro i hi hh
    refine E_iload_n (pc' := 17) g128_16 rfl rfl ?_
    refine E_bipush (pc' := 19) g128_17 (by decide) rfl ?_
    refine E_icge (pc' := 22) (pt := 36) g128_19 rfl rfl (fun c0 => ?_) (fun c0 => ?_)
    · exact absurd c0 (by omega)
    · refine E_aload_n (pc' := 23) g128_22 rfl rfl ?_
      refine E_getR (pc' := 26) g128_23 f128_16 tg7_3 rfl (by first | assumption | exact pt_self (by first | assumption | exact pt_self (by first | assumption | exact pt_self (by first | assumption | exact pt_self (by assumption) | (rw [pt_ne (by omega)]; assumption)) | (rw [pt_ne (by omega)]; first | assumption | exact pt_self (by assumption) | (rw [pt_ne (by omega)]; assumption))) | (rw [pt_ne (by omega)]; first | assumption | exact pt_self (by first | assumption | exact pt_self (by assumption) | (rw [pt_ne (by omega)]; assumption)) | (rw [pt_ne (by omega)]; first | assumption | exact pt_self (by assumption) | (rw [pt_ne (by omega)]; assumption)))) | (rw [pt_ne (by omega)]; first | assumption | exact pt_self (by first | assumption | exact pt_self (by first | assumption | exact pt_self (by assumption) | (rw [pt_ne (by omega)]; assumption)) | (rw [pt_ne (by omega)]; first | assumption | exact pt_self (by assumption) | (rw [pt_ne (by omega)]; assumption))) | (rw [pt_ne (by omega)]; first | assumption | exact pt_self (by first | assumption | exact pt_self (by assumption) | (rw [pt_ne (by omega)]; assumption)) | (rw [pt_ne (by omega)]; first | assumption | exact pt_self (by assumption) | (rw [pt_ne (by omega)]; assumption))))) rfl ?_
      refine E_iload_n (pc' := 27) g128_26 rfl rfl ?_
      refine E_bipush (pc' := 29) g128_27 (by decide) rfl ?_
      refine E_iastore (pc' := 30) g128_29 rfl (by first | assumption | exact pt_self (by first | assumption | exact pt_self (by first | assumption | exact pt_self (by first | assumption | exact pt_self (by assumption) | (rw [pt_ne (by omega)]; assumption)) | (rw [pt_ne (by omega)]; first | assumption | exact pt_self (by assumption) | (rw [pt_ne (by omega)]; assumption))) | (rw [pt_ne (by omega)]; first | assumption | exact pt_self (by first | assumption | exact pt_self (by assumption) | (rw [pt_ne (by omega)]; assumption)) | (rw [pt_ne (by omega)]; first | assumption | exact pt_self (by assumption) | (rw [pt_ne (by omega)]; assumption)))) | (rw [pt_ne (by omega)]; first | assumption | exact pt_self (by first | assumption | exact pt_self (by first | assumption | exact pt_self (by assumption) | (rw [pt_ne (by omega)]; assumption)) | (rw [pt_ne (by omega)]; first | assumption | exact pt_self (by assumption) | (rw [pt_ne (by omega)]; assumption))) | (rw [pt_ne (by omega)]; first | assumption | exact pt_self (by first | assumption | exact pt_self (by assumption) | (rw [pt_ne (by omega)]; assumption)) | (rw [pt_ne (by omega)]; first | assumption | exact pt_self (by assumption) | (rw [pt_ne (by omega)]; assumption))))) (by omega) (by rw [fil_len]; omega) ?_
      refine E_in2 (pc' := 33) g128_30 rfl (m_in_iff.mpr (by omega)) ?_
      refine E_goto (pc' := 16) g128_33 rfl ?_
      refine Ev_cast hh rfl ?_
      rw [pt_pt]
      show _ = pt _ 77 (up _ (0 + (i : Int)) _)
      rw [Int.zero_add]
  · refine E_iload_n (pc' := 17) g128_16 rfl rfl ?_
    refine E_bipush (pc' := 19) g128_17 (by decide) rfl ?_
    refine E_icge (pc' := 22) (pt := 36) g128_19 rfl rfl (fun c1 => ?_) (fun c1 => ?_)
    · refine E_iload_n (pc' := 37) g128_36 rfl rfl ?_
      exact E_iret g128_37 ro128 rfl rfl
    · exact absurd c1 (by omega)
theorem M_undo_no (hM : H[74]? = some (7, mdL kd un nk le ap nu me op de fo bs bu)) (hD : okD kd wd ht rm mo sd bo ed hu) (hz : H[75]? = some (8, [wd, ht, rm, mo, sd, bo])) (htd : H[76]? = some (8, td)) (hrT : relT td ed hu kd) (hss : H[77]? = some (8, ss)) (hrS : relS ss bl sl kd) (htt : H[85]? = some (8, tt)) (ht15 : tt.length = 15) (hun : un = 0) : Call 3 129 [mR 74] H (mI (-2)) H := by
  refine Call_of rfl ?_
  refine E_aload_n (pc' := 1) g129_0 rfl rfl ?_
  refine E_getI (pc' := 4) g129_1 f129_78 tg7_4 (by decide) rfl (by first | assumption | exact pt_self (by first | assumption | exact pt_self (by first | assumption | exact pt_self (by first | assumption | exact pt_self (by assumption) | (rw [pt_ne (by omega)]; assumption)) | (rw [pt_ne (by omega)]; first | assumption | exact pt_self (by assumption) | (rw [pt_ne (by omega)]; assumption))) | (rw [pt_ne (by omega)]; first | assumption | exact pt_self (by first | assumption | exact pt_self (by assumption) | (rw [pt_ne (by omega)]; assumption)) | (rw [pt_ne (by omega)]; first | assumption | exact pt_self (by assumption) | (rw [pt_ne (by omega)]; assumption)))) | (rw [pt_ne (by omega)]; first | assumption | exact pt_self (by first | assumption | exact pt_self (by first | assumption | exact pt_self (by assumption) | (rw [pt_ne (by omega)]; assumption)) | (rw [pt_ne (by omega)]; first | assumption | exact pt_self (by assumption) | (rw [pt_ne (by omega)]; assumption))) | (rw [pt_ne (by omega)]; first | assumption | exact pt_self (by first | assumption | exact pt_self (by assumption) | (rw [pt_ne (by omega)]; assumption)) | (rw [pt_ne (by omega)]; first | assumption | exact pt_self (by assumption) | (rw [pt_ne (by omega)]; assumption))))) rfl ?_
  refine E_ifne (pc' := 7) (pt := 10) g129_4 rfl rfl (fun c0 => ?_) (fun c0 => ?_)
  · first
    | (exfalso; omega)
    | (exfalso; omega)
  · first
    | (exfalso; omega)
    | (refine E_bipush (pc' := 9) g129_7 (by decide) rfl ?_
       exact E_iret g129_9 ro129 rfl rfl)
theorem M_undo (hM : H[74]? = some (7, mdL kd un nk le ap nu me op de fo bs bu)) (hD : okD kd wd ht rm mo sd bo ed hu) (hz : H[75]? = some (8, [wd, ht, rm, mo, sd, bo])) (htd : H[76]? = some (8, td)) (hrT : relT td ed hu kd) (hss : H[77]? = some (8, ss)) (hrS : relS ss bl sl kd) (htt : H[85]? = some (8, tt)) (ht15 : tt.length = 15) (hps : H[78]? = some (8, ps)) (hpl : ps.length = 150) (hun : 1 ≤ un ∧ un ≤ 10) : Call 3 129 [mR 74] H (mI (un - 1)) (pt (pt H 74 (mdL kd (un - 1) nk le ap nu me op de fo bs bu)) 77 (sli ps (15 * (un - 1)))) := by
  have hD0 := hD
  have hrS0 := hrS
  have hrT0 := hrT
  obtain ⟨r1, r2, r3, r4, r5, r6, r7, b1, b2⟩ := hD
  obtain ⟨nt, q1, q2, q3, q4, q5⟩ := hrS
  obtain ⟨nd, u1, u2⟩ := hrT
  have hw := wh_bd r2.1 r2.2 r3.1 r3.2
  refine Call_of rfl ?_
  refine E_aload_n (pc' := 1) g129_0 rfl rfl ?_
  refine E_getI (pc' := 4) g129_1 f129_78 tg7_4 (by decide) rfl (by first | assumption | exact pt_self (by first | assumption | exact pt_self (by first | assumption | exact pt_self (by first | assumption | exact pt_self (by assumption) | (rw [pt_ne (by omega)]; assumption)) | (rw [pt_ne (by omega)]; first | assumption | exact pt_self (by assumption) | (rw [pt_ne (by omega)]; assumption))) | (rw [pt_ne (by omega)]; first | assumption | exact pt_self (by first | assumption | exact pt_self (by assumption) | (rw [pt_ne (by omega)]; assumption)) | (rw [pt_ne (by omega)]; first | assumption | exact pt_self (by assumption) | (rw [pt_ne (by omega)]; assumption)))) | (rw [pt_ne (by omega)]; first | assumption | exact pt_self (by first | assumption | exact pt_self (by first | assumption | exact pt_self (by assumption) | (rw [pt_ne (by omega)]; assumption)) | (rw [pt_ne (by omega)]; first | assumption | exact pt_self (by assumption) | (rw [pt_ne (by omega)]; assumption))) | (rw [pt_ne (by omega)]; first | assumption | exact pt_self (by first | assumption | exact pt_self (by assumption) | (rw [pt_ne (by omega)]; assumption)) | (rw [pt_ne (by omega)]; first | assumption | exact pt_self (by assumption) | (rw [pt_ne (by omega)]; assumption))))) rfl ?_
  refine E_ifne (pc' := 7) (pt := 10) g129_4 rfl rfl (fun c0 => ?_) (fun c0 => ?_)
  · first
    | (exfalso; omega)
    | (refine E_aload_n (pc' := 11) g129_10 rfl rfl ?_
       refine E_dup (pc' := 12) g129_11 rfl ?_
       refine E_getI (pc' := 15) g129_12 f129_78 tg7_4 (by decide) rfl (by first | assumption | exact pt_self (by first | assumption | exact pt_self (by first | assumption | exact pt_self (by first | assumption | exact pt_self (by assumption) | (rw [pt_ne (by omega)]; assumption)) | (rw [pt_ne (by omega)]; first | assumption | exact pt_self (by assumption) | (rw [pt_ne (by omega)]; assumption))) | (rw [pt_ne (by omega)]; first | assumption | exact pt_self (by first | assumption | exact pt_self (by assumption) | (rw [pt_ne (by omega)]; assumption)) | (rw [pt_ne (by omega)]; first | assumption | exact pt_self (by assumption) | (rw [pt_ne (by omega)]; assumption)))) | (rw [pt_ne (by omega)]; first | assumption | exact pt_self (by first | assumption | exact pt_self (by first | assumption | exact pt_self (by assumption) | (rw [pt_ne (by omega)]; assumption)) | (rw [pt_ne (by omega)]; first | assumption | exact pt_self (by assumption) | (rw [pt_ne (by omega)]; assumption))) | (rw [pt_ne (by omega)]; first | assumption | exact pt_self (by first | assumption | exact pt_self (by assumption) | (rw [pt_ne (by omega)]; assumption)) | (rw [pt_ne (by omega)]; first | assumption | exact pt_self (by assumption) | (rw [pt_ne (by omega)]; assumption))))) rfl ?_
       refine E_iconst (pc' := 16) g129_15 (by decide) rfl ?_
       refine E_isub (pc' := 17) g129_16 (m_in_iff.mpr (by omega)) rfl ?_
       refine E_putf (pc' := 20) g129_17 f129_78 tg7_4 fn7_4 rfl rfl (by first | assumption | exact pt_self (by first | assumption | exact pt_self (by first | assumption | exact pt_self (by first | assumption | exact pt_self (by assumption) | (rw [pt_ne (by omega)]; assumption)) | (rw [pt_ne (by omega)]; first | assumption | exact pt_self (by assumption) | (rw [pt_ne (by omega)]; assumption))) | (rw [pt_ne (by omega)]; first | assumption | exact pt_self (by first | assumption | exact pt_self (by assumption) | (rw [pt_ne (by omega)]; assumption)) | (rw [pt_ne (by omega)]; first | assumption | exact pt_self (by assumption) | (rw [pt_ne (by omega)]; assumption)))) | (rw [pt_ne (by omega)]; first | assumption | exact pt_self (by first | assumption | exact pt_self (by first | assumption | exact pt_self (by assumption) | (rw [pt_ne (by omega)]; assumption)) | (rw [pt_ne (by omega)]; first | assumption | exact pt_self (by assumption) | (rw [pt_ne (by omega)]; assumption))) | (rw [pt_ne (by omega)]; first | assumption | exact pt_self (by first | assumption | exact pt_self (by assumption) | (rw [pt_ne (by omega)]; assumption)) | (rw [pt_ne (by omega)]; first | assumption | exact pt_self (by assumption) | (rw [pt_ne (by omega)]; assumption))))) (Nat.le_of_ble_eq_true rfl) ?_
       refine E_iconst (pc' := 21) g129_20 (by decide) rfl ?_
       refine E_st1 (pc' := 22) g129_21 rfl ?_
       refine Ev_cast (H := (pt (pt H 74 (mdL kd (un - 1) nk le ap nu me op de fo bs bu)) 77 (fil ss 0 (fun k => ix ps (15 * (un - 1) + (k : Int))) 0))) ?_ rfl (by simp only [fil]; rw [pt_same (pt_nx (by decide) hss)]; rfl)
       refine E_loop (n := 15) (fun i => Ev 3 129 22 [mR 74, mI (i : Int)] [] (pt (pt H 74 (mdL kd (un - 1) nk le ap nu me op de fo bs bu)) 77 (fil ss 0 (fun k => ix ps (15 * (un - 1) + (k : Int))) i)) (mI (un - 1)) (pt (pt H 74 (mdL kd (un - 1) nk le ap nu me op de fo bs bu)) 77 (sli ps (15 * (un - 1))))) ?_ ?_ 0 (by omega)
       · intro i hi hh
         refine E_iload_n (pc' := 23) g129_22 rfl rfl ?_
         refine E_bipush (pc' := 25) g129_23 (by decide) rfl ?_
         refine E_icge (pc' := 28) (pt := 54) g129_25 rfl rfl (fun c0 => ?_) (fun c0 => ?_)
         · exact absurd c0 (by omega)
         · refine E_aload_n (pc' := 29) g129_28 rfl rfl ?_
           refine E_getR (pc' := 32) g129_29 f129_16 tg7_3 rfl (by first | assumption | exact pt_self (by first | assumption | exact pt_self (by first | assumption | exact pt_self (by first | assumption | exact pt_self (by assumption) | (rw [pt_ne (by omega)]; assumption)) | (rw [pt_ne (by omega)]; first | assumption | exact pt_self (by assumption) | (rw [pt_ne (by omega)]; assumption))) | (rw [pt_ne (by omega)]; first | assumption | exact pt_self (by first | assumption | exact pt_self (by assumption) | (rw [pt_ne (by omega)]; assumption)) | (rw [pt_ne (by omega)]; first | assumption | exact pt_self (by assumption) | (rw [pt_ne (by omega)]; assumption)))) | (rw [pt_ne (by omega)]; first | assumption | exact pt_self (by first | assumption | exact pt_self (by first | assumption | exact pt_self (by assumption) | (rw [pt_ne (by omega)]; assumption)) | (rw [pt_ne (by omega)]; first | assumption | exact pt_self (by assumption) | (rw [pt_ne (by omega)]; assumption))) | (rw [pt_ne (by omega)]; first | assumption | exact pt_self (by first | assumption | exact pt_self (by assumption) | (rw [pt_ne (by omega)]; assumption)) | (rw [pt_ne (by omega)]; first | assumption | exact pt_self (by assumption) | (rw [pt_ne (by omega)]; assumption))))) rfl ?_
           refine E_iload_n (pc' := 33) g129_32 rfl rfl ?_
           refine E_aload_n (pc' := 34) g129_33 rfl rfl ?_
           refine E_getR (pc' := 37) g129_34 f129_19 tg7_5 rfl (by first | assumption | exact pt_self (by first | assumption | exact pt_self (by first | assumption | exact pt_self (by first | assumption | exact pt_self (by assumption) | (rw [pt_ne (by omega)]; assumption)) | (rw [pt_ne (by omega)]; first | assumption | exact pt_self (by assumption) | (rw [pt_ne (by omega)]; assumption))) | (rw [pt_ne (by omega)]; first | assumption | exact pt_self (by first | assumption | exact pt_self (by assumption) | (rw [pt_ne (by omega)]; assumption)) | (rw [pt_ne (by omega)]; first | assumption | exact pt_self (by assumption) | (rw [pt_ne (by omega)]; assumption)))) | (rw [pt_ne (by omega)]; first | assumption | exact pt_self (by first | assumption | exact pt_self (by first | assumption | exact pt_self (by assumption) | (rw [pt_ne (by omega)]; assumption)) | (rw [pt_ne (by omega)]; first | assumption | exact pt_self (by assumption) | (rw [pt_ne (by omega)]; assumption))) | (rw [pt_ne (by omega)]; first | assumption | exact pt_self (by first | assumption | exact pt_self (by assumption) | (rw [pt_ne (by omega)]; assumption)) | (rw [pt_ne (by omega)]; first | assumption | exact pt_self (by assumption) | (rw [pt_ne (by omega)]; assumption))))) rfl ?_
           refine E_bipush (pc' := 39) g129_37 (by decide) rfl ?_
           refine E_aload_n (pc' := 40) g129_39 rfl rfl ?_
           refine E_getI (pc' := 43) g129_40 f129_78 tg7_4 (by decide) rfl (by first | assumption | exact pt_self (by first | assumption | exact pt_self (by first | assumption | exact pt_self (by first | assumption | exact pt_self (by assumption) | (rw [pt_ne (by omega)]; assumption)) | (rw [pt_ne (by omega)]; first | assumption | exact pt_self (by assumption) | (rw [pt_ne (by omega)]; assumption))) | (rw [pt_ne (by omega)]; first | assumption | exact pt_self (by first | assumption | exact pt_self (by assumption) | (rw [pt_ne (by omega)]; assumption)) | (rw [pt_ne (by omega)]; first | assumption | exact pt_self (by assumption) | (rw [pt_ne (by omega)]; assumption)))) | (rw [pt_ne (by omega)]; first | assumption | exact pt_self (by first | assumption | exact pt_self (by first | assumption | exact pt_self (by assumption) | (rw [pt_ne (by omega)]; assumption)) | (rw [pt_ne (by omega)]; first | assumption | exact pt_self (by assumption) | (rw [pt_ne (by omega)]; assumption))) | (rw [pt_ne (by omega)]; first | assumption | exact pt_self (by first | assumption | exact pt_self (by assumption) | (rw [pt_ne (by omega)]; assumption)) | (rw [pt_ne (by omega)]; first | assumption | exact pt_self (by assumption) | (rw [pt_ne (by omega)]; assumption))))) rfl ?_
           refine E_imul (pc' := 44) g129_43 (m_in_iff.mpr (by omega)) rfl ?_
           refine E_iload_n (pc' := 45) g129_44 rfl rfl ?_
           refine E_iadd (pc' := 46) g129_45 (m_in_iff.mpr (by omega)) rfl ?_
           refine E_iaload (pc' := 47) g129_46 rfl (by first | assumption | exact pt_self (by first | assumption | exact pt_self (by first | assumption | exact pt_self (by first | assumption | exact pt_self (by assumption) | (rw [pt_ne (by omega)]; assumption)) | (rw [pt_ne (by omega)]; first | assumption | exact pt_self (by assumption) | (rw [pt_ne (by omega)]; assumption))) | (rw [pt_ne (by omega)]; first | assumption | exact pt_self (by first | assumption | exact pt_self (by assumption) | (rw [pt_ne (by omega)]; assumption)) | (rw [pt_ne (by omega)]; first | assumption | exact pt_self (by assumption) | (rw [pt_ne (by omega)]; assumption)))) | (rw [pt_ne (by omega)]; first | assumption | exact pt_self (by first | assumption | exact pt_self (by first | assumption | exact pt_self (by assumption) | (rw [pt_ne (by omega)]; assumption)) | (rw [pt_ne (by omega)]; first | assumption | exact pt_self (by assumption) | (rw [pt_ne (by omega)]; assumption))) | (rw [pt_ne (by omega)]; first | assumption | exact pt_self (by first | assumption | exact pt_self (by assumption) | (rw [pt_ne (by omega)]; assumption)) | (rw [pt_ne (by omega)]; first | assumption | exact pt_self (by assumption) | (rw [pt_ne (by omega)]; assumption))))) (by omega) (by omega) ?_
           refine E_iastore (pc' := 48) g129_47 rfl (by first | assumption | exact pt_self (by first | assumption | exact pt_self (by first | assumption | exact pt_self (by first | assumption | exact pt_self (by assumption) | (rw [pt_ne (by omega)]; assumption)) | (rw [pt_ne (by omega)]; first | assumption | exact pt_self (by assumption) | (rw [pt_ne (by omega)]; assumption))) | (rw [pt_ne (by omega)]; first | assumption | exact pt_self (by first | assumption | exact pt_self (by assumption) | (rw [pt_ne (by omega)]; assumption)) | (rw [pt_ne (by omega)]; first | assumption | exact pt_self (by assumption) | (rw [pt_ne (by omega)]; assumption)))) | (rw [pt_ne (by omega)]; first | assumption | exact pt_self (by first | assumption | exact pt_self (by first | assumption | exact pt_self (by assumption) | (rw [pt_ne (by omega)]; assumption)) | (rw [pt_ne (by omega)]; first | assumption | exact pt_self (by assumption) | (rw [pt_ne (by omega)]; assumption))) | (rw [pt_ne (by omega)]; first | assumption | exact pt_self (by first | assumption | exact pt_self (by assumption) | (rw [pt_ne (by omega)]; assumption)) | (rw [pt_ne (by omega)]; first | assumption | exact pt_self (by assumption) | (rw [pt_ne (by omega)]; assumption))))) (by omega) (by rw [fil_len]; omega) ?_
           refine E_in1 (pc' := 51) g129_48 rfl (m_in_iff.mpr (by omega)) ?_
           refine E_goto (pc' := 22) g129_51 rfl ?_
           refine Ev_cast hh rfl ?_
           rw [pt_pt]
           show _ = pt _ 77 (up _ (0 + (i : Int)) _)
           rw [Int.zero_add]
       · refine E_iload_n (pc' := 23) g129_22 rfl rfl ?_
         refine E_bipush (pc' := 25) g129_23 (by decide) rfl ?_
         refine E_icge (pc' := 28) (pt := 54) g129_25 rfl rfl (fun c1 => ?_) (fun c1 => ?_)
         · refine E_aload_n (pc' := 55) g129_54 rfl rfl ?_
           refine E_getI (pc' := 58) g129_55 f129_78 tg7_4 (by decide) rfl (by first | assumption | exact pt_self (by first | assumption | exact pt_self (by first | assumption | exact pt_self (by first | assumption | exact pt_self (by assumption) | (rw [pt_ne (by omega)]; assumption)) | (rw [pt_ne (by omega)]; first | assumption | exact pt_self (by assumption) | (rw [pt_ne (by omega)]; assumption))) | (rw [pt_ne (by omega)]; first | assumption | exact pt_self (by first | assumption | exact pt_self (by assumption) | (rw [pt_ne (by omega)]; assumption)) | (rw [pt_ne (by omega)]; first | assumption | exact pt_self (by assumption) | (rw [pt_ne (by omega)]; assumption)))) | (rw [pt_ne (by omega)]; first | assumption | exact pt_self (by first | assumption | exact pt_self (by first | assumption | exact pt_self (by assumption) | (rw [pt_ne (by omega)]; assumption)) | (rw [pt_ne (by omega)]; first | assumption | exact pt_self (by assumption) | (rw [pt_ne (by omega)]; assumption))) | (rw [pt_ne (by omega)]; first | assumption | exact pt_self (by first | assumption | exact pt_self (by assumption) | (rw [pt_ne (by omega)]; assumption)) | (rw [pt_ne (by omega)]; first | assumption | exact pt_self (by assumption) | (rw [pt_ne (by omega)]; assumption))))) rfl ?_
           exact E_iret g129_58 ro129 rfl (by rw [fil_sli nt])
         · exact absurd c1 (by omega))
  · first
    | (exfalso; omega)
    | (refine E_bipush (pc' := 9) g129_7 (by decide) rfl ?_
       exact E_iret g129_9 ro129 rfl rfl)
theorem M_square (hM : H[74]? = some (7, mdL kd un nk le ap nu me op de fo bs bu)) (hD : okD kd wd ht rm mo sd bo ed hu) (hz : H[75]? = some (8, [wd, ht, rm, mo, sd, bo])) (htd : H[76]? = some (8, td)) (hrT : relT td ed hu kd) (hss : H[77]? = some (8, ss)) (hrS : relS ss bl sl kd) (htt : H[85]? = some (8, tt)) (ht15 : tt.length = 15) {s r : Int} (hr : (¬ (0 ≤ s ∧ s < wd * ht) → r = -1) ∧ ((0 ≤ s ∧ s < wd * ht) → r = ix bl s)) : Call 3 130 [mR 74, mI s] H (mI r) H := by
  have hD0 := hD
  have hrS0 := hrS
  have hrT0 := hrT
  obtain ⟨r1, r2, r3, r4, r5, r6, r7, b1, b2⟩ := hD
  obtain ⟨nt, q1, q2, q3, q4, q5⟩ := hrS
  obtain ⟨nd, u1, u2⟩ := hrT
  have hw := wh_bd r2.1 r2.2 r3.1 r3.2
  have e1 := inI_or s 0 (wd * ht)
  refine Call_of rfl ?_
  refine E_aload_n (pc' := 1) g130_0 rfl rfl ?_
  refine E_iload_n (pc' := 2) g130_1 rfl rfl ?_
  refine E_cV1i (pc' := 5) g130_2 k130_149 na112 rfl ow112 rfl (Nat.le_of_ble_eq_true rfl) (by first | assumption | exact pt_self (by first | assumption | exact pt_self (by first | assumption | exact pt_self (by first | assumption | exact pt_self (by assumption) | (rw [pt_ne (by omega)]; assumption)) | (rw [pt_ne (by omega)]; first | assumption | exact pt_self (by assumption) | (rw [pt_ne (by omega)]; assumption))) | (rw [pt_ne (by omega)]; first | assumption | exact pt_self (by first | assumption | exact pt_self (by assumption) | (rw [pt_ne (by omega)]; assumption)) | (rw [pt_ne (by omega)]; first | assumption | exact pt_self (by assumption) | (rw [pt_ne (by omega)]; assumption)))) | (rw [pt_ne (by omega)]; first | assumption | exact pt_self (by first | assumption | exact pt_self (by first | assumption | exact pt_self (by assumption) | (rw [pt_ne (by omega)]; assumption)) | (rw [pt_ne (by omega)]; first | assumption | exact pt_self (by assumption) | (rw [pt_ne (by omega)]; assumption))) | (rw [pt_ne (by omega)]; first | assumption | exact pt_self (by first | assumption | exact pt_self (by assumption) | (rw [pt_ne (by omega)]; assumption)) | (rw [pt_ne (by omega)]; first | assumption | exact pt_self (by assumption) | (rw [pt_ne (by omega)]; assumption))))) (M_isSquare hM hD0 hz) (by decide) ?_
  refine E_ifeq (pc' := 8) (pt := 17) g130_5 rfl rfl (fun c0 => ?_) (fun c0 => ?_)
  · first
    | (exfalso; omega)
    | (refine E_iconst (pc' := 18) g130_17 (by decide) rfl ?_
       exact E_iret g130_18 ro130 (congrArg mI (by first | (have q := hr.1 (by omega); first | exact q | omega) | (have q := hr.2 (by omega); first | exact q | omega))) rfl)
  · first
    | (exfalso; omega)
    | (refine E_aload_n (pc' := 9) g130_8 rfl rfl ?_
       refine E_getR (pc' := 12) g130_9 f130_16 tg7_3 rfl (by first | assumption | exact pt_self (by first | assumption | exact pt_self (by first | assumption | exact pt_self (by first | assumption | exact pt_self (by assumption) | (rw [pt_ne (by omega)]; assumption)) | (rw [pt_ne (by omega)]; first | assumption | exact pt_self (by assumption) | (rw [pt_ne (by omega)]; assumption))) | (rw [pt_ne (by omega)]; first | assumption | exact pt_self (by first | assumption | exact pt_self (by assumption) | (rw [pt_ne (by omega)]; assumption)) | (rw [pt_ne (by omega)]; first | assumption | exact pt_self (by assumption) | (rw [pt_ne (by omega)]; assumption)))) | (rw [pt_ne (by omega)]; first | assumption | exact pt_self (by first | assumption | exact pt_self (by first | assumption | exact pt_self (by assumption) | (rw [pt_ne (by omega)]; assumption)) | (rw [pt_ne (by omega)]; first | assumption | exact pt_self (by assumption) | (rw [pt_ne (by omega)]; assumption))) | (rw [pt_ne (by omega)]; first | assumption | exact pt_self (by first | assumption | exact pt_self (by assumption) | (rw [pt_ne (by omega)]; assumption)) | (rw [pt_ne (by omega)]; first | assumption | exact pt_self (by assumption) | (rw [pt_ne (by omega)]; assumption))))) rfl ?_
       refine E_iload_n (pc' := 13) g130_12 rfl rfl ?_
       refine E_iald (pc' := 14) (v := ix bl s) g130_13 rfl (by first | assumption | exact pt_self (by first | assumption | exact pt_self (by first | assumption | exact pt_self (by first | assumption | exact pt_self (by assumption) | (rw [pt_ne (by omega)]; assumption)) | (rw [pt_ne (by omega)]; first | assumption | exact pt_self (by assumption) | (rw [pt_ne (by omega)]; assumption))) | (rw [pt_ne (by omega)]; first | assumption | exact pt_self (by first | assumption | exact pt_self (by assumption) | (rw [pt_ne (by omega)]; assumption)) | (rw [pt_ne (by omega)]; first | assumption | exact pt_self (by assumption) | (rw [pt_ne (by omega)]; assumption)))) | (rw [pt_ne (by omega)]; first | assumption | exact pt_self (by first | assumption | exact pt_self (by first | assumption | exact pt_self (by assumption) | (rw [pt_ne (by omega)]; assumption)) | (rw [pt_ne (by omega)]; first | assumption | exact pt_self (by assumption) | (rw [pt_ne (by omega)]; assumption))) | (rw [pt_ne (by omega)]; first | assumption | exact pt_self (by first | assumption | exact pt_self (by assumption) | (rw [pt_ne (by omega)]; assumption)) | (rw [pt_ne (by omega)]; first | assumption | exact pt_self (by assumption) | (rw [pt_ne (by omega)]; assumption))))) (by omega) (by omega) (q1 s (by omega) (by omega)) ?_
       refine E_goto (pc' := 18) g130_14 rfl ?_
       exact E_iret g130_18 ro130 (congrArg mI (by first | (have q := hr.1 (by omega); first | exact q | omega) | (have q := hr.2 (by omega); first | exact q | omega))) rfl)
theorem M_fits (hM : H[74]? = some (7, mdL kd un nk le ap nu me op de fo bs bu)) (hD : okD kd wd ht rm mo sd bo ed hu) (hz : H[75]? = some (8, [wd, ht, rm, mo, sd, bo])) (htd : H[76]? = some (8, td)) (hrT : relT td ed hu kd) (hss : H[77]? = some (8, ss)) (hrS : relS ss bl sl kd) (htt : H[85]? = some (8, tt)) (ht15 : tt.length = 15) {s b v r : Int} (hv : (0 ≤ s ∧ s < wd * ht ∧ 0 ≤ b ∧ b < kd * 4) → why bl sl ed hu wd ht rm mo s b v)
    (hr : (¬ (0 ≤ s ∧ s < wd * ht ∧ 0 ≤ b ∧ b < kd * 4) → r = -1) ∧ ((0 ≤ s ∧ s < wd * ht ∧ 0 ≤ b ∧ b < kd * 4 ∧ ¬ ix bl s = -9) → r = -2) ∧ ((0 ≤ s ∧ s < wd * ht ∧ 0 ≤ b ∧ b < kd * 4 ∧ ix bl s = -9) → r = v)) : ∃ H2, (H2 = H ∨ H2 = pt H 85 ss) ∧ Call 3 131 [mR 74, mI s, mI b] H (mI r) H2 := by
  have hD0 := hD
  have hrS0 := hrS
  have hrT0 := hrT
  obtain ⟨r1, r2, r3, r4, r5, r6, r7, b1, b2⟩ := hD
  obtain ⟨nt, q1, q2, q3, q4, q5⟩ := hrS
  obtain ⟨nd, u1, u2⟩ := hrT
  have hw := wh_bd r2.1 r2.2 r3.1 r3.2
  have e1 := inI_or s 0 (wd * ht)
  have e2 := inI_or b 0 (kd * 4)
  by_cases hg : 0 ≤ s ∧ s < wd * ht ∧ 0 ≤ b ∧ b < kd * 4 ∧ ix bl s = -9
  · refine ⟨_, Or.inr rfl, ?_⟩
    have hq := hr.2.2 hg
    refine Call_of rfl ?_
    refine E_aload_n (pc' := 1) g131_0 rfl rfl ?_
    refine E_iload_n (pc' := 2) g131_1 rfl rfl ?_
    refine E_cV1i (pc' := 5) g131_2 k131_149 na112 rfl ow112 rfl (Nat.le_of_ble_eq_true rfl) (by first | assumption | exact pt_self (by first | assumption | exact pt_self (by first | assumption | exact pt_self (by first | assumption | exact pt_self (by assumption) | (rw [pt_ne (by omega)]; assumption)) | (rw [pt_ne (by omega)]; first | assumption | exact pt_self (by assumption) | (rw [pt_ne (by omega)]; assumption))) | (rw [pt_ne (by omega)]; first | assumption | exact pt_self (by first | assumption | exact pt_self (by assumption) | (rw [pt_ne (by omega)]; assumption)) | (rw [pt_ne (by omega)]; first | assumption | exact pt_self (by assumption) | (rw [pt_ne (by omega)]; assumption)))) | (rw [pt_ne (by omega)]; first | assumption | exact pt_self (by first | assumption | exact pt_self (by first | assumption | exact pt_self (by assumption) | (rw [pt_ne (by omega)]; assumption)) | (rw [pt_ne (by omega)]; first | assumption | exact pt_self (by assumption) | (rw [pt_ne (by omega)]; assumption))) | (rw [pt_ne (by omega)]; first | assumption | exact pt_self (by first | assumption | exact pt_self (by assumption) | (rw [pt_ne (by omega)]; assumption)) | (rw [pt_ne (by omega)]; first | assumption | exact pt_self (by assumption) | (rw [pt_ne (by omega)]; assumption))))) (M_isSquare hM hD0 hz) (by decide) ?_
    refine E_ifeq (pc' := 8) (pt := 16) g131_5 rfl rfl (fun c0 => ?_) (fun c0 => ?_)
    · first
      | (exfalso; omega)
      | (refine E_iconst (pc' := 17) g131_16 (by decide) rfl ?_
         exact E_iret g131_17 ro131 (congrArg mI (by omega)) rfl)
    · first
      | (exfalso; omega)
      | (refine E_aload_n (pc' := 9) g131_8 rfl rfl ?_
         refine E_iload_n (pc' := 10) g131_9 rfl rfl ?_
         refine E_cV1i (pc' := 13) g131_10 k131_143 na110 rfl ow110 rfl (Nat.le_of_ble_eq_true rfl) (by first | assumption | exact pt_self (by first | assumption | exact pt_self (by first | assumption | exact pt_self (by first | assumption | exact pt_self (by assumption) | (rw [pt_ne (by omega)]; assumption)) | (rw [pt_ne (by omega)]; first | assumption | exact pt_self (by assumption) | (rw [pt_ne (by omega)]; assumption))) | (rw [pt_ne (by omega)]; first | assumption | exact pt_self (by first | assumption | exact pt_self (by assumption) | (rw [pt_ne (by omega)]; assumption)) | (rw [pt_ne (by omega)]; first | assumption | exact pt_self (by assumption) | (rw [pt_ne (by omega)]; assumption)))) | (rw [pt_ne (by omega)]; first | assumption | exact pt_self (by first | assumption | exact pt_self (by first | assumption | exact pt_self (by assumption) | (rw [pt_ne (by omega)]; assumption)) | (rw [pt_ne (by omega)]; first | assumption | exact pt_self (by assumption) | (rw [pt_ne (by omega)]; assumption))) | (rw [pt_ne (by omega)]; first | assumption | exact pt_self (by first | assumption | exact pt_self (by assumption) | (rw [pt_ne (by omega)]; assumption)) | (rw [pt_ne (by omega)]; first | assumption | exact pt_self (by assumption) | (rw [pt_ne (by omega)]; assumption))))) (M_isBlock hM hD0) (by decide) ?_
         refine E_ifne (pc' := 16) (pt := 18) g131_13 rfl rfl (fun c1 => ?_) (fun c1 => ?_)
         · first
           | (exfalso; omega)
           | (refine E_aload_n (pc' := 19) g131_18 rfl rfl ?_
              refine E_getR (pc' := 22) g131_19 f131_16 tg7_3 rfl (by first | assumption | exact pt_self (by first | assumption | exact pt_self (by first | assumption | exact pt_self (by first | assumption | exact pt_self (by assumption) | (rw [pt_ne (by omega)]; assumption)) | (rw [pt_ne (by omega)]; first | assumption | exact pt_self (by assumption) | (rw [pt_ne (by omega)]; assumption))) | (rw [pt_ne (by omega)]; first | assumption | exact pt_self (by first | assumption | exact pt_self (by assumption) | (rw [pt_ne (by omega)]; assumption)) | (rw [pt_ne (by omega)]; first | assumption | exact pt_self (by assumption) | (rw [pt_ne (by omega)]; assumption)))) | (rw [pt_ne (by omega)]; first | assumption | exact pt_self (by first | assumption | exact pt_self (by first | assumption | exact pt_self (by assumption) | (rw [pt_ne (by omega)]; assumption)) | (rw [pt_ne (by omega)]; first | assumption | exact pt_self (by assumption) | (rw [pt_ne (by omega)]; assumption))) | (rw [pt_ne (by omega)]; first | assumption | exact pt_self (by first | assumption | exact pt_self (by assumption) | (rw [pt_ne (by omega)]; assumption)) | (rw [pt_ne (by omega)]; first | assumption | exact pt_self (by assumption) | (rw [pt_ne (by omega)]; assumption))))) rfl ?_
              refine E_iload_n (pc' := 23) g131_22 rfl rfl ?_
              refine E_iald (pc' := 24) (v := ix bl s) g131_23 rfl (by first | assumption | exact pt_self (by first | assumption | exact pt_self (by first | assumption | exact pt_self (by first | assumption | exact pt_self (by assumption) | (rw [pt_ne (by omega)]; assumption)) | (rw [pt_ne (by omega)]; first | assumption | exact pt_self (by assumption) | (rw [pt_ne (by omega)]; assumption))) | (rw [pt_ne (by omega)]; first | assumption | exact pt_self (by first | assumption | exact pt_self (by assumption) | (rw [pt_ne (by omega)]; assumption)) | (rw [pt_ne (by omega)]; first | assumption | exact pt_self (by assumption) | (rw [pt_ne (by omega)]; assumption)))) | (rw [pt_ne (by omega)]; first | assumption | exact pt_self (by first | assumption | exact pt_self (by first | assumption | exact pt_self (by assumption) | (rw [pt_ne (by omega)]; assumption)) | (rw [pt_ne (by omega)]; first | assumption | exact pt_self (by assumption) | (rw [pt_ne (by omega)]; assumption))) | (rw [pt_ne (by omega)]; first | assumption | exact pt_self (by first | assumption | exact pt_self (by assumption) | (rw [pt_ne (by omega)]; assumption)) | (rw [pt_ne (by omega)]; first | assumption | exact pt_self (by assumption) | (rw [pt_ne (by omega)]; assumption))))) (by omega) (by omega) (q1 s (by omega) (by omega)) ?_
              refine E_bipush (pc' := 26) g131_24 (by decide) rfl ?_
              refine E_iceq (pc' := 29) (pt := 32) g131_26 rfl rfl (fun c2 => ?_) (fun c2 => ?_)
              · first
                | (exfalso; omega)
                | (refine E_aload_n (pc' := 33) g131_32 rfl rfl ?_
                   refine E_cV0v (pc' := 36) g131_33 k131_140 na116 rfl ow116 rfl (Nat.le_of_ble_eq_true rfl) (by first | assumption | exact pt_self (by first | assumption | exact pt_self (by first | assumption | exact pt_self (by first | assumption | exact pt_self (by assumption) | (rw [pt_ne (by omega)]; assumption)) | (rw [pt_ne (by omega)]; first | assumption | exact pt_self (by assumption) | (rw [pt_ne (by omega)]; assumption))) | (rw [pt_ne (by omega)]; first | assumption | exact pt_self (by first | assumption | exact pt_self (by assumption) | (rw [pt_ne (by omega)]; assumption)) | (rw [pt_ne (by omega)]; first | assumption | exact pt_self (by assumption) | (rw [pt_ne (by omega)]; assumption)))) | (rw [pt_ne (by omega)]; first | assumption | exact pt_self (by first | assumption | exact pt_self (by first | assumption | exact pt_self (by assumption) | (rw [pt_ne (by omega)]; assumption)) | (rw [pt_ne (by omega)]; first | assumption | exact pt_self (by assumption) | (rw [pt_ne (by omega)]; assumption))) | (rw [pt_ne (by omega)]; first | assumption | exact pt_self (by first | assumption | exact pt_self (by assumption) | (rw [pt_ne (by omega)]; assumption)) | (rw [pt_ne (by omega)]; first | assumption | exact pt_self (by assumption) | (rw [pt_ne (by omega)]; assumption))))) (M_tries hM htt ht15 hss hrS0.1) (by decide) ?_
                   refine E_aload_n (pc' := 37) g131_36 rfl rfl ?_
                   refine E_iload_n (pc' := 38) g131_37 rfl rfl ?_
                   refine E_iload_n (pc' := 39) g131_38 rfl rfl ?_
                   refine E_cV2i (pc' := 42) g131_39 k131_152 na120 rfl ow120 rfl (Nat.le_of_ble_eq_true rfl) (by first | assumption | exact pt_self (by first | assumption | exact pt_self (by first | assumption | exact pt_self (by first | assumption | exact pt_self (by assumption) | (rw [pt_ne (by omega)]; assumption)) | (rw [pt_ne (by omega)]; first | assumption | exact pt_self (by assumption) | (rw [pt_ne (by omega)]; assumption))) | (rw [pt_ne (by omega)]; first | assumption | exact pt_self (by first | assumption | exact pt_self (by assumption) | (rw [pt_ne (by omega)]; assumption)) | (rw [pt_ne (by omega)]; first | assumption | exact pt_self (by assumption) | (rw [pt_ne (by omega)]; assumption)))) | (rw [pt_ne (by omega)]; first | assumption | exact pt_self (by first | assumption | exact pt_self (by first | assumption | exact pt_self (by assumption) | (rw [pt_ne (by omega)]; assumption)) | (rw [pt_ne (by omega)]; first | assumption | exact pt_self (by assumption) | (rw [pt_ne (by omega)]; assumption))) | (rw [pt_ne (by omega)]; first | assumption | exact pt_self (by first | assumption | exact pt_self (by assumption) | (rw [pt_ne (by omega)]; assumption)) | (rw [pt_ne (by omega)]; first | assumption | exact pt_self (by assumption) | (rw [pt_ne (by omega)]; assumption))))) (M_whyNot (pt_nx (by decide) hM) hD0 (pt_nx (by decide) hz) (pt_nx (by decide) htd) hrT0 (pt_self htt) hrS0 (s := s) (b := b) (r := v) (by omega) (by omega) (hv (by omega))) (by decide) ?_
                   exact E_iret g131_42 ro131 (congrArg mI (by omega)) rfl)
              · first
                | (exfalso; omega)
                | (refine E_bipush (pc' := 31) g131_29 (by decide) rfl ?_
                   exact E_iret g131_31 ro131 (congrArg mI (by omega)) rfl))
         · first
           | (exfalso; omega)
           | (refine E_iconst (pc' := 17) g131_16 (by decide) rfl ?_
              exact E_iret g131_17 ro131 (congrArg mI (by omega)) rfl))
  · refine ⟨_, Or.inl rfl, ?_⟩
    refine Call_of rfl ?_
    refine E_aload_n (pc' := 1) g131_0 rfl rfl ?_
    refine E_iload_n (pc' := 2) g131_1 rfl rfl ?_
    refine E_cV1i (pc' := 5) g131_2 k131_149 na112 rfl ow112 rfl (Nat.le_of_ble_eq_true rfl) (by first | assumption | exact pt_self (by first | assumption | exact pt_self (by first | assumption | exact pt_self (by first | assumption | exact pt_self (by assumption) | (rw [pt_ne (by omega)]; assumption)) | (rw [pt_ne (by omega)]; first | assumption | exact pt_self (by assumption) | (rw [pt_ne (by omega)]; assumption))) | (rw [pt_ne (by omega)]; first | assumption | exact pt_self (by first | assumption | exact pt_self (by assumption) | (rw [pt_ne (by omega)]; assumption)) | (rw [pt_ne (by omega)]; first | assumption | exact pt_self (by assumption) | (rw [pt_ne (by omega)]; assumption)))) | (rw [pt_ne (by omega)]; first | assumption | exact pt_self (by first | assumption | exact pt_self (by first | assumption | exact pt_self (by assumption) | (rw [pt_ne (by omega)]; assumption)) | (rw [pt_ne (by omega)]; first | assumption | exact pt_self (by assumption) | (rw [pt_ne (by omega)]; assumption))) | (rw [pt_ne (by omega)]; first | assumption | exact pt_self (by first | assumption | exact pt_self (by assumption) | (rw [pt_ne (by omega)]; assumption)) | (rw [pt_ne (by omega)]; first | assumption | exact pt_self (by assumption) | (rw [pt_ne (by omega)]; assumption))))) (M_isSquare hM hD0 hz) (by decide) ?_
    refine E_ifeq (pc' := 8) (pt := 16) g131_5 rfl rfl (fun c0 => ?_) (fun c0 => ?_)
    · first
      | (exfalso; omega)
      | (refine E_iconst (pc' := 17) g131_16 (by decide) rfl ?_
         exact E_iret g131_17 ro131 (congrArg mI (by first | (have q := hr.1 (by omega); first | exact q | omega) | (have q := hr.2.1 (by omega); first | exact q | omega) | (have q := hr.2.2 (by omega); first | exact q | omega))) rfl)
    · first
      | (exfalso; omega)
      | (refine E_aload_n (pc' := 9) g131_8 rfl rfl ?_
         refine E_iload_n (pc' := 10) g131_9 rfl rfl ?_
         refine E_cV1i (pc' := 13) g131_10 k131_143 na110 rfl ow110 rfl (Nat.le_of_ble_eq_true rfl) (by first | assumption | exact pt_self (by first | assumption | exact pt_self (by first | assumption | exact pt_self (by first | assumption | exact pt_self (by assumption) | (rw [pt_ne (by omega)]; assumption)) | (rw [pt_ne (by omega)]; first | assumption | exact pt_self (by assumption) | (rw [pt_ne (by omega)]; assumption))) | (rw [pt_ne (by omega)]; first | assumption | exact pt_self (by first | assumption | exact pt_self (by assumption) | (rw [pt_ne (by omega)]; assumption)) | (rw [pt_ne (by omega)]; first | assumption | exact pt_self (by assumption) | (rw [pt_ne (by omega)]; assumption)))) | (rw [pt_ne (by omega)]; first | assumption | exact pt_self (by first | assumption | exact pt_self (by first | assumption | exact pt_self (by assumption) | (rw [pt_ne (by omega)]; assumption)) | (rw [pt_ne (by omega)]; first | assumption | exact pt_self (by assumption) | (rw [pt_ne (by omega)]; assumption))) | (rw [pt_ne (by omega)]; first | assumption | exact pt_self (by first | assumption | exact pt_self (by assumption) | (rw [pt_ne (by omega)]; assumption)) | (rw [pt_ne (by omega)]; first | assumption | exact pt_self (by assumption) | (rw [pt_ne (by omega)]; assumption))))) (M_isBlock hM hD0) (by decide) ?_
         refine E_ifne (pc' := 16) (pt := 18) g131_13 rfl rfl (fun c1 => ?_) (fun c1 => ?_)
         · first
           | (exfalso; omega)
           | (refine E_aload_n (pc' := 19) g131_18 rfl rfl ?_
              refine E_getR (pc' := 22) g131_19 f131_16 tg7_3 rfl (by first | assumption | exact pt_self (by first | assumption | exact pt_self (by first | assumption | exact pt_self (by first | assumption | exact pt_self (by assumption) | (rw [pt_ne (by omega)]; assumption)) | (rw [pt_ne (by omega)]; first | assumption | exact pt_self (by assumption) | (rw [pt_ne (by omega)]; assumption))) | (rw [pt_ne (by omega)]; first | assumption | exact pt_self (by first | assumption | exact pt_self (by assumption) | (rw [pt_ne (by omega)]; assumption)) | (rw [pt_ne (by omega)]; first | assumption | exact pt_self (by assumption) | (rw [pt_ne (by omega)]; assumption)))) | (rw [pt_ne (by omega)]; first | assumption | exact pt_self (by first | assumption | exact pt_self (by first | assumption | exact pt_self (by assumption) | (rw [pt_ne (by omega)]; assumption)) | (rw [pt_ne (by omega)]; first | assumption | exact pt_self (by assumption) | (rw [pt_ne (by omega)]; assumption))) | (rw [pt_ne (by omega)]; first | assumption | exact pt_self (by first | assumption | exact pt_self (by assumption) | (rw [pt_ne (by omega)]; assumption)) | (rw [pt_ne (by omega)]; first | assumption | exact pt_self (by assumption) | (rw [pt_ne (by omega)]; assumption))))) rfl ?_
              refine E_iload_n (pc' := 23) g131_22 rfl rfl ?_
              refine E_iald (pc' := 24) (v := ix bl s) g131_23 rfl (by first | assumption | exact pt_self (by first | assumption | exact pt_self (by first | assumption | exact pt_self (by first | assumption | exact pt_self (by assumption) | (rw [pt_ne (by omega)]; assumption)) | (rw [pt_ne (by omega)]; first | assumption | exact pt_self (by assumption) | (rw [pt_ne (by omega)]; assumption))) | (rw [pt_ne (by omega)]; first | assumption | exact pt_self (by first | assumption | exact pt_self (by assumption) | (rw [pt_ne (by omega)]; assumption)) | (rw [pt_ne (by omega)]; first | assumption | exact pt_self (by assumption) | (rw [pt_ne (by omega)]; assumption)))) | (rw [pt_ne (by omega)]; first | assumption | exact pt_self (by first | assumption | exact pt_self (by first | assumption | exact pt_self (by assumption) | (rw [pt_ne (by omega)]; assumption)) | (rw [pt_ne (by omega)]; first | assumption | exact pt_self (by assumption) | (rw [pt_ne (by omega)]; assumption))) | (rw [pt_ne (by omega)]; first | assumption | exact pt_self (by first | assumption | exact pt_self (by assumption) | (rw [pt_ne (by omega)]; assumption)) | (rw [pt_ne (by omega)]; first | assumption | exact pt_self (by assumption) | (rw [pt_ne (by omega)]; assumption))))) (by omega) (by omega) (q1 s (by omega) (by omega)) ?_
              refine E_bipush (pc' := 26) g131_24 (by decide) rfl ?_
              refine E_iceq (pc' := 29) (pt := 32) g131_26 rfl rfl (fun c2 => ?_) (fun c2 => ?_)
              · first
                | (exfalso; omega)
                | (exfalso; omega)
              · first
                | (exfalso; omega)
                | (refine E_bipush (pc' := 31) g131_29 (by decide) rfl ?_
                   exact E_iret g131_31 ro131 (congrArg mI (by first | (have q := hr.1 (by omega); first | exact q | omega) | (have q := hr.2.1 (by omega); first | exact q | omega) | (have q := hr.2.2 (by omega); first | exact q | omega))) rfl))
         · first
           | (exfalso; omega)
           | (refine E_iconst (pc' := 17) g131_16 (by decide) rfl ?_
              exact E_iret g131_17 ro131 (congrArg mI (by first | (have q := hr.1 (by omega); first | exact q | omega) | (have q := hr.2.1 (by omega); first | exact q | omega) | (have q := hr.2.2 (by omega); first | exact q | omega))) rfl))
end MR
