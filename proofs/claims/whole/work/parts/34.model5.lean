/-! the model: hues, text, images, pieces, count -/
section MS
variable {H : mH} {kd un nk le ap nu me op de fo bs bu wd ht rm mo sd bo : Int} {ed hu bl sl td tt ss : List Int} {ps kt ik tx : List Int}
theorem M_hueAt (hM : H[74]? = some (7, mdL kd un nk le ap nu me op de fo bs bu)) (hD : okD kd wd ht rm mo sd bo ed hu) (htd : H[76]? = some (8, td)) (hrT : relT td ed hu kd) {i r : Int} (hi0 : 0 ≤ i ∧ i ≤ 2147483647) (hr : hueR hu kd i r) : Call 1 137 [mR 74, mI i] H (mI r) H := by
  have hD0 := hD
  have hrT0 := hrT
  obtain ⟨r1, r2, r3, r4, r5, r6, r7, b1, b2⟩ := hD
  obtain ⟨nd, u1, u2⟩ := hrT
  obtain ⟨n, hn⟩ : ∃ n : Nat, (n : Int) = kd := ⟨kd.toNat, by omega⟩
  refine Call_of rfl ?_
  refine E_iload_n (pc' := 1) g137_0 rfl rfl ?_
  refine E_st2 (pc' := 2) g137_1 rfl ?_
  refine E_iconst (pc' := 3) g137_2 (by decide) rfl ?_
  refine E_st3 (pc' := 4) g137_3 rfl ?_
  refine Ev_cast (ls := [mR 74, mI i, mI (i - cn (fh hu) 0), mI ((0 : Nat) : Int), none, none]) ?_ (by simp [cn]) rfl
  refine (E_loop (n := n) (fun k => (∀ j : Nat, j < k → fh hu j = true → ¬ cn (fh hu) j = i) → ∀ u v : mV, Ev 1 137 4 [mR 74, mI i, mI (i - cn (fh hu) k), mI (k : Int), u, v] [] H (mI r) H) ?_ ?_ 0 (by omega)) (fun j hj => absurd hj (by omega)) none none
  · intro k hk hh hall u v
    have hb := cn_bd (fh hu) k
    refine E_iload_n (pc' := 5) g137_4 rfl rfl ?_
    refine E_aload_n (pc' := 6) g137_5 rfl rfl ?_
    refine E_getI (pc' := 9) g137_6 f137_75 tg7_0 (by decide) rfl (by assumption) rfl ?_
    refine E_icge (pc' := 12) (pt := 90) g137_9 rfl rfl (fun c0 => ?_) (fun c0 => ?_)
    · exact absurd c0 (by omega)
    · refine E_iconst (pc' := 13) g137_12 (by decide) rfl ?_
      refine E_st4 (pc' := 15) g137_13 rfl ?_
      refine E_iconst (pc' := 16) g137_15 (by decide) rfl ?_
      refine E_st5 (pc' := 18) g137_16 rfl ?_
      refine E_loop (n := k) (fun e => Ev 1 137 18 [mR 74, mI i, mI (i - cn (fh hu) k), mI (k : Int), mI (b01 (al (fun e => decide (¬ ix hu e = ix hu k)) e)), mI (e : Int)] [] H (mI r) H) ?_ ?_ 0 (by omega)
      · intro e he he2
        refine E_iload (pc' := 20) g137_18 rfl rfl ?_
        refine E_iload_n (pc' := 21) g137_20 rfl rfl ?_
        refine E_icge (pc' := 24) (pt := 56) g137_21 rfl rfl (fun c0 => ?_) (fun c0 => ?_)
        · exact absurd c0 (by omega)
        · refine E_iload (pc' := 26) g137_24 rfl rfl ?_
          refine E_ifeq (pc' := 29) (pt := 47) g137_26 rfl rfl (fun c1 => ?_) (fun c1 => ?_)
          · refine E_iconst (pc' := 48) g137_47 (by decide) rfl ?_
            refine E_st4 (pc' := 50) g137_48 rfl ?_
            refine E_in5 (pc' := 53) g137_50 rfl (m_in_iff.mpr (by omega)) ?_
            refine E_goto (pc' := 18) g137_53 rfl ?_
            first | exact Ev_cast he2 (by rw [al_c2 (by assumption) (decide_eq_true (by assumption))]; first | done | rfl) rfl | exact Ev_cast he2 (by rw [al_c1 (by assumption)]; first | done | rfl) rfl | exact Ev_cast he2 (by rw [al_c3 (p := fun e : Nat => decide (¬ ix hu e = ix hu k)) (decide_eq_false (fun q => q (by assumption)))]; first | done | rfl) rfl
          · refine E_aload_n (pc' := 30) g137_29 rfl rfl ?_
            refine E_iload (pc' := 32) g137_30 rfl rfl ?_
            refine E_cV1i (pc' := 35) g137_32 k137_123 na115 rfl ow115 rfl (Nat.le_of_ble_eq_true rfl) (by assumption) (M_hueOf hM hD0 htd hrT0 (by omega)) (by decide) ?_
            refine E_aload_n (pc' := 36) g137_35 rfl rfl ?_
            refine E_iload_n (pc' := 37) g137_36 rfl rfl ?_
            refine E_cV1i (pc' := 40) g137_37 k137_123 na115 rfl ow115 rfl (Nat.le_of_ble_eq_true rfl) (by assumption) (M_hueOf hM hD0 htd hrT0 (by omega)) (by decide) ?_
            refine E_iceq (pc' := 43) (pt := 47) g137_40 rfl rfl (fun c2 => ?_) (fun c2 => ?_)
            · refine E_iconst (pc' := 48) g137_47 (by decide) rfl ?_
              refine E_st4 (pc' := 50) g137_48 rfl ?_
              refine E_in5 (pc' := 53) g137_50 rfl (m_in_iff.mpr (by omega)) ?_
              refine E_goto (pc' := 18) g137_53 rfl ?_
              first | exact Ev_cast he2 (by rw [al_c2 (by assumption) (decide_eq_true (by assumption))]; first | done | rfl) rfl | exact Ev_cast he2 (by rw [al_c1 (by assumption)]; first | done | rfl) rfl | exact Ev_cast he2 (by rw [al_c3 (p := fun e : Nat => decide (¬ ix hu e = ix hu k)) (decide_eq_false (fun q => q (by assumption)))]; first | done | rfl) rfl
            · refine E_iconst (pc' := 44) g137_43 (by decide) rfl ?_
              refine E_goto (pc' := 48) g137_44 rfl ?_
              refine E_st4 (pc' := 50) g137_48 rfl ?_
              refine E_in5 (pc' := 53) g137_50 rfl (m_in_iff.mpr (by omega)) ?_
              refine E_goto (pc' := 18) g137_53 rfl ?_
              first | exact Ev_cast he2 (by rw [al_c2 (by assumption) (decide_eq_true (by assumption))]; first | done | rfl) rfl | exact Ev_cast he2 (by rw [al_c1 (by assumption)]; first | done | rfl) rfl | exact Ev_cast he2 (by rw [al_c3 (p := fun e : Nat => decide (¬ ix hu e = ix hu k)) (decide_eq_false (fun q => q (by assumption)))]; first | done | rfl) rfl
      · skip
        refine E_iload (pc' := 20) g137_18 rfl rfl ?_
        refine E_iload_n (pc' := 21) g137_20 rfl rfl ?_
        refine E_icge (pc' := 24) (pt := 56) g137_21 rfl rfl (fun c0 => ?_) (fun c0 => ?_)
        · first
          | (exfalso; omega)
          | (refine E_iload (pc' := 58) g137_56 rfl rfl ?_
             refine E_ifeq (pc' := 61) (pt := 71) g137_58 rfl rfl (fun c1 => ?_) (fun c1 => ?_)
             · first
               | (exfalso; omega)
               | (have hf : fh hu k = false := b01_zero (by assumption)
                  have hf2 : b01 (al (fun e => decide (¬ ix hu e = ix hu k)) k) = 0 := by assumption
                  refine E_iload_n (pc' := 72) g137_71 rfl rfl ?_
                  refine E_iload (pc' := 74) g137_72 rfl rfl ?_
                  refine E_ifeq (pc' := 77) (pt := 81) g137_74 rfl rfl (fun c2 => ?_) (fun c2 => ?_)
                  · first
                    | (exfalso; omega)
                    | (refine E_iconst (pc' := 82) g137_81 (by decide) rfl ?_
                       refine E_isub (pc' := 83) g137_82 (m_in_iff.mpr (by omega)) rfl ?_
                       refine E_st2 (pc' := 84) g137_83 rfl ?_
                       refine E_in3 (pc' := 87) g137_84 rfl (m_in_iff.mpr (by omega)) ?_
                       refine E_goto (pc' := 4) g137_87 rfl ?_
                       first
                       | (refine Ev_cast (hh (fun j hj => ?_) _ _) (by rw [cn_t hf, ← Int.sub_sub]; rfl) rfl
                          rcases Nat.lt_or_ge j k with q | q
                          · exact hall j q
                          · intro _; rw [show j = k by omega]; omega)
                       | (refine Ev_cast (hh (fun j hj => ?_) _ _) (by rw [cn_f hf, Int.sub_zero]; rfl) rfl
                          rcases Nat.lt_or_ge j k with q | q
                          · exact hall j q
                          · intro hz; rw [show j = k by omega] at hz; rw [hf] at hz; cases hz))
                  · first
                    | (exfalso; omega)
                    | (refine E_iconst (pc' := 78) g137_77 (by decide) rfl ?_
                       refine E_goto (pc' := 82) g137_78 rfl ?_
                       refine E_isub (pc' := 83) g137_82 (m_in_iff.mpr (by omega)) rfl ?_
                       refine E_st2 (pc' := 84) g137_83 rfl ?_
                       refine E_in3 (pc' := 87) g137_84 rfl (m_in_iff.mpr (by omega)) ?_
                       refine E_goto (pc' := 4) g137_87 rfl ?_
                       first
                       | (refine Ev_cast (hh (fun j hj => ?_) _ _) (by rw [cn_t hf, ← Int.sub_sub]; rfl) rfl
                          rcases Nat.lt_or_ge j k with q | q
                          · exact hall j q
                          · intro _; rw [show j = k by omega]; omega)
                       | (refine Ev_cast (hh (fun j hj => ?_) _ _) (by rw [cn_f hf, Int.sub_zero]; rfl) rfl
                          rcases Nat.lt_or_ge j k with q | q
                          · exact hall j q
                          · intro hz; rw [show j = k by omega] at hz; rw [hf] at hz; cases hz)))
             · first
               | (exfalso; omega)
               | (have hf : fh hu k = true := b01_one (by assumption)
                  have hf2 : ¬ b01 (al (fun e => decide (¬ ix hu e = ix hu k)) k) = 0 := by assumption
                  refine E_iload_n (pc' := 62) g137_61 rfl rfl ?_
                  refine E_ifne (pc' := 65) (pt := 71) g137_62 rfl rfl (fun c3 => ?_) (fun c3 => ?_)
                  · first
                    | (exfalso; omega)
                    | (refine E_iload_n (pc' := 72) g137_71 rfl rfl ?_
                       refine E_iload (pc' := 74) g137_72 rfl rfl ?_
                       refine E_ifeq (pc' := 77) (pt := 81) g137_74 rfl rfl (fun c4 => ?_) (fun c4 => ?_)
                       · first
                         | (exfalso; omega)
                         | (refine E_iconst (pc' := 82) g137_81 (by decide) rfl ?_
                            refine E_isub (pc' := 83) g137_82 (m_in_iff.mpr (by omega)) rfl ?_
                            refine E_st2 (pc' := 84) g137_83 rfl ?_
                            refine E_in3 (pc' := 87) g137_84 rfl (m_in_iff.mpr (by omega)) ?_
                            refine E_goto (pc' := 4) g137_87 rfl ?_
                            first
                            | (refine Ev_cast (hh (fun j hj => ?_) _ _) (by rw [cn_t hf, ← Int.sub_sub]; rfl) rfl
                               rcases Nat.lt_or_ge j k with q | q
                               · exact hall j q
                               · intro _; rw [show j = k by omega]; omega)
                            | (refine Ev_cast (hh (fun j hj => ?_) _ _) (by rw [cn_f hf, Int.sub_zero]; rfl) rfl
                               rcases Nat.lt_or_ge j k with q | q
                               · exact hall j q
                               · intro hz; rw [show j = k by omega] at hz; rw [hf] at hz; cases hz))
                       · first
                         | (exfalso; omega)
                         | (refine E_iconst (pc' := 78) g137_77 (by decide) rfl ?_
                            refine E_goto (pc' := 82) g137_78 rfl ?_
                            refine E_isub (pc' := 83) g137_82 (m_in_iff.mpr (by omega)) rfl ?_
                            refine E_st2 (pc' := 84) g137_83 rfl ?_
                            refine E_in3 (pc' := 87) g137_84 rfl (m_in_iff.mpr (by omega)) ?_
                            refine E_goto (pc' := 4) g137_87 rfl ?_
                            first
                            | (refine Ev_cast (hh (fun j hj => ?_) _ _) (by rw [cn_t hf, ← Int.sub_sub]; rfl) rfl
                               rcases Nat.lt_or_ge j k with q | q
                               · exact hall j q
                               · intro _; rw [show j = k by omega]; omega)
                            | (refine Ev_cast (hh (fun j hj => ?_) _ _) (by rw [cn_f hf, Int.sub_zero]; rfl) rfl
                               rcases Nat.lt_or_ge j k with q | q
                               · exact hall j q
                               · intro hz; rw [show j = k by omega] at hz; rw [hf] at hz; cases hz)))
                  · first
                    | (exfalso; omega)
                    | (refine E_aload_n (pc' := 66) g137_65 rfl rfl ?_
                       refine E_iload_n (pc' := 67) g137_66 rfl rfl ?_
                       refine E_cV1i (pc' := 70) g137_67 k137_123 na115 rfl ow115 rfl (Nat.le_of_ble_eq_true rfl) (by assumption) (M_hueOf hM hD0 htd hrT0 (by omega)) (by decide) ?_
                       exact E_iret g137_70 ro137 (by rw [hr.1 k (by omega) hf (by omega)]) rfl)))
        · exact absurd c0 (by omega)
  · intro hall u v
    refine E_iload_n (pc' := 5) g137_4 rfl rfl ?_
    refine E_aload_n (pc' := 6) g137_5 rfl rfl ?_
    refine E_getI (pc' := 9) g137_6 f137_75 tg7_0 (by decide) rfl (by assumption) rfl ?_
    refine E_icge (pc' := 12) (pt := 90) g137_9 rfl rfl (fun c0 => ?_) (fun c0 => ?_)
    · refine E_bipush (pc' := 92) g137_90 (by decide) rfl ?_
      exact E_iret g137_92 ro137 (by rw [hr.2 (fun j hj => hall j (by omega))]) rfl
    · exact absurd c0 (by omega)
theorem hueR_bd {i r : Int} (hb : bet hu 0 5) (hr : hueR hu kd i r) : r = -9 ∨ (0 ≤ r ∧ r ≤ 5) := by
  by_cases h : ∃ k : Nat, (k : Int) < kd ∧ fh hu k = true ∧ cn (fh hu) k = i
  · obtain ⟨k, h1, h2, h3⟩ := h
    rw [hr.1 k h1 h2 h3]
    exact Or.inr (hb k)
  · exact Or.inl (hr.2 (fun k h1 h2 h3 => h ⟨k, h1, h2, h3⟩))
theorem M_hue (hM : H[74]? = some (7, mdL kd un nk le ap nu me op de fo bs bu)) (hD : okD kd wd ht rm mo sd bo ed hu) (hz : H[75]? = some (8, [wd, ht, rm, mo, sd, bo])) (htd : H[76]? = some (8, td)) (hrT : relT td ed hu kd) (hss : H[77]? = some (8, ss)) (hrS : relS ss bl sl kd) (htt : H[85]? = some (8, tt)) (ht15 : tt.length = 15) {i x w r : Int} (him : i ≤ 2147483647) (hw0 : hueR hu kd i w)
    (hr : (¬ (0 ≤ i ∧ 0 ≤ x ∧ x ≤ 2) → r = -1) ∧ ((0 ≤ i ∧ 0 ≤ x ∧ x ≤ 2 ∧ (w < 0 ∨ x = 0)) → r = w) ∧ ((0 ≤ i ∧ x = 1 ∧ 0 ≤ w) → r = cn (fun k => decide (ix hu k = w)) kd.toNat) ∧ ((0 ≤ i ∧ x = 2 ∧ 0 ≤ w) → r = nH bl hu w 6)) : ∃ H2, (H2 = H ∨ H2 = pt H 85 ss) ∧ Call 3 138 [mR 74, mI i, mI x] H (mI r) H2 := by
  have hD0 := hD
  have hrS0 := hrS
  have hrT0 := hrT
  obtain ⟨r1, r2, r3, r4, r5, r6, r7, b1, b2⟩ := hD
  obtain ⟨nt, q1, q2, q3, q4, q5⟩ := hrS
  obtain ⟨nd, u1, u2⟩ := hrT
  have hw := wh_bd r2.1 r2.2 r3.1 r3.2
  have e2 := inC_or x 0 2
  have e3 := hueR_bd b2 hw0
  by_cases hg : 0 ≤ i ∧ 0 ≤ x ∧ x ≤ 2 ∧ ¬ (w = -9 ∨ x = 0)
  · refine ⟨_, Or.inr rfl, ?_⟩
    obtain ⟨n, hn⟩ : ∃ n : Nat, (n : Int) = kd := ⟨kd.toNat, by omega⟩
    have hr3 : x = 1 → r = cn (fun k => decide (ix hu k = w)) n := fun q => by rw [hr.2.2.1 (by omega), ← hn, Int.toNat_natCast]
    have hr4 : x = 2 → r = nH bl hu w 6 := fun q => hr.2.2.2 (by omega)
    refine Call_of rfl ?_
    refine E_iload_n (pc' := 1) g138_0 rfl rfl ?_
    refine E_iflt (pc' := 4) (pt := 13) g138_1 rfl rfl (fun c0 => ?_) (fun c0 => ?_)
    · first
      | (exfalso; omega)
      | (refine E_iconst (pc' := 14) g138_13 (by decide) rfl ?_
         exact E_iret g138_14 ro138 rfl rfl)
    · first
      | (exfalso; omega)
      | (refine E_iload_n (pc' := 5) g138_4 rfl rfl ?_
         refine E_iconst (pc' := 6) g138_5 (by decide) rfl ?_
         refine E_iconst (pc' := 7) g138_6 (by decide) rfl ?_
         refine E_cS3i (pc' := 10) g138_7 k138_81 na97 rfl rfl (Nat.le_of_ble_eq_true rfl) M_in (by decide) ?_
         refine E_ifne (pc' := 13) (pt := 15) g138_10 rfl rfl (fun c1 => ?_) (fun c1 => ?_)
         · first
           | (exfalso; omega)
           | (refine E_aload_n (pc' := 16) g138_15 rfl rfl ?_
              refine E_iload_n (pc' := 17) g138_16 rfl rfl ?_
              refine E_cV1i (pc' := 20) g138_17 k138_173 na137 rfl ow137 rfl (Nat.le_of_ble_eq_true rfl) (by first | assumption | exact pt_self (by first | assumption | exact pt_self (by first | assumption | exact pt_self (by first | assumption | exact pt_self (by assumption) | (rw [pt_ne (by omega)]; assumption)) | (rw [pt_ne (by omega)]; first | assumption | exact pt_self (by assumption) | (rw [pt_ne (by omega)]; assumption))) | (rw [pt_ne (by omega)]; first | assumption | exact pt_self (by first | assumption | exact pt_self (by assumption) | (rw [pt_ne (by omega)]; assumption)) | (rw [pt_ne (by omega)]; first | assumption | exact pt_self (by assumption) | (rw [pt_ne (by omega)]; assumption)))) | (rw [pt_ne (by omega)]; first | assumption | exact pt_self (by first | assumption | exact pt_self (by first | assumption | exact pt_self (by assumption) | (rw [pt_ne (by omega)]; assumption)) | (rw [pt_ne (by omega)]; first | assumption | exact pt_self (by assumption) | (rw [pt_ne (by omega)]; assumption))) | (rw [pt_ne (by omega)]; first | assumption | exact pt_self (by first | assumption | exact pt_self (by assumption) | (rw [pt_ne (by omega)]; assumption)) | (rw [pt_ne (by omega)]; first | assumption | exact pt_self (by assumption) | (rw [pt_ne (by omega)]; assumption))))) (M_hueAt hM hD0 htd hrT0 (by omega) hw0) (by decide) ?_
              refine E_st3 (pc' := 21) g138_20 rfl ?_
              refine E_iload_n (pc' := 22) g138_21 rfl rfl ?_
              refine E_bipush (pc' := 24) g138_22 (by decide) rfl ?_
              refine E_iceq (pc' := 27) (pt := 31) g138_24 rfl rfl (fun c2 => ?_) (fun c2 => ?_)
              · first
                | (exfalso; omega)
                | (refine E_iload_n (pc' := 32) g138_31 rfl rfl ?_
                   exact E_iret g138_32 ro138 rfl rfl)
              · first
                | (exfalso; omega)
                | (refine E_iload_n (pc' := 28) g138_27 rfl rfl ?_
                   refine E_ifne (pc' := 31) (pt := 33) g138_28 rfl rfl (fun c3 => ?_) (fun c3 => ?_)
                   · first
                     | (exfalso; omega)
                     | (refine E_aload_n (pc' := 34) g138_33 rfl rfl ?_
                        refine E_cV0v (pc' := 37) g138_34 k138_140 na116 rfl ow116 rfl (Nat.le_of_ble_eq_true rfl) (by first | assumption | exact pt_self (by first | assumption | exact pt_self (by first | assumption | exact pt_self (by first | assumption | exact pt_self (by assumption) | (rw [pt_ne (by omega)]; assumption)) | (rw [pt_ne (by omega)]; first | assumption | exact pt_self (by assumption) | (rw [pt_ne (by omega)]; assumption))) | (rw [pt_ne (by omega)]; first | assumption | exact pt_self (by first | assumption | exact pt_self (by assumption) | (rw [pt_ne (by omega)]; assumption)) | (rw [pt_ne (by omega)]; first | assumption | exact pt_self (by assumption) | (rw [pt_ne (by omega)]; assumption)))) | (rw [pt_ne (by omega)]; first | assumption | exact pt_self (by first | assumption | exact pt_self (by first | assumption | exact pt_self (by assumption) | (rw [pt_ne (by omega)]; assumption)) | (rw [pt_ne (by omega)]; first | assumption | exact pt_self (by assumption) | (rw [pt_ne (by omega)]; assumption))) | (rw [pt_ne (by omega)]; first | assumption | exact pt_self (by first | assumption | exact pt_self (by assumption) | (rw [pt_ne (by omega)]; assumption)) | (rw [pt_ne (by omega)]; first | assumption | exact pt_self (by assumption) | (rw [pt_ne (by omega)]; assumption))))) (M_tries hM htt ht15 hss hrS0.1) (by decide) ?_
                        refine E_iconst (pc' := 38) g138_37 (by decide) rfl ?_
                        refine E_st4 (pc' := 40) g138_38 rfl ?_
                        refine E_iconst (pc' := 41) g138_40 (by decide) rfl ?_
                        refine E_st5 (pc' := 43) g138_41 rfl ?_
                        refine E_loop (n := n) (fun k => Ev 3 138 43 [mR 74, mI i, mI x, mI w, mI (cn (fun k => decide (ix hu k = w)) k), mI (k : Int)] [] (pt H 85 ss) (mI r) (pt H 85 ss)) ?_ ?_ 0 (by omega)
                        · intro k hk hh
                          have hb := cn_bd (fun k => decide (ix hu k = w)) k
                          refine E_iload (pc' := 45) g138_43 rfl rfl ?_
                          refine E_aload_n (pc' := 46) g138_45 rfl rfl ?_
                          refine E_getI (pc' := 49) g138_46 f138_75 tg7_0 (by decide) rfl (by first | assumption | exact pt_self (by first | assumption | exact pt_self (by first | assumption | exact pt_self (by first | assumption | exact pt_self (by assumption) | (rw [pt_ne (by omega)]; assumption)) | (rw [pt_ne (by omega)]; first | assumption | exact pt_self (by assumption) | (rw [pt_ne (by omega)]; assumption))) | (rw [pt_ne (by omega)]; first | assumption | exact pt_self (by first | assumption | exact pt_self (by assumption) | (rw [pt_ne (by omega)]; assumption)) | (rw [pt_ne (by omega)]; first | assumption | exact pt_self (by assumption) | (rw [pt_ne (by omega)]; assumption)))) | (rw [pt_ne (by omega)]; first | assumption | exact pt_self (by first | assumption | exact pt_self (by first | assumption | exact pt_self (by assumption) | (rw [pt_ne (by omega)]; assumption)) | (rw [pt_ne (by omega)]; first | assumption | exact pt_self (by assumption) | (rw [pt_ne (by omega)]; assumption))) | (rw [pt_ne (by omega)]; first | assumption | exact pt_self (by first | assumption | exact pt_self (by assumption) | (rw [pt_ne (by omega)]; assumption)) | (rw [pt_ne (by omega)]; first | assumption | exact pt_self (by assumption) | (rw [pt_ne (by omega)]; assumption))))) rfl ?_
                          refine E_icge (pc' := 52) (pt := 78) g138_49 rfl rfl (fun c0 => ?_) (fun c0 => ?_)
                          · exact absurd c0 (by omega)
                          · refine E_iload (pc' := 54) g138_52 rfl rfl ?_
                            refine E_aload_n (pc' := 55) g138_54 rfl rfl ?_
                            refine E_iload (pc' := 57) g138_55 rfl rfl ?_
                            refine E_cV1i (pc' := 60) g138_57 k138_123 na115 rfl ow115 rfl (Nat.le_of_ble_eq_true rfl) (by first | assumption | exact pt_self (by first | assumption | exact pt_self (by first | assumption | exact pt_self (by first | assumption | exact pt_self (by assumption) | (rw [pt_ne (by omega)]; assumption)) | (rw [pt_ne (by omega)]; first | assumption | exact pt_self (by assumption) | (rw [pt_ne (by omega)]; assumption))) | (rw [pt_ne (by omega)]; first | assumption | exact pt_self (by first | assumption | exact pt_self (by assumption) | (rw [pt_ne (by omega)]; assumption)) | (rw [pt_ne (by omega)]; first | assumption | exact pt_self (by assumption) | (rw [pt_ne (by omega)]; assumption)))) | (rw [pt_ne (by omega)]; first | assumption | exact pt_self (by first | assumption | exact pt_self (by first | assumption | exact pt_self (by assumption) | (rw [pt_ne (by omega)]; assumption)) | (rw [pt_ne (by omega)]; first | assumption | exact pt_self (by assumption) | (rw [pt_ne (by omega)]; assumption))) | (rw [pt_ne (by omega)]; first | assumption | exact pt_self (by first | assumption | exact pt_self (by assumption) | (rw [pt_ne (by omega)]; assumption)) | (rw [pt_ne (by omega)]; first | assumption | exact pt_self (by assumption) | (rw [pt_ne (by omega)]; assumption))))) (M_hueOf (pt_nx (by decide) hM) hD0 (pt_nx (by decide) htd) hrT0 (by omega)) (by decide) ?_
                            refine E_iload_n (pc' := 61) g138_60 rfl rfl ?_
                            refine E_icne (pc' := 64) (pt := 68) g138_61 rfl rfl (fun c1 => ?_) (fun c1 => ?_)
                            · refine E_iconst (pc' := 69) g138_68 (by decide) rfl ?_
                              refine E_iadd (pc' := 70) g138_69 (m_in_iff.mpr (by omega)) rfl ?_
                              refine E_st4 (pc' := 72) g138_70 rfl ?_
                              refine E_in5 (pc' := 75) g138_72 rfl (m_in_iff.mpr (by omega)) ?_
                              refine E_goto (pc' := 43) g138_75 rfl ?_
                              first | exact Ev_cast hh (by rw [cn_t (decide_eq_true (by omega))]; rfl) rfl | exact Ev_cast hh (by rw [cn_f (decide_eq_false (by omega)), Int.add_zero]; rfl) rfl
                            · refine E_iconst (pc' := 65) g138_64 (by decide) rfl ?_
                              refine E_goto (pc' := 69) g138_65 rfl ?_
                              refine E_iadd (pc' := 70) g138_69 (m_in_iff.mpr (by omega)) rfl ?_
                              refine E_st4 (pc' := 72) g138_70 rfl ?_
                              refine E_in5 (pc' := 75) g138_72 rfl (m_in_iff.mpr (by omega)) ?_
                              refine E_goto (pc' := 43) g138_75 rfl ?_
                              first | exact Ev_cast hh (by rw [cn_t (decide_eq_true (by omega))]; rfl) rfl | exact Ev_cast hh (by rw [cn_f (decide_eq_false (by omega)), Int.add_zero]; rfl) rfl
                        · refine E_iload (pc' := 45) g138_43 rfl rfl ?_
                          refine E_aload_n (pc' := 46) g138_45 rfl rfl ?_
                          refine E_getI (pc' := 49) g138_46 f138_75 tg7_0 (by decide) rfl (by first | assumption | exact pt_self (by first | assumption | exact pt_self (by first | assumption | exact pt_self (by first | assumption | exact pt_self (by assumption) | (rw [pt_ne (by omega)]; assumption)) | (rw [pt_ne (by omega)]; first | assumption | exact pt_self (by assumption) | (rw [pt_ne (by omega)]; assumption))) | (rw [pt_ne (by omega)]; first | assumption | exact pt_self (by first | assumption | exact pt_self (by assumption) | (rw [pt_ne (by omega)]; assumption)) | (rw [pt_ne (by omega)]; first | assumption | exact pt_self (by assumption) | (rw [pt_ne (by omega)]; assumption)))) | (rw [pt_ne (by omega)]; first | assumption | exact pt_self (by first | assumption | exact pt_self (by first | assumption | exact pt_self (by assumption) | (rw [pt_ne (by omega)]; assumption)) | (rw [pt_ne (by omega)]; first | assumption | exact pt_self (by assumption) | (rw [pt_ne (by omega)]; assumption))) | (rw [pt_ne (by omega)]; first | assumption | exact pt_self (by first | assumption | exact pt_self (by assumption) | (rw [pt_ne (by omega)]; assumption)) | (rw [pt_ne (by omega)]; first | assumption | exact pt_self (by assumption) | (rw [pt_ne (by omega)]; assumption))))) rfl ?_
                          refine E_icge (pc' := 52) (pt := 78) g138_49 rfl rfl (fun c2 => ?_) (fun c2 => ?_)
                          · refine E_iload_n (pc' := 79) g138_78 rfl rfl ?_
                            refine E_iconst (pc' := 80) g138_79 (by decide) rfl ?_
                            refine E_icne (pc' := 83) (pt := 88) g138_80 rfl rfl (fun c3 => ?_) (fun c3 => ?_)
                            · refine E_aload_n (pc' := 89) g138_88 rfl rfl ?_
                              refine E_iload_n (pc' := 90) g138_89 rfl rfl ?_
                              refine E_cV1i (pc' := 93) g138_90 k138_133 na118 rfl ow118 rfl (Nat.le_of_ble_eq_true rfl) (by first | assumption | exact pt_self (by first | assumption | exact pt_self (by first | assumption | exact pt_self (by first | assumption | exact pt_self (by assumption) | (rw [pt_ne (by omega)]; assumption)) | (rw [pt_ne (by omega)]; first | assumption | exact pt_self (by assumption) | (rw [pt_ne (by omega)]; assumption))) | (rw [pt_ne (by omega)]; first | assumption | exact pt_self (by first | assumption | exact pt_self (by assumption) | (rw [pt_ne (by omega)]; assumption)) | (rw [pt_ne (by omega)]; first | assumption | exact pt_self (by assumption) | (rw [pt_ne (by omega)]; assumption)))) | (rw [pt_ne (by omega)]; first | assumption | exact pt_self (by first | assumption | exact pt_self (by first | assumption | exact pt_self (by assumption) | (rw [pt_ne (by omega)]; assumption)) | (rw [pt_ne (by omega)]; first | assumption | exact pt_self (by assumption) | (rw [pt_ne (by omega)]; assumption))) | (rw [pt_ne (by omega)]; first | assumption | exact pt_self (by first | assumption | exact pt_self (by assumption) | (rw [pt_ne (by omega)]; assumption)) | (rw [pt_ne (by omega)]; first | assumption | exact pt_self (by assumption) | (rw [pt_ne (by omega)]; assumption))))) (M_ofHue (pt_nx (by decide) hM) hD0 (pt_nx (by decide) htd) hrT0 (pt_self htt) hrS0) (by decide) ?_
                              exact E_iret g138_93 ro138 (congrArg mI (by first | (have q := hr3 (by omega); omega) | (have q := hr4 (by omega); omega))) rfl
                            · refine E_iload (pc' := 85) g138_83 rfl rfl ?_
                              refine E_goto (pc' := 93) g138_85 rfl ?_
                              exact E_iret g138_93 ro138 (congrArg mI (by first | (have q := hr3 (by omega); omega) | (have q := hr4 (by omega); omega))) rfl
                          · exact absurd c2 (by omega))
                   · first
                     | (exfalso; omega)
                     | (refine E_iload_n (pc' := 32) g138_31 rfl rfl ?_
                        exact E_iret g138_32 ro138 rfl rfl)))
         · first
           | (exfalso; omega)
           | (refine E_iconst (pc' := 14) g138_13 (by decide) rfl ?_
              exact E_iret g138_14 ro138 rfl rfl))
  · refine ⟨_, Or.inl rfl, ?_⟩
    refine Call_of rfl ?_
    refine E_iload_n (pc' := 1) g138_0 rfl rfl ?_
    refine E_iflt (pc' := 4) (pt := 13) g138_1 rfl rfl (fun c0 => ?_) (fun c0 => ?_)
    · first
      | (exfalso; omega)
      | (refine E_iconst (pc' := 14) g138_13 (by decide) rfl ?_
         exact E_iret g138_14 ro138 (congrArg mI (by first | (have q := hr.1 (by omega); first | exact q | omega) | (have q := hr.2.1 (by omega); first | exact q | omega) | (have q := hr.2.2.1 (by omega); first | exact q | omega) | (have q := hr.2.2.2 (by omega); first | exact q | omega))) rfl)
    · first
      | (exfalso; omega)
      | (refine E_iload_n (pc' := 5) g138_4 rfl rfl ?_
         refine E_iconst (pc' := 6) g138_5 (by decide) rfl ?_
         refine E_iconst (pc' := 7) g138_6 (by decide) rfl ?_
         refine E_cS3i (pc' := 10) g138_7 k138_81 na97 rfl rfl (Nat.le_of_ble_eq_true rfl) M_in (by decide) ?_
         refine E_ifne (pc' := 13) (pt := 15) g138_10 rfl rfl (fun c1 => ?_) (fun c1 => ?_)
         · first
           | (exfalso; omega)
           | (refine E_aload_n (pc' := 16) g138_15 rfl rfl ?_
              refine E_iload_n (pc' := 17) g138_16 rfl rfl ?_
              refine E_cV1i (pc' := 20) g138_17 k138_173 na137 rfl ow137 rfl (Nat.le_of_ble_eq_true rfl) (by first | assumption | exact pt_self (by first | assumption | exact pt_self (by first | assumption | exact pt_self (by first | assumption | exact pt_self (by assumption) | (rw [pt_ne (by omega)]; assumption)) | (rw [pt_ne (by omega)]; first | assumption | exact pt_self (by assumption) | (rw [pt_ne (by omega)]; assumption))) | (rw [pt_ne (by omega)]; first | assumption | exact pt_self (by first | assumption | exact pt_self (by assumption) | (rw [pt_ne (by omega)]; assumption)) | (rw [pt_ne (by omega)]; first | assumption | exact pt_self (by assumption) | (rw [pt_ne (by omega)]; assumption)))) | (rw [pt_ne (by omega)]; first | assumption | exact pt_self (by first | assumption | exact pt_self (by first | assumption | exact pt_self (by assumption) | (rw [pt_ne (by omega)]; assumption)) | (rw [pt_ne (by omega)]; first | assumption | exact pt_self (by assumption) | (rw [pt_ne (by omega)]; assumption))) | (rw [pt_ne (by omega)]; first | assumption | exact pt_self (by first | assumption | exact pt_self (by assumption) | (rw [pt_ne (by omega)]; assumption)) | (rw [pt_ne (by omega)]; first | assumption | exact pt_self (by assumption) | (rw [pt_ne (by omega)]; assumption))))) (M_hueAt hM hD0 htd hrT0 (by omega) hw0) (by decide) ?_
              refine E_st3 (pc' := 21) g138_20 rfl ?_
              refine E_iload_n (pc' := 22) g138_21 rfl rfl ?_
              refine E_bipush (pc' := 24) g138_22 (by decide) rfl ?_
              refine E_iceq (pc' := 27) (pt := 31) g138_24 rfl rfl (fun c2 => ?_) (fun c2 => ?_)
              · first
                | (exfalso; omega)
                | (refine E_iload_n (pc' := 32) g138_31 rfl rfl ?_
                   exact E_iret g138_32 ro138 (congrArg mI (by first | (have q := hr.1 (by omega); first | exact q | omega) | (have q := hr.2.1 (by omega); first | exact q | omega) | (have q := hr.2.2.1 (by omega); first | exact q | omega) | (have q := hr.2.2.2 (by omega); first | exact q | omega))) rfl)
              · first
                | (exfalso; omega)
                | (refine E_iload_n (pc' := 28) g138_27 rfl rfl ?_
                   refine E_ifne (pc' := 31) (pt := 33) g138_28 rfl rfl (fun c3 => ?_) (fun c3 => ?_)
                   · first
                     | (exfalso; omega)
                     | (exfalso; omega)
                   · first
                     | (exfalso; omega)
                     | (refine E_iload_n (pc' := 32) g138_31 rfl rfl ?_
                        exact E_iret g138_32 ro138 (congrArg mI (by first | (have q := hr.1 (by omega); first | exact q | omega) | (have q := hr.2.1 (by omega); first | exact q | omega) | (have q := hr.2.2.1 (by omega); first | exact q | omega) | (have q := hr.2.2.2 (by omega); first | exact q | omega))) rfl)))
         · first
           | (exfalso; omega)
           | (refine E_iconst (pc' := 14) g138_13 (by decide) rfl ?_
              exact E_iret g138_14 ro138 (congrArg mI (by first | (have q := hr.1 (by omega); first | exact q | omega) | (have q := hr.2.1 (by omega); first | exact q | omega) | (have q := hr.2.2.1 (by omega); first | exact q | omega) | (have q := hr.2.2.2 (by omega); first | exact q | omega))) rfl))
theorem cn_mono {p : Nat → Bool} {a : Nat} : ∀ {b : Nat}, a ≤ b → cn p a ≤ cn p b
  | 0, h => by rw [show a = 0 by omega]; exact Int.le_refl _
  | b + 1, h => by
    by_cases e : a = b + 1
    · rw [e]; exact Int.le_refl _
    · have := cn_mono (p := p) (show a ≤ b by omega)
      simp only [cn]
      split <;> omega
theorem cn_find {p : Nat → Bool} : ∀ {n : Nat} {m : Int}, 0 ≤ m → m < cn p n → ∃ k, k < n ∧ p k = true ∧ cn p k = m
  | 0, m, h0, h => by simp [cn] at h; omega
  | n + 1, m, h0, h => by
    by_cases e : m < cn p n
    · obtain ⟨k, h1, h2, h3⟩ := cn_find h0 e
      exact ⟨k, by omega, h2, h3⟩
    · cases q : p n with
      | false => rw [cn_f q] at h; omega
      | true => rw [cn_t q] at h; exact ⟨n, by omega, q, by omega⟩
theorem hueR_ex (i : Int) : ∃ r, hueR hu kd i r := by
  by_cases h : ∃ k : Nat, (k : Int) < kd ∧ fh hu k = true ∧ cn (fh hu) k = i
  · obtain ⟨k, h1, h2, h3⟩ := h
    refine ⟨ix hu k, fun j g1 g2 g3 => ?_, fun z => absurd h3 (z k h1 h2)⟩
    rcases Nat.lt_trichotomy j k with q | q | q
    · have := cn_mono (p := fh hu) (show j + 1 ≤ k from q)
      rw [cn_t g2] at this
      omega
    · rw [q]
    · have := cn_mono (p := fh hu) (show k + 1 ≤ j from q)
      rw [cn_t h2] at this
      omega
  · exact ⟨-9, fun k h1 h2 h3 => absurd ⟨k, h1, h2, h3⟩ h, fun _ => rfl⟩
theorem M_hues (hM : H[74]? = some (7, mdL kd un nk le ap nu me op de fo bs bu)) (hD : okD kd wd ht rm mo sd bo ed hu) (htd : H[76]? = some (8, td)) (hrT : relT td ed hu kd) : Call 2 159 [mR 74] H (mI (cn (fh hu) kd.toNat)) H := by
  have hD0 := hD
  have hrT0 := hrT
  obtain ⟨r1, r2, r3, r4, r5, r6, r7, b1, b2⟩ := hD
  obtain ⟨nd, u1, u2⟩ := hrT
  have hb := cn_bd (fh hu) kd.toNat
  obtain ⟨n, hn⟩ : ∃ n : Nat, (n : Int) = cn (fh hu) kd.toNat := ⟨(cn (fh hu) kd.toNat).toNat, by omega⟩
  rw [← hn]
  refine Call_of rfl ?_
  refine E_iconst (pc' := 1) g159_0 (by decide) rfl ?_
  refine E_st1 (pc' := 2) g159_1 rfl ?_
  refine E_loop (n := n) (fun i => Ev 2 159 2 [mR 74, mI (i : Int)] [] H (mI (n : Int)) H) ?_ ?_ 0 (by omega)
  · intro i hi hh
    obtain ⟨v, hv⟩ := hueR_ex (hu := hu) (kd := kd) (i : Int)
    have hv2 : ¬ v = -9 := by
      obtain ⟨k, h1, h2, h3⟩ := cn_find (p := fh hu) (n := kd.toNat) (m := (i : Int)) (by omega) (by omega)
      have := hv.1 k (by omega) h2 h3
      have := b2 k
      omega
    refine E_aload_n (pc' := 3) g159_2 rfl rfl ?_
    refine E_iload_n (pc' := 4) g159_3 rfl rfl ?_
    refine E_cV1i (pc' := 7) g159_4 k159_173 na137 rfl ow137 rfl (Nat.le_of_ble_eq_true rfl) (by assumption) (M_hueAt hM hD0 htd hrT0 (by omega) hv) (by decide) ?_
    refine E_bipush (pc' := 9) g159_7 (by decide) rfl ?_
    refine E_iceq (pc' := 12) (pt := 18) g159_9 rfl rfl (fun c0 => ?_) (fun c0 => ?_)
    · first
      | (exfalso; omega)
      | (refine E_iload_n (pc' := 19) g159_18 rfl rfl ?_
         exact E_iret g159_19 ro159 rfl rfl)
    · first
      | (exfalso; omega)
      | (refine E_in1 (pc' := 15) g159_12 rfl (m_in_iff.mpr (by omega)) ?_
         refine E_goto (pc' := 2) g159_15 rfl ?_
         exact hh)
  · have hv : hueR hu kd (n : Int) (-9) := by
      refine ⟨fun k h1 h2 h3 => ?_, fun _ => rfl⟩
      have := cn_mono (p := fh hu) (show k + 1 ≤ kd.toNat by omega)
      rw [cn_t h2] at this
      omega
    refine E_aload_n (pc' := 3) g159_2 rfl rfl ?_
    refine E_iload_n (pc' := 4) g159_3 rfl rfl ?_
    refine E_cV1i (pc' := 7) g159_4 k159_173 na137 rfl ow137 rfl (Nat.le_of_ble_eq_true rfl) (by assumption) (M_hueAt hM hD0 htd hrT0 (by omega) hv) (by decide) ?_
    refine E_bipush (pc' := 9) g159_7 (by decide) rfl ?_
    refine E_iceq (pc' := 12) (pt := 18) g159_9 rfl rfl (fun c0 => ?_) (fun c0 => ?_)
    · first
      | (exfalso; omega)
      | (refine E_iload_n (pc' := 19) g159_18 rfl rfl ?_
         exact E_iret g159_19 ro159 rfl rfl)
    · first
      | (exfalso; omega)
      | (refine E_in1 (pc' := 15) g159_12 rfl (m_in_iff.mpr (by omega)) ?_
         refine E_goto (pc' := 2) g159_15 rfl ?_
         exfalso; omega)
theorem M_type_no (hM : H[74]? = some (7, mdL kd un nk le ap nu me op de fo bs bu)) (hD : okD kd wd ht rm mo sd bo ed hu) {x r : Int} (hr : (¬ (0 ≤ x ∧ x ≤ 255) → r = -1) ∧ ((0 ≤ x ∧ x ≤ 255) → r = -3)) (hno : ¬ (0 ≤ x ∧ x ≤ 255) ∨ le = 120) : Call 3 101 [mR 74, mI x] H (mI r) H := by
  have e1 := inC_or x 0 255
  refine Call_of rfl ?_
  refine E_iload_n (pc' := 1) g101_0 rfl rfl ?_
  refine E_iconst (pc' := 2) g101_1 (by decide) rfl ?_
  refine E_sipush (pc' := 5) g101_2 (by decide) rfl ?_
  refine E_cS3i (pc' := 8) g101_5 k101_81 na97 rfl rfl (Nat.le_of_ble_eq_true rfl) M_in (by decide) ?_
  refine E_ifne (pc' := 11) (pt := 13) g101_8 rfl rfl (fun c0 => ?_) (fun c0 => ?_)
  · first
    | (exfalso; omega)
    | (refine E_aload_n (pc' := 14) g101_13 rfl rfl ?_
       refine E_getI (pc' := 17) g101_14 f101_85 tg7_12 (by decide) rfl (by first | assumption | exact pt_self (by first | assumption | exact pt_self (by first | assumption | exact pt_self (by first | assumption | exact pt_self (by assumption) | (rw [pt_ne (by omega)]; assumption)) | (rw [pt_ne (by omega)]; first | assumption | exact pt_self (by assumption) | (rw [pt_ne (by omega)]; assumption))) | (rw [pt_ne (by omega)]; first | assumption | exact pt_self (by first | assumption | exact pt_self (by assumption) | (rw [pt_ne (by omega)]; assumption)) | (rw [pt_ne (by omega)]; first | assumption | exact pt_self (by assumption) | (rw [pt_ne (by omega)]; assumption)))) | (rw [pt_ne (by omega)]; first | assumption | exact pt_self (by first | assumption | exact pt_self (by first | assumption | exact pt_self (by assumption) | (rw [pt_ne (by omega)]; assumption)) | (rw [pt_ne (by omega)]; first | assumption | exact pt_self (by assumption) | (rw [pt_ne (by omega)]; assumption))) | (rw [pt_ne (by omega)]; first | assumption | exact pt_self (by first | assumption | exact pt_self (by assumption) | (rw [pt_ne (by omega)]; assumption)) | (rw [pt_ne (by omega)]; first | assumption | exact pt_self (by assumption) | (rw [pt_ne (by omega)]; assumption))))) rfl ?_
       refine E_bipush (pc' := 19) g101_17 (by decide) rfl ?_
       refine E_icne (pc' := 22) (pt := 25) g101_19 rfl rfl (fun c1 => ?_) (fun c1 => ?_)
       · first
         | (exfalso; omega)
         | (exfalso; omega)
       · first
         | (exfalso; omega)
         | (refine E_bipush (pc' := 24) g101_22 (by decide) rfl ?_
            exact E_iret g101_24 ro101 (congrArg mI (by first | (have q := hr.1 (by omega); first | exact q | omega) | (have q := hr.2 (by omega); first | exact q | omega))) rfl))
  · first
    | (exfalso; omega)
    | (refine E_iconst (pc' := 12) g101_11 (by decide) rfl ?_
       exact E_iret g101_12 ro101 (congrArg mI (by first | (have q := hr.1 (by omega); first | exact q | omega) | (have q := hr.2 (by omega); first | exact q | omega))) rfl)
theorem M_type (hM : H[74]? = some (7, mdL kd un nk le ap nu me op de fo bs bu)) (hD : okD kd wd ht rm mo sd bo ed hu) {x : Int} (hx : 0 ≤ x ∧ x ≤ 255) (hle : 0 ≤ le ∧ le < 120) (htx : H[84]? = some (8, tx)) (hl : tx.length = 120) : Call 3 101 [mR 74, mI x] H (mI (le + 1)) (pt (pt H 84 (up tx le x)) 74 (mdL kd un nk (le + 1) ap nu me op de fo bs bu)) := by
  have e1 := inC_or x 0 255
  refine Call_of rfl ?_
  refine E_iload_n (pc' := 1) g101_0 rfl rfl ?_
  refine E_iconst (pc' := 2) g101_1 (by decide) rfl ?_
  refine E_sipush (pc' := 5) g101_2 (by decide) rfl ?_
  refine E_cS3i (pc' := 8) g101_5 k101_81 na97 rfl rfl (Nat.le_of_ble_eq_true rfl) M_in (by decide) ?_
  refine E_ifne (pc' := 11) (pt := 13) g101_8 rfl rfl (fun c0 => ?_) (fun c0 => ?_)
  · first
    | (exfalso; omega)
    | (refine E_aload_n (pc' := 14) g101_13 rfl rfl ?_
       refine E_getI (pc' := 17) g101_14 f101_85 tg7_12 (by decide) rfl (by first | assumption | exact pt_self (by first | assumption | exact pt_self (by first | assumption | exact pt_self (by first | assumption | exact pt_self (by assumption) | (rw [pt_ne (by omega)]; assumption)) | (rw [pt_ne (by omega)]; first | assumption | exact pt_self (by assumption) | (rw [pt_ne (by omega)]; assumption))) | (rw [pt_ne (by omega)]; first | assumption | exact pt_self (by first | assumption | exact pt_self (by assumption) | (rw [pt_ne (by omega)]; assumption)) | (rw [pt_ne (by omega)]; first | assumption | exact pt_self (by assumption) | (rw [pt_ne (by omega)]; assumption)))) | (rw [pt_ne (by omega)]; first | assumption | exact pt_self (by first | assumption | exact pt_self (by first | assumption | exact pt_self (by assumption) | (rw [pt_ne (by omega)]; assumption)) | (rw [pt_ne (by omega)]; first | assumption | exact pt_self (by assumption) | (rw [pt_ne (by omega)]; assumption))) | (rw [pt_ne (by omega)]; first | assumption | exact pt_self (by first | assumption | exact pt_self (by assumption) | (rw [pt_ne (by omega)]; assumption)) | (rw [pt_ne (by omega)]; first | assumption | exact pt_self (by assumption) | (rw [pt_ne (by omega)]; assumption))))) rfl ?_
       refine E_bipush (pc' := 19) g101_17 (by decide) rfl ?_
       refine E_icne (pc' := 22) (pt := 25) g101_19 rfl rfl (fun c1 => ?_) (fun c1 => ?_)
       · first
         | (exfalso; omega)
         | (refine E_aload_n (pc' := 26) g101_25 rfl rfl ?_
            refine E_getR (pc' := 29) g101_26 f101_38 tg7_13 rfl (by first | assumption | exact pt_self (by first | assumption | exact pt_self (by first | assumption | exact pt_self (by first | assumption | exact pt_self (by assumption) | (rw [pt_ne (by omega)]; assumption)) | (rw [pt_ne (by omega)]; first | assumption | exact pt_self (by assumption) | (rw [pt_ne (by omega)]; assumption))) | (rw [pt_ne (by omega)]; first | assumption | exact pt_self (by first | assumption | exact pt_self (by assumption) | (rw [pt_ne (by omega)]; assumption)) | (rw [pt_ne (by omega)]; first | assumption | exact pt_self (by assumption) | (rw [pt_ne (by omega)]; assumption)))) | (rw [pt_ne (by omega)]; first | assumption | exact pt_self (by first | assumption | exact pt_self (by first | assumption | exact pt_self (by assumption) | (rw [pt_ne (by omega)]; assumption)) | (rw [pt_ne (by omega)]; first | assumption | exact pt_self (by assumption) | (rw [pt_ne (by omega)]; assumption))) | (rw [pt_ne (by omega)]; first | assumption | exact pt_self (by first | assumption | exact pt_self (by assumption) | (rw [pt_ne (by omega)]; assumption)) | (rw [pt_ne (by omega)]; first | assumption | exact pt_self (by assumption) | (rw [pt_ne (by omega)]; assumption))))) rfl ?_
            refine E_aload_n (pc' := 30) g101_29 rfl rfl ?_
            refine E_getI (pc' := 33) g101_30 f101_85 tg7_12 (by decide) rfl (by first | assumption | exact pt_self (by first | assumption | exact pt_self (by first | assumption | exact pt_self (by first | assumption | exact pt_self (by assumption) | (rw [pt_ne (by omega)]; assumption)) | (rw [pt_ne (by omega)]; first | assumption | exact pt_self (by assumption) | (rw [pt_ne (by omega)]; assumption))) | (rw [pt_ne (by omega)]; first | assumption | exact pt_self (by first | assumption | exact pt_self (by assumption) | (rw [pt_ne (by omega)]; assumption)) | (rw [pt_ne (by omega)]; first | assumption | exact pt_self (by assumption) | (rw [pt_ne (by omega)]; assumption)))) | (rw [pt_ne (by omega)]; first | assumption | exact pt_self (by first | assumption | exact pt_self (by first | assumption | exact pt_self (by assumption) | (rw [pt_ne (by omega)]; assumption)) | (rw [pt_ne (by omega)]; first | assumption | exact pt_self (by assumption) | (rw [pt_ne (by omega)]; assumption))) | (rw [pt_ne (by omega)]; first | assumption | exact pt_self (by first | assumption | exact pt_self (by assumption) | (rw [pt_ne (by omega)]; assumption)) | (rw [pt_ne (by omega)]; first | assumption | exact pt_self (by assumption) | (rw [pt_ne (by omega)]; assumption))))) rfl ?_
            refine E_iload_n (pc' := 34) g101_33 rfl rfl ?_
            refine E_iastore (pc' := 35) g101_34 rfl (by first | assumption | exact pt_self (by first | assumption | exact pt_self (by first | assumption | exact pt_self (by first | assumption | exact pt_self (by assumption) | (rw [pt_ne (by omega)]; assumption)) | (rw [pt_ne (by omega)]; first | assumption | exact pt_self (by assumption) | (rw [pt_ne (by omega)]; assumption))) | (rw [pt_ne (by omega)]; first | assumption | exact pt_self (by first | assumption | exact pt_self (by assumption) | (rw [pt_ne (by omega)]; assumption)) | (rw [pt_ne (by omega)]; first | assumption | exact pt_self (by assumption) | (rw [pt_ne (by omega)]; assumption)))) | (rw [pt_ne (by omega)]; first | assumption | exact pt_self (by first | assumption | exact pt_self (by first | assumption | exact pt_self (by assumption) | (rw [pt_ne (by omega)]; assumption)) | (rw [pt_ne (by omega)]; first | assumption | exact pt_self (by assumption) | (rw [pt_ne (by omega)]; assumption))) | (rw [pt_ne (by omega)]; first | assumption | exact pt_self (by first | assumption | exact pt_self (by assumption) | (rw [pt_ne (by omega)]; assumption)) | (rw [pt_ne (by omega)]; first | assumption | exact pt_self (by assumption) | (rw [pt_ne (by omega)]; assumption))))) (by omega) (by omega) ?_
            refine E_aload_n (pc' := 36) g101_35 rfl rfl ?_
            refine E_dup (pc' := 37) g101_36 rfl ?_
            refine E_getI (pc' := 40) g101_37 f101_85 tg7_12 (by decide) rfl (by first | assumption | exact pt_self (by first | assumption | exact pt_self (by first | assumption | exact pt_self (by first | assumption | exact pt_self (by assumption) | (rw [pt_ne (by omega)]; assumption)) | (rw [pt_ne (by omega)]; first | assumption | exact pt_self (by assumption) | (rw [pt_ne (by omega)]; assumption))) | (rw [pt_ne (by omega)]; first | assumption | exact pt_self (by first | assumption | exact pt_self (by assumption) | (rw [pt_ne (by omega)]; assumption)) | (rw [pt_ne (by omega)]; first | assumption | exact pt_self (by assumption) | (rw [pt_ne (by omega)]; assumption)))) | (rw [pt_ne (by omega)]; first | assumption | exact pt_self (by first | assumption | exact pt_self (by first | assumption | exact pt_self (by assumption) | (rw [pt_ne (by omega)]; assumption)) | (rw [pt_ne (by omega)]; first | assumption | exact pt_self (by assumption) | (rw [pt_ne (by omega)]; assumption))) | (rw [pt_ne (by omega)]; first | assumption | exact pt_self (by first | assumption | exact pt_self (by assumption) | (rw [pt_ne (by omega)]; assumption)) | (rw [pt_ne (by omega)]; first | assumption | exact pt_self (by assumption) | (rw [pt_ne (by omega)]; assumption))))) rfl ?_
            refine E_iconst (pc' := 41) g101_40 (by decide) rfl ?_
            refine E_iadd (pc' := 42) g101_41 (m_in_iff.mpr (by omega)) rfl ?_
            refine E_putf (pc' := 45) g101_42 f101_85 tg7_12 fn7_12 rfl rfl (by first | assumption | exact pt_self (by first | assumption | exact pt_self (by first | assumption | exact pt_self (by first | assumption | exact pt_self (by assumption) | (rw [pt_ne (by omega)]; assumption)) | (rw [pt_ne (by omega)]; first | assumption | exact pt_self (by assumption) | (rw [pt_ne (by omega)]; assumption))) | (rw [pt_ne (by omega)]; first | assumption | exact pt_self (by first | assumption | exact pt_self (by assumption) | (rw [pt_ne (by omega)]; assumption)) | (rw [pt_ne (by omega)]; first | assumption | exact pt_self (by assumption) | (rw [pt_ne (by omega)]; assumption)))) | (rw [pt_ne (by omega)]; first | assumption | exact pt_self (by first | assumption | exact pt_self (by first | assumption | exact pt_self (by assumption) | (rw [pt_ne (by omega)]; assumption)) | (rw [pt_ne (by omega)]; first | assumption | exact pt_self (by assumption) | (rw [pt_ne (by omega)]; assumption))) | (rw [pt_ne (by omega)]; first | assumption | exact pt_self (by first | assumption | exact pt_self (by assumption) | (rw [pt_ne (by omega)]; assumption)) | (rw [pt_ne (by omega)]; first | assumption | exact pt_self (by assumption) | (rw [pt_ne (by omega)]; assumption))))) (Nat.le_of_ble_eq_true rfl) ?_
            refine E_aload_n (pc' := 46) g101_45 rfl rfl ?_
            refine E_getI (pc' := 49) g101_46 f101_85 tg7_12 (by decide) rfl (by first | assumption | exact pt_self (by first | assumption | exact pt_self (by first | assumption | exact pt_self (by first | assumption | exact pt_self (by assumption) | (rw [pt_ne (by omega)]; assumption)) | (rw [pt_ne (by omega)]; first | assumption | exact pt_self (by assumption) | (rw [pt_ne (by omega)]; assumption))) | (rw [pt_ne (by omega)]; first | assumption | exact pt_self (by first | assumption | exact pt_self (by assumption) | (rw [pt_ne (by omega)]; assumption)) | (rw [pt_ne (by omega)]; first | assumption | exact pt_self (by assumption) | (rw [pt_ne (by omega)]; assumption)))) | (rw [pt_ne (by omega)]; first | assumption | exact pt_self (by first | assumption | exact pt_self (by first | assumption | exact pt_self (by assumption) | (rw [pt_ne (by omega)]; assumption)) | (rw [pt_ne (by omega)]; first | assumption | exact pt_self (by assumption) | (rw [pt_ne (by omega)]; assumption))) | (rw [pt_ne (by omega)]; first | assumption | exact pt_self (by first | assumption | exact pt_self (by assumption) | (rw [pt_ne (by omega)]; assumption)) | (rw [pt_ne (by omega)]; first | assumption | exact pt_self (by assumption) | (rw [pt_ne (by omega)]; assumption))))) rfl ?_
            exact E_iret g101_49 ro101 rfl rfl)
       · first
         | (exfalso; omega)
         | (refine E_bipush (pc' := 24) g101_22 (by decide) rfl ?_
            exact E_iret g101_24 ro101 rfl rfl))
  · first
    | (exfalso; omega)
    | (refine E_iconst (pc' := 12) g101_11 (by decide) rfl ?_
       exact E_iret g101_12 ro101 rfl rfl)
theorem M_clear (hM : H[74]? = some (7, mdL kd un nk le ap nu me op de fo bs bu)) (hD : okD kd wd ht rm mo sd bo ed hu) : Call 3 102 [mR 74] H (mI le) (pt H 74 (mdL kd un nk 0 ap nu me op de fo bs bu)) := by
  refine Call_of rfl ?_
  refine E_aload_n (pc' := 1) g102_0 rfl rfl ?_
  refine E_getI (pc' := 4) g102_1 f102_85 tg7_12 (by decide) rfl (by first | assumption | exact pt_self (by first | assumption | exact pt_self (by first | assumption | exact pt_self (by first | assumption | exact pt_self (by assumption) | (rw [pt_ne (by omega)]; assumption)) | (rw [pt_ne (by omega)]; first | assumption | exact pt_self (by assumption) | (rw [pt_ne (by omega)]; assumption))) | (rw [pt_ne (by omega)]; first | assumption | exact pt_self (by first | assumption | exact pt_self (by assumption) | (rw [pt_ne (by omega)]; assumption)) | (rw [pt_ne (by omega)]; first | assumption | exact pt_self (by assumption) | (rw [pt_ne (by omega)]; assumption)))) | (rw [pt_ne (by omega)]; first | assumption | exact pt_self (by first | assumption | exact pt_self (by first | assumption | exact pt_self (by assumption) | (rw [pt_ne (by omega)]; assumption)) | (rw [pt_ne (by omega)]; first | assumption | exact pt_self (by assumption) | (rw [pt_ne (by omega)]; assumption))) | (rw [pt_ne (by omega)]; first | assumption | exact pt_self (by first | assumption | exact pt_self (by assumption) | (rw [pt_ne (by omega)]; assumption)) | (rw [pt_ne (by omega)]; first | assumption | exact pt_self (by assumption) | (rw [pt_ne (by omega)]; assumption))))) rfl ?_
  refine E_st1 (pc' := 5) g102_4 rfl ?_
  refine E_aload_n (pc' := 6) g102_5 rfl rfl ?_
  refine E_iconst (pc' := 7) g102_6 (by decide) rfl ?_
  refine E_putf (pc' := 10) g102_7 f102_85 tg7_12 fn7_12 rfl rfl (by first | assumption | exact pt_self (by first | assumption | exact pt_self (by first | assumption | exact pt_self (by first | assumption | exact pt_self (by assumption) | (rw [pt_ne (by omega)]; assumption)) | (rw [pt_ne (by omega)]; first | assumption | exact pt_self (by assumption) | (rw [pt_ne (by omega)]; assumption))) | (rw [pt_ne (by omega)]; first | assumption | exact pt_self (by first | assumption | exact pt_self (by assumption) | (rw [pt_ne (by omega)]; assumption)) | (rw [pt_ne (by omega)]; first | assumption | exact pt_self (by assumption) | (rw [pt_ne (by omega)]; assumption)))) | (rw [pt_ne (by omega)]; first | assumption | exact pt_self (by first | assumption | exact pt_self (by first | assumption | exact pt_self (by assumption) | (rw [pt_ne (by omega)]; assumption)) | (rw [pt_ne (by omega)]; first | assumption | exact pt_self (by assumption) | (rw [pt_ne (by omega)]; assumption))) | (rw [pt_ne (by omega)]; first | assumption | exact pt_self (by first | assumption | exact pt_self (by assumption) | (rw [pt_ne (by omega)]; assumption)) | (rw [pt_ne (by omega)]; first | assumption | exact pt_self (by assumption) | (rw [pt_ne (by omega)]; assumption))))) (Nat.le_of_ble_eq_true rfl) ?_
  refine E_iload_n (pc' := 11) g102_10 rfl rfl ?_
  exact E_iret g102_11 ro102 rfl rfl
theorem M_keep_no (hM : H[74]? = some (7, mdL kd un nk le ap nu me op de fo bs bu)) (hD : okD kd wd ht rm mo sd bo ed hu) {i : Int} (hi : ¬ (0 ≤ i ∧ i < 2)) : Call 3 157 [mR 74, mI i] H (mI (-1)) H := by
  have e1 := inC_or i 0 1
  refine Call_of rfl ?_
  refine E_iload_n (pc' := 1) g157_0 rfl rfl ?_
  refine E_iconst (pc' := 2) g157_1 (by decide) rfl ?_
  refine E_iconst (pc' := 3) g157_2 (by decide) rfl ?_
  refine E_cS3i (pc' := 6) g157_3 k157_81 na97 rfl rfl (Nat.le_of_ble_eq_true rfl) M_in (by decide) ?_
  refine E_ifne (pc' := 9) (pt := 11) g157_6 rfl rfl (fun c0 => ?_) (fun c0 => ?_)
  · first
    | (exfalso; omega)
    | (exfalso; omega)
  · first
    | (exfalso; omega)
    | (refine E_iconst (pc' := 10) g157_9 (by decide) rfl ?_
       exact E_iret g157_10 ro157 rfl rfl)
theorem M_keep (hM : H[74]? = some (7, mdL kd un nk le ap nu me op de fo bs bu)) (hD : okD kd wd ht rm mo sd bo ed hu) (hz : H[75]? = some (8, [wd, ht, rm, mo, sd, bo])) (htd : H[76]? = some (8, td)) (hrT : relT td ed hu kd) (hss : H[77]? = some (8, ss)) (hrS : relS ss bl sl kd) (htt : H[85]? = some (8, tt)) (ht15 : tt.length = 15) (hkt : H[80]? = some (8, kt)) (hktl : kt.length = 30) (hik : H[79]? = some (9, ik)) (hikl : ik.length = 2) {i : Int} (hi : 0 ≤ i ∧ i < 2) : Call 3 157 [mR 74, mI i] H (mI (nO bl (wd * ht).toNat)) (pt (pt H 80 (fil kt (15 * i) (fun k => ix ss k) 15)) 79 (up ik i 1)) := by
  have hD0 := hD
  have hrS0 := hrS
  have hrT0 := hrT
  obtain ⟨r1, r2, r3, r4, r5, r6, r7, b1, b2⟩ := hD
  obtain ⟨nt, q1, q2, q3, q4, q5⟩ := hrS
  obtain ⟨nd, u1, u2⟩ := hrT
  have hw := wh_bd r2.1 r2.2 r3.1 r3.2
  have e1 := inC_or i 0 1
  refine Call_of rfl ?_
  refine E_iload_n (pc' := 1) g157_0 rfl rfl ?_
  refine E_iconst (pc' := 2) g157_1 (by decide) rfl ?_
  refine E_iconst (pc' := 3) g157_2 (by decide) rfl ?_
  refine E_cS3i (pc' := 6) g157_3 k157_81 na97 rfl rfl (Nat.le_of_ble_eq_true rfl) M_in (by decide) ?_
  refine E_ifne (pc' := 9) (pt := 11) g157_6 rfl rfl (fun c0 => ?_) (fun c0 => ?_)
  · first
    | (exfalso; omega)
    | (refine E_iconst (pc' := 12) g157_11 (by decide) rfl ?_
       refine E_st2 (pc' := 13) g157_12 rfl ?_
       refine Ev_cast (H := (pt H 80 (fil kt (15 * i) (fun k => ix ss k) 0))) ?_ rfl (by simp only [fil]; rw [pt_same hkt])
       refine E_loop (n := 15) (fun k => Ev 3 157 13 [mR 74, mI i, mI (k : Int)] [] (pt H 80 (fil kt (15 * i) (fun k => ix ss k) k)) (mI (nO bl (wd * ht).toNat)) (pt (pt H 80 (fil kt (15 * i) (fun k => ix ss k) 15)) 79 (up ik i 1))) ?_ ?_ 0 (by omega)
       · intro k hk hh
         refine E_iload_n (pc' := 14) g157_13 rfl rfl ?_
         refine E_bipush (pc' := 16) g157_14 (by decide) rfl ?_
         refine E_icge (pc' := 19) (pt := 42) g157_16 rfl rfl (fun c0 => ?_) (fun c0 => ?_)
         · exact absurd c0 (by omega)
         · refine E_aload_n (pc' := 20) g157_19 rfl rfl ?_
           refine E_getR (pc' := 23) g157_20 f157_26 tg7_7 rfl (by first | assumption | exact pt_self (by first | assumption | exact pt_self (by first | assumption | exact pt_self (by first | assumption | exact pt_self (by assumption) | (rw [pt_ne (by omega)]; assumption)) | (rw [pt_ne (by omega)]; first | assumption | exact pt_self (by assumption) | (rw [pt_ne (by omega)]; assumption))) | (rw [pt_ne (by omega)]; first | assumption | exact pt_self (by first | assumption | exact pt_self (by assumption) | (rw [pt_ne (by omega)]; assumption)) | (rw [pt_ne (by omega)]; first | assumption | exact pt_self (by assumption) | (rw [pt_ne (by omega)]; assumption)))) | (rw [pt_ne (by omega)]; first | assumption | exact pt_self (by first | assumption | exact pt_self (by first | assumption | exact pt_self (by assumption) | (rw [pt_ne (by omega)]; assumption)) | (rw [pt_ne (by omega)]; first | assumption | exact pt_self (by assumption) | (rw [pt_ne (by omega)]; assumption))) | (rw [pt_ne (by omega)]; first | assumption | exact pt_self (by first | assumption | exact pt_self (by assumption) | (rw [pt_ne (by omega)]; assumption)) | (rw [pt_ne (by omega)]; first | assumption | exact pt_self (by assumption) | (rw [pt_ne (by omega)]; assumption))))) rfl ?_
           refine E_bipush (pc' := 25) g157_23 (by decide) rfl ?_
           refine E_iload_n (pc' := 26) g157_25 rfl rfl ?_
           refine E_imul (pc' := 27) g157_26 (m_in_iff.mpr (by omega)) rfl ?_
           refine E_iload_n (pc' := 28) g157_27 rfl rfl ?_
           refine E_iadd (pc' := 29) g157_28 (m_in_iff.mpr (by omega)) rfl ?_
           refine E_aload_n (pc' := 30) g157_29 rfl rfl ?_
           refine E_getR (pc' := 33) g157_30 f157_16 tg7_3 rfl (by first | assumption | exact pt_self (by first | assumption | exact pt_self (by first | assumption | exact pt_self (by first | assumption | exact pt_self (by assumption) | (rw [pt_ne (by omega)]; assumption)) | (rw [pt_ne (by omega)]; first | assumption | exact pt_self (by assumption) | (rw [pt_ne (by omega)]; assumption))) | (rw [pt_ne (by omega)]; first | assumption | exact pt_self (by first | assumption | exact pt_self (by assumption) | (rw [pt_ne (by omega)]; assumption)) | (rw [pt_ne (by omega)]; first | assumption | exact pt_self (by assumption) | (rw [pt_ne (by omega)]; assumption)))) | (rw [pt_ne (by omega)]; first | assumption | exact pt_self (by first | assumption | exact pt_self (by first | assumption | exact pt_self (by assumption) | (rw [pt_ne (by omega)]; assumption)) | (rw [pt_ne (by omega)]; first | assumption | exact pt_self (by assumption) | (rw [pt_ne (by omega)]; assumption))) | (rw [pt_ne (by omega)]; first | assumption | exact pt_self (by first | assumption | exact pt_self (by assumption) | (rw [pt_ne (by omega)]; assumption)) | (rw [pt_ne (by omega)]; first | assumption | exact pt_self (by assumption) | (rw [pt_ne (by omega)]; assumption))))) rfl ?_
           refine E_iload_n (pc' := 34) g157_33 rfl rfl ?_
           refine E_iaload (pc' := 35) g157_34 rfl (by first | assumption | exact pt_self (by first | assumption | exact pt_self (by first | assumption | exact pt_self (by first | assumption | exact pt_self (by assumption) | (rw [pt_ne (by omega)]; assumption)) | (rw [pt_ne (by omega)]; first | assumption | exact pt_self (by assumption) | (rw [pt_ne (by omega)]; assumption))) | (rw [pt_ne (by omega)]; first | assumption | exact pt_self (by first | assumption | exact pt_self (by assumption) | (rw [pt_ne (by omega)]; assumption)) | (rw [pt_ne (by omega)]; first | assumption | exact pt_self (by assumption) | (rw [pt_ne (by omega)]; assumption)))) | (rw [pt_ne (by omega)]; first | assumption | exact pt_self (by first | assumption | exact pt_self (by first | assumption | exact pt_self (by assumption) | (rw [pt_ne (by omega)]; assumption)) | (rw [pt_ne (by omega)]; first | assumption | exact pt_self (by assumption) | (rw [pt_ne (by omega)]; assumption))) | (rw [pt_ne (by omega)]; first | assumption | exact pt_self (by first | assumption | exact pt_self (by assumption) | (rw [pt_ne (by omega)]; assumption)) | (rw [pt_ne (by omega)]; first | assumption | exact pt_self (by assumption) | (rw [pt_ne (by omega)]; assumption))))) (by omega) (by omega) ?_
           refine E_iastore (pc' := 36) g157_35 rfl (by first | assumption | exact pt_self (by first | assumption | exact pt_self (by first | assumption | exact pt_self (by first | assumption | exact pt_self (by assumption) | (rw [pt_ne (by omega)]; assumption)) | (rw [pt_ne (by omega)]; first | assumption | exact pt_self (by assumption) | (rw [pt_ne (by omega)]; assumption))) | (rw [pt_ne (by omega)]; first | assumption | exact pt_self (by first | assumption | exact pt_self (by assumption) | (rw [pt_ne (by omega)]; assumption)) | (rw [pt_ne (by omega)]; first | assumption | exact pt_self (by assumption) | (rw [pt_ne (by omega)]; assumption)))) | (rw [pt_ne (by omega)]; first | assumption | exact pt_self (by first | assumption | exact pt_self (by first | assumption | exact pt_self (by assumption) | (rw [pt_ne (by omega)]; assumption)) | (rw [pt_ne (by omega)]; first | assumption | exact pt_self (by assumption) | (rw [pt_ne (by omega)]; assumption))) | (rw [pt_ne (by omega)]; first | assumption | exact pt_self (by first | assumption | exact pt_self (by assumption) | (rw [pt_ne (by omega)]; assumption)) | (rw [pt_ne (by omega)]; first | assumption | exact pt_self (by assumption) | (rw [pt_ne (by omega)]; assumption))))) (by omega) (by rw [fil_len]; omega) ?_
           refine E_in2 (pc' := 39) g157_36 rfl (m_in_iff.mpr (by omega)) ?_
           refine E_goto (pc' := 13) g157_39 rfl ?_
           refine Ev_cast hh rfl ?_
           rw [pt_pt]
           rfl
       · refine E_iload_n (pc' := 14) g157_13 rfl rfl ?_
         refine E_bipush (pc' := 16) g157_14 (by decide) rfl ?_
         refine E_icge (pc' := 19) (pt := 42) g157_16 rfl rfl (fun c1 => ?_) (fun c1 => ?_)
         · refine E_aload_n (pc' := 43) g157_42 rfl rfl ?_
           refine E_getR (pc' := 46) g157_43 f157_22 tg7_6 rfl (by first | assumption | exact pt_self (by first | assumption | exact pt_self (by first | assumption | exact pt_self (by first | assumption | exact pt_self (by assumption) | (rw [pt_ne (by omega)]; assumption)) | (rw [pt_ne (by omega)]; first | assumption | exact pt_self (by assumption) | (rw [pt_ne (by omega)]; assumption))) | (rw [pt_ne (by omega)]; first | assumption | exact pt_self (by first | assumption | exact pt_self (by assumption) | (rw [pt_ne (by omega)]; assumption)) | (rw [pt_ne (by omega)]; first | assumption | exact pt_self (by assumption) | (rw [pt_ne (by omega)]; assumption)))) | (rw [pt_ne (by omega)]; first | assumption | exact pt_self (by first | assumption | exact pt_self (by first | assumption | exact pt_self (by assumption) | (rw [pt_ne (by omega)]; assumption)) | (rw [pt_ne (by omega)]; first | assumption | exact pt_self (by assumption) | (rw [pt_ne (by omega)]; assumption))) | (rw [pt_ne (by omega)]; first | assumption | exact pt_self (by first | assumption | exact pt_self (by assumption) | (rw [pt_ne (by omega)]; assumption)) | (rw [pt_ne (by omega)]; first | assumption | exact pt_self (by assumption) | (rw [pt_ne (by omega)]; assumption))))) rfl ?_
           refine E_iload_n (pc' := 47) g157_46 rfl rfl ?_
           refine E_iconst (pc' := 48) g157_47 (by decide) rfl ?_
           refine E_bastore (pc' := 49) g157_48 rfl (Or.inr rfl) (by first | assumption | exact pt_self (by first | assumption | exact pt_self (by first | assumption | exact pt_self (by first | assumption | exact pt_self (by assumption) | (rw [pt_ne (by omega)]; assumption)) | (rw [pt_ne (by omega)]; first | assumption | exact pt_self (by assumption) | (rw [pt_ne (by omega)]; assumption))) | (rw [pt_ne (by omega)]; first | assumption | exact pt_self (by first | assumption | exact pt_self (by assumption) | (rw [pt_ne (by omega)]; assumption)) | (rw [pt_ne (by omega)]; first | assumption | exact pt_self (by assumption) | (rw [pt_ne (by omega)]; assumption)))) | (rw [pt_ne (by omega)]; first | assumption | exact pt_self (by first | assumption | exact pt_self (by first | assumption | exact pt_self (by assumption) | (rw [pt_ne (by omega)]; assumption)) | (rw [pt_ne (by omega)]; first | assumption | exact pt_self (by assumption) | (rw [pt_ne (by omega)]; assumption))) | (rw [pt_ne (by omega)]; first | assumption | exact pt_self (by first | assumption | exact pt_self (by assumption) | (rw [pt_ne (by omega)]; assumption)) | (rw [pt_ne (by omega)]; first | assumption | exact pt_self (by assumption) | (rw [pt_ne (by omega)]; assumption))))) (by omega) (by omega) ?_
           refine E_aload_n (pc' := 50) g157_49 rfl rfl ?_
           refine E_cV0i (pc' := 53) g157_50 k157_158 na123 rfl ow123 rfl (Nat.le_of_ble_eq_true rfl) (by first | assumption | exact pt_self (by first | assumption | exact pt_self (by first | assumption | exact pt_self (by first | assumption | exact pt_self (by assumption) | (rw [pt_ne (by omega)]; assumption)) | (rw [pt_ne (by omega)]; first | assumption | exact pt_self (by assumption) | (rw [pt_ne (by omega)]; assumption))) | (rw [pt_ne (by omega)]; first | assumption | exact pt_self (by first | assumption | exact pt_self (by assumption) | (rw [pt_ne (by omega)]; assumption)) | (rw [pt_ne (by omega)]; first | assumption | exact pt_self (by assumption) | (rw [pt_ne (by omega)]; assumption)))) | (rw [pt_ne (by omega)]; first | assumption | exact pt_self (by first | assumption | exact pt_self (by first | assumption | exact pt_self (by assumption) | (rw [pt_ne (by omega)]; assumption)) | (rw [pt_ne (by omega)]; first | assumption | exact pt_self (by assumption) | (rw [pt_ne (by omega)]; assumption))) | (rw [pt_ne (by omega)]; first | assumption | exact pt_self (by first | assumption | exact pt_self (by assumption) | (rw [pt_ne (by omega)]; assumption)) | (rw [pt_ne (by omega)]; first | assumption | exact pt_self (by assumption) | (rw [pt_ne (by omega)]; assumption))))) (M_open (pt_nx (by decide) (pt_nx (by decide) hM)) hD0 (pt_nx (by decide) (pt_nx (by decide) hz)) (pt_nx (by decide) (pt_nx (by decide) hss)) hrS0) (by decide) ?_
           exact E_iret g157_53 ro157 rfl rfl
         · exact absurd c1 (by omega))
  · first
    | (exfalso; omega)
    | (refine E_iconst (pc' := 10) g157_9 (by decide) rfl ?_
       exact E_iret g157_10 ro157 rfl rfl)
theorem M_back_no (hM : H[74]? = some (7, mdL kd un nk le ap nu me op de fo bs bu)) (hD : okD kd wd ht rm mo sd bo ed hu) (hik : H[79]? = some (9, ik)) (hikl : ik.length = 2) {i r : Int} (hno : ¬ (0 ≤ i ∧ i < 2 ∧ ¬ ix ik i = 0)) (hr : (¬ (0 ≤ i ∧ i < 2) → r = -1) ∧ ((0 ≤ i ∧ i < 2) → r = -2)) : Call 3 158 [mR 74, mI i] H (mI r) H := by
  have e1 := inC_or i 0 1
  refine Call_of rfl ?_
  refine E_iload_n (pc' := 1) g158_0 rfl rfl ?_
  refine E_iconst (pc' := 2) g158_1 (by decide) rfl ?_
  refine E_iconst (pc' := 3) g158_2 (by decide) rfl ?_
  refine E_cS3i (pc' := 6) g158_3 k158_81 na97 rfl rfl (Nat.le_of_ble_eq_true rfl) M_in (by decide) ?_
  refine E_ifne (pc' := 9) (pt := 11) g158_6 rfl rfl (fun c0 => ?_) (fun c0 => ?_)
  · first
    | (exfalso; omega)
    | (refine E_aload_n (pc' := 12) g158_11 rfl rfl ?_
       refine E_getR (pc' := 15) g158_12 f158_22 tg7_6 rfl (by first | assumption | exact pt_self (by first | assumption | exact pt_self (by first | assumption | exact pt_self (by first | assumption | exact pt_self (by assumption) | (rw [pt_ne (by omega)]; assumption)) | (rw [pt_ne (by omega)]; first | assumption | exact pt_self (by assumption) | (rw [pt_ne (by omega)]; assumption))) | (rw [pt_ne (by omega)]; first | assumption | exact pt_self (by first | assumption | exact pt_self (by assumption) | (rw [pt_ne (by omega)]; assumption)) | (rw [pt_ne (by omega)]; first | assumption | exact pt_self (by assumption) | (rw [pt_ne (by omega)]; assumption)))) | (rw [pt_ne (by omega)]; first | assumption | exact pt_self (by first | assumption | exact pt_self (by first | assumption | exact pt_self (by assumption) | (rw [pt_ne (by omega)]; assumption)) | (rw [pt_ne (by omega)]; first | assumption | exact pt_self (by assumption) | (rw [pt_ne (by omega)]; assumption))) | (rw [pt_ne (by omega)]; first | assumption | exact pt_self (by first | assumption | exact pt_self (by assumption) | (rw [pt_ne (by omega)]; assumption)) | (rw [pt_ne (by omega)]; first | assumption | exact pt_self (by assumption) | (rw [pt_ne (by omega)]; assumption))))) rfl ?_
       refine E_iload_n (pc' := 16) g158_15 rfl rfl ?_
       refine E_baload (pc' := 17) g158_16 rfl (by first | assumption | exact pt_self (by first | assumption | exact pt_self (by first | assumption | exact pt_self (by first | assumption | exact pt_self (by assumption) | (rw [pt_ne (by omega)]; assumption)) | (rw [pt_ne (by omega)]; first | assumption | exact pt_self (by assumption) | (rw [pt_ne (by omega)]; assumption))) | (rw [pt_ne (by omega)]; first | assumption | exact pt_self (by first | assumption | exact pt_self (by assumption) | (rw [pt_ne (by omega)]; assumption)) | (rw [pt_ne (by omega)]; first | assumption | exact pt_self (by assumption) | (rw [pt_ne (by omega)]; assumption)))) | (rw [pt_ne (by omega)]; first | assumption | exact pt_self (by first | assumption | exact pt_self (by first | assumption | exact pt_self (by assumption) | (rw [pt_ne (by omega)]; assumption)) | (rw [pt_ne (by omega)]; first | assumption | exact pt_self (by assumption) | (rw [pt_ne (by omega)]; assumption))) | (rw [pt_ne (by omega)]; first | assumption | exact pt_self (by first | assumption | exact pt_self (by assumption) | (rw [pt_ne (by omega)]; assumption)) | (rw [pt_ne (by omega)]; first | assumption | exact pt_self (by assumption) | (rw [pt_ne (by omega)]; assumption))))) (by omega) (by omega) ?_
       refine E_ifne (pc' := 20) (pt := 23) g158_17 rfl rfl (fun c1 => ?_) (fun c1 => ?_)
       · first
         | (exfalso; omega)
         | (exfalso; omega)
       · first
         | (exfalso; omega)
         | (refine E_bipush (pc' := 22) g158_20 (by decide) rfl ?_
            exact E_iret g158_22 ro158 (congrArg mI (by first | (have q := hr.1 (by omega); first | exact q | omega) | (have q := hr.2 (by omega); first | exact q | omega))) rfl))
  · first
    | (exfalso; omega)
    | (refine E_iconst (pc' := 10) g158_9 (by decide) rfl ?_
       exact E_iret g158_10 ro158 (congrArg mI (by first | (have q := hr.1 (by omega); first | exact q | omega) | (have q := hr.2 (by omega); first | exact q | omega))) rfl)
theorem M_back (hM : H[74]? = some (7, mdL kd un nk le ap nu me op de fo bs bu)) (hD : okD kd wd ht rm mo sd bo ed hu) (hz : H[75]? = some (8, [wd, ht, rm, mo, sd, bo])) (htd : H[76]? = some (8, td)) (hrT : relT td ed hu kd) (hss : H[77]? = some (8, ss)) (hrS : relS ss bl sl kd) (htt : H[85]? = some (8, tt)) (ht15 : tt.length = 15) (hkt : H[80]? = some (8, kt)) (hktl : kt.length = 30) (hik : H[79]? = some (9, ik)) (hikl : ik.length = 2) {i : Int} (hi : 0 ≤ i ∧ i < 2) (hk : ¬ ix ik i = 0) {bl2 sl2 : List Int} (hr2 : relS (sli kt (15 * i)) bl2 sl2 kd) : Call 3 158 [mR 74, mI i] H (mI (nO bl2 (wd * ht).toNat)) (pt (pt H 77 (sli kt (15 * i))) 74 (mdL kd 0 nk le ap nu me op de fo bs bu)) := by
  have hD0 := hD
  have hrS0 := hrS
  have hrT0 := hrT
  obtain ⟨r1, r2, r3, r4, r5, r6, r7, b1, b2⟩ := hD
  obtain ⟨nt, q1, q2, q3, q4, q5⟩ := hrS
  obtain ⟨nd, u1, u2⟩ := hrT
  have hw := wh_bd r2.1 r2.2 r3.1 r3.2
  have e1 := inC_or i 0 1
  refine Call_of rfl ?_
  refine E_iload_n (pc' := 1) g158_0 rfl rfl ?_
  refine E_iconst (pc' := 2) g158_1 (by decide) rfl ?_
  refine E_iconst (pc' := 3) g158_2 (by decide) rfl ?_
  refine E_cS3i (pc' := 6) g158_3 k158_81 na97 rfl rfl (Nat.le_of_ble_eq_true rfl) M_in (by decide) ?_
  refine E_ifne (pc' := 9) (pt := 11) g158_6 rfl rfl (fun c0 => ?_) (fun c0 => ?_)
  · first
    | (exfalso; omega)
    | (refine E_aload_n (pc' := 12) g158_11 rfl rfl ?_
       refine E_getR (pc' := 15) g158_12 f158_22 tg7_6 rfl (by first | assumption | exact pt_self (by first | assumption | exact pt_self (by first | assumption | exact pt_self (by first | assumption | exact pt_self (by assumption) | (rw [pt_ne (by omega)]; assumption)) | (rw [pt_ne (by omega)]; first | assumption | exact pt_self (by assumption) | (rw [pt_ne (by omega)]; assumption))) | (rw [pt_ne (by omega)]; first | assumption | exact pt_self (by first | assumption | exact pt_self (by assumption) | (rw [pt_ne (by omega)]; assumption)) | (rw [pt_ne (by omega)]; first | assumption | exact pt_self (by assumption) | (rw [pt_ne (by omega)]; assumption)))) | (rw [pt_ne (by omega)]; first | assumption | exact pt_self (by first | assumption | exact pt_self (by first | assumption | exact pt_self (by assumption) | (rw [pt_ne (by omega)]; assumption)) | (rw [pt_ne (by omega)]; first | assumption | exact pt_self (by assumption) | (rw [pt_ne (by omega)]; assumption))) | (rw [pt_ne (by omega)]; first | assumption | exact pt_self (by first | assumption | exact pt_self (by assumption) | (rw [pt_ne (by omega)]; assumption)) | (rw [pt_ne (by omega)]; first | assumption | exact pt_self (by assumption) | (rw [pt_ne (by omega)]; assumption))))) rfl ?_
       refine E_iload_n (pc' := 16) g158_15 rfl rfl ?_
       refine E_baload (pc' := 17) g158_16 rfl (by first | assumption | exact pt_self (by first | assumption | exact pt_self (by first | assumption | exact pt_self (by first | assumption | exact pt_self (by assumption) | (rw [pt_ne (by omega)]; assumption)) | (rw [pt_ne (by omega)]; first | assumption | exact pt_self (by assumption) | (rw [pt_ne (by omega)]; assumption))) | (rw [pt_ne (by omega)]; first | assumption | exact pt_self (by first | assumption | exact pt_self (by assumption) | (rw [pt_ne (by omega)]; assumption)) | (rw [pt_ne (by omega)]; first | assumption | exact pt_self (by assumption) | (rw [pt_ne (by omega)]; assumption)))) | (rw [pt_ne (by omega)]; first | assumption | exact pt_self (by first | assumption | exact pt_self (by first | assumption | exact pt_self (by assumption) | (rw [pt_ne (by omega)]; assumption)) | (rw [pt_ne (by omega)]; first | assumption | exact pt_self (by assumption) | (rw [pt_ne (by omega)]; assumption))) | (rw [pt_ne (by omega)]; first | assumption | exact pt_self (by first | assumption | exact pt_self (by assumption) | (rw [pt_ne (by omega)]; assumption)) | (rw [pt_ne (by omega)]; first | assumption | exact pt_self (by assumption) | (rw [pt_ne (by omega)]; assumption))))) (by omega) (by omega) ?_
       refine E_ifne (pc' := 20) (pt := 23) g158_17 rfl rfl (fun c1 => ?_) (fun c1 => ?_)
       · first
         | (exfalso; omega)
         | (refine E_iconst (pc' := 24) g158_23 (by decide) rfl ?_
            refine E_st2 (pc' := 25) g158_24 rfl ?_
            refine Ev_cast (H := (pt H 77 (fil ss 0 (fun k => ix kt (15 * i + (k : Int))) 0))) ?_ rfl (by simp only [fil]; rw [pt_same hss])
            refine E_loop (n := 15) (fun k => Ev 3 158 25 [mR 74, mI i, mI (k : Int)] [] (pt H 77 (fil ss 0 (fun k => ix kt (15 * i + (k : Int))) k)) (mI (nO bl2 (wd * ht).toNat)) (pt (pt H 77 (sli kt (15 * i))) 74 (mdL kd 0 nk le ap nu me op de fo bs bu))) ?_ ?_ 0 (by omega)
            · intro k hk hh
              refine E_iload_n (pc' := 26) g158_25 rfl rfl ?_
              refine E_bipush (pc' := 28) g158_26 (by decide) rfl ?_
              refine E_icge (pc' := 31) (pt := 54) g158_28 rfl rfl (fun c0 => ?_) (fun c0 => ?_)
              · exact absurd c0 (by omega)
              · refine E_aload_n (pc' := 32) g158_31 rfl rfl ?_
                refine E_getR (pc' := 35) g158_32 f158_16 tg7_3 rfl (by first | assumption | exact pt_self (by first | assumption | exact pt_self (by first | assumption | exact pt_self (by first | assumption | exact pt_self (by assumption) | (rw [pt_ne (by omega)]; assumption)) | (rw [pt_ne (by omega)]; first | assumption | exact pt_self (by assumption) | (rw [pt_ne (by omega)]; assumption))) | (rw [pt_ne (by omega)]; first | assumption | exact pt_self (by first | assumption | exact pt_self (by assumption) | (rw [pt_ne (by omega)]; assumption)) | (rw [pt_ne (by omega)]; first | assumption | exact pt_self (by assumption) | (rw [pt_ne (by omega)]; assumption)))) | (rw [pt_ne (by omega)]; first | assumption | exact pt_self (by first | assumption | exact pt_self (by first | assumption | exact pt_self (by assumption) | (rw [pt_ne (by omega)]; assumption)) | (rw [pt_ne (by omega)]; first | assumption | exact pt_self (by assumption) | (rw [pt_ne (by omega)]; assumption))) | (rw [pt_ne (by omega)]; first | assumption | exact pt_self (by first | assumption | exact pt_self (by assumption) | (rw [pt_ne (by omega)]; assumption)) | (rw [pt_ne (by omega)]; first | assumption | exact pt_self (by assumption) | (rw [pt_ne (by omega)]; assumption))))) rfl ?_
                refine E_iload_n (pc' := 36) g158_35 rfl rfl ?_
                refine E_aload_n (pc' := 37) g158_36 rfl rfl ?_
                refine E_getR (pc' := 40) g158_37 f158_26 tg7_7 rfl (by first | assumption | exact pt_self (by first | assumption | exact pt_self (by first | assumption | exact pt_self (by first | assumption | exact pt_self (by assumption) | (rw [pt_ne (by omega)]; assumption)) | (rw [pt_ne (by omega)]; first | assumption | exact pt_self (by assumption) | (rw [pt_ne (by omega)]; assumption))) | (rw [pt_ne (by omega)]; first | assumption | exact pt_self (by first | assumption | exact pt_self (by assumption) | (rw [pt_ne (by omega)]; assumption)) | (rw [pt_ne (by omega)]; first | assumption | exact pt_self (by assumption) | (rw [pt_ne (by omega)]; assumption)))) | (rw [pt_ne (by omega)]; first | assumption | exact pt_self (by first | assumption | exact pt_self (by first | assumption | exact pt_self (by assumption) | (rw [pt_ne (by omega)]; assumption)) | (rw [pt_ne (by omega)]; first | assumption | exact pt_self (by assumption) | (rw [pt_ne (by omega)]; assumption))) | (rw [pt_ne (by omega)]; first | assumption | exact pt_self (by first | assumption | exact pt_self (by assumption) | (rw [pt_ne (by omega)]; assumption)) | (rw [pt_ne (by omega)]; first | assumption | exact pt_self (by assumption) | (rw [pt_ne (by omega)]; assumption))))) rfl ?_
                refine E_bipush (pc' := 42) g158_40 (by decide) rfl ?_
                refine E_iload_n (pc' := 43) g158_42 rfl rfl ?_
                refine E_imul (pc' := 44) g158_43 (m_in_iff.mpr (by omega)) rfl ?_
                refine E_iload_n (pc' := 45) g158_44 rfl rfl ?_
                refine E_iadd (pc' := 46) g158_45 (m_in_iff.mpr (by omega)) rfl ?_
                refine E_iaload (pc' := 47) g158_46 rfl (by first | assumption | exact pt_self (by first | assumption | exact pt_self (by first | assumption | exact pt_self (by first | assumption | exact pt_self (by assumption) | (rw [pt_ne (by omega)]; assumption)) | (rw [pt_ne (by omega)]; first | assumption | exact pt_self (by assumption) | (rw [pt_ne (by omega)]; assumption))) | (rw [pt_ne (by omega)]; first | assumption | exact pt_self (by first | assumption | exact pt_self (by assumption) | (rw [pt_ne (by omega)]; assumption)) | (rw [pt_ne (by omega)]; first | assumption | exact pt_self (by assumption) | (rw [pt_ne (by omega)]; assumption)))) | (rw [pt_ne (by omega)]; first | assumption | exact pt_self (by first | assumption | exact pt_self (by first | assumption | exact pt_self (by assumption) | (rw [pt_ne (by omega)]; assumption)) | (rw [pt_ne (by omega)]; first | assumption | exact pt_self (by assumption) | (rw [pt_ne (by omega)]; assumption))) | (rw [pt_ne (by omega)]; first | assumption | exact pt_self (by first | assumption | exact pt_self (by assumption) | (rw [pt_ne (by omega)]; assumption)) | (rw [pt_ne (by omega)]; first | assumption | exact pt_self (by assumption) | (rw [pt_ne (by omega)]; assumption))))) (by omega) (by omega) ?_
                refine E_iastore (pc' := 48) g158_47 rfl (by first | assumption | exact pt_self (by first | assumption | exact pt_self (by first | assumption | exact pt_self (by first | assumption | exact pt_self (by assumption) | (rw [pt_ne (by omega)]; assumption)) | (rw [pt_ne (by omega)]; first | assumption | exact pt_self (by assumption) | (rw [pt_ne (by omega)]; assumption))) | (rw [pt_ne (by omega)]; first | assumption | exact pt_self (by first | assumption | exact pt_self (by assumption) | (rw [pt_ne (by omega)]; assumption)) | (rw [pt_ne (by omega)]; first | assumption | exact pt_self (by assumption) | (rw [pt_ne (by omega)]; assumption)))) | (rw [pt_ne (by omega)]; first | assumption | exact pt_self (by first | assumption | exact pt_self (by first | assumption | exact pt_self (by assumption) | (rw [pt_ne (by omega)]; assumption)) | (rw [pt_ne (by omega)]; first | assumption | exact pt_self (by assumption) | (rw [pt_ne (by omega)]; assumption))) | (rw [pt_ne (by omega)]; first | assumption | exact pt_self (by first | assumption | exact pt_self (by assumption) | (rw [pt_ne (by omega)]; assumption)) | (rw [pt_ne (by omega)]; first | assumption | exact pt_self (by assumption) | (rw [pt_ne (by omega)]; assumption))))) (by omega) (by rw [fil_len]; omega) ?_
                refine E_in2 (pc' := 51) g158_48 rfl (m_in_iff.mpr (by omega)) ?_
                refine E_goto (pc' := 25) g158_51 rfl ?_
                refine Ev_cast hh rfl ?_
                rw [pt_pt]
                show _ = pt _ 77 (up _ (0 + (k : Int)) _)
                rw [Int.zero_add]
            · refine E_iload_n (pc' := 26) g158_25 rfl rfl ?_
              refine E_bipush (pc' := 28) g158_26 (by decide) rfl ?_
              refine E_icge (pc' := 31) (pt := 54) g158_28 rfl rfl (fun c1 => ?_) (fun c1 => ?_)
              · rw [fil_sli nt]
                refine E_aload_n (pc' := 55) g158_54 rfl rfl ?_
                refine E_iconst (pc' := 56) g158_55 (by decide) rfl ?_
                refine E_putf (pc' := 59) g158_56 f158_78 tg7_4 fn7_4 rfl rfl (by first | assumption | exact pt_self (by first | assumption | exact pt_self (by first | assumption | exact pt_self (by first | assumption | exact pt_self (by assumption) | (rw [pt_ne (by omega)]; assumption)) | (rw [pt_ne (by omega)]; first | assumption | exact pt_self (by assumption) | (rw [pt_ne (by omega)]; assumption))) | (rw [pt_ne (by omega)]; first | assumption | exact pt_self (by first | assumption | exact pt_self (by assumption) | (rw [pt_ne (by omega)]; assumption)) | (rw [pt_ne (by omega)]; first | assumption | exact pt_self (by assumption) | (rw [pt_ne (by omega)]; assumption)))) | (rw [pt_ne (by omega)]; first | assumption | exact pt_self (by first | assumption | exact pt_self (by first | assumption | exact pt_self (by assumption) | (rw [pt_ne (by omega)]; assumption)) | (rw [pt_ne (by omega)]; first | assumption | exact pt_self (by assumption) | (rw [pt_ne (by omega)]; assumption))) | (rw [pt_ne (by omega)]; first | assumption | exact pt_self (by first | assumption | exact pt_self (by assumption) | (rw [pt_ne (by omega)]; assumption)) | (rw [pt_ne (by omega)]; first | assumption | exact pt_self (by assumption) | (rw [pt_ne (by omega)]; assumption))))) (Nat.le_of_ble_eq_true rfl) ?_
                refine E_aload_n (pc' := 60) g158_59 rfl rfl ?_
                refine E_cV0i (pc' := 63) g158_60 k158_158 na123 rfl ow123 rfl (Nat.le_of_ble_eq_true rfl) (by first | assumption | exact pt_self (by first | assumption | exact pt_self (by first | assumption | exact pt_self (by first | assumption | exact pt_self (by assumption) | (rw [pt_ne (by omega)]; assumption)) | (rw [pt_ne (by omega)]; first | assumption | exact pt_self (by assumption) | (rw [pt_ne (by omega)]; assumption))) | (rw [pt_ne (by omega)]; first | assumption | exact pt_self (by first | assumption | exact pt_self (by assumption) | (rw [pt_ne (by omega)]; assumption)) | (rw [pt_ne (by omega)]; first | assumption | exact pt_self (by assumption) | (rw [pt_ne (by omega)]; assumption)))) | (rw [pt_ne (by omega)]; first | assumption | exact pt_self (by first | assumption | exact pt_self (by first | assumption | exact pt_self (by assumption) | (rw [pt_ne (by omega)]; assumption)) | (rw [pt_ne (by omega)]; first | assumption | exact pt_self (by assumption) | (rw [pt_ne (by omega)]; assumption))) | (rw [pt_ne (by omega)]; first | assumption | exact pt_self (by first | assumption | exact pt_self (by assumption) | (rw [pt_ne (by omega)]; assumption)) | (rw [pt_ne (by omega)]; first | assumption | exact pt_self (by assumption) | (rw [pt_ne (by omega)]; assumption))))) (M_open (un := 0) (pt_self (pt_nx (by decide) hM)) hD0 (pt_nx (by decide) (pt_nx (by decide) hz)) (pt_nx (by decide) (pt_self hss)) hr2) (by decide) ?_
                exact E_iret g158_63 ro158 rfl rfl
              · exact absurd c1 (by omega))
       · first
         | (exfalso; omega)
         | (refine E_bipush (pc' := 22) g158_20 (by decide) rfl ?_
            exact E_iret g158_22 ro158 rfl rfl))
  · first
    | (exfalso; omega)
    | (refine E_iconst (pc' := 10) g158_9 (by decide) rfl ?_
       exact E_iret g158_10 ro158 rfl rfl)
theorem M_count (hM : H[74]? = some (7, mdL kd un nk le ap nu me op de fo bs bu)) (hD : okD kd wd ht rm mo sd bo ed hu) (hz : H[75]? = some (8, [wd, ht, rm, mo, sd, bo])) (htd : H[76]? = some (8, td)) (hrT : relT td ed hu kd) (hss : H[77]? = some (8, ss)) (hrS : relS ss bl sl kd) (htt : H[85]? = some (8, tt)) (ht15 : tt.length = 15) {x r : Int} (hr : (x = 0 → r = kd) ∧ (x = 1 → r = wd) ∧ (x = 2 → r = ht) ∧ (x = 3 → r = rm) ∧ (x = 4 → r = mo) ∧ (x = 5 → r = sd) ∧ (x = 6 → r = bo) ∧ (x = 7 → r = nO bl (wd * ht).toNat) ∧ (x = 8 → r = le) ∧ (x = 9 → r = un) ∧ (x = 10 → r = cn (fh hu) kd.toNat) ∧ (¬ (0 ≤ x ∧ x ≤ 10) → r = -1)) : Call 3 160 [mR 74, mI x] H (mI r) H := by
  have hD0 := hD
  have hrS0 := hrS
  have hrT0 := hrT
  obtain ⟨r1, r2, r3, r4, r5, r6, r7, b1, b2⟩ := hD
  obtain ⟨nt, q1, q2, q3, q4, q5⟩ := hrS
  obtain ⟨nd, u1, u2⟩ := hrT
  have hw := wh_bd r2.1 r2.2 r3.1 r3.2
  obtain ⟨z0, z1, z2, z3, z4, z5, z6, z7, z8, z9, z10, z11⟩ := hr
  refine Call_of rfl ?_
  refine E_iload_n (pc' := 1) g160_0 rfl rfl ?_
  by_cases e0 : x = 0
  · refine E_table (pt := 60) g160_1 (by rw [e0]; rfl) ?_
    refine E_aload_n (pc' := 61) g160_60 rfl rfl ?_
    refine E_getI (pc' := 64) g160_61 f160_75 tg7_0 (by decide) rfl (by first | assumption | exact pt_self (by first | assumption | exact pt_self (by first | assumption | exact pt_self (by first | assumption | exact pt_self (by assumption) | (rw [pt_ne (by omega)]; assumption)) | (rw [pt_ne (by omega)]; first | assumption | exact pt_self (by assumption) | (rw [pt_ne (by omega)]; assumption))) | (rw [pt_ne (by omega)]; first | assumption | exact pt_self (by first | assumption | exact pt_self (by assumption) | (rw [pt_ne (by omega)]; assumption)) | (rw [pt_ne (by omega)]; first | assumption | exact pt_self (by assumption) | (rw [pt_ne (by omega)]; assumption)))) | (rw [pt_ne (by omega)]; first | assumption | exact pt_self (by first | assumption | exact pt_self (by first | assumption | exact pt_self (by assumption) | (rw [pt_ne (by omega)]; assumption)) | (rw [pt_ne (by omega)]; first | assumption | exact pt_self (by assumption) | (rw [pt_ne (by omega)]; assumption))) | (rw [pt_ne (by omega)]; first | assumption | exact pt_self (by first | assumption | exact pt_self (by assumption) | (rw [pt_ne (by omega)]; assumption)) | (rw [pt_ne (by omega)]; first | assumption | exact pt_self (by assumption) | (rw [pt_ne (by omega)]; assumption))))) rfl ?_
    exact E_iret g160_64 ro160 (congrArg mI (by first | exact z0 (by omega) | exact z7 (by omega) | exact z8 (by omega) | exact z9 (by omega) | exact z10 (by omega) | exact z11 (by omega) | (subst x; first | exact z1 rfl | exact z2 rfl | exact z3 rfl | exact z4 rfl | exact z5 rfl | exact z6 rfl))) rfl
  by_cases e1 : x = 1
  · refine E_table (pt := 65) g160_1 (by rw [e1]; rfl) ?_
    refine E_aload_n (pc' := 66) g160_65 rfl rfl ?_
    refine E_getR (pc' := 69) g160_66 f160_7 tg7_1 rfl (by first | assumption | exact pt_self (by first | assumption | exact pt_self (by first | assumption | exact pt_self (by first | assumption | exact pt_self (by assumption) | (rw [pt_ne (by omega)]; assumption)) | (rw [pt_ne (by omega)]; first | assumption | exact pt_self (by assumption) | (rw [pt_ne (by omega)]; assumption))) | (rw [pt_ne (by omega)]; first | assumption | exact pt_self (by first | assumption | exact pt_self (by assumption) | (rw [pt_ne (by omega)]; assumption)) | (rw [pt_ne (by omega)]; first | assumption | exact pt_self (by assumption) | (rw [pt_ne (by omega)]; assumption)))) | (rw [pt_ne (by omega)]; first | assumption | exact pt_self (by first | assumption | exact pt_self (by first | assumption | exact pt_self (by assumption) | (rw [pt_ne (by omega)]; assumption)) | (rw [pt_ne (by omega)]; first | assumption | exact pt_self (by assumption) | (rw [pt_ne (by omega)]; assumption))) | (rw [pt_ne (by omega)]; first | assumption | exact pt_self (by first | assumption | exact pt_self (by assumption) | (rw [pt_ne (by omega)]; assumption)) | (rw [pt_ne (by omega)]; first | assumption | exact pt_self (by assumption) | (rw [pt_ne (by omega)]; assumption))))) rfl ?_
    refine E_iload_n (pc' := 70) g160_69 rfl rfl ?_
    refine E_iconst (pc' := 71) g160_70 (by decide) rfl ?_
    refine E_isub (pc' := 72) g160_71 (m_in_iff.mpr (by omega)) rfl ?_
    refine E_iaload (pc' := 73) g160_72 rfl (by first | assumption | exact pt_self (by first | assumption | exact pt_self (by first | assumption | exact pt_self (by first | assumption | exact pt_self (by assumption) | (rw [pt_ne (by omega)]; assumption)) | (rw [pt_ne (by omega)]; first | assumption | exact pt_self (by assumption) | (rw [pt_ne (by omega)]; assumption))) | (rw [pt_ne (by omega)]; first | assumption | exact pt_self (by first | assumption | exact pt_self (by assumption) | (rw [pt_ne (by omega)]; assumption)) | (rw [pt_ne (by omega)]; first | assumption | exact pt_self (by assumption) | (rw [pt_ne (by omega)]; assumption)))) | (rw [pt_ne (by omega)]; first | assumption | exact pt_self (by first | assumption | exact pt_self (by first | assumption | exact pt_self (by assumption) | (rw [pt_ne (by omega)]; assumption)) | (rw [pt_ne (by omega)]; first | assumption | exact pt_self (by assumption) | (rw [pt_ne (by omega)]; assumption))) | (rw [pt_ne (by omega)]; first | assumption | exact pt_self (by first | assumption | exact pt_self (by assumption) | (rw [pt_ne (by omega)]; assumption)) | (rw [pt_ne (by omega)]; first | assumption | exact pt_self (by assumption) | (rw [pt_ne (by omega)]; assumption))))) (by omega) (by simp; omega) ?_
    exact E_iret g160_73 ro160 (congrArg mI (by first | exact z0 (by omega) | exact z7 (by omega) | exact z8 (by omega) | exact z9 (by omega) | exact z10 (by omega) | exact z11 (by omega) | (subst x; first | exact z1 rfl | exact z2 rfl | exact z3 rfl | exact z4 rfl | exact z5 rfl | exact z6 rfl))) rfl
  by_cases e2 : x = 2
  · refine E_table (pt := 65) g160_1 (by rw [e2]; rfl) ?_
    refine E_aload_n (pc' := 66) g160_65 rfl rfl ?_
    refine E_getR (pc' := 69) g160_66 f160_7 tg7_1 rfl (by first | assumption | exact pt_self (by first | assumption | exact pt_self (by first | assumption | exact pt_self (by first | assumption | exact pt_self (by assumption) | (rw [pt_ne (by omega)]; assumption)) | (rw [pt_ne (by omega)]; first | assumption | exact pt_self (by assumption) | (rw [pt_ne (by omega)]; assumption))) | (rw [pt_ne (by omega)]; first | assumption | exact pt_self (by first | assumption | exact pt_self (by assumption) | (rw [pt_ne (by omega)]; assumption)) | (rw [pt_ne (by omega)]; first | assumption | exact pt_self (by assumption) | (rw [pt_ne (by omega)]; assumption)))) | (rw [pt_ne (by omega)]; first | assumption | exact pt_self (by first | assumption | exact pt_self (by first | assumption | exact pt_self (by assumption) | (rw [pt_ne (by omega)]; assumption)) | (rw [pt_ne (by omega)]; first | assumption | exact pt_self (by assumption) | (rw [pt_ne (by omega)]; assumption))) | (rw [pt_ne (by omega)]; first | assumption | exact pt_self (by first | assumption | exact pt_self (by assumption) | (rw [pt_ne (by omega)]; assumption)) | (rw [pt_ne (by omega)]; first | assumption | exact pt_self (by assumption) | (rw [pt_ne (by omega)]; assumption))))) rfl ?_
    refine E_iload_n (pc' := 70) g160_69 rfl rfl ?_
    refine E_iconst (pc' := 71) g160_70 (by decide) rfl ?_
    refine E_isub (pc' := 72) g160_71 (m_in_iff.mpr (by omega)) rfl ?_
    refine E_iaload (pc' := 73) g160_72 rfl (by first | assumption | exact pt_self (by first | assumption | exact pt_self (by first | assumption | exact pt_self (by first | assumption | exact pt_self (by assumption) | (rw [pt_ne (by omega)]; assumption)) | (rw [pt_ne (by omega)]; first | assumption | exact pt_self (by assumption) | (rw [pt_ne (by omega)]; assumption))) | (rw [pt_ne (by omega)]; first | assumption | exact pt_self (by first | assumption | exact pt_self (by assumption) | (rw [pt_ne (by omega)]; assumption)) | (rw [pt_ne (by omega)]; first | assumption | exact pt_self (by assumption) | (rw [pt_ne (by omega)]; assumption)))) | (rw [pt_ne (by omega)]; first | assumption | exact pt_self (by first | assumption | exact pt_self (by first | assumption | exact pt_self (by assumption) | (rw [pt_ne (by omega)]; assumption)) | (rw [pt_ne (by omega)]; first | assumption | exact pt_self (by assumption) | (rw [pt_ne (by omega)]; assumption))) | (rw [pt_ne (by omega)]; first | assumption | exact pt_self (by first | assumption | exact pt_self (by assumption) | (rw [pt_ne (by omega)]; assumption)) | (rw [pt_ne (by omega)]; first | assumption | exact pt_self (by assumption) | (rw [pt_ne (by omega)]; assumption))))) (by omega) (by simp; omega) ?_
    exact E_iret g160_73 ro160 (congrArg mI (by first | exact z0 (by omega) | exact z7 (by omega) | exact z8 (by omega) | exact z9 (by omega) | exact z10 (by omega) | exact z11 (by omega) | (subst x; first | exact z1 rfl | exact z2 rfl | exact z3 rfl | exact z4 rfl | exact z5 rfl | exact z6 rfl))) rfl
  by_cases e3 : x = 3
  · refine E_table (pt := 65) g160_1 (by rw [e3]; rfl) ?_
    refine E_aload_n (pc' := 66) g160_65 rfl rfl ?_
    refine E_getR (pc' := 69) g160_66 f160_7 tg7_1 rfl (by first | assumption | exact pt_self (by first | assumption | exact pt_self (by first | assumption | exact pt_self (by first | assumption | exact pt_self (by assumption) | (rw [pt_ne (by omega)]; assumption)) | (rw [pt_ne (by omega)]; first | assumption | exact pt_self (by assumption) | (rw [pt_ne (by omega)]; assumption))) | (rw [pt_ne (by omega)]; first | assumption | exact pt_self (by first | assumption | exact pt_self (by assumption) | (rw [pt_ne (by omega)]; assumption)) | (rw [pt_ne (by omega)]; first | assumption | exact pt_self (by assumption) | (rw [pt_ne (by omega)]; assumption)))) | (rw [pt_ne (by omega)]; first | assumption | exact pt_self (by first | assumption | exact pt_self (by first | assumption | exact pt_self (by assumption) | (rw [pt_ne (by omega)]; assumption)) | (rw [pt_ne (by omega)]; first | assumption | exact pt_self (by assumption) | (rw [pt_ne (by omega)]; assumption))) | (rw [pt_ne (by omega)]; first | assumption | exact pt_self (by first | assumption | exact pt_self (by assumption) | (rw [pt_ne (by omega)]; assumption)) | (rw [pt_ne (by omega)]; first | assumption | exact pt_self (by assumption) | (rw [pt_ne (by omega)]; assumption))))) rfl ?_
    refine E_iload_n (pc' := 70) g160_69 rfl rfl ?_
    refine E_iconst (pc' := 71) g160_70 (by decide) rfl ?_
    refine E_isub (pc' := 72) g160_71 (m_in_iff.mpr (by omega)) rfl ?_
    refine E_iaload (pc' := 73) g160_72 rfl (by first | assumption | exact pt_self (by first | assumption | exact pt_self (by first | assumption | exact pt_self (by first | assumption | exact pt_self (by assumption) | (rw [pt_ne (by omega)]; assumption)) | (rw [pt_ne (by omega)]; first | assumption | exact pt_self (by assumption) | (rw [pt_ne (by omega)]; assumption))) | (rw [pt_ne (by omega)]; first | assumption | exact pt_self (by first | assumption | exact pt_self (by assumption) | (rw [pt_ne (by omega)]; assumption)) | (rw [pt_ne (by omega)]; first | assumption | exact pt_self (by assumption) | (rw [pt_ne (by omega)]; assumption)))) | (rw [pt_ne (by omega)]; first | assumption | exact pt_self (by first | assumption | exact pt_self (by first | assumption | exact pt_self (by assumption) | (rw [pt_ne (by omega)]; assumption)) | (rw [pt_ne (by omega)]; first | assumption | exact pt_self (by assumption) | (rw [pt_ne (by omega)]; assumption))) | (rw [pt_ne (by omega)]; first | assumption | exact pt_self (by first | assumption | exact pt_self (by assumption) | (rw [pt_ne (by omega)]; assumption)) | (rw [pt_ne (by omega)]; first | assumption | exact pt_self (by assumption) | (rw [pt_ne (by omega)]; assumption))))) (by omega) (by simp; omega) ?_
    exact E_iret g160_73 ro160 (congrArg mI (by first | exact z0 (by omega) | exact z7 (by omega) | exact z8 (by omega) | exact z9 (by omega) | exact z10 (by omega) | exact z11 (by omega) | (subst x; first | exact z1 rfl | exact z2 rfl | exact z3 rfl | exact z4 rfl | exact z5 rfl | exact z6 rfl))) rfl
  by_cases e4 : x = 4
  · refine E_table (pt := 65) g160_1 (by rw [e4]; rfl) ?_
    refine E_aload_n (pc' := 66) g160_65 rfl rfl ?_
    refine E_getR (pc' := 69) g160_66 f160_7 tg7_1 rfl (by first | assumption | exact pt_self (by first | assumption | exact pt_self (by first | assumption | exact pt_self (by first | assumption | exact pt_self (by assumption) | (rw [pt_ne (by omega)]; assumption)) | (rw [pt_ne (by omega)]; first | assumption | exact pt_self (by assumption) | (rw [pt_ne (by omega)]; assumption))) | (rw [pt_ne (by omega)]; first | assumption | exact pt_self (by first | assumption | exact pt_self (by assumption) | (rw [pt_ne (by omega)]; assumption)) | (rw [pt_ne (by omega)]; first | assumption | exact pt_self (by assumption) | (rw [pt_ne (by omega)]; assumption)))) | (rw [pt_ne (by omega)]; first | assumption | exact pt_self (by first | assumption | exact pt_self (by first | assumption | exact pt_self (by assumption) | (rw [pt_ne (by omega)]; assumption)) | (rw [pt_ne (by omega)]; first | assumption | exact pt_self (by assumption) | (rw [pt_ne (by omega)]; assumption))) | (rw [pt_ne (by omega)]; first | assumption | exact pt_self (by first | assumption | exact pt_self (by assumption) | (rw [pt_ne (by omega)]; assumption)) | (rw [pt_ne (by omega)]; first | assumption | exact pt_self (by assumption) | (rw [pt_ne (by omega)]; assumption))))) rfl ?_
    refine E_iload_n (pc' := 70) g160_69 rfl rfl ?_
    refine E_iconst (pc' := 71) g160_70 (by decide) rfl ?_
    refine E_isub (pc' := 72) g160_71 (m_in_iff.mpr (by omega)) rfl ?_
    refine E_iaload (pc' := 73) g160_72 rfl (by first | assumption | exact pt_self (by first | assumption | exact pt_self (by first | assumption | exact pt_self (by first | assumption | exact pt_self (by assumption) | (rw [pt_ne (by omega)]; assumption)) | (rw [pt_ne (by omega)]; first | assumption | exact pt_self (by assumption) | (rw [pt_ne (by omega)]; assumption))) | (rw [pt_ne (by omega)]; first | assumption | exact pt_self (by first | assumption | exact pt_self (by assumption) | (rw [pt_ne (by omega)]; assumption)) | (rw [pt_ne (by omega)]; first | assumption | exact pt_self (by assumption) | (rw [pt_ne (by omega)]; assumption)))) | (rw [pt_ne (by omega)]; first | assumption | exact pt_self (by first | assumption | exact pt_self (by first | assumption | exact pt_self (by assumption) | (rw [pt_ne (by omega)]; assumption)) | (rw [pt_ne (by omega)]; first | assumption | exact pt_self (by assumption) | (rw [pt_ne (by omega)]; assumption))) | (rw [pt_ne (by omega)]; first | assumption | exact pt_self (by first | assumption | exact pt_self (by assumption) | (rw [pt_ne (by omega)]; assumption)) | (rw [pt_ne (by omega)]; first | assumption | exact pt_self (by assumption) | (rw [pt_ne (by omega)]; assumption))))) (by omega) (by simp; omega) ?_
    exact E_iret g160_73 ro160 (congrArg mI (by first | exact z0 (by omega) | exact z7 (by omega) | exact z8 (by omega) | exact z9 (by omega) | exact z10 (by omega) | exact z11 (by omega) | (subst x; first | exact z1 rfl | exact z2 rfl | exact z3 rfl | exact z4 rfl | exact z5 rfl | exact z6 rfl))) rfl
  by_cases e5 : x = 5
  · refine E_table (pt := 65) g160_1 (by rw [e5]; rfl) ?_
    refine E_aload_n (pc' := 66) g160_65 rfl rfl ?_
    refine E_getR (pc' := 69) g160_66 f160_7 tg7_1 rfl (by first | assumption | exact pt_self (by first | assumption | exact pt_self (by first | assumption | exact pt_self (by first | assumption | exact pt_self (by assumption) | (rw [pt_ne (by omega)]; assumption)) | (rw [pt_ne (by omega)]; first | assumption | exact pt_self (by assumption) | (rw [pt_ne (by omega)]; assumption))) | (rw [pt_ne (by omega)]; first | assumption | exact pt_self (by first | assumption | exact pt_self (by assumption) | (rw [pt_ne (by omega)]; assumption)) | (rw [pt_ne (by omega)]; first | assumption | exact pt_self (by assumption) | (rw [pt_ne (by omega)]; assumption)))) | (rw [pt_ne (by omega)]; first | assumption | exact pt_self (by first | assumption | exact pt_self (by first | assumption | exact pt_self (by assumption) | (rw [pt_ne (by omega)]; assumption)) | (rw [pt_ne (by omega)]; first | assumption | exact pt_self (by assumption) | (rw [pt_ne (by omega)]; assumption))) | (rw [pt_ne (by omega)]; first | assumption | exact pt_self (by first | assumption | exact pt_self (by assumption) | (rw [pt_ne (by omega)]; assumption)) | (rw [pt_ne (by omega)]; first | assumption | exact pt_self (by assumption) | (rw [pt_ne (by omega)]; assumption))))) rfl ?_
    refine E_iload_n (pc' := 70) g160_69 rfl rfl ?_
    refine E_iconst (pc' := 71) g160_70 (by decide) rfl ?_
    refine E_isub (pc' := 72) g160_71 (m_in_iff.mpr (by omega)) rfl ?_
    refine E_iaload (pc' := 73) g160_72 rfl (by first | assumption | exact pt_self (by first | assumption | exact pt_self (by first | assumption | exact pt_self (by first | assumption | exact pt_self (by assumption) | (rw [pt_ne (by omega)]; assumption)) | (rw [pt_ne (by omega)]; first | assumption | exact pt_self (by assumption) | (rw [pt_ne (by omega)]; assumption))) | (rw [pt_ne (by omega)]; first | assumption | exact pt_self (by first | assumption | exact pt_self (by assumption) | (rw [pt_ne (by omega)]; assumption)) | (rw [pt_ne (by omega)]; first | assumption | exact pt_self (by assumption) | (rw [pt_ne (by omega)]; assumption)))) | (rw [pt_ne (by omega)]; first | assumption | exact pt_self (by first | assumption | exact pt_self (by first | assumption | exact pt_self (by assumption) | (rw [pt_ne (by omega)]; assumption)) | (rw [pt_ne (by omega)]; first | assumption | exact pt_self (by assumption) | (rw [pt_ne (by omega)]; assumption))) | (rw [pt_ne (by omega)]; first | assumption | exact pt_self (by first | assumption | exact pt_self (by assumption) | (rw [pt_ne (by omega)]; assumption)) | (rw [pt_ne (by omega)]; first | assumption | exact pt_self (by assumption) | (rw [pt_ne (by omega)]; assumption))))) (by omega) (by simp; omega) ?_
    exact E_iret g160_73 ro160 (congrArg mI (by first | exact z0 (by omega) | exact z7 (by omega) | exact z8 (by omega) | exact z9 (by omega) | exact z10 (by omega) | exact z11 (by omega) | (subst x; first | exact z1 rfl | exact z2 rfl | exact z3 rfl | exact z4 rfl | exact z5 rfl | exact z6 rfl))) rfl
  by_cases e6 : x = 6
  · refine E_table (pt := 65) g160_1 (by rw [e6]; rfl) ?_
    refine E_aload_n (pc' := 66) g160_65 rfl rfl ?_
    refine E_getR (pc' := 69) g160_66 f160_7 tg7_1 rfl (by first | assumption | exact pt_self (by first | assumption | exact pt_self (by first | assumption | exact pt_self (by first | assumption | exact pt_self (by assumption) | (rw [pt_ne (by omega)]; assumption)) | (rw [pt_ne (by omega)]; first | assumption | exact pt_self (by assumption) | (rw [pt_ne (by omega)]; assumption))) | (rw [pt_ne (by omega)]; first | assumption | exact pt_self (by first | assumption | exact pt_self (by assumption) | (rw [pt_ne (by omega)]; assumption)) | (rw [pt_ne (by omega)]; first | assumption | exact pt_self (by assumption) | (rw [pt_ne (by omega)]; assumption)))) | (rw [pt_ne (by omega)]; first | assumption | exact pt_self (by first | assumption | exact pt_self (by first | assumption | exact pt_self (by assumption) | (rw [pt_ne (by omega)]; assumption)) | (rw [pt_ne (by omega)]; first | assumption | exact pt_self (by assumption) | (rw [pt_ne (by omega)]; assumption))) | (rw [pt_ne (by omega)]; first | assumption | exact pt_self (by first | assumption | exact pt_self (by assumption) | (rw [pt_ne (by omega)]; assumption)) | (rw [pt_ne (by omega)]; first | assumption | exact pt_self (by assumption) | (rw [pt_ne (by omega)]; assumption))))) rfl ?_
    refine E_iload_n (pc' := 70) g160_69 rfl rfl ?_
    refine E_iconst (pc' := 71) g160_70 (by decide) rfl ?_
    refine E_isub (pc' := 72) g160_71 (m_in_iff.mpr (by omega)) rfl ?_
    refine E_iaload (pc' := 73) g160_72 rfl (by first | assumption | exact pt_self (by first | assumption | exact pt_self (by first | assumption | exact pt_self (by first | assumption | exact pt_self (by assumption) | (rw [pt_ne (by omega)]; assumption)) | (rw [pt_ne (by omega)]; first | assumption | exact pt_self (by assumption) | (rw [pt_ne (by omega)]; assumption))) | (rw [pt_ne (by omega)]; first | assumption | exact pt_self (by first | assumption | exact pt_self (by assumption) | (rw [pt_ne (by omega)]; assumption)) | (rw [pt_ne (by omega)]; first | assumption | exact pt_self (by assumption) | (rw [pt_ne (by omega)]; assumption)))) | (rw [pt_ne (by omega)]; first | assumption | exact pt_self (by first | assumption | exact pt_self (by first | assumption | exact pt_self (by assumption) | (rw [pt_ne (by omega)]; assumption)) | (rw [pt_ne (by omega)]; first | assumption | exact pt_self (by assumption) | (rw [pt_ne (by omega)]; assumption))) | (rw [pt_ne (by omega)]; first | assumption | exact pt_self (by first | assumption | exact pt_self (by assumption) | (rw [pt_ne (by omega)]; assumption)) | (rw [pt_ne (by omega)]; first | assumption | exact pt_self (by assumption) | (rw [pt_ne (by omega)]; assumption))))) (by omega) (by simp; omega) ?_
    exact E_iret g160_73 ro160 (congrArg mI (by first | exact z0 (by omega) | exact z7 (by omega) | exact z8 (by omega) | exact z9 (by omega) | exact z10 (by omega) | exact z11 (by omega) | (subst x; first | exact z1 rfl | exact z2 rfl | exact z3 rfl | exact z4 rfl | exact z5 rfl | exact z6 rfl))) rfl
  by_cases e7 : x = 7
  · refine E_table (pt := 74) g160_1 (by rw [e7]; rfl) ?_
    refine E_aload_n (pc' := 75) g160_74 rfl rfl ?_
    refine E_cV0i (pc' := 78) g160_75 k160_158 na123 rfl ow123 rfl (Nat.le_of_ble_eq_true rfl) (by first | assumption | exact pt_self (by first | assumption | exact pt_self (by first | assumption | exact pt_self (by first | assumption | exact pt_self (by assumption) | (rw [pt_ne (by omega)]; assumption)) | (rw [pt_ne (by omega)]; first | assumption | exact pt_self (by assumption) | (rw [pt_ne (by omega)]; assumption))) | (rw [pt_ne (by omega)]; first | assumption | exact pt_self (by first | assumption | exact pt_self (by assumption) | (rw [pt_ne (by omega)]; assumption)) | (rw [pt_ne (by omega)]; first | assumption | exact pt_self (by assumption) | (rw [pt_ne (by omega)]; assumption)))) | (rw [pt_ne (by omega)]; first | assumption | exact pt_self (by first | assumption | exact pt_self (by first | assumption | exact pt_self (by assumption) | (rw [pt_ne (by omega)]; assumption)) | (rw [pt_ne (by omega)]; first | assumption | exact pt_self (by assumption) | (rw [pt_ne (by omega)]; assumption))) | (rw [pt_ne (by omega)]; first | assumption | exact pt_self (by first | assumption | exact pt_self (by assumption) | (rw [pt_ne (by omega)]; assumption)) | (rw [pt_ne (by omega)]; first | assumption | exact pt_self (by assumption) | (rw [pt_ne (by omega)]; assumption))))) (M_open hM hD0 hz hss hrS0) (by decide) ?_
    exact E_iret g160_78 ro160 (congrArg mI (by first | exact z0 (by omega) | exact z7 (by omega) | exact z8 (by omega) | exact z9 (by omega) | exact z10 (by omega) | exact z11 (by omega) | (subst x; first | exact z1 rfl | exact z2 rfl | exact z3 rfl | exact z4 rfl | exact z5 rfl | exact z6 rfl))) rfl
  by_cases e8 : x = 8
  · refine E_table (pt := 79) g160_1 (by rw [e8]; rfl) ?_
    refine E_aload_n (pc' := 80) g160_79 rfl rfl ?_
    refine E_getI (pc' := 83) g160_80 f160_85 tg7_12 (by decide) rfl (by first | assumption | exact pt_self (by first | assumption | exact pt_self (by first | assumption | exact pt_self (by first | assumption | exact pt_self (by assumption) | (rw [pt_ne (by omega)]; assumption)) | (rw [pt_ne (by omega)]; first | assumption | exact pt_self (by assumption) | (rw [pt_ne (by omega)]; assumption))) | (rw [pt_ne (by omega)]; first | assumption | exact pt_self (by first | assumption | exact pt_self (by assumption) | (rw [pt_ne (by omega)]; assumption)) | (rw [pt_ne (by omega)]; first | assumption | exact pt_self (by assumption) | (rw [pt_ne (by omega)]; assumption)))) | (rw [pt_ne (by omega)]; first | assumption | exact pt_self (by first | assumption | exact pt_self (by first | assumption | exact pt_self (by assumption) | (rw [pt_ne (by omega)]; assumption)) | (rw [pt_ne (by omega)]; first | assumption | exact pt_self (by assumption) | (rw [pt_ne (by omega)]; assumption))) | (rw [pt_ne (by omega)]; first | assumption | exact pt_self (by first | assumption | exact pt_self (by assumption) | (rw [pt_ne (by omega)]; assumption)) | (rw [pt_ne (by omega)]; first | assumption | exact pt_self (by assumption) | (rw [pt_ne (by omega)]; assumption))))) rfl ?_
    exact E_iret g160_83 ro160 (congrArg mI (by first | exact z0 (by omega) | exact z7 (by omega) | exact z8 (by omega) | exact z9 (by omega) | exact z10 (by omega) | exact z11 (by omega) | (subst x; first | exact z1 rfl | exact z2 rfl | exact z3 rfl | exact z4 rfl | exact z5 rfl | exact z6 rfl))) rfl
  by_cases e9 : x = 9
  · refine E_table (pt := 84) g160_1 (by rw [e9]; rfl) ?_
    refine E_aload_n (pc' := 85) g160_84 rfl rfl ?_
    refine E_getI (pc' := 88) g160_85 f160_78 tg7_4 (by decide) rfl (by first | assumption | exact pt_self (by first | assumption | exact pt_self (by first | assumption | exact pt_self (by first | assumption | exact pt_self (by assumption) | (rw [pt_ne (by omega)]; assumption)) | (rw [pt_ne (by omega)]; first | assumption | exact pt_self (by assumption) | (rw [pt_ne (by omega)]; assumption))) | (rw [pt_ne (by omega)]; first | assumption | exact pt_self (by first | assumption | exact pt_self (by assumption) | (rw [pt_ne (by omega)]; assumption)) | (rw [pt_ne (by omega)]; first | assumption | exact pt_self (by assumption) | (rw [pt_ne (by omega)]; assumption)))) | (rw [pt_ne (by omega)]; first | assumption | exact pt_self (by first | assumption | exact pt_self (by first | assumption | exact pt_self (by assumption) | (rw [pt_ne (by omega)]; assumption)) | (rw [pt_ne (by omega)]; first | assumption | exact pt_self (by assumption) | (rw [pt_ne (by omega)]; assumption))) | (rw [pt_ne (by omega)]; first | assumption | exact pt_self (by first | assumption | exact pt_self (by assumption) | (rw [pt_ne (by omega)]; assumption)) | (rw [pt_ne (by omega)]; first | assumption | exact pt_self (by assumption) | (rw [pt_ne (by omega)]; assumption))))) rfl ?_
    exact E_iret g160_88 ro160 (congrArg mI (by first | exact z0 (by omega) | exact z7 (by omega) | exact z8 (by omega) | exact z9 (by omega) | exact z10 (by omega) | exact z11 (by omega) | (subst x; first | exact z1 rfl | exact z2 rfl | exact z3 rfl | exact z4 rfl | exact z5 rfl | exact z6 rfl))) rfl
  by_cases e10 : x = 10
  · refine E_table (pt := 89) g160_1 (by rw [e10]; rfl) ?_
    refine E_aload_n (pc' := 90) g160_89 rfl rfl ?_
    refine E_cV0i (pc' := 93) g160_90 k160_222 na159 rfl ow159 rfl (Nat.le_of_ble_eq_true rfl) (by first | assumption | exact pt_self (by first | assumption | exact pt_self (by first | assumption | exact pt_self (by first | assumption | exact pt_self (by assumption) | (rw [pt_ne (by omega)]; assumption)) | (rw [pt_ne (by omega)]; first | assumption | exact pt_self (by assumption) | (rw [pt_ne (by omega)]; assumption))) | (rw [pt_ne (by omega)]; first | assumption | exact pt_self (by first | assumption | exact pt_self (by assumption) | (rw [pt_ne (by omega)]; assumption)) | (rw [pt_ne (by omega)]; first | assumption | exact pt_self (by assumption) | (rw [pt_ne (by omega)]; assumption)))) | (rw [pt_ne (by omega)]; first | assumption | exact pt_self (by first | assumption | exact pt_self (by first | assumption | exact pt_self (by assumption) | (rw [pt_ne (by omega)]; assumption)) | (rw [pt_ne (by omega)]; first | assumption | exact pt_self (by assumption) | (rw [pt_ne (by omega)]; assumption))) | (rw [pt_ne (by omega)]; first | assumption | exact pt_self (by first | assumption | exact pt_self (by assumption) | (rw [pt_ne (by omega)]; assumption)) | (rw [pt_ne (by omega)]; first | assumption | exact pt_self (by assumption) | (rw [pt_ne (by omega)]; assumption))))) (M_hues hM hD0 htd hrT0) (by decide) ?_
    exact E_iret g160_93 ro160 (congrArg mI (by first | exact z0 (by omega) | exact z7 (by omega) | exact z8 (by omega) | exact z9 (by omega) | exact z10 (by omega) | exact z11 (by omega) | (subst x; first | exact z1 rfl | exact z2 rfl | exact z3 rfl | exact z4 rfl | exact z5 rfl | exact z6 rfl))) rfl
  refine E_table (pt := 94) g160_1 (by rw [if_pos (by omega)]; rfl) ?_
  refine E_iconst (pc' := 95) g160_94 (by decide) rfl ?_
  exact E_iret g160_95 ro160 (congrArg mI (by first | exact z0 (by omega) | exact z7 (by omega) | exact z8 (by omega) | exact z9 (by omega) | exact z10 (by omega) | exact z11 (by omega) | (subst x; first | exact z1 rfl | exact z2 rfl | exact z3 rfl | exact z4 rfl | exact z5 rfl | exact z6 rfl))) rfl
theorem M_side (hM : H[74]? = some (7, mdL kd un nk le ap nu me op de fo bs bu)) (hD : okD kd wd ht rm mo sd bo ed hu) (hz : H[75]? = some (8, [wd, ht, rm, mo, sd, bo])) {p g r : Int} (hp : 0 ≤ p ∧ p < 3) (hg : g = 0 ∨ g = 1) (hr : (g = 0 → r = ix [sd, bo, bo] p) ∧ (g = 1 → r = ix [sd, wd * sd + 2 * bo, ht * sd + 2 * bo] p)) : Call 0 147 [mR 74, mI p, mI g] H (mI r) H := by
  obtain ⟨r1, r2, r3, r4, r5, r6, r7, b1, b2⟩ := hD
  have p1 := prod_bd r2.1 r2.2 r6.1 r6.2
  have p2 := prod_bd r3.1 (by omega) r6.1 r6.2
  have : p = 0 ∨ p = 1 ∨ p = 2 := by omega
  rcases this with rfl | rfl | rfl
  · replace hr : (g = 0 → r = sd) ∧ (g = 1 → r = sd) := hr
    refine Call_of rfl ?_
    refine E_aload_n (pc' := 1) g147_0 rfl rfl ?_
    refine E_getR (pc' := 4) g147_1 f147_7 tg7_1 rfl (by first | assumption | exact pt_self (by first | assumption | exact pt_self (by first | assumption | exact pt_self (by first | assumption | exact pt_self (by assumption) | (rw [pt_ne (by omega)]; assumption)) | (rw [pt_ne (by omega)]; first | assumption | exact pt_self (by assumption) | (rw [pt_ne (by omega)]; assumption))) | (rw [pt_ne (by omega)]; first | assumption | exact pt_self (by first | assumption | exact pt_self (by assumption) | (rw [pt_ne (by omega)]; assumption)) | (rw [pt_ne (by omega)]; first | assumption | exact pt_self (by assumption) | (rw [pt_ne (by omega)]; assumption)))) | (rw [pt_ne (by omega)]; first | assumption | exact pt_self (by first | assumption | exact pt_self (by first | assumption | exact pt_self (by assumption) | (rw [pt_ne (by omega)]; assumption)) | (rw [pt_ne (by omega)]; first | assumption | exact pt_self (by assumption) | (rw [pt_ne (by omega)]; assumption))) | (rw [pt_ne (by omega)]; first | assumption | exact pt_self (by first | assumption | exact pt_self (by assumption) | (rw [pt_ne (by omega)]; assumption)) | (rw [pt_ne (by omega)]; first | assumption | exact pt_self (by assumption) | (rw [pt_ne (by omega)]; assumption))))) rfl ?_
    refine E_iconst (pc' := 5) g147_4 (by decide) rfl ?_
    refine E_iald (pc' := 6) (v := bo) g147_5 rfl (by first | assumption | exact pt_self (by first | assumption | exact pt_self (by first | assumption | exact pt_self (by first | assumption | exact pt_self (by assumption) | (rw [pt_ne (by omega)]; assumption)) | (rw [pt_ne (by omega)]; first | assumption | exact pt_self (by assumption) | (rw [pt_ne (by omega)]; assumption))) | (rw [pt_ne (by omega)]; first | assumption | exact pt_self (by first | assumption | exact pt_self (by assumption) | (rw [pt_ne (by omega)]; assumption)) | (rw [pt_ne (by omega)]; first | assumption | exact pt_self (by assumption) | (rw [pt_ne (by omega)]; assumption)))) | (rw [pt_ne (by omega)]; first | assumption | exact pt_self (by first | assumption | exact pt_self (by first | assumption | exact pt_self (by assumption) | (rw [pt_ne (by omega)]; assumption)) | (rw [pt_ne (by omega)]; first | assumption | exact pt_self (by assumption) | (rw [pt_ne (by omega)]; assumption))) | (rw [pt_ne (by omega)]; first | assumption | exact pt_self (by first | assumption | exact pt_self (by assumption) | (rw [pt_ne (by omega)]; assumption)) | (rw [pt_ne (by omega)]; first | assumption | exact pt_self (by assumption) | (rw [pt_ne (by omega)]; assumption))))) (by decide) (by simp) rfl ?_
    refine E_st3 (pc' := 7) g147_6 rfl ?_
    refine E_iload_n (pc' := 8) g147_7 rfl rfl ?_
    refine E_ifne (pc' := 11) (pt := 20) g147_8 rfl rfl (fun c0 => ?_) (fun c0 => ?_)
    · first
      | (exfalso; omega)
      | (refine E_iload_n (pc' := 21) g147_20 rfl rfl ?_
         refine E_st4 (pc' := 23) g147_21 rfl ?_
         refine E_iload_n (pc' := 24) g147_23 rfl rfl ?_
         refine E_ifne (pc' := 27) (pt := 36) g147_24 rfl rfl (fun c1 => ?_) (fun c1 => ?_)
         · first
           | (exfalso; omega)
           | (refine E_aload_n (pc' := 37) g147_36 rfl rfl ?_
              refine E_getR (pc' := 40) g147_37 f147_7 tg7_1 rfl (by first | assumption | exact pt_self (by first | assumption | exact pt_self (by first | assumption | exact pt_self (by first | assumption | exact pt_self (by assumption) | (rw [pt_ne (by omega)]; assumption)) | (rw [pt_ne (by omega)]; first | assumption | exact pt_self (by assumption) | (rw [pt_ne (by omega)]; assumption))) | (rw [pt_ne (by omega)]; first | assumption | exact pt_self (by first | assumption | exact pt_self (by assumption) | (rw [pt_ne (by omega)]; assumption)) | (rw [pt_ne (by omega)]; first | assumption | exact pt_self (by assumption) | (rw [pt_ne (by omega)]; assumption)))) | (rw [pt_ne (by omega)]; first | assumption | exact pt_self (by first | assumption | exact pt_self (by first | assumption | exact pt_self (by assumption) | (rw [pt_ne (by omega)]; assumption)) | (rw [pt_ne (by omega)]; first | assumption | exact pt_self (by assumption) | (rw [pt_ne (by omega)]; assumption))) | (rw [pt_ne (by omega)]; first | assumption | exact pt_self (by first | assumption | exact pt_self (by assumption) | (rw [pt_ne (by omega)]; assumption)) | (rw [pt_ne (by omega)]; first | assumption | exact pt_self (by assumption) | (rw [pt_ne (by omega)]; assumption))))) rfl ?_
              refine E_iload_n (pc' := 41) g147_40 rfl rfl ?_
              refine E_iconst (pc' := 42) g147_41 (by decide) rfl ?_
              refine E_isub (pc' := 43) g147_42 (m_in_iff.mpr (by omega)) rfl ?_
              refine E_iaload (pc' := 44) g147_43 rfl (by first | assumption | exact pt_self (by first | assumption | exact pt_self (by first | assumption | exact pt_self (by first | assumption | exact pt_self (by assumption) | (rw [pt_ne (by omega)]; assumption)) | (rw [pt_ne (by omega)]; first | assumption | exact pt_self (by assumption) | (rw [pt_ne (by omega)]; assumption))) | (rw [pt_ne (by omega)]; first | assumption | exact pt_self (by first | assumption | exact pt_self (by assumption) | (rw [pt_ne (by omega)]; assumption)) | (rw [pt_ne (by omega)]; first | assumption | exact pt_self (by assumption) | (rw [pt_ne (by omega)]; assumption)))) | (rw [pt_ne (by omega)]; first | assumption | exact pt_self (by first | assumption | exact pt_self (by first | assumption | exact pt_self (by assumption) | (rw [pt_ne (by omega)]; assumption)) | (rw [pt_ne (by omega)]; first | assumption | exact pt_self (by assumption) | (rw [pt_ne (by omega)]; assumption))) | (rw [pt_ne (by omega)]; first | assumption | exact pt_self (by first | assumption | exact pt_self (by assumption) | (rw [pt_ne (by omega)]; assumption)) | (rw [pt_ne (by omega)]; first | assumption | exact pt_self (by assumption) | (rw [pt_ne (by omega)]; assumption))))) (by omega) (by omega) ?_
              refine E_aload_n (pc' := 45) g147_44 rfl rfl ?_
              refine E_getR (pc' := 48) g147_45 f147_7 tg7_1 rfl (by first | assumption | exact pt_self (by first | assumption | exact pt_self (by first | assumption | exact pt_self (by first | assumption | exact pt_self (by assumption) | (rw [pt_ne (by omega)]; assumption)) | (rw [pt_ne (by omega)]; first | assumption | exact pt_self (by assumption) | (rw [pt_ne (by omega)]; assumption))) | (rw [pt_ne (by omega)]; first | assumption | exact pt_self (by first | assumption | exact pt_self (by assumption) | (rw [pt_ne (by omega)]; assumption)) | (rw [pt_ne (by omega)]; first | assumption | exact pt_self (by assumption) | (rw [pt_ne (by omega)]; assumption)))) | (rw [pt_ne (by omega)]; first | assumption | exact pt_self (by first | assumption | exact pt_self (by first | assumption | exact pt_self (by assumption) | (rw [pt_ne (by omega)]; assumption)) | (rw [pt_ne (by omega)]; first | assumption | exact pt_self (by assumption) | (rw [pt_ne (by omega)]; assumption))) | (rw [pt_ne (by omega)]; first | assumption | exact pt_self (by first | assumption | exact pt_self (by assumption) | (rw [pt_ne (by omega)]; assumption)) | (rw [pt_ne (by omega)]; first | assumption | exact pt_self (by assumption) | (rw [pt_ne (by omega)]; assumption))))) rfl ?_
              refine E_iconst (pc' := 49) g147_48 (by decide) rfl ?_
              refine E_iald (pc' := 50) (v := sd) g147_49 rfl (by first | assumption | exact pt_self (by first | assumption | exact pt_self (by first | assumption | exact pt_self (by first | assumption | exact pt_self (by assumption) | (rw [pt_ne (by omega)]; assumption)) | (rw [pt_ne (by omega)]; first | assumption | exact pt_self (by assumption) | (rw [pt_ne (by omega)]; assumption))) | (rw [pt_ne (by omega)]; first | assumption | exact pt_self (by first | assumption | exact pt_self (by assumption) | (rw [pt_ne (by omega)]; assumption)) | (rw [pt_ne (by omega)]; first | assumption | exact pt_self (by assumption) | (rw [pt_ne (by omega)]; assumption)))) | (rw [pt_ne (by omega)]; first | assumption | exact pt_self (by first | assumption | exact pt_self (by first | assumption | exact pt_self (by assumption) | (rw [pt_ne (by omega)]; assumption)) | (rw [pt_ne (by omega)]; first | assumption | exact pt_self (by assumption) | (rw [pt_ne (by omega)]; assumption))) | (rw [pt_ne (by omega)]; first | assumption | exact pt_self (by first | assumption | exact pt_self (by assumption) | (rw [pt_ne (by omega)]; assumption)) | (rw [pt_ne (by omega)]; first | assumption | exact pt_self (by assumption) | (rw [pt_ne (by omega)]; assumption))))) (by decide) (by simp) rfl ?_
              refine E_imul (pc' := 51) g147_50 (m_in_iff.mpr (by omega)) rfl ?_
              refine E_iconst (pc' := 52) g147_51 (by decide) rfl ?_
              refine E_iload_n (pc' := 53) g147_52 rfl rfl ?_
              refine E_imul (pc' := 54) g147_53 (m_in_iff.mpr (by omega)) rfl ?_
              refine E_iadd (pc' := 55) g147_54 (m_in_iff.mpr (by omega)) rfl ?_
              refine E_st5 (pc' := 57) g147_55 rfl ?_
              refine E_iload_n (pc' := 58) g147_57 rfl rfl ?_
              refine E_iload (pc' := 60) g147_58 rfl rfl ?_
              refine E_iload (pc' := 62) g147_60 rfl rfl ?_
              refine E_icle (pc' := 65) (pt := 69) g147_62 rfl rfl (fun c2 => ?_) (fun c2 => ?_)
              · first
                | (exfalso; omega)
                | (refine E_iconst (pc' := 70) g147_69 (by decide) rfl ?_
                   refine E_icne (pc' := 73) (pt := 78) g147_70 rfl rfl (fun c3 => ?_) (fun c3 => ?_)
                   · first
                     | (exfalso; omega)
                     | (refine E_iload (pc' := 80) g147_78 rfl rfl ?_
                        exact E_iret g147_80 ro147 (congrArg mI (by first | (have q := hr.1 (by omega); omega) | (have q := hr.2 (by omega); omega))) rfl)
                   · first
                     | (exfalso; omega)
                     | (refine E_iload (pc' := 75) g147_73 rfl rfl ?_
                        refine E_goto (pc' := 80) g147_75 rfl ?_
                        exact E_iret g147_80 ro147 (congrArg mI (by first | (have q := hr.1 (by omega); omega) | (have q := hr.2 (by omega); omega))) rfl))
              · first
                | (exfalso; omega)
                | (refine E_iconst (pc' := 66) g147_65 (by decide) rfl ?_
                   refine E_goto (pc' := 70) g147_66 rfl ?_
                   refine E_icne (pc' := 73) (pt := 78) g147_70 rfl rfl (fun c4 => ?_) (fun c4 => ?_)
                   · first
                     | (exfalso; omega)
                     | (refine E_iload (pc' := 80) g147_78 rfl rfl ?_
                        exact E_iret g147_80 ro147 (congrArg mI (by first | (have q := hr.1 (by omega); omega) | (have q := hr.2 (by omega); omega))) rfl)
                   · first
                     | (exfalso; omega)
                     | (refine E_iload (pc' := 75) g147_73 rfl rfl ?_
                        refine E_goto (pc' := 80) g147_75 rfl ?_
                        exact E_iret g147_80 ro147 (congrArg mI (by first | (have q := hr.1 (by omega); omega) | (have q := hr.2 (by omega); omega))) rfl)))
         · first
           | (exfalso; omega)
           | (refine E_aload_n (pc' := 28) g147_27 rfl rfl ?_
              refine E_getR (pc' := 31) g147_28 f147_7 tg7_1 rfl (by first | assumption | exact pt_self (by first | assumption | exact pt_self (by first | assumption | exact pt_self (by first | assumption | exact pt_self (by assumption) | (rw [pt_ne (by omega)]; assumption)) | (rw [pt_ne (by omega)]; first | assumption | exact pt_self (by assumption) | (rw [pt_ne (by omega)]; assumption))) | (rw [pt_ne (by omega)]; first | assumption | exact pt_self (by first | assumption | exact pt_self (by assumption) | (rw [pt_ne (by omega)]; assumption)) | (rw [pt_ne (by omega)]; first | assumption | exact pt_self (by assumption) | (rw [pt_ne (by omega)]; assumption)))) | (rw [pt_ne (by omega)]; first | assumption | exact pt_self (by first | assumption | exact pt_self (by first | assumption | exact pt_self (by assumption) | (rw [pt_ne (by omega)]; assumption)) | (rw [pt_ne (by omega)]; first | assumption | exact pt_self (by assumption) | (rw [pt_ne (by omega)]; assumption))) | (rw [pt_ne (by omega)]; first | assumption | exact pt_self (by first | assumption | exact pt_self (by assumption) | (rw [pt_ne (by omega)]; assumption)) | (rw [pt_ne (by omega)]; first | assumption | exact pt_self (by assumption) | (rw [pt_ne (by omega)]; assumption))))) rfl ?_
              refine E_iconst (pc' := 32) g147_31 (by decide) rfl ?_
              refine E_iald (pc' := 33) (v := sd) g147_32 rfl (by first | assumption | exact pt_self (by first | assumption | exact pt_self (by first | assumption | exact pt_self (by first | assumption | exact pt_self (by assumption) | (rw [pt_ne (by omega)]; assumption)) | (rw [pt_ne (by omega)]; first | assumption | exact pt_self (by assumption) | (rw [pt_ne (by omega)]; assumption))) | (rw [pt_ne (by omega)]; first | assumption | exact pt_self (by first | assumption | exact pt_self (by assumption) | (rw [pt_ne (by omega)]; assumption)) | (rw [pt_ne (by omega)]; first | assumption | exact pt_self (by assumption) | (rw [pt_ne (by omega)]; assumption)))) | (rw [pt_ne (by omega)]; first | assumption | exact pt_self (by first | assumption | exact pt_self (by first | assumption | exact pt_self (by assumption) | (rw [pt_ne (by omega)]; assumption)) | (rw [pt_ne (by omega)]; first | assumption | exact pt_self (by assumption) | (rw [pt_ne (by omega)]; assumption))) | (rw [pt_ne (by omega)]; first | assumption | exact pt_self (by first | assumption | exact pt_self (by assumption) | (rw [pt_ne (by omega)]; assumption)) | (rw [pt_ne (by omega)]; first | assumption | exact pt_self (by assumption) | (rw [pt_ne (by omega)]; assumption))))) (by decide) (by simp) rfl ?_
              refine E_goto (pc' := 55) g147_33 rfl ?_
              refine E_st5 (pc' := 57) g147_55 rfl ?_
              refine E_iload_n (pc' := 58) g147_57 rfl rfl ?_
              refine E_iload (pc' := 60) g147_58 rfl rfl ?_
              refine E_iload (pc' := 62) g147_60 rfl rfl ?_
              refine E_icle (pc' := 65) (pt := 69) g147_62 rfl rfl (fun c5 => ?_) (fun c5 => ?_)
              · first
                | (exfalso; omega)
                | (refine E_iconst (pc' := 70) g147_69 (by decide) rfl ?_
                   refine E_icne (pc' := 73) (pt := 78) g147_70 rfl rfl (fun c6 => ?_) (fun c6 => ?_)
                   · first
                     | (exfalso; omega)
                     | (refine E_iload (pc' := 80) g147_78 rfl rfl ?_
                        exact E_iret g147_80 ro147 (congrArg mI (by first | (have q := hr.1 (by omega); omega) | (have q := hr.2 (by omega); omega))) rfl)
                   · first
                     | (exfalso; omega)
                     | (refine E_iload (pc' := 75) g147_73 rfl rfl ?_
                        refine E_goto (pc' := 80) g147_75 rfl ?_
                        exact E_iret g147_80 ro147 (congrArg mI (by first | (have q := hr.1 (by omega); omega) | (have q := hr.2 (by omega); omega))) rfl))
              · first
                | (exfalso; omega)
                | (refine E_iconst (pc' := 66) g147_65 (by decide) rfl ?_
                   refine E_goto (pc' := 70) g147_66 rfl ?_
                   refine E_icne (pc' := 73) (pt := 78) g147_70 rfl rfl (fun c7 => ?_) (fun c7 => ?_)
                   · first
                     | (exfalso; omega)
                     | (refine E_iload (pc' := 80) g147_78 rfl rfl ?_
                        exact E_iret g147_80 ro147 (congrArg mI (by first | (have q := hr.1 (by omega); omega) | (have q := hr.2 (by omega); omega))) rfl)
                   · first
                     | (exfalso; omega)
                     | (refine E_iload (pc' := 75) g147_73 rfl rfl ?_
                        refine E_goto (pc' := 80) g147_75 rfl ?_
                        exact E_iret g147_80 ro147 (congrArg mI (by first | (have q := hr.1 (by omega); omega) | (have q := hr.2 (by omega); omega))) rfl))))
    · first
      | (exfalso; omega)
      | (refine E_aload_n (pc' := 12) g147_11 rfl rfl ?_
         refine E_getR (pc' := 15) g147_12 f147_7 tg7_1 rfl (by first | assumption | exact pt_self (by first | assumption | exact pt_self (by first | assumption | exact pt_self (by first | assumption | exact pt_self (by assumption) | (rw [pt_ne (by omega)]; assumption)) | (rw [pt_ne (by omega)]; first | assumption | exact pt_self (by assumption) | (rw [pt_ne (by omega)]; assumption))) | (rw [pt_ne (by omega)]; first | assumption | exact pt_self (by first | assumption | exact pt_self (by assumption) | (rw [pt_ne (by omega)]; assumption)) | (rw [pt_ne (by omega)]; first | assumption | exact pt_self (by assumption) | (rw [pt_ne (by omega)]; assumption)))) | (rw [pt_ne (by omega)]; first | assumption | exact pt_self (by first | assumption | exact pt_self (by first | assumption | exact pt_self (by assumption) | (rw [pt_ne (by omega)]; assumption)) | (rw [pt_ne (by omega)]; first | assumption | exact pt_self (by assumption) | (rw [pt_ne (by omega)]; assumption))) | (rw [pt_ne (by omega)]; first | assumption | exact pt_self (by first | assumption | exact pt_self (by assumption) | (rw [pt_ne (by omega)]; assumption)) | (rw [pt_ne (by omega)]; first | assumption | exact pt_self (by assumption) | (rw [pt_ne (by omega)]; assumption))))) rfl ?_
         refine E_iconst (pc' := 16) g147_15 (by decide) rfl ?_
         refine E_iald (pc' := 17) (v := sd) g147_16 rfl (by first | assumption | exact pt_self (by first | assumption | exact pt_self (by first | assumption | exact pt_self (by first | assumption | exact pt_self (by assumption) | (rw [pt_ne (by omega)]; assumption)) | (rw [pt_ne (by omega)]; first | assumption | exact pt_self (by assumption) | (rw [pt_ne (by omega)]; assumption))) | (rw [pt_ne (by omega)]; first | assumption | exact pt_self (by first | assumption | exact pt_self (by assumption) | (rw [pt_ne (by omega)]; assumption)) | (rw [pt_ne (by omega)]; first | assumption | exact pt_self (by assumption) | (rw [pt_ne (by omega)]; assumption)))) | (rw [pt_ne (by omega)]; first | assumption | exact pt_self (by first | assumption | exact pt_self (by first | assumption | exact pt_self (by assumption) | (rw [pt_ne (by omega)]; assumption)) | (rw [pt_ne (by omega)]; first | assumption | exact pt_self (by assumption) | (rw [pt_ne (by omega)]; assumption))) | (rw [pt_ne (by omega)]; first | assumption | exact pt_self (by first | assumption | exact pt_self (by assumption) | (rw [pt_ne (by omega)]; assumption)) | (rw [pt_ne (by omega)]; first | assumption | exact pt_self (by assumption) | (rw [pt_ne (by omega)]; assumption))))) (by decide) (by simp) rfl ?_
         refine E_goto (pc' := 21) g147_17 rfl ?_
         refine E_st4 (pc' := 23) g147_21 rfl ?_
         refine E_iload_n (pc' := 24) g147_23 rfl rfl ?_
         refine E_ifne (pc' := 27) (pt := 36) g147_24 rfl rfl (fun c8 => ?_) (fun c8 => ?_)
         · first
           | (exfalso; omega)
           | (refine E_aload_n (pc' := 37) g147_36 rfl rfl ?_
              refine E_getR (pc' := 40) g147_37 f147_7 tg7_1 rfl (by first | assumption | exact pt_self (by first | assumption | exact pt_self (by first | assumption | exact pt_self (by first | assumption | exact pt_self (by assumption) | (rw [pt_ne (by omega)]; assumption)) | (rw [pt_ne (by omega)]; first | assumption | exact pt_self (by assumption) | (rw [pt_ne (by omega)]; assumption))) | (rw [pt_ne (by omega)]; first | assumption | exact pt_self (by first | assumption | exact pt_self (by assumption) | (rw [pt_ne (by omega)]; assumption)) | (rw [pt_ne (by omega)]; first | assumption | exact pt_self (by assumption) | (rw [pt_ne (by omega)]; assumption)))) | (rw [pt_ne (by omega)]; first | assumption | exact pt_self (by first | assumption | exact pt_self (by first | assumption | exact pt_self (by assumption) | (rw [pt_ne (by omega)]; assumption)) | (rw [pt_ne (by omega)]; first | assumption | exact pt_self (by assumption) | (rw [pt_ne (by omega)]; assumption))) | (rw [pt_ne (by omega)]; first | assumption | exact pt_self (by first | assumption | exact pt_self (by assumption) | (rw [pt_ne (by omega)]; assumption)) | (rw [pt_ne (by omega)]; first | assumption | exact pt_self (by assumption) | (rw [pt_ne (by omega)]; assumption))))) rfl ?_
              refine E_iload_n (pc' := 41) g147_40 rfl rfl ?_
              refine E_iconst (pc' := 42) g147_41 (by decide) rfl ?_
              refine E_isub (pc' := 43) g147_42 (m_in_iff.mpr (by omega)) rfl ?_
              refine E_iaload (pc' := 44) g147_43 rfl (by first | assumption | exact pt_self (by first | assumption | exact pt_self (by first | assumption | exact pt_self (by first | assumption | exact pt_self (by assumption) | (rw [pt_ne (by omega)]; assumption)) | (rw [pt_ne (by omega)]; first | assumption | exact pt_self (by assumption) | (rw [pt_ne (by omega)]; assumption))) | (rw [pt_ne (by omega)]; first | assumption | exact pt_self (by first | assumption | exact pt_self (by assumption) | (rw [pt_ne (by omega)]; assumption)) | (rw [pt_ne (by omega)]; first | assumption | exact pt_self (by assumption) | (rw [pt_ne (by omega)]; assumption)))) | (rw [pt_ne (by omega)]; first | assumption | exact pt_self (by first | assumption | exact pt_self (by first | assumption | exact pt_self (by assumption) | (rw [pt_ne (by omega)]; assumption)) | (rw [pt_ne (by omega)]; first | assumption | exact pt_self (by assumption) | (rw [pt_ne (by omega)]; assumption))) | (rw [pt_ne (by omega)]; first | assumption | exact pt_self (by first | assumption | exact pt_self (by assumption) | (rw [pt_ne (by omega)]; assumption)) | (rw [pt_ne (by omega)]; first | assumption | exact pt_self (by assumption) | (rw [pt_ne (by omega)]; assumption))))) (by omega) (by omega) ?_
              refine E_aload_n (pc' := 45) g147_44 rfl rfl ?_
              refine E_getR (pc' := 48) g147_45 f147_7 tg7_1 rfl (by first | assumption | exact pt_self (by first | assumption | exact pt_self (by first | assumption | exact pt_self (by first | assumption | exact pt_self (by assumption) | (rw [pt_ne (by omega)]; assumption)) | (rw [pt_ne (by omega)]; first | assumption | exact pt_self (by assumption) | (rw [pt_ne (by omega)]; assumption))) | (rw [pt_ne (by omega)]; first | assumption | exact pt_self (by first | assumption | exact pt_self (by assumption) | (rw [pt_ne (by omega)]; assumption)) | (rw [pt_ne (by omega)]; first | assumption | exact pt_self (by assumption) | (rw [pt_ne (by omega)]; assumption)))) | (rw [pt_ne (by omega)]; first | assumption | exact pt_self (by first | assumption | exact pt_self (by first | assumption | exact pt_self (by assumption) | (rw [pt_ne (by omega)]; assumption)) | (rw [pt_ne (by omega)]; first | assumption | exact pt_self (by assumption) | (rw [pt_ne (by omega)]; assumption))) | (rw [pt_ne (by omega)]; first | assumption | exact pt_self (by first | assumption | exact pt_self (by assumption) | (rw [pt_ne (by omega)]; assumption)) | (rw [pt_ne (by omega)]; first | assumption | exact pt_self (by assumption) | (rw [pt_ne (by omega)]; assumption))))) rfl ?_
              refine E_iconst (pc' := 49) g147_48 (by decide) rfl ?_
              refine E_iald (pc' := 50) (v := sd) g147_49 rfl (by first | assumption | exact pt_self (by first | assumption | exact pt_self (by first | assumption | exact pt_self (by first | assumption | exact pt_self (by assumption) | (rw [pt_ne (by omega)]; assumption)) | (rw [pt_ne (by omega)]; first | assumption | exact pt_self (by assumption) | (rw [pt_ne (by omega)]; assumption))) | (rw [pt_ne (by omega)]; first | assumption | exact pt_self (by first | assumption | exact pt_self (by assumption) | (rw [pt_ne (by omega)]; assumption)) | (rw [pt_ne (by omega)]; first | assumption | exact pt_self (by assumption) | (rw [pt_ne (by omega)]; assumption)))) | (rw [pt_ne (by omega)]; first | assumption | exact pt_self (by first | assumption | exact pt_self (by first | assumption | exact pt_self (by assumption) | (rw [pt_ne (by omega)]; assumption)) | (rw [pt_ne (by omega)]; first | assumption | exact pt_self (by assumption) | (rw [pt_ne (by omega)]; assumption))) | (rw [pt_ne (by omega)]; first | assumption | exact pt_self (by first | assumption | exact pt_self (by assumption) | (rw [pt_ne (by omega)]; assumption)) | (rw [pt_ne (by omega)]; first | assumption | exact pt_self (by assumption) | (rw [pt_ne (by omega)]; assumption))))) (by decide) (by simp) rfl ?_
              refine E_imul (pc' := 51) g147_50 (m_in_iff.mpr (by omega)) rfl ?_
              refine E_iconst (pc' := 52) g147_51 (by decide) rfl ?_
              refine E_iload_n (pc' := 53) g147_52 rfl rfl ?_
              refine E_imul (pc' := 54) g147_53 (m_in_iff.mpr (by omega)) rfl ?_
              refine E_iadd (pc' := 55) g147_54 (m_in_iff.mpr (by omega)) rfl ?_
              refine E_st5 (pc' := 57) g147_55 rfl ?_
              refine E_iload_n (pc' := 58) g147_57 rfl rfl ?_
              refine E_iload (pc' := 60) g147_58 rfl rfl ?_
              refine E_iload (pc' := 62) g147_60 rfl rfl ?_
              refine E_icle (pc' := 65) (pt := 69) g147_62 rfl rfl (fun c9 => ?_) (fun c9 => ?_)
              · first
                | (exfalso; omega)
                | (refine E_iconst (pc' := 70) g147_69 (by decide) rfl ?_
                   refine E_icne (pc' := 73) (pt := 78) g147_70 rfl rfl (fun c10 => ?_) (fun c10 => ?_)
                   · first
                     | (exfalso; omega)
                     | (refine E_iload (pc' := 80) g147_78 rfl rfl ?_
                        exact E_iret g147_80 ro147 (congrArg mI (by first | (have q := hr.1 (by omega); omega) | (have q := hr.2 (by omega); omega))) rfl)
                   · first
                     | (exfalso; omega)
                     | (refine E_iload (pc' := 75) g147_73 rfl rfl ?_
                        refine E_goto (pc' := 80) g147_75 rfl ?_
                        exact E_iret g147_80 ro147 (congrArg mI (by first | (have q := hr.1 (by omega); omega) | (have q := hr.2 (by omega); omega))) rfl))
              · first
                | (exfalso; omega)
                | (refine E_iconst (pc' := 66) g147_65 (by decide) rfl ?_
                   refine E_goto (pc' := 70) g147_66 rfl ?_
                   refine E_icne (pc' := 73) (pt := 78) g147_70 rfl rfl (fun c11 => ?_) (fun c11 => ?_)
                   · first
                     | (exfalso; omega)
                     | (refine E_iload (pc' := 80) g147_78 rfl rfl ?_
                        exact E_iret g147_80 ro147 (congrArg mI (by first | (have q := hr.1 (by omega); omega) | (have q := hr.2 (by omega); omega))) rfl)
                   · first
                     | (exfalso; omega)
                     | (refine E_iload (pc' := 75) g147_73 rfl rfl ?_
                        refine E_goto (pc' := 80) g147_75 rfl ?_
                        exact E_iret g147_80 ro147 (congrArg mI (by first | (have q := hr.1 (by omega); omega) | (have q := hr.2 (by omega); omega))) rfl)))
         · first
           | (exfalso; omega)
           | (refine E_aload_n (pc' := 28) g147_27 rfl rfl ?_
              refine E_getR (pc' := 31) g147_28 f147_7 tg7_1 rfl (by first | assumption | exact pt_self (by first | assumption | exact pt_self (by first | assumption | exact pt_self (by first | assumption | exact pt_self (by assumption) | (rw [pt_ne (by omega)]; assumption)) | (rw [pt_ne (by omega)]; first | assumption | exact pt_self (by assumption) | (rw [pt_ne (by omega)]; assumption))) | (rw [pt_ne (by omega)]; first | assumption | exact pt_self (by first | assumption | exact pt_self (by assumption) | (rw [pt_ne (by omega)]; assumption)) | (rw [pt_ne (by omega)]; first | assumption | exact pt_self (by assumption) | (rw [pt_ne (by omega)]; assumption)))) | (rw [pt_ne (by omega)]; first | assumption | exact pt_self (by first | assumption | exact pt_self (by first | assumption | exact pt_self (by assumption) | (rw [pt_ne (by omega)]; assumption)) | (rw [pt_ne (by omega)]; first | assumption | exact pt_self (by assumption) | (rw [pt_ne (by omega)]; assumption))) | (rw [pt_ne (by omega)]; first | assumption | exact pt_self (by first | assumption | exact pt_self (by assumption) | (rw [pt_ne (by omega)]; assumption)) | (rw [pt_ne (by omega)]; first | assumption | exact pt_self (by assumption) | (rw [pt_ne (by omega)]; assumption))))) rfl ?_
              refine E_iconst (pc' := 32) g147_31 (by decide) rfl ?_
              refine E_iald (pc' := 33) (v := sd) g147_32 rfl (by first | assumption | exact pt_self (by first | assumption | exact pt_self (by first | assumption | exact pt_self (by first | assumption | exact pt_self (by assumption) | (rw [pt_ne (by omega)]; assumption)) | (rw [pt_ne (by omega)]; first | assumption | exact pt_self (by assumption) | (rw [pt_ne (by omega)]; assumption))) | (rw [pt_ne (by omega)]; first | assumption | exact pt_self (by first | assumption | exact pt_self (by assumption) | (rw [pt_ne (by omega)]; assumption)) | (rw [pt_ne (by omega)]; first | assumption | exact pt_self (by assumption) | (rw [pt_ne (by omega)]; assumption)))) | (rw [pt_ne (by omega)]; first | assumption | exact pt_self (by first | assumption | exact pt_self (by first | assumption | exact pt_self (by assumption) | (rw [pt_ne (by omega)]; assumption)) | (rw [pt_ne (by omega)]; first | assumption | exact pt_self (by assumption) | (rw [pt_ne (by omega)]; assumption))) | (rw [pt_ne (by omega)]; first | assumption | exact pt_self (by first | assumption | exact pt_self (by assumption) | (rw [pt_ne (by omega)]; assumption)) | (rw [pt_ne (by omega)]; first | assumption | exact pt_self (by assumption) | (rw [pt_ne (by omega)]; assumption))))) (by decide) (by simp) rfl ?_
              refine E_goto (pc' := 55) g147_33 rfl ?_
              refine E_st5 (pc' := 57) g147_55 rfl ?_
              refine E_iload_n (pc' := 58) g147_57 rfl rfl ?_
              refine E_iload (pc' := 60) g147_58 rfl rfl ?_
              refine E_iload (pc' := 62) g147_60 rfl rfl ?_
              refine E_icle (pc' := 65) (pt := 69) g147_62 rfl rfl (fun c12 => ?_) (fun c12 => ?_)
              · first
                | (exfalso; omega)
                | (refine E_iconst (pc' := 70) g147_69 (by decide) rfl ?_
                   refine E_icne (pc' := 73) (pt := 78) g147_70 rfl rfl (fun c13 => ?_) (fun c13 => ?_)
                   · first
                     | (exfalso; omega)
                     | (refine E_iload (pc' := 80) g147_78 rfl rfl ?_
                        exact E_iret g147_80 ro147 (congrArg mI (by first | (have q := hr.1 (by omega); omega) | (have q := hr.2 (by omega); omega))) rfl)
                   · first
                     | (exfalso; omega)
                     | (refine E_iload (pc' := 75) g147_73 rfl rfl ?_
                        refine E_goto (pc' := 80) g147_75 rfl ?_
                        exact E_iret g147_80 ro147 (congrArg mI (by first | (have q := hr.1 (by omega); omega) | (have q := hr.2 (by omega); omega))) rfl))
              · first
                | (exfalso; omega)
                | (refine E_iconst (pc' := 66) g147_65 (by decide) rfl ?_
                   refine E_goto (pc' := 70) g147_66 rfl ?_
                   refine E_icne (pc' := 73) (pt := 78) g147_70 rfl rfl (fun c14 => ?_) (fun c14 => ?_)
                   · first
                     | (exfalso; omega)
                     | (refine E_iload (pc' := 80) g147_78 rfl rfl ?_
                        exact E_iret g147_80 ro147 (congrArg mI (by first | (have q := hr.1 (by omega); omega) | (have q := hr.2 (by omega); omega))) rfl)
                   · first
                     | (exfalso; omega)
                     | (refine E_iload (pc' := 75) g147_73 rfl rfl ?_
                        refine E_goto (pc' := 80) g147_75 rfl ?_
                        exact E_iret g147_80 ro147 (congrArg mI (by first | (have q := hr.1 (by omega); omega) | (have q := hr.2 (by omega); omega))) rfl))))
  · replace hr : (g = 0 → r = bo) ∧ (g = 1 → r = wd * sd + 2 * bo) := hr
    refine Call_of rfl ?_
    refine E_aload_n (pc' := 1) g147_0 rfl rfl ?_
    refine E_getR (pc' := 4) g147_1 f147_7 tg7_1 rfl (by first | assumption | exact pt_self (by first | assumption | exact pt_self (by first | assumption | exact pt_self (by first | assumption | exact pt_self (by assumption) | (rw [pt_ne (by omega)]; assumption)) | (rw [pt_ne (by omega)]; first | assumption | exact pt_self (by assumption) | (rw [pt_ne (by omega)]; assumption))) | (rw [pt_ne (by omega)]; first | assumption | exact pt_self (by first | assumption | exact pt_self (by assumption) | (rw [pt_ne (by omega)]; assumption)) | (rw [pt_ne (by omega)]; first | assumption | exact pt_self (by assumption) | (rw [pt_ne (by omega)]; assumption)))) | (rw [pt_ne (by omega)]; first | assumption | exact pt_self (by first | assumption | exact pt_self (by first | assumption | exact pt_self (by assumption) | (rw [pt_ne (by omega)]; assumption)) | (rw [pt_ne (by omega)]; first | assumption | exact pt_self (by assumption) | (rw [pt_ne (by omega)]; assumption))) | (rw [pt_ne (by omega)]; first | assumption | exact pt_self (by first | assumption | exact pt_self (by assumption) | (rw [pt_ne (by omega)]; assumption)) | (rw [pt_ne (by omega)]; first | assumption | exact pt_self (by assumption) | (rw [pt_ne (by omega)]; assumption))))) rfl ?_
    refine E_iconst (pc' := 5) g147_4 (by decide) rfl ?_
    refine E_iald (pc' := 6) (v := bo) g147_5 rfl (by first | assumption | exact pt_self (by first | assumption | exact pt_self (by first | assumption | exact pt_self (by first | assumption | exact pt_self (by assumption) | (rw [pt_ne (by omega)]; assumption)) | (rw [pt_ne (by omega)]; first | assumption | exact pt_self (by assumption) | (rw [pt_ne (by omega)]; assumption))) | (rw [pt_ne (by omega)]; first | assumption | exact pt_self (by first | assumption | exact pt_self (by assumption) | (rw [pt_ne (by omega)]; assumption)) | (rw [pt_ne (by omega)]; first | assumption | exact pt_self (by assumption) | (rw [pt_ne (by omega)]; assumption)))) | (rw [pt_ne (by omega)]; first | assumption | exact pt_self (by first | assumption | exact pt_self (by first | assumption | exact pt_self (by assumption) | (rw [pt_ne (by omega)]; assumption)) | (rw [pt_ne (by omega)]; first | assumption | exact pt_self (by assumption) | (rw [pt_ne (by omega)]; assumption))) | (rw [pt_ne (by omega)]; first | assumption | exact pt_self (by first | assumption | exact pt_self (by assumption) | (rw [pt_ne (by omega)]; assumption)) | (rw [pt_ne (by omega)]; first | assumption | exact pt_self (by assumption) | (rw [pt_ne (by omega)]; assumption))))) (by decide) (by simp) rfl ?_
    refine E_st3 (pc' := 7) g147_6 rfl ?_
    refine E_iload_n (pc' := 8) g147_7 rfl rfl ?_
    refine E_ifne (pc' := 11) (pt := 20) g147_8 rfl rfl (fun c0 => ?_) (fun c0 => ?_)
    · first
      | (exfalso; omega)
      | (refine E_iload_n (pc' := 21) g147_20 rfl rfl ?_
         refine E_st4 (pc' := 23) g147_21 rfl ?_
         refine E_iload_n (pc' := 24) g147_23 rfl rfl ?_
         refine E_ifne (pc' := 27) (pt := 36) g147_24 rfl rfl (fun c1 => ?_) (fun c1 => ?_)
         · first
           | (exfalso; omega)
           | (refine E_aload_n (pc' := 37) g147_36 rfl rfl ?_
              refine E_getR (pc' := 40) g147_37 f147_7 tg7_1 rfl (by first | assumption | exact pt_self (by first | assumption | exact pt_self (by first | assumption | exact pt_self (by first | assumption | exact pt_self (by assumption) | (rw [pt_ne (by omega)]; assumption)) | (rw [pt_ne (by omega)]; first | assumption | exact pt_self (by assumption) | (rw [pt_ne (by omega)]; assumption))) | (rw [pt_ne (by omega)]; first | assumption | exact pt_self (by first | assumption | exact pt_self (by assumption) | (rw [pt_ne (by omega)]; assumption)) | (rw [pt_ne (by omega)]; first | assumption | exact pt_self (by assumption) | (rw [pt_ne (by omega)]; assumption)))) | (rw [pt_ne (by omega)]; first | assumption | exact pt_self (by first | assumption | exact pt_self (by first | assumption | exact pt_self (by assumption) | (rw [pt_ne (by omega)]; assumption)) | (rw [pt_ne (by omega)]; first | assumption | exact pt_self (by assumption) | (rw [pt_ne (by omega)]; assumption))) | (rw [pt_ne (by omega)]; first | assumption | exact pt_self (by first | assumption | exact pt_self (by assumption) | (rw [pt_ne (by omega)]; assumption)) | (rw [pt_ne (by omega)]; first | assumption | exact pt_self (by assumption) | (rw [pt_ne (by omega)]; assumption))))) rfl ?_
              refine E_iload_n (pc' := 41) g147_40 rfl rfl ?_
              refine E_iconst (pc' := 42) g147_41 (by decide) rfl ?_
              refine E_isub (pc' := 43) g147_42 (m_in_iff.mpr (by omega)) rfl ?_
              refine E_iald (pc' := 44) (v := wd) g147_43 rfl (by first | assumption | exact pt_self (by first | assumption | exact pt_self (by first | assumption | exact pt_self (by first | assumption | exact pt_self (by assumption) | (rw [pt_ne (by omega)]; assumption)) | (rw [pt_ne (by omega)]; first | assumption | exact pt_self (by assumption) | (rw [pt_ne (by omega)]; assumption))) | (rw [pt_ne (by omega)]; first | assumption | exact pt_self (by first | assumption | exact pt_self (by assumption) | (rw [pt_ne (by omega)]; assumption)) | (rw [pt_ne (by omega)]; first | assumption | exact pt_self (by assumption) | (rw [pt_ne (by omega)]; assumption)))) | (rw [pt_ne (by omega)]; first | assumption | exact pt_self (by first | assumption | exact pt_self (by first | assumption | exact pt_self (by assumption) | (rw [pt_ne (by omega)]; assumption)) | (rw [pt_ne (by omega)]; first | assumption | exact pt_self (by assumption) | (rw [pt_ne (by omega)]; assumption))) | (rw [pt_ne (by omega)]; first | assumption | exact pt_self (by first | assumption | exact pt_self (by assumption) | (rw [pt_ne (by omega)]; assumption)) | (rw [pt_ne (by omega)]; first | assumption | exact pt_self (by assumption) | (rw [pt_ne (by omega)]; assumption))))) (by decide) (by simp) rfl ?_
              refine E_aload_n (pc' := 45) g147_44 rfl rfl ?_
              refine E_getR (pc' := 48) g147_45 f147_7 tg7_1 rfl (by first | assumption | exact pt_self (by first | assumption | exact pt_self (by first | assumption | exact pt_self (by first | assumption | exact pt_self (by assumption) | (rw [pt_ne (by omega)]; assumption)) | (rw [pt_ne (by omega)]; first | assumption | exact pt_self (by assumption) | (rw [pt_ne (by omega)]; assumption))) | (rw [pt_ne (by omega)]; first | assumption | exact pt_self (by first | assumption | exact pt_self (by assumption) | (rw [pt_ne (by omega)]; assumption)) | (rw [pt_ne (by omega)]; first | assumption | exact pt_self (by assumption) | (rw [pt_ne (by omega)]; assumption)))) | (rw [pt_ne (by omega)]; first | assumption | exact pt_self (by first | assumption | exact pt_self (by first | assumption | exact pt_self (by assumption) | (rw [pt_ne (by omega)]; assumption)) | (rw [pt_ne (by omega)]; first | assumption | exact pt_self (by assumption) | (rw [pt_ne (by omega)]; assumption))) | (rw [pt_ne (by omega)]; first | assumption | exact pt_self (by first | assumption | exact pt_self (by assumption) | (rw [pt_ne (by omega)]; assumption)) | (rw [pt_ne (by omega)]; first | assumption | exact pt_self (by assumption) | (rw [pt_ne (by omega)]; assumption))))) rfl ?_
              refine E_iconst (pc' := 49) g147_48 (by decide) rfl ?_
              refine E_iald (pc' := 50) (v := sd) g147_49 rfl (by first | assumption | exact pt_self (by first | assumption | exact pt_self (by first | assumption | exact pt_self (by first | assumption | exact pt_self (by assumption) | (rw [pt_ne (by omega)]; assumption)) | (rw [pt_ne (by omega)]; first | assumption | exact pt_self (by assumption) | (rw [pt_ne (by omega)]; assumption))) | (rw [pt_ne (by omega)]; first | assumption | exact pt_self (by first | assumption | exact pt_self (by assumption) | (rw [pt_ne (by omega)]; assumption)) | (rw [pt_ne (by omega)]; first | assumption | exact pt_self (by assumption) | (rw [pt_ne (by omega)]; assumption)))) | (rw [pt_ne (by omega)]; first | assumption | exact pt_self (by first | assumption | exact pt_self (by first | assumption | exact pt_self (by assumption) | (rw [pt_ne (by omega)]; assumption)) | (rw [pt_ne (by omega)]; first | assumption | exact pt_self (by assumption) | (rw [pt_ne (by omega)]; assumption))) | (rw [pt_ne (by omega)]; first | assumption | exact pt_self (by first | assumption | exact pt_self (by assumption) | (rw [pt_ne (by omega)]; assumption)) | (rw [pt_ne (by omega)]; first | assumption | exact pt_self (by assumption) | (rw [pt_ne (by omega)]; assumption))))) (by decide) (by simp) rfl ?_
              refine E_imul (pc' := 51) g147_50 (m_in_iff.mpr (by omega)) rfl ?_
              refine E_iconst (pc' := 52) g147_51 (by decide) rfl ?_
              refine E_iload_n (pc' := 53) g147_52 rfl rfl ?_
              refine E_imul (pc' := 54) g147_53 (m_in_iff.mpr (by omega)) rfl ?_
              refine E_iadd (pc' := 55) g147_54 (m_in_iff.mpr (by omega)) rfl ?_
              refine E_st5 (pc' := 57) g147_55 rfl ?_
              refine E_iload_n (pc' := 58) g147_57 rfl rfl ?_
              refine E_iload (pc' := 60) g147_58 rfl rfl ?_
              refine E_iload (pc' := 62) g147_60 rfl rfl ?_
              refine E_icle (pc' := 65) (pt := 69) g147_62 rfl rfl (fun c2 => ?_) (fun c2 => ?_)
              · first
                | (exfalso; omega)
                | (refine E_iconst (pc' := 70) g147_69 (by decide) rfl ?_
                   refine E_icne (pc' := 73) (pt := 78) g147_70 rfl rfl (fun c3 => ?_) (fun c3 => ?_)
                   · first
                     | (exfalso; omega)
                     | (refine E_iload (pc' := 80) g147_78 rfl rfl ?_
                        exact E_iret g147_80 ro147 (congrArg mI (by first | (have q := hr.1 (by omega); omega) | (have q := hr.2 (by omega); omega))) rfl)
                   · first
                     | (exfalso; omega)
                     | (refine E_iload (pc' := 75) g147_73 rfl rfl ?_
                        refine E_goto (pc' := 80) g147_75 rfl ?_
                        exact E_iret g147_80 ro147 (congrArg mI (by first | (have q := hr.1 (by omega); omega) | (have q := hr.2 (by omega); omega))) rfl))
              · first
                | (exfalso; omega)
                | (refine E_iconst (pc' := 66) g147_65 (by decide) rfl ?_
                   refine E_goto (pc' := 70) g147_66 rfl ?_
                   refine E_icne (pc' := 73) (pt := 78) g147_70 rfl rfl (fun c4 => ?_) (fun c4 => ?_)
                   · first
                     | (exfalso; omega)
                     | (refine E_iload (pc' := 80) g147_78 rfl rfl ?_
                        exact E_iret g147_80 ro147 (congrArg mI (by first | (have q := hr.1 (by omega); omega) | (have q := hr.2 (by omega); omega))) rfl)
                   · first
                     | (exfalso; omega)
                     | (refine E_iload (pc' := 75) g147_73 rfl rfl ?_
                        refine E_goto (pc' := 80) g147_75 rfl ?_
                        exact E_iret g147_80 ro147 (congrArg mI (by first | (have q := hr.1 (by omega); omega) | (have q := hr.2 (by omega); omega))) rfl)))
         · first
           | (exfalso; omega)
           | (refine E_aload_n (pc' := 28) g147_27 rfl rfl ?_
              refine E_getR (pc' := 31) g147_28 f147_7 tg7_1 rfl (by first | assumption | exact pt_self (by first | assumption | exact pt_self (by first | assumption | exact pt_self (by first | assumption | exact pt_self (by assumption) | (rw [pt_ne (by omega)]; assumption)) | (rw [pt_ne (by omega)]; first | assumption | exact pt_self (by assumption) | (rw [pt_ne (by omega)]; assumption))) | (rw [pt_ne (by omega)]; first | assumption | exact pt_self (by first | assumption | exact pt_self (by assumption) | (rw [pt_ne (by omega)]; assumption)) | (rw [pt_ne (by omega)]; first | assumption | exact pt_self (by assumption) | (rw [pt_ne (by omega)]; assumption)))) | (rw [pt_ne (by omega)]; first | assumption | exact pt_self (by first | assumption | exact pt_self (by first | assumption | exact pt_self (by assumption) | (rw [pt_ne (by omega)]; assumption)) | (rw [pt_ne (by omega)]; first | assumption | exact pt_self (by assumption) | (rw [pt_ne (by omega)]; assumption))) | (rw [pt_ne (by omega)]; first | assumption | exact pt_self (by first | assumption | exact pt_self (by assumption) | (rw [pt_ne (by omega)]; assumption)) | (rw [pt_ne (by omega)]; first | assumption | exact pt_self (by assumption) | (rw [pt_ne (by omega)]; assumption))))) rfl ?_
              refine E_iconst (pc' := 32) g147_31 (by decide) rfl ?_
              refine E_iald (pc' := 33) (v := sd) g147_32 rfl (by first | assumption | exact pt_self (by first | assumption | exact pt_self (by first | assumption | exact pt_self (by first | assumption | exact pt_self (by assumption) | (rw [pt_ne (by omega)]; assumption)) | (rw [pt_ne (by omega)]; first | assumption | exact pt_self (by assumption) | (rw [pt_ne (by omega)]; assumption))) | (rw [pt_ne (by omega)]; first | assumption | exact pt_self (by first | assumption | exact pt_self (by assumption) | (rw [pt_ne (by omega)]; assumption)) | (rw [pt_ne (by omega)]; first | assumption | exact pt_self (by assumption) | (rw [pt_ne (by omega)]; assumption)))) | (rw [pt_ne (by omega)]; first | assumption | exact pt_self (by first | assumption | exact pt_self (by first | assumption | exact pt_self (by assumption) | (rw [pt_ne (by omega)]; assumption)) | (rw [pt_ne (by omega)]; first | assumption | exact pt_self (by assumption) | (rw [pt_ne (by omega)]; assumption))) | (rw [pt_ne (by omega)]; first | assumption | exact pt_self (by first | assumption | exact pt_self (by assumption) | (rw [pt_ne (by omega)]; assumption)) | (rw [pt_ne (by omega)]; first | assumption | exact pt_self (by assumption) | (rw [pt_ne (by omega)]; assumption))))) (by decide) (by simp) rfl ?_
              refine E_goto (pc' := 55) g147_33 rfl ?_
              refine E_st5 (pc' := 57) g147_55 rfl ?_
              refine E_iload_n (pc' := 58) g147_57 rfl rfl ?_
              refine E_iload (pc' := 60) g147_58 rfl rfl ?_
              refine E_iload (pc' := 62) g147_60 rfl rfl ?_
              refine E_icle (pc' := 65) (pt := 69) g147_62 rfl rfl (fun c5 => ?_) (fun c5 => ?_)
              · first
                | (exfalso; omega)
                | (refine E_iconst (pc' := 70) g147_69 (by decide) rfl ?_
                   refine E_icne (pc' := 73) (pt := 78) g147_70 rfl rfl (fun c6 => ?_) (fun c6 => ?_)
                   · first
                     | (exfalso; omega)
                     | (refine E_iload (pc' := 80) g147_78 rfl rfl ?_
                        exact E_iret g147_80 ro147 (congrArg mI (by first | (have q := hr.1 (by omega); omega) | (have q := hr.2 (by omega); omega))) rfl)
                   · first
                     | (exfalso; omega)
                     | (refine E_iload (pc' := 75) g147_73 rfl rfl ?_
                        refine E_goto (pc' := 80) g147_75 rfl ?_
                        exact E_iret g147_80 ro147 (congrArg mI (by first | (have q := hr.1 (by omega); omega) | (have q := hr.2 (by omega); omega))) rfl))
              · first
                | (exfalso; omega)
                | (refine E_iconst (pc' := 66) g147_65 (by decide) rfl ?_
                   refine E_goto (pc' := 70) g147_66 rfl ?_
                   refine E_icne (pc' := 73) (pt := 78) g147_70 rfl rfl (fun c7 => ?_) (fun c7 => ?_)
                   · first
                     | (exfalso; omega)
                     | (refine E_iload (pc' := 80) g147_78 rfl rfl ?_
                        exact E_iret g147_80 ro147 (congrArg mI (by first | (have q := hr.1 (by omega); omega) | (have q := hr.2 (by omega); omega))) rfl)
                   · first
                     | (exfalso; omega)
                     | (refine E_iload (pc' := 75) g147_73 rfl rfl ?_
                        refine E_goto (pc' := 80) g147_75 rfl ?_
                        exact E_iret g147_80 ro147 (congrArg mI (by first | (have q := hr.1 (by omega); omega) | (have q := hr.2 (by omega); omega))) rfl))))
    · first
      | (exfalso; omega)
      | (refine E_aload_n (pc' := 12) g147_11 rfl rfl ?_
         refine E_getR (pc' := 15) g147_12 f147_7 tg7_1 rfl (by first | assumption | exact pt_self (by first | assumption | exact pt_self (by first | assumption | exact pt_self (by first | assumption | exact pt_self (by assumption) | (rw [pt_ne (by omega)]; assumption)) | (rw [pt_ne (by omega)]; first | assumption | exact pt_self (by assumption) | (rw [pt_ne (by omega)]; assumption))) | (rw [pt_ne (by omega)]; first | assumption | exact pt_self (by first | assumption | exact pt_self (by assumption) | (rw [pt_ne (by omega)]; assumption)) | (rw [pt_ne (by omega)]; first | assumption | exact pt_self (by assumption) | (rw [pt_ne (by omega)]; assumption)))) | (rw [pt_ne (by omega)]; first | assumption | exact pt_self (by first | assumption | exact pt_self (by first | assumption | exact pt_self (by assumption) | (rw [pt_ne (by omega)]; assumption)) | (rw [pt_ne (by omega)]; first | assumption | exact pt_self (by assumption) | (rw [pt_ne (by omega)]; assumption))) | (rw [pt_ne (by omega)]; first | assumption | exact pt_self (by first | assumption | exact pt_self (by assumption) | (rw [pt_ne (by omega)]; assumption)) | (rw [pt_ne (by omega)]; first | assumption | exact pt_self (by assumption) | (rw [pt_ne (by omega)]; assumption))))) rfl ?_
         refine E_iconst (pc' := 16) g147_15 (by decide) rfl ?_
         refine E_iald (pc' := 17) (v := sd) g147_16 rfl (by first | assumption | exact pt_self (by first | assumption | exact pt_self (by first | assumption | exact pt_self (by first | assumption | exact pt_self (by assumption) | (rw [pt_ne (by omega)]; assumption)) | (rw [pt_ne (by omega)]; first | assumption | exact pt_self (by assumption) | (rw [pt_ne (by omega)]; assumption))) | (rw [pt_ne (by omega)]; first | assumption | exact pt_self (by first | assumption | exact pt_self (by assumption) | (rw [pt_ne (by omega)]; assumption)) | (rw [pt_ne (by omega)]; first | assumption | exact pt_self (by assumption) | (rw [pt_ne (by omega)]; assumption)))) | (rw [pt_ne (by omega)]; first | assumption | exact pt_self (by first | assumption | exact pt_self (by first | assumption | exact pt_self (by assumption) | (rw [pt_ne (by omega)]; assumption)) | (rw [pt_ne (by omega)]; first | assumption | exact pt_self (by assumption) | (rw [pt_ne (by omega)]; assumption))) | (rw [pt_ne (by omega)]; first | assumption | exact pt_self (by first | assumption | exact pt_self (by assumption) | (rw [pt_ne (by omega)]; assumption)) | (rw [pt_ne (by omega)]; first | assumption | exact pt_self (by assumption) | (rw [pt_ne (by omega)]; assumption))))) (by decide) (by simp) rfl ?_
         refine E_goto (pc' := 21) g147_17 rfl ?_
         refine E_st4 (pc' := 23) g147_21 rfl ?_
         refine E_iload_n (pc' := 24) g147_23 rfl rfl ?_
         refine E_ifne (pc' := 27) (pt := 36) g147_24 rfl rfl (fun c8 => ?_) (fun c8 => ?_)
         · first
           | (exfalso; omega)
           | (refine E_aload_n (pc' := 37) g147_36 rfl rfl ?_
              refine E_getR (pc' := 40) g147_37 f147_7 tg7_1 rfl (by first | assumption | exact pt_self (by first | assumption | exact pt_self (by first | assumption | exact pt_self (by first | assumption | exact pt_self (by assumption) | (rw [pt_ne (by omega)]; assumption)) | (rw [pt_ne (by omega)]; first | assumption | exact pt_self (by assumption) | (rw [pt_ne (by omega)]; assumption))) | (rw [pt_ne (by omega)]; first | assumption | exact pt_self (by first | assumption | exact pt_self (by assumption) | (rw [pt_ne (by omega)]; assumption)) | (rw [pt_ne (by omega)]; first | assumption | exact pt_self (by assumption) | (rw [pt_ne (by omega)]; assumption)))) | (rw [pt_ne (by omega)]; first | assumption | exact pt_self (by first | assumption | exact pt_self (by first | assumption | exact pt_self (by assumption) | (rw [pt_ne (by omega)]; assumption)) | (rw [pt_ne (by omega)]; first | assumption | exact pt_self (by assumption) | (rw [pt_ne (by omega)]; assumption))) | (rw [pt_ne (by omega)]; first | assumption | exact pt_self (by first | assumption | exact pt_self (by assumption) | (rw [pt_ne (by omega)]; assumption)) | (rw [pt_ne (by omega)]; first | assumption | exact pt_self (by assumption) | (rw [pt_ne (by omega)]; assumption))))) rfl ?_
              refine E_iload_n (pc' := 41) g147_40 rfl rfl ?_
              refine E_iconst (pc' := 42) g147_41 (by decide) rfl ?_
              refine E_isub (pc' := 43) g147_42 (m_in_iff.mpr (by omega)) rfl ?_
              refine E_iald (pc' := 44) (v := wd) g147_43 rfl (by first | assumption | exact pt_self (by first | assumption | exact pt_self (by first | assumption | exact pt_self (by first | assumption | exact pt_self (by assumption) | (rw [pt_ne (by omega)]; assumption)) | (rw [pt_ne (by omega)]; first | assumption | exact pt_self (by assumption) | (rw [pt_ne (by omega)]; assumption))) | (rw [pt_ne (by omega)]; first | assumption | exact pt_self (by first | assumption | exact pt_self (by assumption) | (rw [pt_ne (by omega)]; assumption)) | (rw [pt_ne (by omega)]; first | assumption | exact pt_self (by assumption) | (rw [pt_ne (by omega)]; assumption)))) | (rw [pt_ne (by omega)]; first | assumption | exact pt_self (by first | assumption | exact pt_self (by first | assumption | exact pt_self (by assumption) | (rw [pt_ne (by omega)]; assumption)) | (rw [pt_ne (by omega)]; first | assumption | exact pt_self (by assumption) | (rw [pt_ne (by omega)]; assumption))) | (rw [pt_ne (by omega)]; first | assumption | exact pt_self (by first | assumption | exact pt_self (by assumption) | (rw [pt_ne (by omega)]; assumption)) | (rw [pt_ne (by omega)]; first | assumption | exact pt_self (by assumption) | (rw [pt_ne (by omega)]; assumption))))) (by decide) (by simp) rfl ?_
              refine E_aload_n (pc' := 45) g147_44 rfl rfl ?_
              refine E_getR (pc' := 48) g147_45 f147_7 tg7_1 rfl (by first | assumption | exact pt_self (by first | assumption | exact pt_self (by first | assumption | exact pt_self (by first | assumption | exact pt_self (by assumption) | (rw [pt_ne (by omega)]; assumption)) | (rw [pt_ne (by omega)]; first | assumption | exact pt_self (by assumption) | (rw [pt_ne (by omega)]; assumption))) | (rw [pt_ne (by omega)]; first | assumption | exact pt_self (by first | assumption | exact pt_self (by assumption) | (rw [pt_ne (by omega)]; assumption)) | (rw [pt_ne (by omega)]; first | assumption | exact pt_self (by assumption) | (rw [pt_ne (by omega)]; assumption)))) | (rw [pt_ne (by omega)]; first | assumption | exact pt_self (by first | assumption | exact pt_self (by first | assumption | exact pt_self (by assumption) | (rw [pt_ne (by omega)]; assumption)) | (rw [pt_ne (by omega)]; first | assumption | exact pt_self (by assumption) | (rw [pt_ne (by omega)]; assumption))) | (rw [pt_ne (by omega)]; first | assumption | exact pt_self (by first | assumption | exact pt_self (by assumption) | (rw [pt_ne (by omega)]; assumption)) | (rw [pt_ne (by omega)]; first | assumption | exact pt_self (by assumption) | (rw [pt_ne (by omega)]; assumption))))) rfl ?_
              refine E_iconst (pc' := 49) g147_48 (by decide) rfl ?_
              refine E_iald (pc' := 50) (v := sd) g147_49 rfl (by first | assumption | exact pt_self (by first | assumption | exact pt_self (by first | assumption | exact pt_self (by first | assumption | exact pt_self (by assumption) | (rw [pt_ne (by omega)]; assumption)) | (rw [pt_ne (by omega)]; first | assumption | exact pt_self (by assumption) | (rw [pt_ne (by omega)]; assumption))) | (rw [pt_ne (by omega)]; first | assumption | exact pt_self (by first | assumption | exact pt_self (by assumption) | (rw [pt_ne (by omega)]; assumption)) | (rw [pt_ne (by omega)]; first | assumption | exact pt_self (by assumption) | (rw [pt_ne (by omega)]; assumption)))) | (rw [pt_ne (by omega)]; first | assumption | exact pt_self (by first | assumption | exact pt_self (by first | assumption | exact pt_self (by assumption) | (rw [pt_ne (by omega)]; assumption)) | (rw [pt_ne (by omega)]; first | assumption | exact pt_self (by assumption) | (rw [pt_ne (by omega)]; assumption))) | (rw [pt_ne (by omega)]; first | assumption | exact pt_self (by first | assumption | exact pt_self (by assumption) | (rw [pt_ne (by omega)]; assumption)) | (rw [pt_ne (by omega)]; first | assumption | exact pt_self (by assumption) | (rw [pt_ne (by omega)]; assumption))))) (by decide) (by simp) rfl ?_
              refine E_imul (pc' := 51) g147_50 (m_in_iff.mpr (by omega)) rfl ?_
              refine E_iconst (pc' := 52) g147_51 (by decide) rfl ?_
              refine E_iload_n (pc' := 53) g147_52 rfl rfl ?_
              refine E_imul (pc' := 54) g147_53 (m_in_iff.mpr (by omega)) rfl ?_
              refine E_iadd (pc' := 55) g147_54 (m_in_iff.mpr (by omega)) rfl ?_
              refine E_st5 (pc' := 57) g147_55 rfl ?_
              refine E_iload_n (pc' := 58) g147_57 rfl rfl ?_
              refine E_iload (pc' := 60) g147_58 rfl rfl ?_
              refine E_iload (pc' := 62) g147_60 rfl rfl ?_
              refine E_icle (pc' := 65) (pt := 69) g147_62 rfl rfl (fun c9 => ?_) (fun c9 => ?_)
              · first
                | (exfalso; omega)
                | (refine E_iconst (pc' := 70) g147_69 (by decide) rfl ?_
                   refine E_icne (pc' := 73) (pt := 78) g147_70 rfl rfl (fun c10 => ?_) (fun c10 => ?_)
                   · first
                     | (exfalso; omega)
                     | (refine E_iload (pc' := 80) g147_78 rfl rfl ?_
                        exact E_iret g147_80 ro147 (congrArg mI (by first | (have q := hr.1 (by omega); omega) | (have q := hr.2 (by omega); omega))) rfl)
                   · first
                     | (exfalso; omega)
                     | (refine E_iload (pc' := 75) g147_73 rfl rfl ?_
                        refine E_goto (pc' := 80) g147_75 rfl ?_
                        exact E_iret g147_80 ro147 (congrArg mI (by first | (have q := hr.1 (by omega); omega) | (have q := hr.2 (by omega); omega))) rfl))
              · first
                | (exfalso; omega)
                | (refine E_iconst (pc' := 66) g147_65 (by decide) rfl ?_
                   refine E_goto (pc' := 70) g147_66 rfl ?_
                   refine E_icne (pc' := 73) (pt := 78) g147_70 rfl rfl (fun c11 => ?_) (fun c11 => ?_)
                   · first
                     | (exfalso; omega)
                     | (refine E_iload (pc' := 80) g147_78 rfl rfl ?_
                        exact E_iret g147_80 ro147 (congrArg mI (by first | (have q := hr.1 (by omega); omega) | (have q := hr.2 (by omega); omega))) rfl)
                   · first
                     | (exfalso; omega)
                     | (refine E_iload (pc' := 75) g147_73 rfl rfl ?_
                        refine E_goto (pc' := 80) g147_75 rfl ?_
                        exact E_iret g147_80 ro147 (congrArg mI (by first | (have q := hr.1 (by omega); omega) | (have q := hr.2 (by omega); omega))) rfl)))
         · first
           | (exfalso; omega)
           | (refine E_aload_n (pc' := 28) g147_27 rfl rfl ?_
              refine E_getR (pc' := 31) g147_28 f147_7 tg7_1 rfl (by first | assumption | exact pt_self (by first | assumption | exact pt_self (by first | assumption | exact pt_self (by first | assumption | exact pt_self (by assumption) | (rw [pt_ne (by omega)]; assumption)) | (rw [pt_ne (by omega)]; first | assumption | exact pt_self (by assumption) | (rw [pt_ne (by omega)]; assumption))) | (rw [pt_ne (by omega)]; first | assumption | exact pt_self (by first | assumption | exact pt_self (by assumption) | (rw [pt_ne (by omega)]; assumption)) | (rw [pt_ne (by omega)]; first | assumption | exact pt_self (by assumption) | (rw [pt_ne (by omega)]; assumption)))) | (rw [pt_ne (by omega)]; first | assumption | exact pt_self (by first | assumption | exact pt_self (by first | assumption | exact pt_self (by assumption) | (rw [pt_ne (by omega)]; assumption)) | (rw [pt_ne (by omega)]; first | assumption | exact pt_self (by assumption) | (rw [pt_ne (by omega)]; assumption))) | (rw [pt_ne (by omega)]; first | assumption | exact pt_self (by first | assumption | exact pt_self (by assumption) | (rw [pt_ne (by omega)]; assumption)) | (rw [pt_ne (by omega)]; first | assumption | exact pt_self (by assumption) | (rw [pt_ne (by omega)]; assumption))))) rfl ?_
              refine E_iconst (pc' := 32) g147_31 (by decide) rfl ?_
              refine E_iald (pc' := 33) (v := sd) g147_32 rfl (by first | assumption | exact pt_self (by first | assumption | exact pt_self (by first | assumption | exact pt_self (by first | assumption | exact pt_self (by assumption) | (rw [pt_ne (by omega)]; assumption)) | (rw [pt_ne (by omega)]; first | assumption | exact pt_self (by assumption) | (rw [pt_ne (by omega)]; assumption))) | (rw [pt_ne (by omega)]; first | assumption | exact pt_self (by first | assumption | exact pt_self (by assumption) | (rw [pt_ne (by omega)]; assumption)) | (rw [pt_ne (by omega)]; first | assumption | exact pt_self (by assumption) | (rw [pt_ne (by omega)]; assumption)))) | (rw [pt_ne (by omega)]; first | assumption | exact pt_self (by first | assumption | exact pt_self (by first | assumption | exact pt_self (by assumption) | (rw [pt_ne (by omega)]; assumption)) | (rw [pt_ne (by omega)]; first | assumption | exact pt_self (by assumption) | (rw [pt_ne (by omega)]; assumption))) | (rw [pt_ne (by omega)]; first | assumption | exact pt_self (by first | assumption | exact pt_self (by assumption) | (rw [pt_ne (by omega)]; assumption)) | (rw [pt_ne (by omega)]; first | assumption | exact pt_self (by assumption) | (rw [pt_ne (by omega)]; assumption))))) (by decide) (by simp) rfl ?_
              refine E_goto (pc' := 55) g147_33 rfl ?_
              refine E_st5 (pc' := 57) g147_55 rfl ?_
              refine E_iload_n (pc' := 58) g147_57 rfl rfl ?_
              refine E_iload (pc' := 60) g147_58 rfl rfl ?_
              refine E_iload (pc' := 62) g147_60 rfl rfl ?_
              refine E_icle (pc' := 65) (pt := 69) g147_62 rfl rfl (fun c12 => ?_) (fun c12 => ?_)
              · first
                | (exfalso; omega)
                | (refine E_iconst (pc' := 70) g147_69 (by decide) rfl ?_
                   refine E_icne (pc' := 73) (pt := 78) g147_70 rfl rfl (fun c13 => ?_) (fun c13 => ?_)
                   · first
                     | (exfalso; omega)
                     | (refine E_iload (pc' := 80) g147_78 rfl rfl ?_
                        exact E_iret g147_80 ro147 (congrArg mI (by first | (have q := hr.1 (by omega); omega) | (have q := hr.2 (by omega); omega))) rfl)
                   · first
                     | (exfalso; omega)
                     | (refine E_iload (pc' := 75) g147_73 rfl rfl ?_
                        refine E_goto (pc' := 80) g147_75 rfl ?_
                        exact E_iret g147_80 ro147 (congrArg mI (by first | (have q := hr.1 (by omega); omega) | (have q := hr.2 (by omega); omega))) rfl))
              · first
                | (exfalso; omega)
                | (refine E_iconst (pc' := 66) g147_65 (by decide) rfl ?_
                   refine E_goto (pc' := 70) g147_66 rfl ?_
                   refine E_icne (pc' := 73) (pt := 78) g147_70 rfl rfl (fun c14 => ?_) (fun c14 => ?_)
                   · first
                     | (exfalso; omega)
                     | (refine E_iload (pc' := 80) g147_78 rfl rfl ?_
                        exact E_iret g147_80 ro147 (congrArg mI (by first | (have q := hr.1 (by omega); omega) | (have q := hr.2 (by omega); omega))) rfl)
                   · first
                     | (exfalso; omega)
                     | (refine E_iload (pc' := 75) g147_73 rfl rfl ?_
                        refine E_goto (pc' := 80) g147_75 rfl ?_
                        exact E_iret g147_80 ro147 (congrArg mI (by first | (have q := hr.1 (by omega); omega) | (have q := hr.2 (by omega); omega))) rfl))))
  · replace hr : (g = 0 → r = bo) ∧ (g = 1 → r = ht * sd + 2 * bo) := hr
    refine Call_of rfl ?_
    refine E_aload_n (pc' := 1) g147_0 rfl rfl ?_
    refine E_getR (pc' := 4) g147_1 f147_7 tg7_1 rfl (by first | assumption | exact pt_self (by first | assumption | exact pt_self (by first | assumption | exact pt_self (by first | assumption | exact pt_self (by assumption) | (rw [pt_ne (by omega)]; assumption)) | (rw [pt_ne (by omega)]; first | assumption | exact pt_self (by assumption) | (rw [pt_ne (by omega)]; assumption))) | (rw [pt_ne (by omega)]; first | assumption | exact pt_self (by first | assumption | exact pt_self (by assumption) | (rw [pt_ne (by omega)]; assumption)) | (rw [pt_ne (by omega)]; first | assumption | exact pt_self (by assumption) | (rw [pt_ne (by omega)]; assumption)))) | (rw [pt_ne (by omega)]; first | assumption | exact pt_self (by first | assumption | exact pt_self (by first | assumption | exact pt_self (by assumption) | (rw [pt_ne (by omega)]; assumption)) | (rw [pt_ne (by omega)]; first | assumption | exact pt_self (by assumption) | (rw [pt_ne (by omega)]; assumption))) | (rw [pt_ne (by omega)]; first | assumption | exact pt_self (by first | assumption | exact pt_self (by assumption) | (rw [pt_ne (by omega)]; assumption)) | (rw [pt_ne (by omega)]; first | assumption | exact pt_self (by assumption) | (rw [pt_ne (by omega)]; assumption))))) rfl ?_
    refine E_iconst (pc' := 5) g147_4 (by decide) rfl ?_
    refine E_iald (pc' := 6) (v := bo) g147_5 rfl (by first | assumption | exact pt_self (by first | assumption | exact pt_self (by first | assumption | exact pt_self (by first | assumption | exact pt_self (by assumption) | (rw [pt_ne (by omega)]; assumption)) | (rw [pt_ne (by omega)]; first | assumption | exact pt_self (by assumption) | (rw [pt_ne (by omega)]; assumption))) | (rw [pt_ne (by omega)]; first | assumption | exact pt_self (by first | assumption | exact pt_self (by assumption) | (rw [pt_ne (by omega)]; assumption)) | (rw [pt_ne (by omega)]; first | assumption | exact pt_self (by assumption) | (rw [pt_ne (by omega)]; assumption)))) | (rw [pt_ne (by omega)]; first | assumption | exact pt_self (by first | assumption | exact pt_self (by first | assumption | exact pt_self (by assumption) | (rw [pt_ne (by omega)]; assumption)) | (rw [pt_ne (by omega)]; first | assumption | exact pt_self (by assumption) | (rw [pt_ne (by omega)]; assumption))) | (rw [pt_ne (by omega)]; first | assumption | exact pt_self (by first | assumption | exact pt_self (by assumption) | (rw [pt_ne (by omega)]; assumption)) | (rw [pt_ne (by omega)]; first | assumption | exact pt_self (by assumption) | (rw [pt_ne (by omega)]; assumption))))) (by decide) (by simp) rfl ?_
    refine E_st3 (pc' := 7) g147_6 rfl ?_
    refine E_iload_n (pc' := 8) g147_7 rfl rfl ?_
    refine E_ifne (pc' := 11) (pt := 20) g147_8 rfl rfl (fun c0 => ?_) (fun c0 => ?_)
    · first
      | (exfalso; omega)
      | (refine E_iload_n (pc' := 21) g147_20 rfl rfl ?_
         refine E_st4 (pc' := 23) g147_21 rfl ?_
         refine E_iload_n (pc' := 24) g147_23 rfl rfl ?_
         refine E_ifne (pc' := 27) (pt := 36) g147_24 rfl rfl (fun c1 => ?_) (fun c1 => ?_)
         · first
           | (exfalso; omega)
           | (refine E_aload_n (pc' := 37) g147_36 rfl rfl ?_
              refine E_getR (pc' := 40) g147_37 f147_7 tg7_1 rfl (by first | assumption | exact pt_self (by first | assumption | exact pt_self (by first | assumption | exact pt_self (by first | assumption | exact pt_self (by assumption) | (rw [pt_ne (by omega)]; assumption)) | (rw [pt_ne (by omega)]; first | assumption | exact pt_self (by assumption) | (rw [pt_ne (by omega)]; assumption))) | (rw [pt_ne (by omega)]; first | assumption | exact pt_self (by first | assumption | exact pt_self (by assumption) | (rw [pt_ne (by omega)]; assumption)) | (rw [pt_ne (by omega)]; first | assumption | exact pt_self (by assumption) | (rw [pt_ne (by omega)]; assumption)))) | (rw [pt_ne (by omega)]; first | assumption | exact pt_self (by first | assumption | exact pt_self (by first | assumption | exact pt_self (by assumption) | (rw [pt_ne (by omega)]; assumption)) | (rw [pt_ne (by omega)]; first | assumption | exact pt_self (by assumption) | (rw [pt_ne (by omega)]; assumption))) | (rw [pt_ne (by omega)]; first | assumption | exact pt_self (by first | assumption | exact pt_self (by assumption) | (rw [pt_ne (by omega)]; assumption)) | (rw [pt_ne (by omega)]; first | assumption | exact pt_self (by assumption) | (rw [pt_ne (by omega)]; assumption))))) rfl ?_
              refine E_iload_n (pc' := 41) g147_40 rfl rfl ?_
              refine E_iconst (pc' := 42) g147_41 (by decide) rfl ?_
              refine E_isub (pc' := 43) g147_42 (m_in_iff.mpr (by omega)) rfl ?_
              refine E_iald (pc' := 44) (v := ht) g147_43 rfl (by first | assumption | exact pt_self (by first | assumption | exact pt_self (by first | assumption | exact pt_self (by first | assumption | exact pt_self (by assumption) | (rw [pt_ne (by omega)]; assumption)) | (rw [pt_ne (by omega)]; first | assumption | exact pt_self (by assumption) | (rw [pt_ne (by omega)]; assumption))) | (rw [pt_ne (by omega)]; first | assumption | exact pt_self (by first | assumption | exact pt_self (by assumption) | (rw [pt_ne (by omega)]; assumption)) | (rw [pt_ne (by omega)]; first | assumption | exact pt_self (by assumption) | (rw [pt_ne (by omega)]; assumption)))) | (rw [pt_ne (by omega)]; first | assumption | exact pt_self (by first | assumption | exact pt_self (by first | assumption | exact pt_self (by assumption) | (rw [pt_ne (by omega)]; assumption)) | (rw [pt_ne (by omega)]; first | assumption | exact pt_self (by assumption) | (rw [pt_ne (by omega)]; assumption))) | (rw [pt_ne (by omega)]; first | assumption | exact pt_self (by first | assumption | exact pt_self (by assumption) | (rw [pt_ne (by omega)]; assumption)) | (rw [pt_ne (by omega)]; first | assumption | exact pt_self (by assumption) | (rw [pt_ne (by omega)]; assumption))))) (by decide) (by simp) rfl ?_
              refine E_aload_n (pc' := 45) g147_44 rfl rfl ?_
              refine E_getR (pc' := 48) g147_45 f147_7 tg7_1 rfl (by first | assumption | exact pt_self (by first | assumption | exact pt_self (by first | assumption | exact pt_self (by first | assumption | exact pt_self (by assumption) | (rw [pt_ne (by omega)]; assumption)) | (rw [pt_ne (by omega)]; first | assumption | exact pt_self (by assumption) | (rw [pt_ne (by omega)]; assumption))) | (rw [pt_ne (by omega)]; first | assumption | exact pt_self (by first | assumption | exact pt_self (by assumption) | (rw [pt_ne (by omega)]; assumption)) | (rw [pt_ne (by omega)]; first | assumption | exact pt_self (by assumption) | (rw [pt_ne (by omega)]; assumption)))) | (rw [pt_ne (by omega)]; first | assumption | exact pt_self (by first | assumption | exact pt_self (by first | assumption | exact pt_self (by assumption) | (rw [pt_ne (by omega)]; assumption)) | (rw [pt_ne (by omega)]; first | assumption | exact pt_self (by assumption) | (rw [pt_ne (by omega)]; assumption))) | (rw [pt_ne (by omega)]; first | assumption | exact pt_self (by first | assumption | exact pt_self (by assumption) | (rw [pt_ne (by omega)]; assumption)) | (rw [pt_ne (by omega)]; first | assumption | exact pt_self (by assumption) | (rw [pt_ne (by omega)]; assumption))))) rfl ?_
              refine E_iconst (pc' := 49) g147_48 (by decide) rfl ?_
              refine E_iald (pc' := 50) (v := sd) g147_49 rfl (by first | assumption | exact pt_self (by first | assumption | exact pt_self (by first | assumption | exact pt_self (by first | assumption | exact pt_self (by assumption) | (rw [pt_ne (by omega)]; assumption)) | (rw [pt_ne (by omega)]; first | assumption | exact pt_self (by assumption) | (rw [pt_ne (by omega)]; assumption))) | (rw [pt_ne (by omega)]; first | assumption | exact pt_self (by first | assumption | exact pt_self (by assumption) | (rw [pt_ne (by omega)]; assumption)) | (rw [pt_ne (by omega)]; first | assumption | exact pt_self (by assumption) | (rw [pt_ne (by omega)]; assumption)))) | (rw [pt_ne (by omega)]; first | assumption | exact pt_self (by first | assumption | exact pt_self (by first | assumption | exact pt_self (by assumption) | (rw [pt_ne (by omega)]; assumption)) | (rw [pt_ne (by omega)]; first | assumption | exact pt_self (by assumption) | (rw [pt_ne (by omega)]; assumption))) | (rw [pt_ne (by omega)]; first | assumption | exact pt_self (by first | assumption | exact pt_self (by assumption) | (rw [pt_ne (by omega)]; assumption)) | (rw [pt_ne (by omega)]; first | assumption | exact pt_self (by assumption) | (rw [pt_ne (by omega)]; assumption))))) (by decide) (by simp) rfl ?_
              refine E_imul (pc' := 51) g147_50 (m_in_iff.mpr (by omega)) rfl ?_
              refine E_iconst (pc' := 52) g147_51 (by decide) rfl ?_
              refine E_iload_n (pc' := 53) g147_52 rfl rfl ?_
              refine E_imul (pc' := 54) g147_53 (m_in_iff.mpr (by omega)) rfl ?_
              refine E_iadd (pc' := 55) g147_54 (m_in_iff.mpr (by omega)) rfl ?_
              refine E_st5 (pc' := 57) g147_55 rfl ?_
              refine E_iload_n (pc' := 58) g147_57 rfl rfl ?_
              refine E_iload (pc' := 60) g147_58 rfl rfl ?_
              refine E_iload (pc' := 62) g147_60 rfl rfl ?_
              refine E_icle (pc' := 65) (pt := 69) g147_62 rfl rfl (fun c2 => ?_) (fun c2 => ?_)
              · first
                | (exfalso; omega)
                | (refine E_iconst (pc' := 70) g147_69 (by decide) rfl ?_
                   refine E_icne (pc' := 73) (pt := 78) g147_70 rfl rfl (fun c3 => ?_) (fun c3 => ?_)
                   · first
                     | (exfalso; omega)
                     | (refine E_iload (pc' := 80) g147_78 rfl rfl ?_
                        exact E_iret g147_80 ro147 (congrArg mI (by first | (have q := hr.1 (by omega); omega) | (have q := hr.2 (by omega); omega))) rfl)
                   · first
                     | (exfalso; omega)
                     | (refine E_iload (pc' := 75) g147_73 rfl rfl ?_
                        refine E_goto (pc' := 80) g147_75 rfl ?_
                        exact E_iret g147_80 ro147 (congrArg mI (by first | (have q := hr.1 (by omega); omega) | (have q := hr.2 (by omega); omega))) rfl))
              · first
                | (exfalso; omega)
                | (refine E_iconst (pc' := 66) g147_65 (by decide) rfl ?_
                   refine E_goto (pc' := 70) g147_66 rfl ?_
                   refine E_icne (pc' := 73) (pt := 78) g147_70 rfl rfl (fun c4 => ?_) (fun c4 => ?_)
                   · first
                     | (exfalso; omega)
                     | (refine E_iload (pc' := 80) g147_78 rfl rfl ?_
                        exact E_iret g147_80 ro147 (congrArg mI (by first | (have q := hr.1 (by omega); omega) | (have q := hr.2 (by omega); omega))) rfl)
                   · first
                     | (exfalso; omega)
                     | (refine E_iload (pc' := 75) g147_73 rfl rfl ?_
                        refine E_goto (pc' := 80) g147_75 rfl ?_
                        exact E_iret g147_80 ro147 (congrArg mI (by first | (have q := hr.1 (by omega); omega) | (have q := hr.2 (by omega); omega))) rfl)))
         · first
           | (exfalso; omega)
           | (refine E_aload_n (pc' := 28) g147_27 rfl rfl ?_
              refine E_getR (pc' := 31) g147_28 f147_7 tg7_1 rfl (by first | assumption | exact pt_self (by first | assumption | exact pt_self (by first | assumption | exact pt_self (by first | assumption | exact pt_self (by assumption) | (rw [pt_ne (by omega)]; assumption)) | (rw [pt_ne (by omega)]; first | assumption | exact pt_self (by assumption) | (rw [pt_ne (by omega)]; assumption))) | (rw [pt_ne (by omega)]; first | assumption | exact pt_self (by first | assumption | exact pt_self (by assumption) | (rw [pt_ne (by omega)]; assumption)) | (rw [pt_ne (by omega)]; first | assumption | exact pt_self (by assumption) | (rw [pt_ne (by omega)]; assumption)))) | (rw [pt_ne (by omega)]; first | assumption | exact pt_self (by first | assumption | exact pt_self (by first | assumption | exact pt_self (by assumption) | (rw [pt_ne (by omega)]; assumption)) | (rw [pt_ne (by omega)]; first | assumption | exact pt_self (by assumption) | (rw [pt_ne (by omega)]; assumption))) | (rw [pt_ne (by omega)]; first | assumption | exact pt_self (by first | assumption | exact pt_self (by assumption) | (rw [pt_ne (by omega)]; assumption)) | (rw [pt_ne (by omega)]; first | assumption | exact pt_self (by assumption) | (rw [pt_ne (by omega)]; assumption))))) rfl ?_
              refine E_iconst (pc' := 32) g147_31 (by decide) rfl ?_
              refine E_iald (pc' := 33) (v := sd) g147_32 rfl (by first | assumption | exact pt_self (by first | assumption | exact pt_self (by first | assumption | exact pt_self (by first | assumption | exact pt_self (by assumption) | (rw [pt_ne (by omega)]; assumption)) | (rw [pt_ne (by omega)]; first | assumption | exact pt_self (by assumption) | (rw [pt_ne (by omega)]; assumption))) | (rw [pt_ne (by omega)]; first | assumption | exact pt_self (by first | assumption | exact pt_self (by assumption) | (rw [pt_ne (by omega)]; assumption)) | (rw [pt_ne (by omega)]; first | assumption | exact pt_self (by assumption) | (rw [pt_ne (by omega)]; assumption)))) | (rw [pt_ne (by omega)]; first | assumption | exact pt_self (by first | assumption | exact pt_self (by first | assumption | exact pt_self (by assumption) | (rw [pt_ne (by omega)]; assumption)) | (rw [pt_ne (by omega)]; first | assumption | exact pt_self (by assumption) | (rw [pt_ne (by omega)]; assumption))) | (rw [pt_ne (by omega)]; first | assumption | exact pt_self (by first | assumption | exact pt_self (by assumption) | (rw [pt_ne (by omega)]; assumption)) | (rw [pt_ne (by omega)]; first | assumption | exact pt_self (by assumption) | (rw [pt_ne (by omega)]; assumption))))) (by decide) (by simp) rfl ?_
              refine E_goto (pc' := 55) g147_33 rfl ?_
              refine E_st5 (pc' := 57) g147_55 rfl ?_
              refine E_iload_n (pc' := 58) g147_57 rfl rfl ?_
              refine E_iload (pc' := 60) g147_58 rfl rfl ?_
              refine E_iload (pc' := 62) g147_60 rfl rfl ?_
              refine E_icle (pc' := 65) (pt := 69) g147_62 rfl rfl (fun c5 => ?_) (fun c5 => ?_)
              · first
                | (exfalso; omega)
                | (refine E_iconst (pc' := 70) g147_69 (by decide) rfl ?_
                   refine E_icne (pc' := 73) (pt := 78) g147_70 rfl rfl (fun c6 => ?_) (fun c6 => ?_)
                   · first
                     | (exfalso; omega)
                     | (refine E_iload (pc' := 80) g147_78 rfl rfl ?_
                        exact E_iret g147_80 ro147 (congrArg mI (by first | (have q := hr.1 (by omega); omega) | (have q := hr.2 (by omega); omega))) rfl)
                   · first
                     | (exfalso; omega)
                     | (refine E_iload (pc' := 75) g147_73 rfl rfl ?_
                        refine E_goto (pc' := 80) g147_75 rfl ?_
                        exact E_iret g147_80 ro147 (congrArg mI (by first | (have q := hr.1 (by omega); omega) | (have q := hr.2 (by omega); omega))) rfl))
              · first
                | (exfalso; omega)
                | (refine E_iconst (pc' := 66) g147_65 (by decide) rfl ?_
                   refine E_goto (pc' := 70) g147_66 rfl ?_
                   refine E_icne (pc' := 73) (pt := 78) g147_70 rfl rfl (fun c7 => ?_) (fun c7 => ?_)
                   · first
                     | (exfalso; omega)
                     | (refine E_iload (pc' := 80) g147_78 rfl rfl ?_
                        exact E_iret g147_80 ro147 (congrArg mI (by first | (have q := hr.1 (by omega); omega) | (have q := hr.2 (by omega); omega))) rfl)
                   · first
                     | (exfalso; omega)
                     | (refine E_iload (pc' := 75) g147_73 rfl rfl ?_
                        refine E_goto (pc' := 80) g147_75 rfl ?_
                        exact E_iret g147_80 ro147 (congrArg mI (by first | (have q := hr.1 (by omega); omega) | (have q := hr.2 (by omega); omega))) rfl))))
    · first
      | (exfalso; omega)
      | (refine E_aload_n (pc' := 12) g147_11 rfl rfl ?_
         refine E_getR (pc' := 15) g147_12 f147_7 tg7_1 rfl (by first | assumption | exact pt_self (by first | assumption | exact pt_self (by first | assumption | exact pt_self (by first | assumption | exact pt_self (by assumption) | (rw [pt_ne (by omega)]; assumption)) | (rw [pt_ne (by omega)]; first | assumption | exact pt_self (by assumption) | (rw [pt_ne (by omega)]; assumption))) | (rw [pt_ne (by omega)]; first | assumption | exact pt_self (by first | assumption | exact pt_self (by assumption) | (rw [pt_ne (by omega)]; assumption)) | (rw [pt_ne (by omega)]; first | assumption | exact pt_self (by assumption) | (rw [pt_ne (by omega)]; assumption)))) | (rw [pt_ne (by omega)]; first | assumption | exact pt_self (by first | assumption | exact pt_self (by first | assumption | exact pt_self (by assumption) | (rw [pt_ne (by omega)]; assumption)) | (rw [pt_ne (by omega)]; first | assumption | exact pt_self (by assumption) | (rw [pt_ne (by omega)]; assumption))) | (rw [pt_ne (by omega)]; first | assumption | exact pt_self (by first | assumption | exact pt_self (by assumption) | (rw [pt_ne (by omega)]; assumption)) | (rw [pt_ne (by omega)]; first | assumption | exact pt_self (by assumption) | (rw [pt_ne (by omega)]; assumption))))) rfl ?_
         refine E_iconst (pc' := 16) g147_15 (by decide) rfl ?_
         refine E_iald (pc' := 17) (v := sd) g147_16 rfl (by first | assumption | exact pt_self (by first | assumption | exact pt_self (by first | assumption | exact pt_self (by first | assumption | exact pt_self (by assumption) | (rw [pt_ne (by omega)]; assumption)) | (rw [pt_ne (by omega)]; first | assumption | exact pt_self (by assumption) | (rw [pt_ne (by omega)]; assumption))) | (rw [pt_ne (by omega)]; first | assumption | exact pt_self (by first | assumption | exact pt_self (by assumption) | (rw [pt_ne (by omega)]; assumption)) | (rw [pt_ne (by omega)]; first | assumption | exact pt_self (by assumption) | (rw [pt_ne (by omega)]; assumption)))) | (rw [pt_ne (by omega)]; first | assumption | exact pt_self (by first | assumption | exact pt_self (by first | assumption | exact pt_self (by assumption) | (rw [pt_ne (by omega)]; assumption)) | (rw [pt_ne (by omega)]; first | assumption | exact pt_self (by assumption) | (rw [pt_ne (by omega)]; assumption))) | (rw [pt_ne (by omega)]; first | assumption | exact pt_self (by first | assumption | exact pt_self (by assumption) | (rw [pt_ne (by omega)]; assumption)) | (rw [pt_ne (by omega)]; first | assumption | exact pt_self (by assumption) | (rw [pt_ne (by omega)]; assumption))))) (by decide) (by simp) rfl ?_
         refine E_goto (pc' := 21) g147_17 rfl ?_
         refine E_st4 (pc' := 23) g147_21 rfl ?_
         refine E_iload_n (pc' := 24) g147_23 rfl rfl ?_
         refine E_ifne (pc' := 27) (pt := 36) g147_24 rfl rfl (fun c8 => ?_) (fun c8 => ?_)
         · first
           | (exfalso; omega)
           | (refine E_aload_n (pc' := 37) g147_36 rfl rfl ?_
              refine E_getR (pc' := 40) g147_37 f147_7 tg7_1 rfl (by first | assumption | exact pt_self (by first | assumption | exact pt_self (by first | assumption | exact pt_self (by first | assumption | exact pt_self (by assumption) | (rw [pt_ne (by omega)]; assumption)) | (rw [pt_ne (by omega)]; first | assumption | exact pt_self (by assumption) | (rw [pt_ne (by omega)]; assumption))) | (rw [pt_ne (by omega)]; first | assumption | exact pt_self (by first | assumption | exact pt_self (by assumption) | (rw [pt_ne (by omega)]; assumption)) | (rw [pt_ne (by omega)]; first | assumption | exact pt_self (by assumption) | (rw [pt_ne (by omega)]; assumption)))) | (rw [pt_ne (by omega)]; first | assumption | exact pt_self (by first | assumption | exact pt_self (by first | assumption | exact pt_self (by assumption) | (rw [pt_ne (by omega)]; assumption)) | (rw [pt_ne (by omega)]; first | assumption | exact pt_self (by assumption) | (rw [pt_ne (by omega)]; assumption))) | (rw [pt_ne (by omega)]; first | assumption | exact pt_self (by first | assumption | exact pt_self (by assumption) | (rw [pt_ne (by omega)]; assumption)) | (rw [pt_ne (by omega)]; first | assumption | exact pt_self (by assumption) | (rw [pt_ne (by omega)]; assumption))))) rfl ?_
              refine E_iload_n (pc' := 41) g147_40 rfl rfl ?_
              refine E_iconst (pc' := 42) g147_41 (by decide) rfl ?_
              refine E_isub (pc' := 43) g147_42 (m_in_iff.mpr (by omega)) rfl ?_
              refine E_iald (pc' := 44) (v := ht) g147_43 rfl (by first | assumption | exact pt_self (by first | assumption | exact pt_self (by first | assumption | exact pt_self (by first | assumption | exact pt_self (by assumption) | (rw [pt_ne (by omega)]; assumption)) | (rw [pt_ne (by omega)]; first | assumption | exact pt_self (by assumption) | (rw [pt_ne (by omega)]; assumption))) | (rw [pt_ne (by omega)]; first | assumption | exact pt_self (by first | assumption | exact pt_self (by assumption) | (rw [pt_ne (by omega)]; assumption)) | (rw [pt_ne (by omega)]; first | assumption | exact pt_self (by assumption) | (rw [pt_ne (by omega)]; assumption)))) | (rw [pt_ne (by omega)]; first | assumption | exact pt_self (by first | assumption | exact pt_self (by first | assumption | exact pt_self (by assumption) | (rw [pt_ne (by omega)]; assumption)) | (rw [pt_ne (by omega)]; first | assumption | exact pt_self (by assumption) | (rw [pt_ne (by omega)]; assumption))) | (rw [pt_ne (by omega)]; first | assumption | exact pt_self (by first | assumption | exact pt_self (by assumption) | (rw [pt_ne (by omega)]; assumption)) | (rw [pt_ne (by omega)]; first | assumption | exact pt_self (by assumption) | (rw [pt_ne (by omega)]; assumption))))) (by decide) (by simp) rfl ?_
              refine E_aload_n (pc' := 45) g147_44 rfl rfl ?_
              refine E_getR (pc' := 48) g147_45 f147_7 tg7_1 rfl (by first | assumption | exact pt_self (by first | assumption | exact pt_self (by first | assumption | exact pt_self (by first | assumption | exact pt_self (by assumption) | (rw [pt_ne (by omega)]; assumption)) | (rw [pt_ne (by omega)]; first | assumption | exact pt_self (by assumption) | (rw [pt_ne (by omega)]; assumption))) | (rw [pt_ne (by omega)]; first | assumption | exact pt_self (by first | assumption | exact pt_self (by assumption) | (rw [pt_ne (by omega)]; assumption)) | (rw [pt_ne (by omega)]; first | assumption | exact pt_self (by assumption) | (rw [pt_ne (by omega)]; assumption)))) | (rw [pt_ne (by omega)]; first | assumption | exact pt_self (by first | assumption | exact pt_self (by first | assumption | exact pt_self (by assumption) | (rw [pt_ne (by omega)]; assumption)) | (rw [pt_ne (by omega)]; first | assumption | exact pt_self (by assumption) | (rw [pt_ne (by omega)]; assumption))) | (rw [pt_ne (by omega)]; first | assumption | exact pt_self (by first | assumption | exact pt_self (by assumption) | (rw [pt_ne (by omega)]; assumption)) | (rw [pt_ne (by omega)]; first | assumption | exact pt_self (by assumption) | (rw [pt_ne (by omega)]; assumption))))) rfl ?_
              refine E_iconst (pc' := 49) g147_48 (by decide) rfl ?_
              refine E_iald (pc' := 50) (v := sd) g147_49 rfl (by first | assumption | exact pt_self (by first | assumption | exact pt_self (by first | assumption | exact pt_self (by first | assumption | exact pt_self (by assumption) | (rw [pt_ne (by omega)]; assumption)) | (rw [pt_ne (by omega)]; first | assumption | exact pt_self (by assumption) | (rw [pt_ne (by omega)]; assumption))) | (rw [pt_ne (by omega)]; first | assumption | exact pt_self (by first | assumption | exact pt_self (by assumption) | (rw [pt_ne (by omega)]; assumption)) | (rw [pt_ne (by omega)]; first | assumption | exact pt_self (by assumption) | (rw [pt_ne (by omega)]; assumption)))) | (rw [pt_ne (by omega)]; first | assumption | exact pt_self (by first | assumption | exact pt_self (by first | assumption | exact pt_self (by assumption) | (rw [pt_ne (by omega)]; assumption)) | (rw [pt_ne (by omega)]; first | assumption | exact pt_self (by assumption) | (rw [pt_ne (by omega)]; assumption))) | (rw [pt_ne (by omega)]; first | assumption | exact pt_self (by first | assumption | exact pt_self (by assumption) | (rw [pt_ne (by omega)]; assumption)) | (rw [pt_ne (by omega)]; first | assumption | exact pt_self (by assumption) | (rw [pt_ne (by omega)]; assumption))))) (by decide) (by simp) rfl ?_
              refine E_imul (pc' := 51) g147_50 (m_in_iff.mpr (by omega)) rfl ?_
              refine E_iconst (pc' := 52) g147_51 (by decide) rfl ?_
              refine E_iload_n (pc' := 53) g147_52 rfl rfl ?_
              refine E_imul (pc' := 54) g147_53 (m_in_iff.mpr (by omega)) rfl ?_
              refine E_iadd (pc' := 55) g147_54 (m_in_iff.mpr (by omega)) rfl ?_
              refine E_st5 (pc' := 57) g147_55 rfl ?_
              refine E_iload_n (pc' := 58) g147_57 rfl rfl ?_
              refine E_iload (pc' := 60) g147_58 rfl rfl ?_
              refine E_iload (pc' := 62) g147_60 rfl rfl ?_
              refine E_icle (pc' := 65) (pt := 69) g147_62 rfl rfl (fun c9 => ?_) (fun c9 => ?_)
              · first
                | (exfalso; omega)
                | (refine E_iconst (pc' := 70) g147_69 (by decide) rfl ?_
                   refine E_icne (pc' := 73) (pt := 78) g147_70 rfl rfl (fun c10 => ?_) (fun c10 => ?_)
                   · first
                     | (exfalso; omega)
                     | (refine E_iload (pc' := 80) g147_78 rfl rfl ?_
                        exact E_iret g147_80 ro147 (congrArg mI (by first | (have q := hr.1 (by omega); omega) | (have q := hr.2 (by omega); omega))) rfl)
                   · first
                     | (exfalso; omega)
                     | (refine E_iload (pc' := 75) g147_73 rfl rfl ?_
                        refine E_goto (pc' := 80) g147_75 rfl ?_
                        exact E_iret g147_80 ro147 (congrArg mI (by first | (have q := hr.1 (by omega); omega) | (have q := hr.2 (by omega); omega))) rfl))
              · first
                | (exfalso; omega)
                | (refine E_iconst (pc' := 66) g147_65 (by decide) rfl ?_
                   refine E_goto (pc' := 70) g147_66 rfl ?_
                   refine E_icne (pc' := 73) (pt := 78) g147_70 rfl rfl (fun c11 => ?_) (fun c11 => ?_)
                   · first
                     | (exfalso; omega)
                     | (refine E_iload (pc' := 80) g147_78 rfl rfl ?_
                        exact E_iret g147_80 ro147 (congrArg mI (by first | (have q := hr.1 (by omega); omega) | (have q := hr.2 (by omega); omega))) rfl)
                   · first
                     | (exfalso; omega)
                     | (refine E_iload (pc' := 75) g147_73 rfl rfl ?_
                        refine E_goto (pc' := 80) g147_75 rfl ?_
                        exact E_iret g147_80 ro147 (congrArg mI (by first | (have q := hr.1 (by omega); omega) | (have q := hr.2 (by omega); omega))) rfl)))
         · first
           | (exfalso; omega)
           | (refine E_aload_n (pc' := 28) g147_27 rfl rfl ?_
              refine E_getR (pc' := 31) g147_28 f147_7 tg7_1 rfl (by first | assumption | exact pt_self (by first | assumption | exact pt_self (by first | assumption | exact pt_self (by first | assumption | exact pt_self (by assumption) | (rw [pt_ne (by omega)]; assumption)) | (rw [pt_ne (by omega)]; first | assumption | exact pt_self (by assumption) | (rw [pt_ne (by omega)]; assumption))) | (rw [pt_ne (by omega)]; first | assumption | exact pt_self (by first | assumption | exact pt_self (by assumption) | (rw [pt_ne (by omega)]; assumption)) | (rw [pt_ne (by omega)]; first | assumption | exact pt_self (by assumption) | (rw [pt_ne (by omega)]; assumption)))) | (rw [pt_ne (by omega)]; first | assumption | exact pt_self (by first | assumption | exact pt_self (by first | assumption | exact pt_self (by assumption) | (rw [pt_ne (by omega)]; assumption)) | (rw [pt_ne (by omega)]; first | assumption | exact pt_self (by assumption) | (rw [pt_ne (by omega)]; assumption))) | (rw [pt_ne (by omega)]; first | assumption | exact pt_self (by first | assumption | exact pt_self (by assumption) | (rw [pt_ne (by omega)]; assumption)) | (rw [pt_ne (by omega)]; first | assumption | exact pt_self (by assumption) | (rw [pt_ne (by omega)]; assumption))))) rfl ?_
              refine E_iconst (pc' := 32) g147_31 (by decide) rfl ?_
              refine E_iald (pc' := 33) (v := sd) g147_32 rfl (by first | assumption | exact pt_self (by first | assumption | exact pt_self (by first | assumption | exact pt_self (by first | assumption | exact pt_self (by assumption) | (rw [pt_ne (by omega)]; assumption)) | (rw [pt_ne (by omega)]; first | assumption | exact pt_self (by assumption) | (rw [pt_ne (by omega)]; assumption))) | (rw [pt_ne (by omega)]; first | assumption | exact pt_self (by first | assumption | exact pt_self (by assumption) | (rw [pt_ne (by omega)]; assumption)) | (rw [pt_ne (by omega)]; first | assumption | exact pt_self (by assumption) | (rw [pt_ne (by omega)]; assumption)))) | (rw [pt_ne (by omega)]; first | assumption | exact pt_self (by first | assumption | exact pt_self (by first | assumption | exact pt_self (by assumption) | (rw [pt_ne (by omega)]; assumption)) | (rw [pt_ne (by omega)]; first | assumption | exact pt_self (by assumption) | (rw [pt_ne (by omega)]; assumption))) | (rw [pt_ne (by omega)]; first | assumption | exact pt_self (by first | assumption | exact pt_self (by assumption) | (rw [pt_ne (by omega)]; assumption)) | (rw [pt_ne (by omega)]; first | assumption | exact pt_self (by assumption) | (rw [pt_ne (by omega)]; assumption))))) (by decide) (by simp) rfl ?_
              refine E_goto (pc' := 55) g147_33 rfl ?_
              refine E_st5 (pc' := 57) g147_55 rfl ?_
              refine E_iload_n (pc' := 58) g147_57 rfl rfl ?_
              refine E_iload (pc' := 60) g147_58 rfl rfl ?_
              refine E_iload (pc' := 62) g147_60 rfl rfl ?_
              refine E_icle (pc' := 65) (pt := 69) g147_62 rfl rfl (fun c12 => ?_) (fun c12 => ?_)
              · first
                | (exfalso; omega)
                | (refine E_iconst (pc' := 70) g147_69 (by decide) rfl ?_
                   refine E_icne (pc' := 73) (pt := 78) g147_70 rfl rfl (fun c13 => ?_) (fun c13 => ?_)
                   · first
                     | (exfalso; omega)
                     | (refine E_iload (pc' := 80) g147_78 rfl rfl ?_
                        exact E_iret g147_80 ro147 (congrArg mI (by first | (have q := hr.1 (by omega); omega) | (have q := hr.2 (by omega); omega))) rfl)
                   · first
                     | (exfalso; omega)
                     | (refine E_iload (pc' := 75) g147_73 rfl rfl ?_
                        refine E_goto (pc' := 80) g147_75 rfl ?_
                        exact E_iret g147_80 ro147 (congrArg mI (by first | (have q := hr.1 (by omega); omega) | (have q := hr.2 (by omega); omega))) rfl))
              · first
                | (exfalso; omega)
                | (refine E_iconst (pc' := 66) g147_65 (by decide) rfl ?_
                   refine E_goto (pc' := 70) g147_66 rfl ?_
                   refine E_icne (pc' := 73) (pt := 78) g147_70 rfl rfl (fun c14 => ?_) (fun c14 => ?_)
                   · first
                     | (exfalso; omega)
                     | (refine E_iload (pc' := 80) g147_78 rfl rfl ?_
                        exact E_iret g147_80 ro147 (congrArg mI (by first | (have q := hr.1 (by omega); omega) | (have q := hr.2 (by omega); omega))) rfl)
                   · first
                     | (exfalso; omega)
                     | (refine E_iload (pc' := 75) g147_73 rfl rfl ?_
                        refine E_goto (pc' := 80) g147_75 rfl ?_
                        exact E_iret g147_80 ro147 (congrArg mI (by first | (have q := hr.1 (by omega); omega) | (have q := hr.2 (by omega); omega))) rfl))))
/-- the lowest piece that a rectangle is -/
def pcQ (ls gr : List Int) (a b : Int) (p : Nat) : Prop := ix ls p = min a b ∧ ix gr p = max a b
def pcR (ls gr : List Int) (a b r : Int) : Prop := (∀ p : Nat, p < 3 → pcQ ls gr a b p → (∀ j : Nat, j < p → ¬ pcQ ls gr a b j) → r = p) ∧ ((∀ p : Nat, p < 3 → ¬ pcQ ls gr a b p) → r = -9)
theorem M_pieceOf (hM : H[74]? = some (7, mdL kd un nk le ap nu me op de fo bs bu)) (hD : okD kd wd ht rm mo sd bo ed hu) (hz : H[75]? = some (8, [wd, ht, rm, mo, sd, bo])) {a b r : Int} (hr : pcR [sd, bo, bo] [sd, wd * sd + 2 * bo, ht * sd + 2 * bo] a b r) : Call 1 148 [mR 74, mI a, mI b] H (mI r) H := by
  generalize hls : [sd, bo, bo] = ls at hr
  generalize hgr : [sd, wd * sd + 2 * bo, ht * sd + 2 * bo] = gr at hr
  have hmin : min a b = if a < b then a else b := by split <;> omega
  have hmax : max a b = if a < b then b else a := by split <;> omega
  refine Call_of rfl ?_
  refine E_iload_n (pc' := 1) g148_0 rfl rfl ?_
  refine E_iload_n (pc' := 2) g148_1 rfl rfl ?_
  refine E_icge (pc' := 5) (pt := 9) g148_2 rfl rfl (fun c0 => ?_) (fun c0 => ?_)
  · first
    | (exfalso; omega)
    | (refine E_iload_n (pc' := 10) g148_9 rfl rfl ?_
       refine E_st3 (pc' := 11) g148_10 rfl ?_
       refine E_iload_n (pc' := 12) g148_11 rfl rfl ?_
       refine E_iload_n (pc' := 13) g148_12 rfl rfl ?_
       refine E_icge (pc' := 16) (pt := 20) g148_13 rfl rfl (fun c1 => ?_) (fun c1 => ?_)
       · first
         | (exfalso; omega)
         | (refine E_iload_n (pc' := 21) g148_20 rfl rfl ?_
            refine E_st4 (pc' := 23) g148_21 rfl ?_
            refine E_iconst (pc' := 24) g148_23 (by decide) rfl ?_
            refine E_st5 (pc' := 26) g148_24 rfl ?_
            refine Ev_cast (ls := [mR 74, mI a, mI b, mI (min a b), mI (max a b), mI ((0 : Nat) : Int)]) ?_ (by rw [hmin, hmax]; first | rw [if_pos (by omega), if_pos (by omega)]; rfl | rw [if_neg (by omega), if_neg (by omega)]; rfl) rfl
            refine (E_loop (n := 3) (fun i => (∀ j : Nat, j < i → ¬ pcQ ls gr a b j) → Ev 1 148 26 [mR 74, mI a, mI b, mI (min a b), mI (max a b), mI (i : Int)] [] H (mI r) H) ?_ ?_ 0 (by omega)) (fun j hj => absurd hj (by omega))
            · intro i hi hh hall
              refine E_iload (pc' := 28) g148_26 rfl rfl ?_
              refine E_iconst (pc' := 29) g148_28 (by decide) rfl ?_
              refine E_icge (pc' := 32) (pt := 64) g148_29 rfl rfl (fun c0 => ?_) (fun c0 => ?_)
              · exact absurd c0 (by omega)
              · refine E_aload_n (pc' := 33) g148_32 rfl rfl ?_
                refine E_iload (pc' := 35) g148_33 rfl rfl ?_
                refine E_iconst (pc' := 36) g148_35 (by decide) rfl ?_
                refine E_cV2i (pc' := 39) g148_36 k148_201 na147 rfl ow147 rfl (Nat.le_of_ble_eq_true rfl) (by assumption) (M_side hM hD hz (p := (i : Int)) (by omega) (Or.inl rfl) (r := ix ls i) ⟨fun q => by rw [hls], fun q => absurd q (by omega)⟩) (by decide) ?_
                refine E_iload_n (pc' := 40) g148_39 rfl rfl ?_
                refine E_icne (pc' := 43) (pt := 58) g148_40 rfl rfl (fun c1 => ?_) (fun c1 => ?_)
                · refine E_in5 (pc' := 61) g148_58 rfl (m_in_iff.mpr (by omega)) ?_
                  refine E_goto (pc' := 26) g148_61 rfl ?_
                  refine hh (fun j hj => ?_)
                  rcases Nat.lt_or_ge j i with q | q
                  · exact hall j q
                  · rw [show j = i by omega]; rintro ⟨w1, w2⟩; first | exact absurd w1 (by assumption) | exact absurd w2 (by assumption)
                · refine E_aload_n (pc' := 44) g148_43 rfl rfl ?_
                  refine E_iload (pc' := 46) g148_44 rfl rfl ?_
                  refine E_iconst (pc' := 47) g148_46 (by decide) rfl ?_
                  refine E_cV2i (pc' := 50) g148_47 k148_201 na147 rfl ow147 rfl (Nat.le_of_ble_eq_true rfl) (by assumption) (M_side hM hD hz (p := (i : Int)) (by omega) (Or.inr rfl) (r := ix gr i) ⟨fun q => absurd q (by omega), fun q => by rw [hgr]⟩) (by decide) ?_
                  refine E_iload (pc' := 52) g148_50 rfl rfl ?_
                  refine E_icne (pc' := 55) (pt := 58) g148_52 rfl rfl (fun c2 => ?_) (fun c2 => ?_)
                  · refine E_in5 (pc' := 61) g148_58 rfl (m_in_iff.mpr (by omega)) ?_
                    refine E_goto (pc' := 26) g148_61 rfl ?_
                    refine hh (fun j hj => ?_)
                    rcases Nat.lt_or_ge j i with q | q
                    · exact hall j q
                    · rw [show j = i by omega]; rintro ⟨w1, w2⟩; first | exact absurd w1 (by assumption) | exact absurd w2 (by assumption)
                  · refine E_iload (pc' := 57) g148_55 rfl rfl ?_
                    exact E_iret g148_57 ro148 (by rw [hr.1 i (by omega) ⟨by assumption, by assumption⟩ hall]) rfl
            · intro hall
              refine E_iload (pc' := 28) g148_26 rfl rfl ?_
              refine E_iconst (pc' := 29) g148_28 (by decide) rfl ?_
              refine E_icge (pc' := 32) (pt := 64) g148_29 rfl rfl (fun c0 => ?_) (fun c0 => ?_)
              · refine E_bipush (pc' := 66) g148_64 (by decide) rfl ?_
                exact E_iret g148_66 ro148 (by rw [hr.2 hall]) rfl
              · exact absurd c0 (by omega))
       · first
         | (exfalso; omega)
         | (refine E_iload_n (pc' := 17) g148_16 rfl rfl ?_
            refine E_goto (pc' := 21) g148_17 rfl ?_
            refine E_st4 (pc' := 23) g148_21 rfl ?_
            refine E_iconst (pc' := 24) g148_23 (by decide) rfl ?_
            refine E_st5 (pc' := 26) g148_24 rfl ?_
            refine Ev_cast (ls := [mR 74, mI a, mI b, mI (min a b), mI (max a b), mI ((0 : Nat) : Int)]) ?_ (by rw [hmin, hmax]; first | rw [if_pos (by omega), if_pos (by omega)]; rfl | rw [if_neg (by omega), if_neg (by omega)]; rfl) rfl
            refine (E_loop (n := 3) (fun i => (∀ j : Nat, j < i → ¬ pcQ ls gr a b j) → Ev 1 148 26 [mR 74, mI a, mI b, mI (min a b), mI (max a b), mI (i : Int)] [] H (mI r) H) ?_ ?_ 0 (by omega)) (fun j hj => absurd hj (by omega))
            · intro i hi hh hall
              refine E_iload (pc' := 28) g148_26 rfl rfl ?_
              refine E_iconst (pc' := 29) g148_28 (by decide) rfl ?_
              refine E_icge (pc' := 32) (pt := 64) g148_29 rfl rfl (fun c0 => ?_) (fun c0 => ?_)
              · exact absurd c0 (by omega)
              · refine E_aload_n (pc' := 33) g148_32 rfl rfl ?_
                refine E_iload (pc' := 35) g148_33 rfl rfl ?_
                refine E_iconst (pc' := 36) g148_35 (by decide) rfl ?_
                refine E_cV2i (pc' := 39) g148_36 k148_201 na147 rfl ow147 rfl (Nat.le_of_ble_eq_true rfl) (by assumption) (M_side hM hD hz (p := (i : Int)) (by omega) (Or.inl rfl) (r := ix ls i) ⟨fun q => by rw [hls], fun q => absurd q (by omega)⟩) (by decide) ?_
                refine E_iload_n (pc' := 40) g148_39 rfl rfl ?_
                refine E_icne (pc' := 43) (pt := 58) g148_40 rfl rfl (fun c1 => ?_) (fun c1 => ?_)
                · refine E_in5 (pc' := 61) g148_58 rfl (m_in_iff.mpr (by omega)) ?_
                  refine E_goto (pc' := 26) g148_61 rfl ?_
                  refine hh (fun j hj => ?_)
                  rcases Nat.lt_or_ge j i with q | q
                  · exact hall j q
                  · rw [show j = i by omega]; rintro ⟨w1, w2⟩; first | exact absurd w1 (by assumption) | exact absurd w2 (by assumption)
                · refine E_aload_n (pc' := 44) g148_43 rfl rfl ?_
                  refine E_iload (pc' := 46) g148_44 rfl rfl ?_
                  refine E_iconst (pc' := 47) g148_46 (by decide) rfl ?_
                  refine E_cV2i (pc' := 50) g148_47 k148_201 na147 rfl ow147 rfl (Nat.le_of_ble_eq_true rfl) (by assumption) (M_side hM hD hz (p := (i : Int)) (by omega) (Or.inr rfl) (r := ix gr i) ⟨fun q => absurd q (by omega), fun q => by rw [hgr]⟩) (by decide) ?_
                  refine E_iload (pc' := 52) g148_50 rfl rfl ?_
                  refine E_icne (pc' := 55) (pt := 58) g148_52 rfl rfl (fun c2 => ?_) (fun c2 => ?_)
                  · refine E_in5 (pc' := 61) g148_58 rfl (m_in_iff.mpr (by omega)) ?_
                    refine E_goto (pc' := 26) g148_61 rfl ?_
                    refine hh (fun j hj => ?_)
                    rcases Nat.lt_or_ge j i with q | q
                    · exact hall j q
                    · rw [show j = i by omega]; rintro ⟨w1, w2⟩; first | exact absurd w1 (by assumption) | exact absurd w2 (by assumption)
                  · refine E_iload (pc' := 57) g148_55 rfl rfl ?_
                    exact E_iret g148_57 ro148 (by rw [hr.1 i (by omega) ⟨by assumption, by assumption⟩ hall]) rfl
            · intro hall
              refine E_iload (pc' := 28) g148_26 rfl rfl ?_
              refine E_iconst (pc' := 29) g148_28 (by decide) rfl ?_
              refine E_icge (pc' := 32) (pt := 64) g148_29 rfl rfl (fun c0 => ?_) (fun c0 => ?_)
              · refine E_bipush (pc' := 66) g148_64 (by decide) rfl ?_
                exact E_iret g148_66 ro148 (by rw [hr.2 hall]) rfl
              · exact absurd c0 (by omega)))
  · first
    | (exfalso; omega)
    | (refine E_iload_n (pc' := 6) g148_5 rfl rfl ?_
       refine E_goto (pc' := 10) g148_6 rfl ?_
       refine E_st3 (pc' := 11) g148_10 rfl ?_
       refine E_iload_n (pc' := 12) g148_11 rfl rfl ?_
       refine E_iload_n (pc' := 13) g148_12 rfl rfl ?_
       refine E_icge (pc' := 16) (pt := 20) g148_13 rfl rfl (fun c2 => ?_) (fun c2 => ?_)
       · first
         | (exfalso; omega)
         | (refine E_iload_n (pc' := 21) g148_20 rfl rfl ?_
            refine E_st4 (pc' := 23) g148_21 rfl ?_
            refine E_iconst (pc' := 24) g148_23 (by decide) rfl ?_
            refine E_st5 (pc' := 26) g148_24 rfl ?_
            refine Ev_cast (ls := [mR 74, mI a, mI b, mI (min a b), mI (max a b), mI ((0 : Nat) : Int)]) ?_ (by rw [hmin, hmax]; first | rw [if_pos (by omega), if_pos (by omega)]; rfl | rw [if_neg (by omega), if_neg (by omega)]; rfl) rfl
            refine (E_loop (n := 3) (fun i => (∀ j : Nat, j < i → ¬ pcQ ls gr a b j) → Ev 1 148 26 [mR 74, mI a, mI b, mI (min a b), mI (max a b), mI (i : Int)] [] H (mI r) H) ?_ ?_ 0 (by omega)) (fun j hj => absurd hj (by omega))
            · intro i hi hh hall
              refine E_iload (pc' := 28) g148_26 rfl rfl ?_
              refine E_iconst (pc' := 29) g148_28 (by decide) rfl ?_
              refine E_icge (pc' := 32) (pt := 64) g148_29 rfl rfl (fun c0 => ?_) (fun c0 => ?_)
              · exact absurd c0 (by omega)
              · refine E_aload_n (pc' := 33) g148_32 rfl rfl ?_
                refine E_iload (pc' := 35) g148_33 rfl rfl ?_
                refine E_iconst (pc' := 36) g148_35 (by decide) rfl ?_
                refine E_cV2i (pc' := 39) g148_36 k148_201 na147 rfl ow147 rfl (Nat.le_of_ble_eq_true rfl) (by assumption) (M_side hM hD hz (p := (i : Int)) (by omega) (Or.inl rfl) (r := ix ls i) ⟨fun q => by rw [hls], fun q => absurd q (by omega)⟩) (by decide) ?_
                refine E_iload_n (pc' := 40) g148_39 rfl rfl ?_
                refine E_icne (pc' := 43) (pt := 58) g148_40 rfl rfl (fun c1 => ?_) (fun c1 => ?_)
                · refine E_in5 (pc' := 61) g148_58 rfl (m_in_iff.mpr (by omega)) ?_
                  refine E_goto (pc' := 26) g148_61 rfl ?_
                  refine hh (fun j hj => ?_)
                  rcases Nat.lt_or_ge j i with q | q
                  · exact hall j q
                  · rw [show j = i by omega]; rintro ⟨w1, w2⟩; first | exact absurd w1 (by assumption) | exact absurd w2 (by assumption)
                · refine E_aload_n (pc' := 44) g148_43 rfl rfl ?_
                  refine E_iload (pc' := 46) g148_44 rfl rfl ?_
                  refine E_iconst (pc' := 47) g148_46 (by decide) rfl ?_
                  refine E_cV2i (pc' := 50) g148_47 k148_201 na147 rfl ow147 rfl (Nat.le_of_ble_eq_true rfl) (by assumption) (M_side hM hD hz (p := (i : Int)) (by omega) (Or.inr rfl) (r := ix gr i) ⟨fun q => absurd q (by omega), fun q => by rw [hgr]⟩) (by decide) ?_
                  refine E_iload (pc' := 52) g148_50 rfl rfl ?_
                  refine E_icne (pc' := 55) (pt := 58) g148_52 rfl rfl (fun c2 => ?_) (fun c2 => ?_)
                  · refine E_in5 (pc' := 61) g148_58 rfl (m_in_iff.mpr (by omega)) ?_
                    refine E_goto (pc' := 26) g148_61 rfl ?_
                    refine hh (fun j hj => ?_)
                    rcases Nat.lt_or_ge j i with q | q
                    · exact hall j q
                    · rw [show j = i by omega]; rintro ⟨w1, w2⟩; first | exact absurd w1 (by assumption) | exact absurd w2 (by assumption)
                  · refine E_iload (pc' := 57) g148_55 rfl rfl ?_
                    exact E_iret g148_57 ro148 (by rw [hr.1 i (by omega) ⟨by assumption, by assumption⟩ hall]) rfl
            · intro hall
              refine E_iload (pc' := 28) g148_26 rfl rfl ?_
              refine E_iconst (pc' := 29) g148_28 (by decide) rfl ?_
              refine E_icge (pc' := 32) (pt := 64) g148_29 rfl rfl (fun c0 => ?_) (fun c0 => ?_)
              · refine E_bipush (pc' := 66) g148_64 (by decide) rfl ?_
                exact E_iret g148_66 ro148 (by rw [hr.2 hall]) rfl
              · exact absurd c0 (by omega))
       · first
         | (exfalso; omega)
         | (refine E_iload_n (pc' := 17) g148_16 rfl rfl ?_
            refine E_goto (pc' := 21) g148_17 rfl ?_
            refine E_st4 (pc' := 23) g148_21 rfl ?_
            refine E_iconst (pc' := 24) g148_23 (by decide) rfl ?_
            refine E_st5 (pc' := 26) g148_24 rfl ?_
            refine Ev_cast (ls := [mR 74, mI a, mI b, mI (min a b), mI (max a b), mI ((0 : Nat) : Int)]) ?_ (by rw [hmin, hmax]; first | rw [if_pos (by omega), if_pos (by omega)]; rfl | rw [if_neg (by omega), if_neg (by omega)]; rfl) rfl
            refine (E_loop (n := 3) (fun i => (∀ j : Nat, j < i → ¬ pcQ ls gr a b j) → Ev 1 148 26 [mR 74, mI a, mI b, mI (min a b), mI (max a b), mI (i : Int)] [] H (mI r) H) ?_ ?_ 0 (by omega)) (fun j hj => absurd hj (by omega))
            · intro i hi hh hall
              refine E_iload (pc' := 28) g148_26 rfl rfl ?_
              refine E_iconst (pc' := 29) g148_28 (by decide) rfl ?_
              refine E_icge (pc' := 32) (pt := 64) g148_29 rfl rfl (fun c0 => ?_) (fun c0 => ?_)
              · exact absurd c0 (by omega)
              · refine E_aload_n (pc' := 33) g148_32 rfl rfl ?_
                refine E_iload (pc' := 35) g148_33 rfl rfl ?_
                refine E_iconst (pc' := 36) g148_35 (by decide) rfl ?_
                refine E_cV2i (pc' := 39) g148_36 k148_201 na147 rfl ow147 rfl (Nat.le_of_ble_eq_true rfl) (by assumption) (M_side hM hD hz (p := (i : Int)) (by omega) (Or.inl rfl) (r := ix ls i) ⟨fun q => by rw [hls], fun q => absurd q (by omega)⟩) (by decide) ?_
                refine E_iload_n (pc' := 40) g148_39 rfl rfl ?_
                refine E_icne (pc' := 43) (pt := 58) g148_40 rfl rfl (fun c1 => ?_) (fun c1 => ?_)
                · refine E_in5 (pc' := 61) g148_58 rfl (m_in_iff.mpr (by omega)) ?_
                  refine E_goto (pc' := 26) g148_61 rfl ?_
                  refine hh (fun j hj => ?_)
                  rcases Nat.lt_or_ge j i with q | q
                  · exact hall j q
                  · rw [show j = i by omega]; rintro ⟨w1, w2⟩; first | exact absurd w1 (by assumption) | exact absurd w2 (by assumption)
                · refine E_aload_n (pc' := 44) g148_43 rfl rfl ?_
                  refine E_iload (pc' := 46) g148_44 rfl rfl ?_
                  refine E_iconst (pc' := 47) g148_46 (by decide) rfl ?_
                  refine E_cV2i (pc' := 50) g148_47 k148_201 na147 rfl ow147 rfl (Nat.le_of_ble_eq_true rfl) (by assumption) (M_side hM hD hz (p := (i : Int)) (by omega) (Or.inr rfl) (r := ix gr i) ⟨fun q => absurd q (by omega), fun q => by rw [hgr]⟩) (by decide) ?_
                  refine E_iload (pc' := 52) g148_50 rfl rfl ?_
                  refine E_icne (pc' := 55) (pt := 58) g148_52 rfl rfl (fun c2 => ?_) (fun c2 => ?_)
                  · refine E_in5 (pc' := 61) g148_58 rfl (m_in_iff.mpr (by omega)) ?_
                    refine E_goto (pc' := 26) g148_61 rfl ?_
                    refine hh (fun j hj => ?_)
                    rcases Nat.lt_or_ge j i with q | q
                    · exact hall j q
                    · rw [show j = i by omega]; rintro ⟨w1, w2⟩; first | exact absurd w1 (by assumption) | exact absurd w2 (by assumption)
                  · refine E_iload (pc' := 57) g148_55 rfl rfl ?_
                    exact E_iret g148_57 ro148 (by rw [hr.1 i (by omega) ⟨by assumption, by assumption⟩ hall]) rfl
            · intro hall
              refine E_iload (pc' := 28) g148_26 rfl rfl ?_
              refine E_iconst (pc' := 29) g148_28 (by decide) rfl ?_
              refine E_icge (pc' := 32) (pt := 64) g148_29 rfl rfl (fun c0 => ?_) (fun c0 => ?_)
              · refine E_bipush (pc' := 66) g148_64 (by decide) rfl ?_
                exact E_iret g148_66 ro148 (by rw [hr.2 hall]) rfl
              · exact absurd c0 (by omega)))
theorem M_piece (hM : H[74]? = some (7, mdL kd un nk le ap nu me op de fo bs bu)) (hD : okD kd wd ht rm mo sd bo ed hu) (hz : H[75]? = some (8, [wd, ht, rm, mo, sd, bo])) {p x r : Int} (hr : (¬ (0 ≤ p ∧ p < 3 ∧ 0 ≤ x ∧ x ≤ 1) → r = -1) ∧ ((0 ≤ p ∧ p < 3 ∧ x = 0) → r = ix [sd, bo, bo] p) ∧ ((0 ≤ p ∧ p < 3 ∧ x = 1) → r = ix [sd, wd * sd + 2 * bo, ht * sd + 2 * bo] p)) : Call 3 153 [mR 74, mI p, mI x] H (mI r) H := by
  have e1 := inC_or p 0 2
  have e2 := inC_or x 0 1
  refine Call_of rfl ?_
  refine E_iload_n (pc' := 1) g153_0 rfl rfl ?_
  refine E_iconst (pc' := 2) g153_1 (by decide) rfl ?_
  refine E_iconst (pc' := 3) g153_2 (by decide) rfl ?_
  refine E_cS3i (pc' := 6) g153_3 k153_81 na97 rfl rfl (Nat.le_of_ble_eq_true rfl) M_in (by decide) ?_
  refine E_ifeq (pc' := 9) (pt := 36) g153_6 rfl rfl (fun c0 => ?_) (fun c0 => ?_)
  · first
    | (exfalso; omega)
    | (refine E_iconst (pc' := 37) g153_36 (by decide) rfl ?_
       exact E_iret g153_37 ro153 (congrArg mI (by first | rfl | (have q := hr.1 (by omega); omega))) rfl)
  · first
    | (exfalso; omega)
    | (refine E_iload_n (pc' := 10) g153_9 rfl rfl ?_
       refine E_iconst (pc' := 11) g153_10 (by decide) rfl ?_
       refine E_iconst (pc' := 12) g153_11 (by decide) rfl ?_
       refine E_cS3i (pc' := 15) g153_12 k153_81 na97 rfl rfl (Nat.le_of_ble_eq_true rfl) M_in (by decide) ?_
       refine E_ifeq (pc' := 18) (pt := 36) g153_15 rfl rfl (fun c1 => ?_) (fun c1 => ?_)
       · first
         | (exfalso; omega)
         | (refine E_iconst (pc' := 37) g153_36 (by decide) rfl ?_
            exact E_iret g153_37 ro153 (congrArg mI (by first | rfl | (have q := hr.1 (by omega); omega))) rfl)
       · first
         | (exfalso; omega)
         | (refine E_aload_n (pc' := 19) g153_18 rfl rfl ?_
            refine E_iload_n (pc' := 20) g153_19 rfl rfl ?_
            refine E_iload_n (pc' := 21) g153_20 rfl rfl ?_
            refine E_iconst (pc' := 22) g153_21 (by decide) rfl ?_
            refine E_icne (pc' := 25) (pt := 29) g153_22 rfl rfl (fun c2 => ?_) (fun c2 => ?_)
            · first
              | (exfalso; omega)
              | (refine E_iconst (pc' := 30) g153_29 (by decide) rfl ?_
                 refine E_cV2i (pc' := 33) g153_30 k153_201 na147 rfl ow147 rfl (Nat.le_of_ble_eq_true rfl) (by assumption) (M_side hM hD hz (r := r) (by omega) (by omega) ⟨fun q => hr.2.1 (by omega), fun q => hr.2.2 (by omega)⟩) (by decide) ?_
                 refine E_goto (pc' := 37) g153_33 rfl ?_
                 exact E_iret g153_37 ro153 (congrArg mI (by first | rfl | (have q := hr.1 (by omega); omega))) rfl)
            · first
              | (exfalso; omega)
              | (refine E_iconst (pc' := 26) g153_25 (by decide) rfl ?_
                 refine E_goto (pc' := 30) g153_26 rfl ?_
                 refine E_cV2i (pc' := 33) g153_30 k153_201 na147 rfl ow147 rfl (Nat.le_of_ble_eq_true rfl) (by assumption) (M_side hM hD hz (r := r) (by omega) (by omega) ⟨fun q => hr.2.1 (by omega), fun q => hr.2.2 (by omega)⟩) (by decide) ?_
                 refine E_goto (pc' := 37) g153_33 rfl ?_
                 exact E_iret g153_37 ro153 (congrArg mI (by first | rfl | (have q := hr.1 (by omega); omega))) rfl)))
end MS
