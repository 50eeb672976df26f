/-! the model: left, next -/
section MX
variable {H : mH} {kd un nk le ap nu me op de fo bs bu wd ht rm mo sd bo : Int} {ed hu bl sl td tt ss : List Int} {ps kt ik tx A W W0 : List Int} {n : Nat}
theorem M_ones {x : Int} (hx : 0 ≤ x ∧ x ≤ 16777215) : Call 0 135 [mI x] H (mI (cn (fun b => bit x b) 24)) H := by
  refine Call_of rfl ?_
  refine E_iconst (pc' := 1) g135_0 (by decide) rfl ?_
  refine E_st1 (pc' := 2) g135_1 rfl ?_
  refine E_iconst (pc' := 3) g135_2 (by decide) rfl ?_
  refine E_st2 (pc' := 4) g135_3 rfl ?_
  refine E_loop (n := 24) (fun i => Ev 0 135 4 [mI x, mI (cn (fun b => bit x b) i), mI (i : Int)] [] H (mI (cn (fun b => bit x b) 24)) H) ?_ ?_ 0 (by omega)
  · intro i hi hh
    have hb := cn_bd (fun b => bit x b) i
    have hask := bit_ask hx (b := (i : Int)) (by omega) (by omega)
    refine E_iload_n (pc' := 5) g135_4 rfl rfl ?_
    refine E_bipush (pc' := 7) g135_5 (by decide) rfl ?_
    refine E_icge (pc' := 10) (pt := 24) g135_7 rfl rfl (fun c0 => ?_) (fun c0 => ?_)
    · exact absurd c0 (by omega)
    · refine E_iload_n (pc' := 11) g135_10 rfl rfl ?_
      refine E_iload_n (pc' := 12) g135_11 rfl rfl ?_
      refine E_iload_n (pc' := 13) g135_12 rfl rfl ?_
      refine E_ishr (pc' := 14) g135_13 rfl ?_
      refine E_iconst (pc' := 15) g135_14 (by decide) rfl ?_
      refine E_iand (pc' := 16) g135_15 rfl ?_
      refine E_iadd (pc' := 17) g135_16 (m_in_iff.mpr (by rw [hask]; split <;> omega)) rfl ?_
      refine E_st1 (pc' := 18) g135_17 rfl ?_
      refine E_in2 (pc' := 21) g135_18 rfl (m_in_iff.mpr (by omega)) ?_
      refine E_goto (pc' := 4) g135_21 rfl ?_
      refine Ev_cast hh ?_ rfl
      rw [hask]
      rfl
  · refine E_iload_n (pc' := 5) g135_4 rfl rfl ?_
    refine E_bipush (pc' := 7) g135_5 (by decide) rfl ?_
    refine E_icge (pc' := 10) (pt := 24) g135_7 rfl rfl (fun c1 => ?_) (fun c1 => ?_)
    · refine E_iload_n (pc' := 25) g135_24 rfl rfl ?_
      exact E_iret g135_25 ro135 rfl rfl
    · exact absurd c1 (by omega)
theorem M_left_no (hM : H[74]? = some (7, mdL kd un nk le ap nu me op de fo bs bu)) (hD : okD kd wd ht rm mo sd bo ed hu) (hz : H[75]? = some (8, [wd, ht, rm, mo, sd, bo])) (htd : H[76]? = some (8, td)) (hrT : relT td ed hu kd) (hss : H[77]? = some (8, ss)) (hrS : relS ss bl sl kd) (htt : H[85]? = some (8, tt)) (ht15 : tt.length = 15) (h86 : H[86]? = some (8, A)) (hAl : A.length = 9) (hn : (n : Int) = wd * ht) {s i r : Int} (hno : ¬ (0 ≤ s ∧ s < wd * ht ∧ -1 ≤ i ∧ ix bl s = -9)) (hr : (¬ (0 ≤ s ∧ s < wd * ht ∧ -1 ≤ i) → r = -1) ∧ ((0 ≤ s ∧ s < wd * ht ∧ -1 ≤ i) → r = -2)) : Call 5 136 [mR 74, mI s, mI i] H (mI r) H := by
  have hD0 := hD
  have hrS0 := hrS
  have hrT0 := hrT
  obtain ⟨r1, r2, r3, r4, r5, r6, r7, b1, b2⟩ := hD
  obtain ⟨nt, q1, q2, q3, q4, q5⟩ := hrS
  obtain ⟨nd, u1, u2⟩ := hrT
  have hw := wh_bd r2.1 r2.2 r3.1 r3.2
  have e1 := inI_or s 0 (wd * ht)
  refine Call_of rfl ?_
  refine E_aload_n (pc' := 1) g136_0 rfl rfl ?_
  refine E_iload_n (pc' := 2) g136_1 rfl rfl ?_
  refine E_cV1i (pc' := 5) g136_2 k136_149 na112 rfl ow112 rfl (Nat.le_of_ble_eq_true rfl) hM (M_isSquare hM hD0 hz) (by decide) ?_
  refine E_ifeq (pc' := 8) (pt := 13) g136_5 rfl rfl (fun c0 => ?_) (fun c0 => ?_)
  · first
    | (exfalso; omega)
    | (refine E_iconst (pc' := 14) g136_13 (by decide) rfl ?_
       exact E_iret g136_14 ro136 (congrArg mI (by first | (have q := hr.1 (by omega); first | exact q | omega) | (have q := hr.2 (by omega); first | exact q | omega))) rfl)
  · first
    | (exfalso; omega)
    | (refine E_iload_n (pc' := 9) g136_8 rfl rfl ?_
       refine E_iconst (pc' := 10) g136_9 (by decide) rfl ?_
       refine E_icge (pc' := 13) (pt := 15) g136_10 rfl rfl (fun c1 => ?_) (fun c1 => ?_)
       · first
         | (exfalso; omega)
         | (refine E_aload_n (pc' := 16) g136_15 rfl rfl ?_
            refine E_getR (pc' := 19) g136_16 f136_16 tg7_3 rfl hM rfl ?_
            refine E_iload_n (pc' := 20) g136_19 rfl rfl ?_
            refine E_iald (pc' := 21) (v := ix bl s) g136_20 rfl hss (by omega) (by omega) (q1 s (by omega) (by omega)) ?_
            refine E_bipush (pc' := 23) g136_21 (by decide) rfl ?_
            refine E_iceq (pc' := 26) (pt := 29) g136_23 rfl rfl (fun c2 => ?_) (fun c2 => ?_)
            · first
              | (exfalso; omega)
              | (exfalso; omega)
            · first
              | (exfalso; omega)
              | (refine E_bipush (pc' := 28) g136_26 (by decide) rfl ?_
                 exact E_iret g136_28 ro136 (congrArg mI (by first | (have q := hr.1 (by omega); first | exact q | omega) | (have q := hr.2 (by omega); first | exact q | omega))) rfl))
       · first
         | (exfalso; omega)
         | (refine E_iconst (pc' := 14) g136_13 (by decide) rfl ?_
            exact E_iret g136_14 ro136 (congrArg mI (by first | (have q := hr.1 (by omega); first | exact q | omega) | (have q := hr.2 (by omega); first | exact q | omega))) rfl))
theorem M_left (hM : H[74]? = some (7, mdL kd un nk le ap nu me op de fo bs bu)) (hD : okD kd wd ht rm mo sd bo ed hu) (hz : H[75]? = some (8, [wd, ht, rm, mo, sd, bo])) (htd : H[76]? = some (8, td)) (hrT : relT td ed hu kd) (hss : H[77]? = some (8, ss)) (hrS : relS ss bl sl kd) (htt : H[85]? = some (8, tt)) (ht15 : tt.length = 15) (h86 : H[86]? = some (8, A)) (hAl : A.length = 9) (hn : (n : Int) = wd * ht) {s i : Int} (hs : 0 ≤ s ∧ s < wd * ht ∧ -1 ≤ i ∧ ix bl s = -9) (him : i ≤ 2147483647) : ∃ A2, A2.length = 9 ∧ gfam bl ed wd ht (iniF bl sl ed hu kd wd ht rm mo (-9) (-9) n) (rst A2 n) ∧ bet (rst A2 n) 0 16777215 ∧ ∀ r, (i = -1 → r = cn (fun b => bit (ix (rst A2 n) s) b) 24) → (0 ≤ i → bitR (ix (rst A2 n) s) i r) → Call 5 136 [mR 74, mI s, mI i] H (mI r) (pt (pt H 85 ss) 86 A2) := by
  obtain ⟨A2, a1, a2, a3, hc⟩ := M_winnows hM hD hz htd hrT hss hrS htt ht15 h86 hAl hn
  refine ⟨A2, a1, a3, rst_bet a2, fun r hr1 hr2 => ?_⟩
  have hD0 := hD
  have hrS0 := hrS
  have hrT0 := hrT
  obtain ⟨r1, r2, r3, r4, r5, r6, r7, b1, b2⟩ := hD
  obtain ⟨nt, q1, q2, q3, q4, q5⟩ := hrS
  obtain ⟨nd, u1, u2⟩ := hrT
  have hw := wh_bd r2.1 r2.2 r3.1 r3.2
  have e1 := inI_or s 0 (wd * ht)
  obtain ⟨c, rfl⟩ : ∃ c : Nat, s = (c : Int) := ⟨s.toNat, by omega⟩
  have hcn : c < n := by omega
  have ers : ix (rst A2 n) c = ix A2 c := by rw [rst_ix (by omega), if_pos hcn]
  rw [ers] at hr1 hr2
  have hin : ∀ b : Nat, bit (ix A2 c) b = true → (b : Int) < kd * 4 := fun b hb => (a3.1 c b ((rst_in (by omega)).mpr ⟨hcn, hb⟩)).2.1
  obtain ⟨m, hm⟩ : ∃ m : Nat, (m : Int) = 4 * kd := ⟨(4 * kd).toNat, by omega⟩
  have gM : (pt (pt H 85 ss) 86 A2)[74]? = some (7, mdL kd un nk le ap nu me op de fo bs bu) := pt_nx (by decide) (pt_nx (by decide) hM)
  have g86 : (pt (pt H 85 ss) 86 A2)[86]? = some (8, A2) := pt_self (pt_nx (by decide) h86)
  have hAc := a2 c hcn
  refine Call_of rfl ?_
  refine E_aload_n (pc' := 1) g136_0 rfl rfl ?_
  refine E_iload_n (pc' := 2) g136_1 rfl rfl ?_
  refine E_cV1i (pc' := 5) g136_2 k136_149 na112 rfl ow112 rfl (Nat.le_of_ble_eq_true rfl) hM (M_isSquare hM hD0 hz) (by decide) ?_
  refine E_ifeq (pc' := 8) (pt := 13) g136_5 rfl rfl (fun c0 => ?_) (fun c0 => ?_)
  · first
    | (exfalso; omega)
    | (exfalso; omega)
  · first
    | (exfalso; omega)
    | (refine E_iload_n (pc' := 9) g136_8 rfl rfl ?_
       refine E_iconst (pc' := 10) g136_9 (by decide) rfl ?_
       refine E_icge (pc' := 13) (pt := 15) g136_10 rfl rfl (fun c1 => ?_) (fun c1 => ?_)
       · first
         | (exfalso; omega)
         | (refine E_aload_n (pc' := 16) g136_15 rfl rfl ?_
            refine E_getR (pc' := 19) g136_16 f136_16 tg7_3 rfl hM rfl ?_
            refine E_iload_n (pc' := 20) g136_19 rfl rfl ?_
            refine E_iald (pc' := 21) (v := ix bl (c : Int)) g136_20 rfl hss (by omega) (by omega) (q1 _ (by omega) (by omega)) ?_
            refine E_bipush (pc' := 23) g136_21 (by decide) rfl ?_
            refine E_iceq (pc' := 26) (pt := 29) g136_23 rfl rfl (fun c2 => ?_) (fun c2 => ?_)
            · first
              | (exfalso; omega)
              | (refine E_aload_n (pc' := 30) g136_29 rfl rfl ?_
                 refine E_cV0v (pc' := 33) g136_30 k136_167 na134 rfl ow134 rfl (Nat.le_of_ble_eq_true rfl) hM hc (by decide) ?_
                 refine E_iload_n (pc' := 34) g136_33 rfl rfl ?_
                 refine E_iconst (pc' := 35) g136_34 (by decide) rfl ?_
                 refine E_icne (pc' := 38) (pt := 48) g136_35 rfl rfl (fun c3 => ?_) (fun c3 => ?_)
                 · first
                   | (exfalso; omega)
                   | (refine E_iload_n (pc' := 49) g136_48 rfl rfl ?_
                      refine E_st3 (pc' := 50) g136_49 rfl ?_
                      refine E_iconst (pc' := 51) g136_50 (by decide) rfl ?_
                      refine E_st4 (pc' := 53) g136_51 rfl ?_
                      have hr2 := hr2 (by omega)
                      refine Ev_cast (ls := [mR 74, mI (c : Int), mI i, mI (i - cn (fun b => bit (ix A2 c) b) 0), mI ((0 : Nat) : Int)]) ?_ (by simp [cn]) rfl
                      refine (E_loop (n := m) (fun k => (∀ j : Nat, j < k → bit (ix A2 c) j = true → ¬ cn (fun b => bit (ix A2 c) b) j = i) → Ev 5 136 53 [mR 74, mI (c : Int), mI i, mI (i - cn (fun b => bit (ix A2 c) b) k), mI (k : Int)] [] (pt (pt H 85 ss) 86 A2) (mI r) (pt (pt H 85 ss) 86 A2)) ?_ ?_ 0 (by omega)) (fun j hj => absurd hj (by omega))
                      · intro k hk hh hall
                        have hb := cn_bd (fun b => bit (ix A2 c) b) k
                        have hask := bit_ask hAc (b := (k : Int)) (by omega) (by omega)
                        refine E_iload (pc' := 55) g136_53 rfl rfl ?_
                        refine E_iconst (pc' := 56) g136_55 (by decide) rfl ?_
                        refine E_aload_n (pc' := 57) g136_56 rfl rfl ?_
                        refine E_getI (pc' := 60) g136_57 f136_75 tg7_0 (by decide) rfl gM rfl ?_
                        refine E_imul (pc' := 61) g136_60 (m_in_iff.mpr (by omega)) rfl ?_
                        refine E_icge (pc' := 64) (pt := 95) g136_61 rfl rfl (fun c0 => ?_) (fun c0 => ?_)
                        · exact absurd c0 (by omega)
                        · refine E_aload_n (pc' := 65) g136_64 rfl rfl ?_
                          refine E_getR (pc' := 68) g136_65 f136_44 tg7_18 rfl gM rfl ?_
                          refine E_iload_n (pc' := 69) g136_68 rfl rfl ?_
                          refine E_iaload (pc' := 70) g136_69 rfl g86 (by omega) (by omega) ?_
                          refine E_iload (pc' := 72) g136_70 rfl rfl ?_
                          refine E_ishr (pc' := 73) g136_72 rfl ?_
                          refine E_iconst (pc' := 74) g136_73 (by decide) rfl ?_
                          refine E_iand (pc' := 75) g136_74 rfl ?_
                          refine E_iconst (pc' := 76) g136_75 (by decide) rfl ?_
                          refine E_icne (pc' := 79) (pt := 89) g136_76 rfl rfl (fun c1 => ?_) (fun c1 => ?_)
                          · have hp : bit (ix A2 c) k = false := by
                              cases q : bit (ix A2 c) k with
                              | false => rfl
                              | true => rw [if_pos q] at hask; exact absurd hask c1
                            refine E_in4 (pc' := 92) g136_89 rfl (m_in_iff.mpr (by omega)) ?_
                            refine E_goto (pc' := 53) g136_92 rfl ?_
                            refine Ev_cast (hh (fun j hj hf => ?_)) (by first | (rw [cn_t (p := fun b : Nat => bit (ix A2 c) b) hp, ← Int.sub_sub]; rfl) | (rw [cn_f (p := fun b : Nat => bit (ix A2 c) b) hp]; rfl)) rfl
                            rcases Nat.lt_or_ge j k with q | q
                            · exact hall j q hf
                            · rw [show j = k by omega] at hf ⊢
                              first | omega | (rw [hp] at hf; cases hf)
                          · have hp : bit (ix A2 c) k = true := by
                              cases q : bit (ix A2 c) k with
                              | true => rfl
                              | false => rw [if_neg (by rw [q]; decide)] at hask; omega
                            refine E_iload_n (pc' := 80) g136_79 rfl rfl ?_
                            refine E_ifne (pc' := 83) (pt := 86) g136_80 rfl rfl (fun c2 => ?_) (fun c2 => ?_)
                            · refine E_in3 (pc' := 89) g136_86 rfl (m_in_iff.mpr (by omega)) ?_
                              refine E_in4 (pc' := 92) g136_89 rfl (m_in_iff.mpr (by omega)) ?_
                              refine E_goto (pc' := 53) g136_92 rfl ?_
                              refine Ev_cast (hh (fun j hj hf => ?_)) (by first | (rw [cn_t (p := fun b : Nat => bit (ix A2 c) b) hp, ← Int.sub_sub]; rfl) | (rw [cn_f (p := fun b : Nat => bit (ix A2 c) b) hp]; rfl)) rfl
                              rcases Nat.lt_or_ge j k with q | q
                              · exact hall j q hf
                              · rw [show j = k by omega] at hf ⊢
                                first | omega | (rw [hp] at hf; cases hf)
                            · refine E_iload (pc' := 85) g136_83 rfl rfl ?_
                              exact E_iret g136_85 ro136 (by rw [hr2.1 k (by omega) hp (by omega)]) rfl
                      · intro hall
                        refine E_iload (pc' := 55) g136_53 rfl rfl ?_
                        refine E_iconst (pc' := 56) g136_55 (by decide) rfl ?_
                        refine E_aload_n (pc' := 57) g136_56 rfl rfl ?_
                        refine E_getI (pc' := 60) g136_57 f136_75 tg7_0 (by decide) rfl gM rfl ?_
                        refine E_imul (pc' := 61) g136_60 (m_in_iff.mpr (by omega)) rfl ?_
                        refine E_icge (pc' := 64) (pt := 95) g136_61 rfl rfl (fun c0 => ?_) (fun c0 => ?_)
                        · refine E_bipush (pc' := 97) g136_95 (by decide) rfl ?_
                          exact E_iret g136_97 ro136 (by rw [hr2.2 (fun k hk hf => hall k (by have := hin k hf; omega) hf)]) rfl
                        · exact absurd c0 (by omega))
                 · first
                   | (exfalso; omega)
                   | (refine E_aload_n (pc' := 39) g136_38 rfl rfl ?_
                      refine E_getR (pc' := 42) g136_39 f136_44 tg7_18 rfl gM rfl ?_
                      refine E_iload_n (pc' := 43) g136_42 rfl rfl ?_
                      refine E_iaload (pc' := 44) g136_43 rfl g86 (by omega) (by omega) ?_
                      refine E_cS1i (pc' := 47) g136_44 k136_170 na135 rfl rfl (Nat.le_of_ble_eq_true rfl) (M_ones hAc) (by decide) ?_
                      exact E_iret g136_47 ro136 (by rw [hr1 (by omega)]) rfl))
            · first
              | (exfalso; omega)
              | (exfalso; omega))
       · first
         | (exfalso; omega)
         | (exfalso; omega))
theorem M_next (hM : H[74]? = some (7, mdL kd un nk le ap nu me op de fo bs bu)) (hD : okD kd wd ht rm mo sd bo ed hu) (hz : H[75]? = some (8, [wd, ht, rm, mo, sd, bo])) (htd : H[76]? = some (8, td)) (hrT : relT td ed hu kd) (hss : H[77]? = some (8, ss)) (hrS : relS ss bl sl kd) (htt : H[85]? = some (8, tt)) (ht15 : tt.length = 15) (h86 : H[86]? = some (8, A)) (hAl : A.length = 9) (hn : (n : Int) = wd * ht) : ∃ A2, A2.length = 9 ∧ gfam bl ed wd ht (iniF bl sl ed hu kd wd ht rm mo (-9) (-9) n) (rst A2 n) ∧ Call 5 145 [mR 74] H (mI (nbst bl (rst A2 n) n)) (pt (pt H 85 ss) 86 A2) := by
  obtain ⟨A2, a1, a2, a3, hc⟩ := M_winnows hM hD hz htd hrT hss hrS htt ht15 h86 hAl hn
  refine ⟨A2, a1, a3, ?_⟩
  have hD0 := hD
  have hrS0 := hrS
  have hrT0 := hrT
  obtain ⟨r1, r2, r3, r4, r5, r6, r7, b1, b2⟩ := hD
  obtain ⟨nt, q1, q2, q3, q4, q5⟩ := hrS
  obtain ⟨nd, u1, u2⟩ := hrT
  have hw := wh_bd r2.1 r2.2 r3.1 r3.2
  have gM : (pt (pt H 85 ss) 86 A2)[74]? = some (7, mdL kd un nk le ap nu me op de fo bs bu) := pt_nx (by decide) (pt_nx (by decide) hM)
  have gz : (pt (pt H 85 ss) 86 A2)[75]? = some (8, [wd, ht, rm, mo, sd, bo]) := pt_nx (by decide) (pt_nx (by decide) hz)
  have gss : (pt (pt H 85 ss) 86 A2)[77]? = some (8, ss) := pt_nx (by decide) (pt_nx (by decide) hss)
  have g86 : (pt (pt H 85 ss) 86 A2)[86]? = some (8, A2) := pt_self (pt_nx (by decide) h86)
  have hrb := rst_bet a2
  refine Call_of rfl ?_
  refine E_aload_n (pc' := 1) g145_0 rfl rfl ?_
  refine E_cV0v (pc' := 4) g145_1 k145_167 na134 rfl ow134 rfl (Nat.le_of_ble_eq_true rfl) hM hc (by decide) ?_
  refine E_bipush (pc' := 6) g145_4 (by decide) rfl ?_
  refine E_st1 (pc' := 7) g145_6 rfl ?_
  refine E_iconst (pc' := 8) g145_7 (by decide) rfl ?_
  refine E_st2 (pc' := 9) g145_8 rfl ?_
  refine E_loop (n := n) (fun k => Ev 5 145 9 [mR 74, mI (nbst bl (rst A2 n) k), mI (k : Int)] [] (pt (pt H 85 ss) 86 A2) (mI (nbst bl (rst A2 n) n)) (pt (pt H 85 ss) 86 A2)) ?_ ?_ 0 (by omega)
  · intro k hk hh
    have hnb := nbst_bd bl (rst A2 n) k
    have hst : nbst bl (rst A2 n) (k + 1) = if ix bl k = -9 ∧ (nbst bl (rst A2 n) k = -9 ∨ cn (fun b => bit (ix (rst A2 n) k) b) 24 < cn (fun b => bit (ix (rst A2 n) (nbst bl (rst A2 n) k)) b) 24) then (k : Int) else nbst bl (rst A2 n) k := rfl
    have er1 : ix A2 k = ix (rst A2 n) k := by rw [rst_ix (by omega), if_pos hk]
    have er2 : ¬ nbst bl (rst A2 n) k = -9 → ix A2 (nbst bl (rst A2 n) k) = ix (rst A2 n) (nbst bl (rst A2 n) k) := by
      intro h9
      obtain ⟨d, hd⟩ : ∃ d : Nat, (d : Int) = nbst bl (rst A2 n) k := ⟨(nbst bl (rst A2 n) k).toNat, by omega⟩
      rw [← hd, rst_ix (by omega), if_pos (by omega)]
    refine E_iload_n (pc' := 10) g145_9 rfl rfl ?_
    refine E_aload_n (pc' := 11) g145_10 rfl rfl ?_
    refine E_cV0i (pc' := 14) g145_11 k145_116 na111 rfl ow111 rfl (Nat.le_of_ble_eq_true rfl) gM (M_squares gM hD0 gz) (by decide) ?_
    refine E_icge (pc' := 17) (pt := 63) g145_14 rfl rfl (fun c0 => ?_) (fun c0 => ?_)
    · exact absurd c0 (by omega)
    · first
      | (exfalso; omega)
      | (refine E_aload_n (pc' := 18) g145_17 rfl rfl ?_
         refine E_getR (pc' := 21) g145_18 f145_16 tg7_3 rfl gM rfl ?_
         refine E_iload_n (pc' := 22) g145_21 rfl rfl ?_
         refine E_iald (pc' := 23) (v := ix bl k) g145_22 rfl gss (by omega) (by omega) (q1 k (by omega) (by omega)) ?_
         refine E_bipush (pc' := 25) g145_23 (by decide) rfl ?_
         refine E_icne (pc' := 28) (pt := 57) g145_25 rfl rfl (fun c1 => ?_) (fun c1 => ?_)
         · first
           | (exfalso; omega)
           | (refine E_in2 (pc' := 60) g145_57 rfl (m_in_iff.mpr (by omega)) ?_
              refine E_goto (pc' := 9) g145_60 rfl ?_
              first
              | exact Ev_cast hh (by rw [hst, if_pos ⟨by omega, by omega⟩]; rfl) rfl
              | exact Ev_cast hh (by rw [hst, if_neg (fun q => by omega)]; rfl) rfl)
         · first
           | (exfalso; omega)
           | (refine E_iload_n (pc' := 29) g145_28 rfl rfl ?_
              refine E_bipush (pc' := 31) g145_29 (by decide) rfl ?_
              refine E_iceq (pc' := 34) (pt := 55) g145_31 rfl rfl (fun c2 => ?_) (fun c2 => ?_)
              · first
                | (exfalso; omega)
                | (refine E_iload_n (pc' := 56) g145_55 rfl rfl ?_
                   refine E_st1 (pc' := 57) g145_56 rfl ?_
                   refine E_in2 (pc' := 60) g145_57 rfl (m_in_iff.mpr (by omega)) ?_
                   refine E_goto (pc' := 9) g145_60 rfl ?_
                   first
                   | exact Ev_cast hh (by rw [hst, if_pos ⟨by omega, by omega⟩]; rfl) rfl
                   | exact Ev_cast hh (by rw [hst, if_neg (fun q => by omega)]; rfl) rfl)
              · first
                | (exfalso; omega)
                | (refine E_aload_n (pc' := 35) g145_34 rfl rfl ?_
                   refine E_getR (pc' := 38) g145_35 f145_44 tg7_18 rfl gM rfl ?_
                   refine E_iload_n (pc' := 39) g145_38 rfl rfl ?_
                   refine E_iald (pc' := 40) (v := ix (rst A2 n) k) g145_39 rfl g86 (by omega) (by omega) er1 ?_
                   refine E_cS1i (pc' := 43) g145_40 k145_170 na135 rfl rfl (Nat.le_of_ble_eq_true rfl) (M_ones (hrb _)) (by decide) ?_
                   refine E_aload_n (pc' := 44) g145_43 rfl rfl ?_
                   refine E_getR (pc' := 47) g145_44 f145_44 tg7_18 rfl gM rfl ?_
                   refine E_iload_n (pc' := 48) g145_47 rfl rfl ?_
                   refine E_iald (pc' := 49) (v := ix (rst A2 n) (nbst bl (rst A2 n) k)) g145_48 rfl g86 (by omega) (by omega) (er2 (by omega)) ?_
                   refine E_cS1i (pc' := 52) g145_49 k145_170 na135 rfl rfl (Nat.le_of_ble_eq_true rfl) (M_ones (hrb _)) (by decide) ?_
                   refine E_icge (pc' := 55) (pt := 57) g145_52 rfl rfl (fun c3 => ?_) (fun c3 => ?_)
                   · first
                     | (exfalso; omega)
                     | (refine E_in2 (pc' := 60) g145_57 rfl (m_in_iff.mpr (by omega)) ?_
                        refine E_goto (pc' := 9) g145_60 rfl ?_
                        first
                        | exact Ev_cast hh (by rw [hst, if_pos ⟨by omega, by omega⟩]; rfl) rfl
                        | exact Ev_cast hh (by rw [hst, if_neg (fun q => by omega)]; rfl) rfl)
                   · first
                     | (exfalso; omega)
                     | (refine E_iload_n (pc' := 56) g145_55 rfl rfl ?_
                        refine E_st1 (pc' := 57) g145_56 rfl ?_
                        refine E_in2 (pc' := 60) g145_57 rfl (m_in_iff.mpr (by omega)) ?_
                        refine E_goto (pc' := 9) g145_60 rfl ?_
                        first
                        | exact Ev_cast hh (by rw [hst, if_pos ⟨by omega, by omega⟩]; rfl) rfl
                        | exact Ev_cast hh (by rw [hst, if_neg (fun q => by omega)]; rfl) rfl))))
  · refine E_iload_n (pc' := 10) g145_9 rfl rfl ?_
    refine E_aload_n (pc' := 11) g145_10 rfl rfl ?_
    refine E_cV0i (pc' := 14) g145_11 k145_116 na111 rfl ow111 rfl (Nat.le_of_ble_eq_true rfl) gM (M_squares gM hD0 gz) (by decide) ?_
    refine E_icge (pc' := 17) (pt := 63) g145_14 rfl rfl (fun c0 => ?_) (fun c0 => ?_)
    · refine E_iload_n (pc' := 64) g145_63 rfl rfl ?_
      exact E_iret g145_64 ro145 rfl rfl
    · exact absurd c0 (by omega)
end MX
