/-! the finder: blocks tried, squares given -/
theorem nK_bd (T : List Int) (k : Int) : 0 ≤ nK T k 6 ∧ nK T k 6 ≤ 6 := cn_bd _ 6
theorem nH_bd (T hu : List Int) (w : Int) : 0 ≤ nH T hu w 6 ∧ nH T hu w 6 ≤ 6 := cn_bd _ 6
section FJ
variable {H : mH} {ta : Nat} {bl sl : List Int} {kd wd ht rm mo sd bo : Int} {ed hu sk : List Int} {W gv la tr T x : List Int} {n s : Nat} {fo L : Int}
theorem trR_dn {b : Int} (hs : s < 6) (hl : T.length = 6) (ho : opn bl n s = true) (h : trR bl n (s + 1) tr (up T s b)) : trR bl n s tr T := by
  refine ⟨h.1, fun j h1 h2 => ?_⟩
  rw [h.2 j h1 (h2.imp (by omega) id), ix_upn hl hs, if_neg]
  rintro rfl
  rcases h2 with q | q
  · omega
  · rw [ho] at q; cases q
theorem trR_up {b : Int} (hs : s < 6) (hl : T.length = 6) (h : trR bl n s tr T) : trR bl n (s + 1) (up tr s b) (up T s b) := by
  refine ⟨by rw [up_len]; exact h.1, fun j h1 h2 => ?_⟩
  rw [ix_upn h.1 hs, ix_upn hl hs]
  by_cases e : s = j
  · rw [if_pos e, if_pos e]
  · rw [if_neg e, if_neg e]; exact h.2 j h1 (h2.imp (by omega) id)
theorem C_try (hT : isTold H ta kd wd ht rm mo sd bo ed hu sk (hvs ed (4 * kd).toNat)) (hta : ta = 3 ∨ ta = 8) (hF : isFin H gv W) (hn : (n : Int) = wd * ht) (hsl : sml sl) (hL : 0 < L ∧ L ≤ 1000) {f b : Nat} {Q : List (List Int)} (hs : s < n) (hb : (b : Int) < kd * 4) (hTl : T.length = 6) (h9 : ix T s = -9) (ho : opn bl n s = true) (htr : trR bl n s tr T) (hfo : 0 ≤ fo ∧ fo < L) (hla : la.length = 6)
    (hok : okC W sl ed hu wd ht mo T s b = true ↔ (0 < ix sl ((b : Int).tdiv 4) - nK T ((b : Int).tdiv 4) 6 ∧ nH T hu (ix hu ((b : Int).tdiv 4)) 6 < mo))
    (IH : ∀ tr, trR bl n (s + 1) tr (up T s b) → ∃ tr2, trR bl n (s + 1) tr2 (up T s b) ∧ Call (2 * f + 2) 9 [mR 24, mR ta, mI ((s : Int) + 1)] (fH H n la tr fo L (krL sl (up T s b) kd) (hrL (up T s b) hu mo)) none (fH H n (adv L (fo, la) Q).2 tr2 (adv L (fo, la) Q).1 L (krL sl (up T s b) kd) (hrL (up T s b) hu mo))) :
    ∃ tr2, trR bl n s tr2 T ∧ Call (2 * f + 3) 10 [mR 24, mR ta, mI (s : Int), mI (b : Int)] (fH H n la tr fo L (krL sl T kd) (hrL T hu mo)) none (fH H n (adv L (fo, la) (if okC W sl ed hu wd ht mo T s b = true then Q else [])).2 tr2 (adv L (fo, la) (if okC W sl ed hu wd ht mo T s b = true then Q else [])).1 L (krL sl T kd) (hrL T hu mo)) := by
  have hT0 : ∀ {la tr kr hr : List Int} {f : Int}, isTold (fH H n la tr f L kr hr) ta kd wd ht rm mo sd bo ed hu sk (hvs ed (4 * kd).toNat) := fH_told hT hta
  have t0 : ∀ {la tr kr hr : List Int} {f : Int}, (fH H n la tr f L kr hr)[ta]? = _ := hT0.1
  have t2 : ∀ {la tr kr hr : List Int} {f : Int}, (fH H n la tr f L kr hr)[ta + 2]? = _ := hT0.2.2.1
  obtain ⟨-, -, -, -, -, ⟨r1, r2, r3, r4, r5, r6, r7, b1, b2, b3, b4, n1, n2, n3, n4⟩⟩ := hT
  have hw := wh_bd r2.1 r2.2 r3.1 r3.2
  have p1 := td4k (x := (b : Int)) (by omega) hb
  have p2 := b2 ((b : Int).tdiv 4)
  have e1 : ix (krL sl T kd) ((b : Int).tdiv 4) = ix sl ((b : Int).tdiv 4) - nK T ((b : Int).tdiv 4) 6 := by rw [krL_ix p1.1 (by omega), if_pos p1.2]
  have e2 : ix (hrL T hu mo) (ix hu ((b : Int).tdiv 4)) = mo - nH T hu (ix hu ((b : Int).tdiv 4)) 6 := hrL_ix (by omega) (by omega)
  have k1 := krL_len sl T kd
  have k2 := hrL_len T hu mo
  have k3 := krL_len sl (up T s b) kd
  have k4 := hrL_len (up T s b) hu mo
  have s1 := hsl ((b : Int).tdiv 4)
  have s2 := nK_bd T ((b : Int).tdiv 4)
  have s3 := nH_bd T hu (ix hu ((b : Int).tdiv 4))
  have hs6 : s < 6 := by omega
  by_cases hr : 0 < ix sl ((b : Int).tdiv 4) - nK T ((b : Int).tdiv 4) 6 ∧ nH T hu (ix hu ((b : Int).tdiv 4)) 6 < mo
  · rw [if_pos (hok.mpr hr)]
    obtain ⟨tr2, ht2, hc⟩ := IH (up tr s b) (trR_up hs6 hTl htr)
    have e3 : ix (krL sl (up T s b) kd) ((b : Int).tdiv 4) = ix sl ((b : Int).tdiv 4) - (nK T ((b : Int).tdiv 4) 6 + 1) := by rw [krL_ix p1.1 (by omega), if_pos p1.2, nK_up hTl hs6 h9, if_pos rfl]
    have e4 : ix (hrL (up T s b) hu mo) (ix hu ((b : Int).tdiv 4)) = mo - (nH T hu (ix hu ((b : Int).tdiv 4)) 6 + 1) := by rw [hrL_ix (by omega) (by omega), nH_up hTl hs6 h9, if_pos rfl]
    refine ⟨tr2, trR_dn hs6 hTl ho ht2, ?_⟩
    have htl := htr.1
    refine Call_of rfl ?_
    refine E_iload_n (pc' := 1) g10_0 rfl rfl ?_
    refine E_iconst (pc' := 2) g10_1 (by decide) rfl ?_
    refine E_idiv (pc' := 3) g10_2 (by omega) rfl ?_
    refine E_st4 (pc' := 5) g10_3 rfl ?_
    refine E_iload (pc' := 7) g10_5 rfl rfl ?_
    refine E_iflt (pc' := 10) (pt := 27) g10_7 rfl rfl (fun c0 => ?_) (fun c0 => ?_)
    · first
      | (exfalso; omega)
      | (exact E_ret g10_27 rt10 rfl rfl)
    · first
      | (exfalso; omega)
      | (refine E_iload (pc' := 12) g10_10 rfl rfl ?_
         refine E_bipush (pc' := 14) g10_12 (by decide) rfl ?_
         refine E_icge (pc' := 17) (pt := 27) g10_14 rfl rfl (fun c1 => ?_) (fun c1 => ?_)
         · first
           | (exfalso; omega)
           | (exact E_ret g10_27 rt10 rfl rfl)
         · first
           | (exfalso; omega)
           | (refine E_aload_n (pc' := 18) g10_17 rfl rfl ?_
              refine E_getR (pc' := 21) g10_18 f10_25 tg1_4 rfl (by first | exact fH_24 hF | exact fH_25 hF | exact fH_26 hF | exact fH_27 hF | exact fH_28 hF | exact fH_29 hF | exact fH_30 hF | exact t0 | exact t2) rfl ?_
              refine E_iload (pc' := 23) g10_21 rfl rfl ?_
              refine E_iaload (pc' := 24) g10_23 rfl (by first | exact fH_24 hF | exact fH_25 hF | exact fH_26 hF | exact fH_27 hF | exact fH_28 hF | exact fH_29 hF | exact fH_30 hF | exact t0 | exact t2) (by omega) (by omega) ?_
              refine E_ifgt (pc' := 27) (pt := 28) g10_24 rfl rfl (fun c2 => ?_) (fun c2 => ?_)
              · first
                | (exfalso; omega)
                | (refine E_aload_n (pc' := 29) g10_28 rfl rfl ?_
                   refine E_getR (pc' := 32) g10_29 f10_90 tg4_8 rfl (by first | exact fH_24 hF | exact fH_25 hF | exact fH_26 hF | exact fH_27 hF | exact fH_28 hF | exact fH_29 hF | exact fH_30 hF | exact t0 | exact t2) rfl ?_
                   refine E_iload (pc' := 34) g10_32 rfl rfl ?_
                   refine E_iaload (pc' := 35) g10_34 rfl (by first | exact fH_24 hF | exact fH_25 hF | exact fH_26 hF | exact fH_27 hF | exact fH_28 hF | exact fH_29 hF | exact fH_30 hF | exact t0 | exact t2) (by omega) (by omega) ?_
                   refine E_st5 (pc' := 37) g10_35 rfl ?_
                   refine E_iload (pc' := 39) g10_37 rfl rfl ?_
                   refine E_iflt (pc' := 42) (pt := 59) g10_39 rfl rfl (fun c3 => ?_) (fun c3 => ?_)
                   · first
                     | (exfalso; omega)
                     | (exact E_ret g10_59 rt10 rfl rfl)
                   · first
                     | (exfalso; omega)
                     | (refine E_iload (pc' := 44) g10_42 rfl rfl ?_
                        refine E_bipush (pc' := 46) g10_44 (by decide) rfl ?_
                        refine E_icge (pc' := 49) (pt := 59) g10_46 rfl rfl (fun c4 => ?_) (fun c4 => ?_)
                        · first
                          | (exfalso; omega)
                          | (exact E_ret g10_59 rt10 rfl rfl)
                        · first
                          | (exfalso; omega)
                          | (refine E_aload_n (pc' := 50) g10_49 rfl rfl ?_
                             refine E_getR (pc' := 53) g10_50 f10_28 tg1_5 rfl (by first | exact fH_24 hF | exact fH_25 hF | exact fH_26 hF | exact fH_27 hF | exact fH_28 hF | exact fH_29 hF | exact fH_30 hF | exact t0 | exact t2) rfl ?_
                             refine E_iload (pc' := 55) g10_53 rfl rfl ?_
                             refine E_iaload (pc' := 56) g10_55 rfl (by first | exact fH_24 hF | exact fH_25 hF | exact fH_26 hF | exact fH_27 hF | exact fH_28 hF | exact fH_29 hF | exact fH_30 hF | exact t0 | exact t2) (by omega) (by omega) ?_
                             refine E_ifgt (pc' := 59) (pt := 60) g10_56 rfl rfl (fun c5 => ?_) (fun c5 => ?_)
                             · first
                               | (exfalso; omega)
                               | (refine E_aload_n (pc' := 61) g10_60 rfl rfl ?_
                                  refine E_getR (pc' := 64) g10_61 f10_15 tg1_1 rfl (by first | exact fH_24 hF | exact fH_25 hF | exact fH_26 hF | exact fH_27 hF | exact fH_28 hF | exact fH_29 hF | exact fH_30 hF | exact t0 | exact t2) rfl ?_
                                  refine E_iload_n (pc' := 65) g10_64 rfl rfl ?_
                                  refine E_iload_n (pc' := 66) g10_65 rfl rfl ?_
                                  refine E_iastore (pc' := 67) g10_66 rfl (by first | exact fH_24 hF | exact fH_25 hF | exact fH_26 hF | exact fH_27 hF | exact fH_28 hF | exact fH_29 hF | exact fH_30 hF | exact t0 | exact t2) (by omega) (by omega) ?_
                                  rw [fH_tr]
                                  refine E_aload_n (pc' := 68) g10_67 rfl rfl ?_
                                  refine E_getR (pc' := 71) g10_68 f10_25 tg1_4 rfl (by first | exact fH_24 hF | exact fH_25 hF | exact fH_26 hF | exact fH_27 hF | exact fH_28 hF | exact fH_29 hF | exact fH_30 hF | exact t0 | exact t2) rfl ?_
                                  refine E_iload (pc' := 73) g10_71 rfl rfl ?_
                                  refine E_dup2 (pc' := 74) g10_73 rfl ?_
                                  refine E_iaload (pc' := 75) g10_74 rfl (by first | exact fH_24 hF | exact fH_25 hF | exact fH_26 hF | exact fH_27 hF | exact fH_28 hF | exact fH_29 hF | exact fH_30 hF | exact t0 | exact t2) (by omega) (by omega) ?_
                                  refine E_iconst (pc' := 76) g10_75 (by decide) rfl ?_
                                  refine E_isub (pc' := 77) g10_76 (m_in_iff.mpr (by omega)) rfl ?_
                                  refine E_iastore (pc' := 78) g10_77 rfl (by first | exact fH_24 hF | exact fH_25 hF | exact fH_26 hF | exact fH_27 hF | exact fH_28 hF | exact fH_29 hF | exact fH_30 hF | exact t0 | exact t2) (by omega) (by omega) ?_
                                  rw [fH_kr, krL_up hTl hs6 h9 p1.2 r1.2]
                                  refine E_aload_n (pc' := 79) g10_78 rfl rfl ?_
                                  refine E_getR (pc' := 82) g10_79 f10_28 tg1_5 rfl (by first | exact fH_24 hF | exact fH_25 hF | exact fH_26 hF | exact fH_27 hF | exact fH_28 hF | exact fH_29 hF | exact fH_30 hF | exact t0 | exact t2) rfl ?_
                                  refine E_iload (pc' := 84) g10_82 rfl rfl ?_
                                  refine E_dup2 (pc' := 85) g10_84 rfl ?_
                                  refine E_iaload (pc' := 86) g10_85 rfl (by first | exact fH_24 hF | exact fH_25 hF | exact fH_26 hF | exact fH_27 hF | exact fH_28 hF | exact fH_29 hF | exact fH_30 hF | exact t0 | exact t2) (by omega) (by omega) ?_
                                  refine E_iconst (pc' := 87) g10_86 (by decide) rfl ?_
                                  refine E_isub (pc' := 88) g10_87 (m_in_iff.mpr (by omega)) rfl ?_
                                  refine E_iastore (pc' := 89) g10_88 rfl (by first | exact fH_24 hF | exact fH_25 hF | exact fH_26 hF | exact fH_27 hF | exact fH_28 hF | exact fH_29 hF | exact fH_30 hF | exact t0 | exact t2) (by omega) (by omega) ?_
                                  rw [fH_hr, hrL_up hTl hs6 h9 (by omega)]
                                  refine E_aload_n (pc' := 90) g10_89 rfl rfl ?_
                                  refine E_aload_n (pc' := 91) g10_90 rfl rfl ?_
                                  refine E_iload_n (pc' := 92) g10_91 rfl rfl ?_
                                  refine E_iconst (pc' := 93) g10_92 (by decide) rfl ?_
                                  refine E_iadd (pc' := 94) g10_93 (m_in_iff.mpr (by omega)) rfl ?_
                                  refine E_cV2v (pc' := 97) g10_94 k10_73 na9 rfl ow9 rfl (Nat.le_of_ble_eq_true rfl) (by first | exact fH_24 hF | exact fH_25 hF | exact fH_26 hF | exact fH_27 hF | exact fH_28 hF | exact fH_29 hF | exact fH_30 hF | exact t0 | exact t2) hc (by omega) ?_
                                  refine E_aload_n (pc' := 98) g10_97 rfl rfl ?_
                                  refine E_getR (pc' := 101) g10_98 f10_28 tg1_5 rfl (by first | exact fH_24 hF | exact fH_25 hF | exact fH_26 hF | exact fH_27 hF | exact fH_28 hF | exact fH_29 hF | exact fH_30 hF | exact t0 | exact t2) rfl ?_
                                  refine E_iload (pc' := 103) g10_101 rfl rfl ?_
                                  refine E_dup2 (pc' := 104) g10_103 rfl ?_
                                  refine E_iaload (pc' := 105) g10_104 rfl (by first | exact fH_24 hF | exact fH_25 hF | exact fH_26 hF | exact fH_27 hF | exact fH_28 hF | exact fH_29 hF | exact fH_30 hF | exact t0 | exact t2) (by omega) (by omega) ?_
                                  refine E_iconst (pc' := 106) g10_105 (by decide) rfl ?_
                                  refine E_iadd (pc' := 107) g10_106 (m_in_iff.mpr (by omega)) rfl ?_
                                  refine E_iastore (pc' := 108) g10_107 rfl (by first | exact fH_24 hF | exact fH_25 hF | exact fH_26 hF | exact fH_27 hF | exact fH_28 hF | exact fH_29 hF | exact fH_30 hF | exact t0 | exact t2) (by omega) (by omega) ?_
                                  rw [fH_hr, hrL_dn hTl hs6 h9 (by omega)]
                                  refine E_aload_n (pc' := 109) g10_108 rfl rfl ?_
                                  refine E_getR (pc' := 112) g10_109 f10_25 tg1_4 rfl (by first | exact fH_24 hF | exact fH_25 hF | exact fH_26 hF | exact fH_27 hF | exact fH_28 hF | exact fH_29 hF | exact fH_30 hF | exact t0 | exact t2) rfl ?_
                                  refine E_iload (pc' := 114) g10_112 rfl rfl ?_
                                  refine E_dup2 (pc' := 115) g10_114 rfl ?_
                                  refine E_iaload (pc' := 116) g10_115 rfl (by first | exact fH_24 hF | exact fH_25 hF | exact fH_26 hF | exact fH_27 hF | exact fH_28 hF | exact fH_29 hF | exact fH_30 hF | exact t0 | exact t2) (by omega) (by omega) ?_
                                  refine E_iconst (pc' := 117) g10_116 (by decide) rfl ?_
                                  refine E_iadd (pc' := 118) g10_117 (m_in_iff.mpr (by omega)) rfl ?_
                                  refine E_iastore (pc' := 119) g10_118 rfl (by first | exact fH_24 hF | exact fH_25 hF | exact fH_26 hF | exact fH_27 hF | exact fH_28 hF | exact fH_29 hF | exact fH_30 hF | exact t0 | exact t2) (by omega) (by omega) ?_
                                  rw [fH_kr, krL_dn hTl hs6 h9 p1.2 r1.2]
                                  exact E_ret g10_119 rt10 rfl rfl)
                             · first
                               | (exfalso; omega)
                               | (exact E_ret g10_59 rt10 rfl rfl))))
              · first
                | (exfalso; omega)
                | (exact E_ret g10_27 rt10 rfl rfl)))
  · rw [if_neg (fun q => hr (hok.mp q))]
    refine ⟨tr, htr, ?_⟩
    refine Call_of rfl ?_
    refine E_iload_n (pc' := 1) g10_0 rfl rfl ?_
    refine E_iconst (pc' := 2) g10_1 (by decide) rfl ?_
    refine E_idiv (pc' := 3) g10_2 (by omega) rfl ?_
    refine E_st4 (pc' := 5) g10_3 rfl ?_
    refine E_iload (pc' := 7) g10_5 rfl rfl ?_
    refine E_iflt (pc' := 10) (pt := 27) g10_7 rfl rfl (fun c0 => ?_) (fun c0 => ?_)
    · first
      | (exfalso; omega)
      | (exact E_ret g10_27 rt10 rfl rfl)
    · first
      | (exfalso; omega)
      | (refine E_iload (pc' := 12) g10_10 rfl rfl ?_
         refine E_bipush (pc' := 14) g10_12 (by decide) rfl ?_
         refine E_icge (pc' := 17) (pt := 27) g10_14 rfl rfl (fun c1 => ?_) (fun c1 => ?_)
         · first
           | (exfalso; omega)
           | (exact E_ret g10_27 rt10 rfl rfl)
         · first
           | (exfalso; omega)
           | (refine E_aload_n (pc' := 18) g10_17 rfl rfl ?_
              refine E_getR (pc' := 21) g10_18 f10_25 tg1_4 rfl (by first | exact fH_24 hF | exact fH_25 hF | exact fH_26 hF | exact fH_27 hF | exact fH_28 hF | exact fH_29 hF | exact fH_30 hF | exact t0 | exact t2) rfl ?_
              refine E_iload (pc' := 23) g10_21 rfl rfl ?_
              refine E_iaload (pc' := 24) g10_23 rfl (by first | exact fH_24 hF | exact fH_25 hF | exact fH_26 hF | exact fH_27 hF | exact fH_28 hF | exact fH_29 hF | exact fH_30 hF | exact t0 | exact t2) (by omega) (by omega) ?_
              refine E_ifgt (pc' := 27) (pt := 28) g10_24 rfl rfl (fun c2 => ?_) (fun c2 => ?_)
              · first
                | (exfalso; omega)
                | (refine E_aload_n (pc' := 29) g10_28 rfl rfl ?_
                   refine E_getR (pc' := 32) g10_29 f10_90 tg4_8 rfl (by first | exact fH_24 hF | exact fH_25 hF | exact fH_26 hF | exact fH_27 hF | exact fH_28 hF | exact fH_29 hF | exact fH_30 hF | exact t0 | exact t2) rfl ?_
                   refine E_iload (pc' := 34) g10_32 rfl rfl ?_
                   refine E_iaload (pc' := 35) g10_34 rfl (by first | exact fH_24 hF | exact fH_25 hF | exact fH_26 hF | exact fH_27 hF | exact fH_28 hF | exact fH_29 hF | exact fH_30 hF | exact t0 | exact t2) (by omega) (by omega) ?_
                   refine E_st5 (pc' := 37) g10_35 rfl ?_
                   refine E_iload (pc' := 39) g10_37 rfl rfl ?_
                   refine E_iflt (pc' := 42) (pt := 59) g10_39 rfl rfl (fun c3 => ?_) (fun c3 => ?_)
                   · first
                     | (exfalso; omega)
                     | (exact E_ret g10_59 rt10 rfl rfl)
                   · first
                     | (exfalso; omega)
                     | (refine E_iload (pc' := 44) g10_42 rfl rfl ?_
                        refine E_bipush (pc' := 46) g10_44 (by decide) rfl ?_
                        refine E_icge (pc' := 49) (pt := 59) g10_46 rfl rfl (fun c4 => ?_) (fun c4 => ?_)
                        · first
                          | (exfalso; omega)
                          | (exact E_ret g10_59 rt10 rfl rfl)
                        · first
                          | (exfalso; omega)
                          | (refine E_aload_n (pc' := 50) g10_49 rfl rfl ?_
                             refine E_getR (pc' := 53) g10_50 f10_28 tg1_5 rfl (by first | exact fH_24 hF | exact fH_25 hF | exact fH_26 hF | exact fH_27 hF | exact fH_28 hF | exact fH_29 hF | exact fH_30 hF | exact t0 | exact t2) rfl ?_
                             refine E_iload (pc' := 55) g10_53 rfl rfl ?_
                             refine E_iaload (pc' := 56) g10_55 rfl (by first | exact fH_24 hF | exact fH_25 hF | exact fH_26 hF | exact fH_27 hF | exact fH_28 hF | exact fH_29 hF | exact fH_30 hF | exact t0 | exact t2) (by omega) (by omega) ?_
                             refine E_ifgt (pc' := 59) (pt := 60) g10_56 rfl rfl (fun c5 => ?_) (fun c5 => ?_)
                             · first
                               | (exfalso; omega)
                               | (exfalso; omega)
                             · first
                               | (exfalso; omega)
                               | (exact E_ret g10_59 rt10 rfl rfl))))
              · first
                | (exfalso; omega)
                | (exact E_ret g10_27 rt10 rfl rfl)))
theorem C_give (hT : isTold H ta kd wd ht rm mo sd bo ed hu sk (hvs ed (4 * kd).toNat)) (hta : ta = 3 ∨ ta = 8) (hF : isFin H gv W) (hn : (n : Int) = wd * ht) (hsl : sml sl) (hL : 0 < L ∧ L ≤ 1000) (hW : bet W 0 16777215) (hWl : W.length = 6) (hWI : ∀ s b : Nat, inW W s b → (b : Int) < kd * 4 ∧ plB ed b = true) (hgl : gv.length = 6) (hgv : ∀ j : Nat, j < 6 → ix gv j = b01 (opn bl n j)) : ∀ (f s : Nat) (T la tr : List Int) (fo : Int), s + f = n → T.length = 6 → (∀ j : Nat, s ≤ j → opn bl n j = true → ix T j = -9) → trR bl n s tr T → la.length = 6 → 0 ≤ fo → fo < L → ∃ tr2, trR bl n s tr2 T ∧ Call (2 * f + 2) 9 [mR 24, mR ta, mI (s : Int)] (fH H n la tr fo L (krL sl T kd) (hrL T hu mo)) none (fH H n (adv L (fo, la) (qs (okC W sl ed hu wd ht mo) (opn bl n) f s T)).2 tr2 (adv L (fo, la) (qs (okC W sl ed hu wd ht mo) (opn bl n) f s T)).1 L (krL sl T kd) (hrL T hu mo))
  | 0, s, T, la, tr, fo, hf, hTl, h9, htr, hla, h0, hfo => by
    have hT1 := hT
    have hT0 : ∀ {la tr kr hr : List Int} {f : Int}, isTold (fH H n la tr f L kr hr) ta kd wd ht rm mo sd bo ed hu sk (hvs ed (4 * kd).toNat) := fH_told hT hta
    have t0 : ∀ {la tr kr hr : List Int} {f : Int}, (fH H n la tr f L kr hr)[ta]? = _ := hT0.1
    have t2 : ∀ {la tr kr hr : List Int} {f : Int}, (fH H n la tr f L kr hr)[ta + 2]? = _ := hT0.2.2.1
    obtain ⟨-, -, -, -, -, ⟨r1, r2, r3, r4, r5, r6, r7, b1, b2, b3, b4, n1, n2, n3, n4⟩⟩ := hT
    have hw := wh_bd r2.1 r2.2 r3.1 r3.2
    have htT : tr = T := by
      refine ix_ext (by rw [htr.1, hTl]) (fun i i0 i1 => ?_)
      obtain ⟨j, rfl⟩ : ∃ j : Nat, i = (j : Int) := ⟨i.toNat, by omega⟩
      refine htr.2 j (by have := htr.1; omega) ?_
      cases q : opn bl n j with
      | false => exact Or.inr rfl
      | true => exact Or.inl (by have := (opn_t.mp q).1; omega)
    refine ⟨tr, htr, ?_⟩
    have htl := htr.1
    have ea : adv L (fo, la) (qs (okC W sl ed hu wd ht mo) (opn bl n) 0 s T) = (fo + 1, T) := by
      simp only [qs, adv, List.foldl_cons, List.foldl_nil]
      rw [if_pos hfo]
    rw [ea]
    refine Call_of rfl ?_
    refine E_iload_n (pc' := 1) g9_0 rfl rfl ?_
    refine E_iflt (pc' := 4) (pt := 18) g9_1 rfl rfl (fun c0 => ?_) (fun c0 => ?_)
    · first
      | (exfalso; omega)
      | (refine E_aload_n (pc' := 19) g9_18 rfl rfl ?_
         refine E_dup (pc' := 20) g9_19 rfl ?_
         refine E_getI (pc' := 23) g9_20 f9_63 tg1_7 (by decide) rfl (by first | exact fH_24 hF | exact fH_25 hF | exact fH_26 hF | exact fH_27 hF | exact fH_28 hF | exact fH_29 hF | exact fH_30 hF | exact t0 | exact t2) rfl ?_
         refine E_iconst (pc' := 24) g9_23 (by decide) rfl ?_
         refine E_iadd (pc' := 25) g9_24 (m_in_iff.mpr (by omega)) rfl ?_
         refine E_putf (pc' := 28) g9_25 f9_63 tg1_7 fn1_7 rfl rfl (by first | exact fH_24 hF | exact fH_25 hF | exact fH_26 hF | exact fH_27 hF | exact fH_28 hF | exact fH_29 hF | exact fH_30 hF | exact t0 | exact t2) (Nat.le_of_ble_eq_true rfl) ?_
         refine Ev_cast (H := fH H n la tr (fo + 1) L (krL sl T kd) (hrL T hu mo)) ?_ rfl (fH_f (f2 := fo + 1))
         refine E_aload_n (pc' := 29) g9_28 rfl rfl ?_
         refine E_getR (pc' := 32) g9_29 f9_15 tg1_1 rfl (by first | exact fH_24 hF | exact fH_25 hF | exact fH_26 hF | exact fH_27 hF | exact fH_28 hF | exact fH_29 hF | exact fH_30 hF | exact t0 | exact t2) rfl ?_
         refine E_iconst (pc' := 33) g9_32 (by decide) rfl ?_
         refine E_aload_n (pc' := 34) g9_33 rfl rfl ?_
         refine E_getR (pc' := 37) g9_34 f9_9 tg1_0 rfl (by first | exact fH_24 hF | exact fH_25 hF | exact fH_26 hF | exact fH_27 hF | exact fH_28 hF | exact fH_29 hF | exact fH_30 hF | exact t0 | exact t2) rfl ?_
         refine E_iconst (pc' := 38) g9_37 (by decide) rfl ?_
         refine E_bipush (pc' := 40) g9_38 (by decide) rfl ?_
         refine E_copy (pc' := 43) g9_40 k9_77 rfl (Nat.le_of_ble_eq_true rfl) (by first | exact fH_24 hF | exact fH_25 hF | exact fH_26 hF | exact fH_27 hF | exact fH_28 hF | exact fH_29 hF | exact fH_30 hF | exact t0 | exact t2) (by first | exact fH_24 hF | exact fH_25 hF | exact fH_26 hF | exact fH_27 hF | exact fH_28 hF | exact fH_29 hF | exact fH_30 hF | exact t0 | exact t2) (by omega) (by omega) ?_
         exact E_ret g9_43 rt9 rfl (by rw [fH_la, htT]))
    · first
      | (exfalso; omega)
      | (refine E_iload_n (pc' := 5) g9_4 rfl rfl ?_
         refine E_aload_n (pc' := 6) g9_5 rfl rfl ?_
         refine E_getI (pc' := 9) g9_6 f9_37 tg1_6 (by decide) rfl (by first | exact fH_24 hF | exact fH_25 hF | exact fH_26 hF | exact fH_27 hF | exact fH_28 hF | exact fH_29 hF | exact fH_30 hF | exact t0 | exact t2) rfl ?_
         refine E_icge (pc' := 12) (pt := 18) g9_9 rfl rfl (fun c1 => ?_) (fun c1 => ?_)
         · first
           | (exfalso; omega)
           | (refine E_aload_n (pc' := 19) g9_18 rfl rfl ?_
              refine E_dup (pc' := 20) g9_19 rfl ?_
              refine E_getI (pc' := 23) g9_20 f9_63 tg1_7 (by decide) rfl (by first | exact fH_24 hF | exact fH_25 hF | exact fH_26 hF | exact fH_27 hF | exact fH_28 hF | exact fH_29 hF | exact fH_30 hF | exact t0 | exact t2) rfl ?_
              refine E_iconst (pc' := 24) g9_23 (by decide) rfl ?_
              refine E_iadd (pc' := 25) g9_24 (m_in_iff.mpr (by omega)) rfl ?_
              refine E_putf (pc' := 28) g9_25 f9_63 tg1_7 fn1_7 rfl rfl (by first | exact fH_24 hF | exact fH_25 hF | exact fH_26 hF | exact fH_27 hF | exact fH_28 hF | exact fH_29 hF | exact fH_30 hF | exact t0 | exact t2) (Nat.le_of_ble_eq_true rfl) ?_
              refine Ev_cast (H := fH H n la tr (fo + 1) L (krL sl T kd) (hrL T hu mo)) ?_ rfl (fH_f (f2 := fo + 1))
              refine E_aload_n (pc' := 29) g9_28 rfl rfl ?_
              refine E_getR (pc' := 32) g9_29 f9_15 tg1_1 rfl (by first | exact fH_24 hF | exact fH_25 hF | exact fH_26 hF | exact fH_27 hF | exact fH_28 hF | exact fH_29 hF | exact fH_30 hF | exact t0 | exact t2) rfl ?_
              refine E_iconst (pc' := 33) g9_32 (by decide) rfl ?_
              refine E_aload_n (pc' := 34) g9_33 rfl rfl ?_
              refine E_getR (pc' := 37) g9_34 f9_9 tg1_0 rfl (by first | exact fH_24 hF | exact fH_25 hF | exact fH_26 hF | exact fH_27 hF | exact fH_28 hF | exact fH_29 hF | exact fH_30 hF | exact t0 | exact t2) rfl ?_
              refine E_iconst (pc' := 38) g9_37 (by decide) rfl ?_
              refine E_bipush (pc' := 40) g9_38 (by decide) rfl ?_
              refine E_copy (pc' := 43) g9_40 k9_77 rfl (Nat.le_of_ble_eq_true rfl) (by first | exact fH_24 hF | exact fH_25 hF | exact fH_26 hF | exact fH_27 hF | exact fH_28 hF | exact fH_29 hF | exact fH_30 hF | exact t0 | exact t2) (by first | exact fH_24 hF | exact fH_25 hF | exact fH_26 hF | exact fH_27 hF | exact fH_28 hF | exact fH_29 hF | exact fH_30 hF | exact t0 | exact t2) (by omega) (by omega) ?_
              exact E_ret g9_43 rt9 rfl (by rw [fH_la, htT]))
         · first
           | (exfalso; omega)
           | (refine E_iload_n (pc' := 13) g9_12 rfl rfl ?_
              refine E_bipush (pc' := 15) g9_13 (by decide) rfl ?_
              refine E_iclt (pc' := 18) (pt := 44) g9_15 rfl rfl (fun c2 => ?_) (fun c2 => ?_)
              · first
                | (exfalso; omega)
                | (exfalso; omega)
              · first
                | (exfalso; omega)
                | (refine E_aload_n (pc' := 19) g9_18 rfl rfl ?_
                   refine E_dup (pc' := 20) g9_19 rfl ?_
                   refine E_getI (pc' := 23) g9_20 f9_63 tg1_7 (by decide) rfl (by first | exact fH_24 hF | exact fH_25 hF | exact fH_26 hF | exact fH_27 hF | exact fH_28 hF | exact fH_29 hF | exact fH_30 hF | exact t0 | exact t2) rfl ?_
                   refine E_iconst (pc' := 24) g9_23 (by decide) rfl ?_
                   refine E_iadd (pc' := 25) g9_24 (m_in_iff.mpr (by omega)) rfl ?_
                   refine E_putf (pc' := 28) g9_25 f9_63 tg1_7 fn1_7 rfl rfl (by first | exact fH_24 hF | exact fH_25 hF | exact fH_26 hF | exact fH_27 hF | exact fH_28 hF | exact fH_29 hF | exact fH_30 hF | exact t0 | exact t2) (Nat.le_of_ble_eq_true rfl) ?_
                   refine Ev_cast (H := fH H n la tr (fo + 1) L (krL sl T kd) (hrL T hu mo)) ?_ rfl (fH_f (f2 := fo + 1))
                   refine E_aload_n (pc' := 29) g9_28 rfl rfl ?_
                   refine E_getR (pc' := 32) g9_29 f9_15 tg1_1 rfl (by first | exact fH_24 hF | exact fH_25 hF | exact fH_26 hF | exact fH_27 hF | exact fH_28 hF | exact fH_29 hF | exact fH_30 hF | exact t0 | exact t2) rfl ?_
                   refine E_iconst (pc' := 33) g9_32 (by decide) rfl ?_
                   refine E_aload_n (pc' := 34) g9_33 rfl rfl ?_
                   refine E_getR (pc' := 37) g9_34 f9_9 tg1_0 rfl (by first | exact fH_24 hF | exact fH_25 hF | exact fH_26 hF | exact fH_27 hF | exact fH_28 hF | exact fH_29 hF | exact fH_30 hF | exact t0 | exact t2) rfl ?_
                   refine E_iconst (pc' := 38) g9_37 (by decide) rfl ?_
                   refine E_bipush (pc' := 40) g9_38 (by decide) rfl ?_
                   refine E_copy (pc' := 43) g9_40 k9_77 rfl (Nat.le_of_ble_eq_true rfl) (by first | exact fH_24 hF | exact fH_25 hF | exact fH_26 hF | exact fH_27 hF | exact fH_28 hF | exact fH_29 hF | exact fH_30 hF | exact t0 | exact t2) (by first | exact fH_24 hF | exact fH_25 hF | exact fH_26 hF | exact fH_27 hF | exact fH_28 hF | exact fH_29 hF | exact fH_30 hF | exact t0 | exact t2) (by omega) (by omega) ?_
                   exact E_ret g9_43 rt9 rfl (by rw [fH_la, htT]))))
  | f + 1, s, T, la, tr, fo, hf, hTl, h9, htr, hla, h0, hfo => by
    have hT1 := hT
    have hT0 : ∀ {la tr kr hr : List Int} {f : Int}, isTold (fH H n la tr f L kr hr) ta kd wd ht rm mo sd bo ed hu sk (hvs ed (4 * kd).toNat) := fH_told hT hta
    have t0 : ∀ {la tr kr hr : List Int} {f : Int}, (fH H n la tr f L kr hr)[ta]? = _ := hT0.1
    have t2 : ∀ {la tr kr hr : List Int} {f : Int}, (fH H n la tr f L kr hr)[ta + 2]? = _ := hT0.2.2.1
    obtain ⟨-, -, -, -, -, ⟨r1, r2, r3, r4, r5, r6, r7, b1, b2, b3, b4, n1, n2, n3, n4⟩⟩ := hT
    have hw := wh_bd r2.1 r2.2 r3.1 r3.2
    have hs6 : s < 6 := by omega
    have hg1 := hgv s hs6
    cases ho : opn bl n s with
    | false =>
      rw [ho] at hg1
      rw [qs_shut ho]
      have htr1 : trR bl n (s + 1) tr T := ⟨htr.1, fun j h1 h2 => htr.2 j h1 (by
        rcases h2 with q | q
        · rcases Nat.lt_or_ge j s with z | z
          · exact Or.inl z
          · rw [show j = s by omega]; exact Or.inr ho
        · exact Or.inr q)⟩
      obtain ⟨tr2, ht2, hc⟩ := C_give hT1 hta hF hn hsl hL hW hWl hWI hgl hgv f (s + 1) T la tr fo (by omega) hTl (fun j h1 h2 => h9 j (by omega) h2) htr1 hla h0 hfo
      refine ⟨tr2, ⟨ht2.1, fun j h1 h2 => ht2.2 j h1 (h2.imp (by omega) id)⟩, ?_⟩
      have hg2 : ix gv s = 0 := hg1
      refine Call_of rfl ?_
      refine E_iload_n (pc' := 1) g9_0 rfl rfl ?_
      refine E_iflt (pc' := 4) (pt := 18) g9_1 rfl rfl (fun c0 => ?_) (fun c0 => ?_)
      · first
        | (exfalso; omega)
        | (exfalso; omega)
      · first
        | (exfalso; omega)
        | (refine E_iload_n (pc' := 5) g9_4 rfl rfl ?_
           refine E_aload_n (pc' := 6) g9_5 rfl rfl ?_
           refine E_getI (pc' := 9) g9_6 f9_37 tg1_6 (by decide) rfl (by first | exact fH_24 hF | exact fH_25 hF | exact fH_26 hF | exact fH_27 hF | exact fH_28 hF | exact fH_29 hF | exact fH_30 hF | exact t0 | exact t2) rfl ?_
           refine E_icge (pc' := 12) (pt := 18) g9_9 rfl rfl (fun c1 => ?_) (fun c1 => ?_)
           · first
             | (exfalso; omega)
             | (exfalso; omega)
           · first
             | (exfalso; omega)
             | (refine E_iload_n (pc' := 13) g9_12 rfl rfl ?_
                refine E_bipush (pc' := 15) g9_13 (by decide) rfl ?_
                refine E_iclt (pc' := 18) (pt := 44) g9_15 rfl rfl (fun c2 => ?_) (fun c2 => ?_)
                · first
                  | (exfalso; omega)
                  | (refine E_aload_n (pc' := 45) g9_44 rfl rfl ?_
                     refine E_getR (pc' := 48) g9_45 f9_18 tg1_2 rfl (by first | exact fH_24 hF | exact fH_25 hF | exact fH_26 hF | exact fH_27 hF | exact fH_28 hF | exact fH_29 hF | exact fH_30 hF | exact t0 | exact t2) rfl ?_
                     refine E_iload_n (pc' := 49) g9_48 rfl rfl ?_
                     refine E_baload (pc' := 50) g9_49 rfl (by first | exact fH_24 hF | exact fH_25 hF | exact fH_26 hF | exact fH_27 hF | exact fH_28 hF | exact fH_29 hF | exact fH_30 hF | exact t0 | exact t2) (by omega) (by omega) ?_
                     refine E_ifne (pc' := 53) (pt := 62) g9_50 rfl rfl (fun c3 => ?_) (fun c3 => ?_)
                     · first
                       | (exfalso; omega)
                       | (exfalso; omega)
                     · first
                       | (exfalso; omega)
                       | (refine E_aload_n (pc' := 54) g9_53 rfl rfl ?_
                          refine E_aload_n (pc' := 55) g9_54 rfl rfl ?_
                          refine E_iload_n (pc' := 56) g9_55 rfl rfl ?_
                          refine E_iconst (pc' := 57) g9_56 (by decide) rfl ?_
                          refine E_iadd (pc' := 58) g9_57 (m_in_iff.mpr (by omega)) rfl ?_
                          refine E_cV2v (pc' := 61) g9_58 k9_73 na9 rfl ow9 rfl (Nat.le_of_ble_eq_true rfl) (by first | exact fH_24 hF | exact fH_25 hF | exact fH_26 hF | exact fH_27 hF | exact fH_28 hF | exact fH_29 hF | exact fH_30 hF | exact t0 | exact t2) hc (by omega) ?_
                          exact E_ret g9_61 rt9 rfl rfl))
                · first
                  | (exfalso; omega)
                  | (exfalso; omega)))
    | true =>
      rw [ho] at hg1
      have hg2 : ix gv s = 1 := hg1
      have hbm := mE_in (tr := tr) (wd := wd) (ht := ht) (s := s) b1 r1 hW
      have hbb : ∀ {tr}, trR bl n s tr T → ∀ b : Nat, bit (mE W ed tr kd wd ht s) b = true ↔ (bit (ix W s) b = true ∧ ∀ h : Nat, h = 0 ∨ h = 3 → ¬ bsd wd ht s h = -9 → eo ed (ix T (bsd wd ht s h)) (((h : Int) + 2).tmod 4) = eo ed b h) := fun htr b => mE_bit b1 r1 r2 r3 hn hW (fun b hb => hWI s b ⟨hs6, hb⟩) (by omega) htr
      have h9s := h9 s (Nat.le_refl _) ho
      simp only [qs, if_pos ho]
      have loopA : ∀ i : Nat, i ≤ 24 → ∀ (la2 tr2 : List Int) (fo2 : Int), la2.length = 6 → trR bl n s tr2 T → 0 ≤ fo2 → fo2 ≤ L → ∃ tr3, trR bl n s tr3 T ∧ Ev (2 * (f + 1) + 2) 9 72 [mR 24, mR ta, mI (s : Int), mI (mE W ed tr kd wd ht s), mI (i : Int)] [] (fH H n la2 tr2 fo2 L (krL sl T kd) (hrL T hu mo)) none (fH H n (adv L (fo2, la2) (gtl (fun b => if okC W sl ed hu wd ht mo T s b = true then qs (okC W sl ed hu wd ht mo) (opn bl n) f (s + 1) (up T s b) else []) (24 - i))).2 tr3 (adv L (fo2, la2) (gtl (fun b => if okC W sl ed hu wd ht mo T s b = true then qs (okC W sl ed hu wd ht mo) (opn bl n) f (s + 1) (up T s b) else []) (24 - i))).1 L (krL sl T kd) (hrL T hu mo)) := by
        refine E_loop (n := 24) _ ?_ ?_
        · intro i hi hh la2 tr2 fo2 hla2 htr2 h02 hfo2
          rw [show 24 - i = (24 - (i + 1)) + 1 by omega]
          simp only [gtl]
          rw [show 23 - (24 - (i + 1)) = i by omega]
          by_cases hfl : fo2 < L
          · have hask := bit_ask hbm (b := (i : Int)) (by omega) (by omega)
            cases hbit : bit (mE W ed tr kd wd ht s) (i : Int) with
            | false =>
              rw [hbit] at hask
              have hask2 : m_and (m_shr (mE W ed tr kd wd ht s) i) 1 = 0 := hask
              rw [if_neg (fun q => by
                have := okC_t.mp q
                rw [(hbb htr i).mpr ⟨this.1, this.2.1⟩] at hbit
                cases hbit)]
              obtain ⟨tr3, ht3, hev⟩ := hh la2 tr2 fo2 hla2 htr2 h02 hfo2
              refine ⟨tr3, ht3, ?_⟩
              rw [List.nil_append]
              refine E_iload (pc' := 74) g9_72 rfl rfl ?_
              refine E_bipush (pc' := 76) g9_74 (by decide) rfl ?_
              refine E_icge (pc' := 79) (pt := 114) g9_76 rfl rfl (fun c0 => ?_) (fun c0 => ?_)
              · first
                | (exfalso; omega)
                | (exfalso; omega)
              · first
                | (exfalso; omega)
                | (refine E_aload_n (pc' := 80) g9_79 rfl rfl ?_
                   refine E_getI (pc' := 83) g9_80 f9_63 tg1_7 (by decide) rfl (by first | exact fH_24 hF | exact fH_25 hF | exact fH_26 hF | exact fH_27 hF | exact fH_28 hF | exact fH_29 hF | exact fH_30 hF | exact t0 | exact t2) rfl ?_
                   refine E_aload_n (pc' := 84) g9_83 rfl rfl ?_
                   refine E_getI (pc' := 87) g9_84 f9_66 tg1_8 (by decide) rfl (by first | exact fH_24 hF | exact fH_25 hF | exact fH_26 hF | exact fH_27 hF | exact fH_28 hF | exact fH_29 hF | exact fH_30 hF | exact t0 | exact t2) rfl ?_
                   refine E_icge (pc' := 90) (pt := 114) g9_87 rfl rfl (fun c1 => ?_) (fun c1 => ?_)
                   · first
                     | (exfalso; omega)
                     | (exfalso; omega)
                   · first
                     | (exfalso; omega)
                     | (refine E_iload_n (pc' := 91) g9_90 rfl rfl ?_
                        refine E_iload (pc' := 93) g9_91 rfl rfl ?_
                        refine E_ishr (pc' := 94) g9_93 rfl ?_
                        refine E_iconst (pc' := 95) g9_94 (by decide) rfl ?_
                        refine E_iand (pc' := 96) g9_95 rfl ?_
                        refine E_iconst (pc' := 97) g9_96 (by decide) rfl ?_
                        refine E_icne (pc' := 100) (pt := 108) g9_97 rfl rfl (fun c2 => ?_) (fun c2 => ?_)
                        · first
                          | (exfalso; omega)
                          | (refine E_in4 (pc' := 111) g9_108 rfl (m_in_iff.mpr (by omega)) ?_
                             refine E_goto (pc' := 72) g9_111 rfl ?_
                             exact hev)
                        · first
                          | (exfalso; omega)
                          | (exfalso; omega)))
            | true =>
              rw [hbit] at hask
              have hask2 : m_and (m_shr (mE W ed tr kd wd ht s) i) 1 = 1 := hask
              have hbi := (hbb htr i).mp hbit
              have hin := hWI s i ⟨hs6, hbi.1⟩
              have hok : okC W sl ed hu wd ht mo T s i = true ↔ (0 < ix sl ((i : Int).tdiv 4) - nK T ((i : Int).tdiv 4) 6 ∧ nH T hu (ix hu ((i : Int).tdiv 4)) 6 < mo) := by
                rw [okC_t]
                exact ⟨fun q => q.2.2, fun q => ⟨hbi.1, hbi.2, q⟩⟩
              have hq6 : ∀ x ∈ (if okC W sl ed hu wd ht mo T s i = true then qs (okC W sl ed hu wd ht mo) (opn bl n) f (s + 1) (up T s i) else []), x.length = 6 := by
                intro x hx
                split at hx
                · exact qs_len (by rw [up_len]; exact hTl) hx
                · cases hx
              obtain ⟨tr3, ht3, hc⟩ := C_try (bl := bl) (f := f) (fo := fo2) (la := la2) (tr := tr2) (b := i) (Q := qs (okC W sl ed hu wd ht mo) (opn bl n) f (s + 1) (up T s i)) hT1 hta hF hn hsl hL (by omega) hin.1 hTl h9s ho htr2 ⟨h02, hfl⟩ hla2 hok (fun tr4 ht4 => C_give hT1 hta hF hn hsl hL hW hWl hWI hgl hgv f (s + 1) (up T s i) la2 tr4 fo2 (by omega) (by rw [up_len]; exact hTl) (fun j h1 h2 => by rw [ix_upn hTl hs6, if_neg (by omega)]; exact h9 j (by omega) h2) ht4 hla2 h02 hfl)
              have hbd := adv_bd (L := L) (Q := (if okC W sl ed hu wd ht mo T s i = true then qs (okC W sl ed hu wd ht mo) (opn bl n) f (s + 1) (up T s i) else [])) (q := (fo2, la2)) (by simpa using hfo2)
              simp only at hbd
              obtain ⟨tr5, ht5, hev⟩ := hh _ tr3 _ (adv_len (L := L) (q := (fo2, la2)) hla2 hq6) ht3 (by omega) hbd.2
              refine ⟨tr5, ht5, ?_⟩
              rw [adv_app]
              refine E_iload (pc' := 74) g9_72 rfl rfl ?_
              refine E_bipush (pc' := 76) g9_74 (by decide) rfl ?_
              refine E_icge (pc' := 79) (pt := 114) g9_76 rfl rfl (fun c0 => ?_) (fun c0 => ?_)
              · first
                | (exfalso; omega)
                | (exfalso; omega)
              · first
                | (exfalso; omega)
                | (refine E_aload_n (pc' := 80) g9_79 rfl rfl ?_
                   refine E_getI (pc' := 83) g9_80 f9_63 tg1_7 (by decide) rfl (by first | exact fH_24 hF | exact fH_25 hF | exact fH_26 hF | exact fH_27 hF | exact fH_28 hF | exact fH_29 hF | exact fH_30 hF | exact t0 | exact t2) rfl ?_
                   refine E_aload_n (pc' := 84) g9_83 rfl rfl ?_
                   refine E_getI (pc' := 87) g9_84 f9_66 tg1_8 (by decide) rfl (by first | exact fH_24 hF | exact fH_25 hF | exact fH_26 hF | exact fH_27 hF | exact fH_28 hF | exact fH_29 hF | exact fH_30 hF | exact t0 | exact t2) rfl ?_
                   refine E_icge (pc' := 90) (pt := 114) g9_87 rfl rfl (fun c1 => ?_) (fun c1 => ?_)
                   · first
                     | (exfalso; omega)
                     | (exfalso; omega)
                   · first
                     | (exfalso; omega)
                     | (refine E_iload_n (pc' := 91) g9_90 rfl rfl ?_
                        refine E_iload (pc' := 93) g9_91 rfl rfl ?_
                        refine E_ishr (pc' := 94) g9_93 rfl ?_
                        refine E_iconst (pc' := 95) g9_94 (by decide) rfl ?_
                        refine E_iand (pc' := 96) g9_95 rfl ?_
                        refine E_iconst (pc' := 97) g9_96 (by decide) rfl ?_
                        refine E_icne (pc' := 100) (pt := 108) g9_97 rfl rfl (fun c2 => ?_) (fun c2 => ?_)
                        · first
                          | (exfalso; omega)
                          | (refine E_in4 (pc' := 111) g9_108 rfl (m_in_iff.mpr (by omega)) ?_
                             refine E_goto (pc' := 72) g9_111 rfl ?_
                             exact hev)
                        · first
                          | (exfalso; omega)
                          | (refine E_aload_n (pc' := 101) g9_100 rfl rfl ?_
                             refine E_aload_n (pc' := 102) g9_101 rfl rfl ?_
                             refine E_iload_n (pc' := 103) g9_102 rfl rfl ?_
                             refine E_iload (pc' := 105) g9_103 rfl rfl ?_
                             refine E_cV3v (pc' := 108) g9_105 k9_86 na10 rfl ow10 rfl (Nat.le_of_ble_eq_true rfl) (by first | exact fH_24 hF | exact fH_25 hF | exact fH_26 hF | exact fH_27 hF | exact fH_28 hF | exact fH_29 hF | exact fH_30 hF | exact t0 | exact t2) hc (by omega) ?_
                             refine E_in4 (pc' := 111) g9_108 rfl (m_in_iff.mpr (by omega)) ?_
                             refine E_goto (pc' := 72) g9_111 rfl ?_
                             exact hev)))
          · refine ⟨tr2, htr2, ?_⟩
            rw [adv_full (q := (fo2, la2)) hfl]
            refine E_iload (pc' := 74) g9_72 rfl rfl ?_
            refine E_bipush (pc' := 76) g9_74 (by decide) rfl ?_
            refine E_icge (pc' := 79) (pt := 114) g9_76 rfl rfl (fun c0 => ?_) (fun c0 => ?_)
            · first
              | (exfalso; omega)
              | (exact E_ret g9_114 rt9 rfl rfl)
            · first
              | (exfalso; omega)
              | (refine E_aload_n (pc' := 80) g9_79 rfl rfl ?_
                 refine E_getI (pc' := 83) g9_80 f9_63 tg1_7 (by decide) rfl (by first | exact fH_24 hF | exact fH_25 hF | exact fH_26 hF | exact fH_27 hF | exact fH_28 hF | exact fH_29 hF | exact fH_30 hF | exact t0 | exact t2) rfl ?_
                 refine E_aload_n (pc' := 84) g9_83 rfl rfl ?_
                 refine E_getI (pc' := 87) g9_84 f9_66 tg1_8 (by decide) rfl (by first | exact fH_24 hF | exact fH_25 hF | exact fH_26 hF | exact fH_27 hF | exact fH_28 hF | exact fH_29 hF | exact fH_30 hF | exact t0 | exact t2) rfl ?_
                 refine E_icge (pc' := 90) (pt := 114) g9_87 rfl rfl (fun c1 => ?_) (fun c1 => ?_)
                 · first
                   | (exfalso; omega)
                   | (exact E_ret g9_114 rt9 rfl rfl)
                 · first
                   | (exfalso; omega)
                   | (exfalso; omega))
        · intro la2 tr2 fo2 hla2 htr2 h02 hfo2
          refine ⟨tr2, htr2, ?_⟩
          refine E_iload (pc' := 74) g9_72 rfl rfl ?_
          refine E_bipush (pc' := 76) g9_74 (by decide) rfl ?_
          refine E_icge (pc' := 79) (pt := 114) g9_76 rfl rfl (fun c0 => ?_) (fun c0 => ?_)
          · first
            | (exfalso; omega)
            | (exact E_ret g9_114 rt9 rfl rfl)
          · first
            | (exfalso; omega)
            | (exfalso; omega)
      obtain ⟨tr3, ht3, hev⟩ := loopA 0 (by omega) la tr fo hla htr h0 (by omega)
      refine ⟨tr3, ht3, ?_⟩
      refine Call_of rfl ?_
      refine E_iload_n (pc' := 1) g9_0 rfl rfl ?_
      refine E_iflt (pc' := 4) (pt := 18) g9_1 rfl rfl (fun c0 => ?_) (fun c0 => ?_)
      · first
        | (exfalso; omega)
        | (exfalso; omega)
      · first
        | (exfalso; omega)
        | (refine E_iload_n (pc' := 5) g9_4 rfl rfl ?_
           refine E_aload_n (pc' := 6) g9_5 rfl rfl ?_
           refine E_getI (pc' := 9) g9_6 f9_37 tg1_6 (by decide) rfl (by first | exact fH_24 hF | exact fH_25 hF | exact fH_26 hF | exact fH_27 hF | exact fH_28 hF | exact fH_29 hF | exact fH_30 hF | exact t0 | exact t2) rfl ?_
           refine E_icge (pc' := 12) (pt := 18) g9_9 rfl rfl (fun c1 => ?_) (fun c1 => ?_)
           · first
             | (exfalso; omega)
             | (exfalso; omega)
           · first
             | (exfalso; omega)
             | (refine E_iload_n (pc' := 13) g9_12 rfl rfl ?_
                refine E_bipush (pc' := 15) g9_13 (by decide) rfl ?_
                refine E_iclt (pc' := 18) (pt := 44) g9_15 rfl rfl (fun c2 => ?_) (fun c2 => ?_)
                · first
                  | (exfalso; omega)
                  | (refine E_aload_n (pc' := 45) g9_44 rfl rfl ?_
                     refine E_getR (pc' := 48) g9_45 f9_18 tg1_2 rfl (by first | exact fH_24 hF | exact fH_25 hF | exact fH_26 hF | exact fH_27 hF | exact fH_28 hF | exact fH_29 hF | exact fH_30 hF | exact t0 | exact t2) rfl ?_
                     refine E_iload_n (pc' := 49) g9_48 rfl rfl ?_
                     refine E_baload (pc' := 50) g9_49 rfl (by first | exact fH_24 hF | exact fH_25 hF | exact fH_26 hF | exact fH_27 hF | exact fH_28 hF | exact fH_29 hF | exact fH_30 hF | exact t0 | exact t2) (by omega) (by omega) ?_
                     refine E_ifne (pc' := 53) (pt := 62) g9_50 rfl rfl (fun c3 => ?_) (fun c3 => ?_)
                     · first
                       | (exfalso; omega)
                       | (refine E_aload_n (pc' := 63) g9_62 rfl rfl ?_
                          refine E_aload_n (pc' := 64) g9_63 rfl rfl ?_
                          refine E_iload_n (pc' := 65) g9_64 rfl rfl ?_
                          refine E_cV2i (pc' := 68) g9_65 k9_83 na12 rfl ow12 rfl (Nat.le_of_ble_eq_true rfl) (by first | exact fH_24 hF | exact fH_25 hF | exact fH_26 hF | exact fH_27 hF | exact fH_28 hF | exact fH_29 hF | exact fH_30 hF | exact t0 | exact t2) (C_meetE (tr := tr) hT1 hta hF hW hWl htr.1 (by omega)) (by omega) ?_
                          refine E_st3 (pc' := 69) g9_68 rfl ?_
                          refine E_iconst (pc' := 70) g9_69 (by decide) rfl ?_
                          refine E_st4 (pc' := 72) g9_70 rfl ?_
                          exact hev)
                     · first
                       | (exfalso; omega)
                       | (exfalso; omega))
                · first
                  | (exfalso; omega)
                  | (exfalso; omega)))
end FJ
