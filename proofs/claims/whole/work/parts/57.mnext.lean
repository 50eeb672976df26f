/-! the model's search: nextQuilt -/
section NQ
variable {H : mH} {kd un nk le ap nu me op de fo bs bu wd ht rm mo sd bo : Int} {ed hu bl sl td tt ss : List Int} {A W oa tr T : List Int} {n N : Nat}
theorem N_leaf (hB : mBase H bl td ed hu oa kd wd ht rm mo sd bo n N) {u v : mV} : Ev 4 141 26 [mR 74, u, v] [] (sH H kd un nk le ap nu me (N : Int) (N : Int) 0 bs bu tt tr) (mI 1) (sH H kd un nk le ap nu me (N : Int) (N : Int) 1 bs bu tt tr) := by
  have g74 : ∀ {de fo : Int} {tt tr : List Int}, (sH H kd un nk le ap nu me (N : Int) de fo bs bu tt tr)[74]? = some (7, mdL kd un nk le ap nu me N de fo bs bu) := sH_74 hB
  refine E_aload_n (pc' := 27) g141_26 rfl rfl ?_
  refine E_getI (pc' := 30) g141_27 f141_179 tg7_22 (by decide) rfl g74 rfl ?_
  refine E_iflt (pc' := 33) (pt := 188) g141_30 rfl rfl (fun c0 => ?_) (fun c0 => ?_)
  · first
    | (exfalso; omega)
    | (exfalso; omega)
  · first
    | (exfalso; omega)
    | (refine E_aload_n (pc' := 34) g141_33 rfl rfl ?_
       refine E_getI (pc' := 37) g141_34 f141_182 tg7_23 (by decide) rfl g74 rfl ?_
       refine E_ifne (pc' := 40) (pt := 188) g141_37 rfl rfl (fun c1 => ?_) (fun c1 => ?_)
       · first
         | (exfalso; omega)
         | (exfalso; omega)
       · first
         | (exfalso; omega)
         | (refine E_aload_n (pc' := 41) g141_40 rfl rfl ?_
            refine E_getI (pc' := 44) g141_41 f141_179 tg7_22 (by decide) rfl g74 rfl ?_
            refine E_aload_n (pc' := 45) g141_44 rfl rfl ?_
            refine E_getI (pc' := 48) g141_45 f141_176 tg7_19 (by decide) rfl g74 rfl ?_
            refine E_icne (pc' := 51) (pt := 59) g141_48 rfl rfl (fun c2 => ?_) (fun c2 => ?_)
            · first
              | (exfalso; omega)
              | (exfalso; omega)
            · first
              | (exfalso; omega)
              | (refine E_aload_n (pc' := 52) g141_51 rfl rfl ?_
                 refine E_iconst (pc' := 53) g141_52 (by decide) rfl ?_
                 refine E_putf (pc' := 56) g141_53 f141_182 tg7_23 fn7_23 rfl rfl g74 (Nat.le_of_ble_eq_true rfl) ?_
                 refine E_goto (pc' := 26) g141_56 rfl ?_
                 refine Ev_cast (H := (sH H kd un nk le ap nu me (N : Int) (N : Int) 1 bs bu tt tr)) ?_ rfl (sH_md (de2 := (N : Int)) (fo2 := 1))
                 refine E_aload_n (pc' := 27) g141_26 rfl rfl ?_
                 refine E_getI (pc' := 30) g141_27 f141_179 tg7_22 (by decide) rfl g74 rfl ?_
                 refine E_iflt (pc' := 33) (pt := 188) g141_30 rfl rfl (fun c0 => ?_) (fun c0 => ?_)
                 · first
                   | (exfalso; omega)
                   | (refine E_aload_n (pc' := 189) g141_188 rfl rfl ?_
                      refine E_getI (pc' := 192) g141_189 f141_182 tg7_23 (by decide) rfl g74 rfl ?_
                      exact E_iret g141_192 (ro141 (by omega)) rfl rfl)
                 · first
                   | (exfalso; omega)
                   | (refine E_aload_n (pc' := 34) g141_33 rfl rfl ?_
                      refine E_getI (pc' := 37) g141_34 f141_182 tg7_23 (by decide) rfl g74 rfl ?_
                      refine E_ifne (pc' := 40) (pt := 188) g141_37 rfl rfl (fun c1 => ?_) (fun c1 => ?_)
                      · first
                        | (exfalso; omega)
                        | (refine E_aload_n (pc' := 189) g141_188 rfl rfl ?_
                           refine E_getI (pc' := 192) g141_189 f141_182 tg7_23 (by decide) rfl g74 rfl ?_
                           exact E_iret g141_192 (ro141 (by omega)) rfl rfl)
                      · first
                        | (exfalso; omega)
                        | (exfalso; omega)))))
theorem N_none (hB : mBase H bl td ed hu oa kd wd ht rm mo sd bo n N) {u v : mV} (hde : de < 0) : Ev 4 141 26 [mR 74, u, v] [] (sH H kd un nk le ap nu me (N : Int) de 0 bs bu tt tr) (mI 0) (sH H kd un nk le ap nu me (N : Int) de 0 bs bu tt tr) := by
  have g74 : ∀ {de fo : Int} {tt tr : List Int}, (sH H kd un nk le ap nu me (N : Int) de fo bs bu tt tr)[74]? = some (7, mdL kd un nk le ap nu me N de fo bs bu) := sH_74 hB
  refine E_aload_n (pc' := 27) g141_26 rfl rfl ?_
  refine E_getI (pc' := 30) g141_27 f141_179 tg7_22 (by decide) rfl g74 rfl ?_
  refine E_iflt (pc' := 33) (pt := 188) g141_30 rfl rfl (fun c0 => ?_) (fun c0 => ?_)
  · first
    | (exfalso; omega)
    | (refine E_aload_n (pc' := 189) g141_188 rfl rfl ?_
       refine E_getI (pc' := 192) g141_189 f141_182 tg7_23 (by decide) rfl g74 rfl ?_
       exact E_iret g141_192 (ro141 (by omega)) rfl rfl)
  · first
    | (exfalso; omega)
    | (exfalso; omega)
theorem N_work (hB : mBase H bl td ed hu oa kd wd ht rm mo sd bo n N) : ∀ (M s d : Nat) (tt tr T : List Int) (u v : mV), opn bl n s = true → (d : Int) = cn (opn bl n) s → tr.length = 9 → relS tt T sl kd → T.length = 6 → (∀ j : Nat, j < 6 → ¬ j = s → ix T j = ix (PP bl n tr s) j) → (∀ j : Nat, j < d → 0 ≤ ix tr j ∧ ix tr j < kd * 4) → (-1 ≤ ix tr d ∧ ix tr d < kd * 4 ∨ ix tr d = -1) → mu tr (d + 1) ≤ M → ∃ (de2 fo2 : Int) (tt2 tr2 : List Int), outc H bl sl ed hu kd wd ht rm mo un nk le ap nu me bs bu n N (rmn (okM sl ed hu kd wd ht rm mo bs bu) bl n tr (s + 1)) de2 fo2 tt2 tr2 ∧ Ev 4 141 26 [mR 74, u, v] [] (sH H kd un nk le ap nu me (N : Int) (d : Int) 0 bs bu tt tr) (mI fo2) (sH H kd un nk le ap nu me (N : Int) de2 fo2 bs bu tt2 tr2) := by
  have hB0 := hB
  have g74 : ∀ {de fo : Int} {tt tr : List Int}, (sH H kd un nk le ap nu me (N : Int) de fo bs bu tt tr)[74]? = some (7, mdL kd un nk le ap nu me N de fo bs bu) := sH_74 hB
  have g85 : ∀ {de fo : Int} {tt tr : List Int}, (sH H kd un nk le ap nu me (N : Int) de fo bs bu tt tr)[85]? = some (8, tt) := sH_85 hB
  have g88 : ∀ {de fo : Int} {tt tr : List Int}, (sH H kd un nk le ap nu me (N : Int) de fo bs bu tt tr)[88]? = some (8, tr) := sH_88 hB
  obtain ⟨-, -, -, hz, htd, hrT, h87, hol, hoa, hD, hn, hbl, hN⟩ := hB
  have gz : ∀ {de fo : Int} {tt tr : List Int}, (sH H kd un nk le ap nu me (N : Int) de fo bs bu tt tr)[75]? = some (8, [wd, ht, rm, mo, sd, bo]) := sH_ne (by decide) (by decide) (by decide) hz
  have gtd : ∀ {de fo : Int} {tt tr : List Int}, (sH H kd un nk le ap nu me (N : Int) de fo bs bu tt tr)[76]? = some (8, td) := sH_ne (by decide) (by decide) (by decide) htd
  have g87 : ∀ {de fo : Int} {tt tr : List Int}, (sH H kd un nk le ap nu me (N : Int) de fo bs bu tt tr)[87]? = some (8, oa) := sH_ne (by decide) (by decide) (by decide) h87
  have hD0 := hD
  obtain ⟨r1, r2, r3, r4, r5, r6, r7, b1, b2⟩ := hD
  have hw := wh_bd r2.1 r2.2 r3.1 r3.2
  obtain ⟨m, hm⟩ : ∃ m : Nat, (m : Int) = 4 * kd := ⟨(4 * kd).toNat, by omega⟩
  intro M
  induction M with
  | zero =>
    intro s d tt tr T u v ho hd htl hrS hTl hT hb1 hb2 hmu
    have := mu_pop (tr := tr) (d := d) (by omega)
    omega
  | succ M IH =>
    intro s d tt tr T u v ho hd htl hrS hTl hT hb1 hb2 hmu
    obtain ⟨hs, ho9⟩ := opn_t.mp ho
    have hcs := cn_bd (opn bl n) s
    have hcn : cn (opn bl n) s + 1 ≤ cn (opn bl n) n := by
      have := cn_mono (p := opn bl n) (show s + 1 ≤ n from hs)
      rw [cn_t ho] at this
      exact this
    have hoa1 := hoa s ho
    rw [← hd] at hoa1
    have htt := hrS.1
    have hmp := mu_pop (tr := tr) (d := d) (by omega)
    have hPl := PP_len (tr := tr) (n := n) hbl s
    have hP9 : ix (PP bl n tr s) s = -9 := by rw [PP_hi hbl (by omega) (Nat.le_refl _), ho9]
    have hT9 : up T s (-9) = PP bl n tr s := by
      apply ix_ext (by rw [up_len, hTl, hPl])
      intro j h0 h1
      rw [up_len] at h1
      obtain ⟨c, rfl⟩ : ∃ c : Nat, j = (c : Int) := ⟨j.toNat, by omega⟩
      rw [ix_upn hTl (by omega)]
      by_cases e : s = c
      · rw [if_pos e, ← e, hP9]
      · rw [if_neg e]; exact hT c (by omega) (fun z => e z.symm)
    have hrS9 : relS (up tt s (-9)) (PP bl n tr s) sl kd := by
      rw [← hT9]
      exact relS_b hrS hTl (by omega) (Or.inl rfl)
    obtain ⟨b0, hb0⟩ : ∃ b0 : Nat, (b0 : Int) = ix tr d + 1 := ⟨(ix tr d + 1).toNat, by omega⟩
    have hRs : rmn (okM sl ed hu kd wd ht rm mo bs bu) bl n tr (s + 1) = gtl (gg (okM sl ed hu kd wd ht rm mo bs bu) bl n (PP bl n tr s) s) (24 - b0) ++ rmn (okM sl ed hu kd wd ht rm mo bs bu) bl n tr s := by
      simp only [rmn, if_pos ho]
      rw [← hd, show (ix tr (d : Int) + 1).toNat = b0 by omega]
    have hlo : ∀ i : Nat, i ≤ m → b0 ≤ i → (∀ x : Nat, b0 ≤ x → x < i → (okM sl ed hu kd wd ht rm mo bs bu) (PP bl n tr s) s x = false) → ∃ (de2 fo2 : Int) (tt2 tr2 : List Int), outc H bl sl ed hu kd wd ht rm mo un nk le ap nu me bs bu n N (rmn (okM sl ed hu kd wd ht rm mo bs bu) bl n tr (s + 1)) de2 fo2 tt2 tr2 ∧ Ev 4 141 89 [mR 74, mI (s : Int), mI (i : Int)] [] (sH H kd un nk le ap nu me (N : Int) (d : Int) 0 bs bu (up tt s (-9)) tr) (mI fo2) (sH H kd un nk le ap nu me (N : Int) de2 fo2 bs bu tt2 tr2) := by
      refine E_loop (n := m) _ ?_ ?_
      · intro i hi hh hbi hall
        have hcan := M_canBe (H := (sH H kd un nk le ap nu me (N : Int) (d : Int) 0 bs bu (up tt s (-9)) tr)) (T := PP bl n tr s) (s := s) (b := i) (op := N) (de := d) (fo := 0) (bs := bs) (bu := bu) g74 hD0 gz gtd hrT g85 hrS9 (by omega) (by omega)
        cases hok : (okM sl ed hu kd wd ht rm mo bs bu) (PP bl n tr s) s i with
        | false =>
          rw [hok] at hcan
          obtain ⟨de2, fo2, tt2, tr2, x1, hev⟩ := hh (by omega) (fun x h1 h2 => by
            rcases Nat.lt_or_ge x i with z | z
            · exact hall x h1 z
            · rw [show x = i by omega]; exact hok)
          refine ⟨de2, fo2, tt2, tr2, x1, ?_⟩
          have hcan0 : Call 3 140 [mR 74, mI (s : Int), mI (i : Int)] (sH H kd un nk le ap nu me (N : Int) (d : Int) 0 bs bu (up tt s (-9)) tr) (mI 0) (sH H kd un nk le ap nu me (N : Int) (d : Int) 0 bs bu (up tt s (-9)) tr) := hcan
          refine E_iload_n (pc' := 90) g141_89 rfl rfl ?_
          refine E_iconst (pc' := 91) g141_90 (by decide) rfl ?_
          refine E_aload_n (pc' := 92) g141_91 rfl rfl ?_
          refine E_getI (pc' := 95) g141_92 f141_75 tg7_0 (by decide) rfl g74 rfl ?_
          refine E_imul (pc' := 96) g141_95 (m_in_iff.mpr (by omega)) rfl ?_
          refine E_icge (pc' := 99) (pt := 114) g141_96 rfl rfl (fun c0 => ?_) (fun c0 => ?_)
          · first
            | (exfalso; omega)
            | (exfalso; omega)
          · first
            | (exfalso; omega)
            | (refine E_aload_n (pc' := 100) g141_99 rfl rfl ?_
               refine E_iload_n (pc' := 101) g141_100 rfl rfl ?_
               refine E_iload_n (pc' := 102) g141_101 rfl rfl ?_
               refine E_cV2i (pc' := 105) g141_102 k141_192 na140 rfl ow140 rfl (Nat.le_of_ble_eq_true rfl) g74 hcan0 (by decide) ?_
               refine E_ifne (pc' := 108) (pt := 114) g141_105 rfl rfl (fun c1 => ?_) (fun c1 => ?_)
               · first
                 | (exfalso; omega)
                 | (exfalso; omega)
               · first
                 | (exfalso; omega)
                 | (refine E_in2 (pc' := 111) g141_108 rfl (m_in_iff.mpr (by omega)) ?_
                    refine E_goto (pc' := 89) g141_111 rfl ?_
                    exact hev))
        | true =>
          rw [hok] at hcan
          have hcan1 : Call 3 140 [mR 74, mI (s : Int), mI (i : Int)] (sH H kd un nk le ap nu me (N : Int) (d : Int) 0 bs bu (up tt s (-9)) tr) (mI 1) (sH H kd un nk le ap nu me (N : Int) (d : Int) 0 bs bu (up tt s (-9)) tr) := hcan
          have hT1l : (up (PP bl n tr s) s (i : Int)).length = 6 := by rw [up_len]; exact hPl
          have hrS1 : relS (up (up tt s (-9)) s (i : Int)) (up (PP bl n tr s) s (i : Int)) sl kd := relS_b hrS9 hPl (by omega) (Or.inr (by omega))
          have etd : ∀ j : Nat, ix (up tr d (i : Int)) j = if d = j then (i : Int) else ix tr j := by
            intro j
            rw [ix_up (by omega) (by omega) (by omega)]
            by_cases e : d = j
            · rw [if_pos e, if_pos (by omega)]
            · rw [if_neg e, if_neg (by omega)]
          have ec1 : PP bl n (up tr d (i : Int)) s = PP bl n tr s := PP_congr (fun j hj => by rw [etd, if_neg (by omega)])
          have ec2 : rmn (okM sl ed hu kd wd ht rm mo bs bu) bl n (up tr d (i : Int)) s = rmn (okM sl ed hu kd wd ht rm mo bs bu) bl n tr s := rmn_congr (fun j hj => by rw [etd, if_neg (by omega)])
          have ec3 : PP bl n (up tr d (i : Int)) (s + 1) = up (PP bl n tr s) s (i : Int) := by
            simp only [PP, if_pos ho]
            rw [ec1, ← hd, etd, if_pos rfl]
          have ec4 : rmn (okM sl ed hu kd wd ht rm mo bs bu) bl n (up tr d (i : Int)) (s + 1) = gtl (gg (okM sl ed hu kd wd ht rm mo bs bu) bl n (PP bl n tr s) s) (24 - (i + 1)) ++ rmn (okM sl ed hu kd wd ht rm mo bs bu) bl n tr s := by
            simp only [rmn, if_pos ho]
            rw [ec1, ec2, ← hd, etd, if_pos rfl, show ((i : Int) + 1).toNat = i + 1 by omega]
          have eR : rmn (okM sl ed hu kd wd ht rm mo bs bu) bl n tr (s + 1) = qs (okM sl ed hu kd wd ht rm mo bs bu) (opn bl n) (n - (s + 1)) (s + 1) (up (PP bl n tr s) s (i : Int)) ++ rmn (okM sl ed hu kd wd ht rm mo bs bu) bl n (up tr d (i : Int)) (s + 1) := by
            rw [hRs, ec4, gtl_jump (c := b0) (k := i - b0) (by omega) (fun x h1 h2 => by
              unfold gg
              rw [if_neg (by rw [hall x h1 (by omega)]; decide)]), show b0 + (i - b0) = i by omega, gtl_at (by omega), List.append_assoc]
            congr 1
            unfold gg
            rw [if_pos hok]
          rcases next_open (bl := bl) (n := n) (k := n - (s + 1)) (s := s + 1) (by omega) with hno | ⟨q, hq1, hq2, hq3, hq4⟩
          · have sk := skip_all (ok := (okM sl ed hu kd wd ht rm mo bs bu)) (bl := bl) (n := n) (tr := up tr d (i : Int)) (s := s + 1) (k := n - (s + 1)) (fun j h1 h2 => hno j h1 (by omega))
            rw [show s + 1 + (n - (s + 1)) = n by omega] at sk
            have sk3 := sk.2.2
            rw [cn_t ho] at sk3
            have qk := qs_skip (ok := (okM sl ed hu kd wd ht rm mo bs bu)) (bl := bl) (n := n) (T := up (PP bl n tr s) s (i : Int)) (s := s + 1) (k := n - (s + 1)) (by omega) (fun j h1 h2 => hno j h1 (by omega))
            rw [show s + 1 + (n - (s + 1)) = n by omega, Nat.sub_self] at qk
            rw [qk] at eR
            have hleaf := N_leaf (un := un) (nk := nk) (le := le) (ap := ap) (nu := nu) (me := me) (bs := bs) (bu := bu) (tt := up (up tt s (-9)) s (i : Int)) (tr := up tr d (i : Int)) (u := mI (s : Int)) (v := mI (i : Int)) hB0
            refine ⟨N, 1, _, _, ⟨hrS1.1, by rw [up_len]; exact htl, Or.inr ⟨up (PP bl n tr s) s (i : Int), rmn (okM sl ed hu kd wd ht rm mo bs bu) bl n (up tr d (i : Int)) (s + 1), eR, rfl, rfl, hrS1, by rw [sk.2.1, ec3], sk.1, fun j hj => ?_⟩⟩, ?_⟩
            · rw [etd]
              by_cases e : d = j
              · rw [if_pos e]; omega
              · rw [if_neg e]; exact hb1 j (by omega)
            · have hdN : (d : Int) + 1 = N := by omega
              refine E_iload_n (pc' := 90) g141_89 rfl rfl ?_
              refine E_iconst (pc' := 91) g141_90 (by decide) rfl ?_
              refine E_aload_n (pc' := 92) g141_91 rfl rfl ?_
              refine E_getI (pc' := 95) g141_92 f141_75 tg7_0 (by decide) rfl g74 rfl ?_
              refine E_imul (pc' := 96) g141_95 (m_in_iff.mpr (by omega)) rfl ?_
              refine E_icge (pc' := 99) (pt := 114) g141_96 rfl rfl (fun c0 => ?_) (fun c0 => ?_)
              · first
                | (exfalso; omega)
                | (refine E_iload_n (pc' := 115) g141_114 rfl rfl ?_
                   refine E_iconst (pc' := 116) g141_115 (by decide) rfl ?_
                   refine E_aload_n (pc' := 117) g141_116 rfl rfl ?_
                   refine E_getI (pc' := 120) g141_117 f141_75 tg7_0 (by decide) rfl g74 rfl ?_
                   refine E_imul (pc' := 121) g141_120 (m_in_iff.mpr (by omega)) rfl ?_
                   refine E_icne (pc' := 124) (pt := 137) g141_121 rfl rfl (fun c1 => ?_) (fun c1 => ?_)
                   · first
                     | (exfalso; omega)
                     | (refine E_aload_n (pc' := 138) g141_137 rfl rfl ?_
                        refine E_getR (pc' := 141) g141_138 f141_50 tg7_21 rfl g74 rfl ?_
                        refine E_aload_n (pc' := 142) g141_141 rfl rfl ?_
                        refine E_getI (pc' := 145) g141_142 f141_179 tg7_22 (by decide) rfl g74 rfl ?_
                        refine E_iload_n (pc' := 146) g141_145 rfl rfl ?_
                        refine E_iastore (pc' := 147) g141_146 rfl g88 (by omega) (by omega) ?_
                        rw [sH_tr]
                        refine E_aload_n (pc' := 148) g141_147 rfl rfl ?_
                        refine E_getR (pc' := 151) g141_148 f141_41 tg7_17 rfl g74 rfl ?_
                        refine E_iload_n (pc' := 152) g141_151 rfl rfl ?_
                        refine E_iload_n (pc' := 153) g141_152 rfl rfl ?_
                        refine E_iastore (pc' := 154) g141_153 rfl g85 (by omega) (by rw [up_len]; omega) ?_
                        rw [sH_tt]
                        refine E_aload_n (pc' := 155) g141_154 rfl rfl ?_
                        refine E_dup (pc' := 156) g141_155 rfl ?_
                        refine E_getI (pc' := 159) g141_156 f141_179 tg7_22 (by decide) rfl g74 rfl ?_
                        refine E_iconst (pc' := 160) g141_159 (by decide) rfl ?_
                        refine E_iadd (pc' := 161) g141_160 (m_in_iff.mpr (by omega)) rfl ?_
                        refine E_putf (pc' := 164) g141_161 f141_179 tg7_22 fn7_22 rfl rfl g74 (Nat.le_of_ble_eq_true rfl) ?_
                        refine Ev_cast (H := sH H kd un nk le ap nu me (N : Int) ((d : Int) + 1) 0 bs bu (up (up tt s (-9)) s (i : Int)) (up tr d (i : Int))) ?_ rfl (sH_md (de2 := (d : Int) + 1) (fo2 := 0))
                        refine E_aload_n (pc' := 165) g141_164 rfl rfl ?_
                        refine E_getI (pc' := 168) g141_165 f141_179 tg7_22 (by decide) rfl g74 rfl ?_
                        refine E_aload_n (pc' := 169) g141_168 rfl rfl ?_
                        refine E_getI (pc' := 172) g141_169 f141_176 tg7_19 (by decide) rfl g74 rfl ?_
                        refine E_icge (pc' := 175) (pt := 185) g141_172 rfl rfl (fun c2 => ?_) (fun c2 => ?_)
                        · first
                          | (exfalso; omega)
                          | (refine E_goto (pc' := 26) g141_185 rfl ?_
                             rw [hdN]
                             exact hleaf)
                        · first
                          | (exfalso; omega)
                          | (exfalso; omega))
                   · first
                     | (exfalso; omega)
                     | (exfalso; omega))
              · first
                | (exfalso; omega)
                | (refine E_aload_n (pc' := 100) g141_99 rfl rfl ?_
                   refine E_iload_n (pc' := 101) g141_100 rfl rfl ?_
                   refine E_iload_n (pc' := 102) g141_101 rfl rfl ?_
                   refine E_cV2i (pc' := 105) g141_102 k141_192 na140 rfl ow140 rfl (Nat.le_of_ble_eq_true rfl) g74 hcan1 (by decide) ?_
                   refine E_ifne (pc' := 108) (pt := 114) g141_105 rfl rfl (fun c3 => ?_) (fun c3 => ?_)
                   · first
                     | (exfalso; omega)
                     | (refine E_iload_n (pc' := 115) g141_114 rfl rfl ?_
                        refine E_iconst (pc' := 116) g141_115 (by decide) rfl ?_
                        refine E_aload_n (pc' := 117) g141_116 rfl rfl ?_
                        refine E_getI (pc' := 120) g141_117 f141_75 tg7_0 (by decide) rfl g74 rfl ?_
                        refine E_imul (pc' := 121) g141_120 (m_in_iff.mpr (by omega)) rfl ?_
                        refine E_icne (pc' := 124) (pt := 137) g141_121 rfl rfl (fun c4 => ?_) (fun c4 => ?_)
                        · first
                          | (exfalso; omega)
                          | (refine E_aload_n (pc' := 138) g141_137 rfl rfl ?_
                             refine E_getR (pc' := 141) g141_138 f141_50 tg7_21 rfl g74 rfl ?_
                             refine E_aload_n (pc' := 142) g141_141 rfl rfl ?_
                             refine E_getI (pc' := 145) g141_142 f141_179 tg7_22 (by decide) rfl g74 rfl ?_
                             refine E_iload_n (pc' := 146) g141_145 rfl rfl ?_
                             refine E_iastore (pc' := 147) g141_146 rfl g88 (by omega) (by omega) ?_
                             rw [sH_tr]
                             refine E_aload_n (pc' := 148) g141_147 rfl rfl ?_
                             refine E_getR (pc' := 151) g141_148 f141_41 tg7_17 rfl g74 rfl ?_
                             refine E_iload_n (pc' := 152) g141_151 rfl rfl ?_
                             refine E_iload_n (pc' := 153) g141_152 rfl rfl ?_
                             refine E_iastore (pc' := 154) g141_153 rfl g85 (by omega) (by rw [up_len]; omega) ?_
                             rw [sH_tt]
                             refine E_aload_n (pc' := 155) g141_154 rfl rfl ?_
                             refine E_dup (pc' := 156) g141_155 rfl ?_
                             refine E_getI (pc' := 159) g141_156 f141_179 tg7_22 (by decide) rfl g74 rfl ?_
                             refine E_iconst (pc' := 160) g141_159 (by decide) rfl ?_
                             refine E_iadd (pc' := 161) g141_160 (m_in_iff.mpr (by omega)) rfl ?_
                             refine E_putf (pc' := 164) g141_161 f141_179 tg7_22 fn7_22 rfl rfl g74 (Nat.le_of_ble_eq_true rfl) ?_
                             refine Ev_cast (H := sH H kd un nk le ap nu me (N : Int) ((d : Int) + 1) 0 bs bu (up (up tt s (-9)) s (i : Int)) (up tr d (i : Int))) ?_ rfl (sH_md (de2 := (d : Int) + 1) (fo2 := 0))
                             refine E_aload_n (pc' := 165) g141_164 rfl rfl ?_
                             refine E_getI (pc' := 168) g141_165 f141_179 tg7_22 (by decide) rfl g74 rfl ?_
                             refine E_aload_n (pc' := 169) g141_168 rfl rfl ?_
                             refine E_getI (pc' := 172) g141_169 f141_176 tg7_19 (by decide) rfl g74 rfl ?_
                             refine E_icge (pc' := 175) (pt := 185) g141_172 rfl rfl (fun c5 => ?_) (fun c5 => ?_)
                             · first
                               | (exfalso; omega)
                               | (refine E_goto (pc' := 26) g141_185 rfl ?_
                                  rw [hdN]
                                  exact hleaf)
                             · first
                               | (exfalso; omega)
                               | (exfalso; omega))
                        · first
                          | (exfalso; omega)
                          | (exfalso; omega))
                   · first
                     | (exfalso; omega)
                     | (exfalso; omega))
          · have sk := skip_all (ok := (okM sl ed hu kd wd ht rm mo bs bu)) (bl := bl) (n := n) (tr := up tr d (i : Int)) (s := s + 1) (k := q - (s + 1)) (fun j h1 h2 => hq4 j h1 (by omega))
            rw [show s + 1 + (q - (s + 1)) = q by omega] at sk
            have sk3 := sk.2.2
            rw [cn_t ho, ← hd] at sk3
            have hcq : cn (opn bl n) q + 1 ≤ cn (opn bl n) n := by
              have := cn_mono (p := opn bl n) (show q + 1 ≤ n from hq2)
              rw [cn_t hq3] at this
              exact this
            have qk := qs_skip (ok := (okM sl ed hu kd wd ht rm mo bs bu)) (bl := bl) (n := n) (T := up (PP bl n tr s) s (i : Int)) (s := s + 1) (k := q - (s + 1)) (by omega) (fun j h1 h2 => hq4 j h1 (by omega))
            rw [show s + 1 + (q - (s + 1)) = q by omega] at qk
            have hcN := cn_bd (opn bl n) n
            have ete : ∀ j : Nat, ix (up (up tr d (i : Int)) ((d : Int) + 1) (-1)) j = if d + 1 = j then -1 else ix (up tr d (i : Int)) j := by
              intro j
              rw [ix_up (by omega) (by rw [up_len]; omega) (by omega)]
              by_cases e : d + 1 = j
              · rw [if_pos e, if_pos (by omega)]
              · rw [if_neg e, if_neg (by omega)]
            have ed1 : PP bl n (up (up tr d (i : Int)) ((d : Int) + 1) (-1)) q = up (PP bl n tr s) s (i : Int) := by
              rw [PP_congr (tr2 := up tr d (i : Int)) (fun j hj => by rw [ete, if_neg (by omega)]), sk.2.1, ec3]
            have ed2 : rmn (okM sl ed hu kd wd ht rm mo bs bu) bl n (up (up tr d (i : Int)) ((d : Int) + 1) (-1)) q = rmn (okM sl ed hu kd wd ht rm mo bs bu) bl n (up tr d (i : Int)) (s + 1) := by
              rw [rmn_congr (tr2 := up tr d (i : Int)) (fun j hj => by rw [ete, if_neg (by omega)]), sk.1]
            have ed3 : rmn (okM sl ed hu kd wd ht rm mo bs bu) bl n (up (up tr d (i : Int)) ((d : Int) + 1) (-1)) (q + 1) = rmn (okM sl ed hu kd wd ht rm mo bs bu) bl n tr (s + 1) := by
              simp only [rmn, if_pos hq3]
              have e1 : ix (up (up tr d (i : Int)) ((d : Int) + 1) (-1)) (cn (opn bl n) q) = -1 := by
                rw [sk3]
                have := ete (d + 1)
                rw [if_pos rfl] at this
                exact this
              rw [e1, ed1, ed2]
              rw [show 24 - ((-1 : Int) + 1).toNat = 24 by decide, gg_all hq3, ← qk]
              exact eR.symm
            obtain ⟨de2, fo2, tt2, tr2, x1, hev⟩ := IH q (d + 1) (up (up tt s (-9)) s (i : Int)) (up (up tr d (i : Int)) ((d : Int) + 1) (-1)) (up (PP bl n tr s) s (i : Int)) (mI (s : Int)) (mI (i : Int)) hq3 (by omega) (by rw [up_len, up_len]; exact htl) hrS1 hT1l (fun j _ _ => by rw [ed1]) (fun j hj => by
              rw [ete, if_neg (by omega), etd]
              by_cases e : d = j
              · rw [if_pos e]; omega
              · rw [if_neg e]; exact hb1 j (by omega)) (Or.inr (by rw [ete, if_pos rfl])) (by
              have := mu_push (tr := tr) (tr2 := up (up tr d (i : Int)) ((d : Int) + 1) (-1)) (d := d) (by omega) (fun j hj => by rw [ete, if_neg (by omega), etd, if_neg (by omega)]) (by rw [ete, if_neg (by omega), etd, if_pos rfl]; omega) (by rw [ete, if_neg (by omega), etd, if_pos rfl]; omega) (by rw [ete, if_pos rfl])
              omega)
            rw [ed3] at x1
            refine ⟨de2, fo2, tt2, tr2, x1, ?_⟩
            refine E_iload_n (pc' := 90) g141_89 rfl rfl ?_
            refine E_iconst (pc' := 91) g141_90 (by decide) rfl ?_
            refine E_aload_n (pc' := 92) g141_91 rfl rfl ?_
            refine E_getI (pc' := 95) g141_92 f141_75 tg7_0 (by decide) rfl g74 rfl ?_
            refine E_imul (pc' := 96) g141_95 (m_in_iff.mpr (by omega)) rfl ?_
            refine E_icge (pc' := 99) (pt := 114) g141_96 rfl rfl (fun c0 => ?_) (fun c0 => ?_)
            · first
              | (exfalso; omega)
              | (refine E_iload_n (pc' := 115) g141_114 rfl rfl ?_
                 refine E_iconst (pc' := 116) g141_115 (by decide) rfl ?_
                 refine E_aload_n (pc' := 117) g141_116 rfl rfl ?_
                 refine E_getI (pc' := 120) g141_117 f141_75 tg7_0 (by decide) rfl g74 rfl ?_
                 refine E_imul (pc' := 121) g141_120 (m_in_iff.mpr (by omega)) rfl ?_
                 refine E_icne (pc' := 124) (pt := 137) g141_121 rfl rfl (fun c1 => ?_) (fun c1 => ?_)
                 · first
                   | (exfalso; omega)
                   | (refine E_aload_n (pc' := 138) g141_137 rfl rfl ?_
                      refine E_getR (pc' := 141) g141_138 f141_50 tg7_21 rfl g74 rfl ?_
                      refine E_aload_n (pc' := 142) g141_141 rfl rfl ?_
                      refine E_getI (pc' := 145) g141_142 f141_179 tg7_22 (by decide) rfl g74 rfl ?_
                      refine E_iload_n (pc' := 146) g141_145 rfl rfl ?_
                      refine E_iastore (pc' := 147) g141_146 rfl g88 (by omega) (by omega) ?_
                      rw [sH_tr]
                      refine E_aload_n (pc' := 148) g141_147 rfl rfl ?_
                      refine E_getR (pc' := 151) g141_148 f141_41 tg7_17 rfl g74 rfl ?_
                      refine E_iload_n (pc' := 152) g141_151 rfl rfl ?_
                      refine E_iload_n (pc' := 153) g141_152 rfl rfl ?_
                      refine E_iastore (pc' := 154) g141_153 rfl g85 (by omega) (by rw [up_len]; omega) ?_
                      rw [sH_tt]
                      refine E_aload_n (pc' := 155) g141_154 rfl rfl ?_
                      refine E_dup (pc' := 156) g141_155 rfl ?_
                      refine E_getI (pc' := 159) g141_156 f141_179 tg7_22 (by decide) rfl g74 rfl ?_
                      refine E_iconst (pc' := 160) g141_159 (by decide) rfl ?_
                      refine E_iadd (pc' := 161) g141_160 (m_in_iff.mpr (by omega)) rfl ?_
                      refine E_putf (pc' := 164) g141_161 f141_179 tg7_22 fn7_22 rfl rfl g74 (Nat.le_of_ble_eq_true rfl) ?_
                      refine Ev_cast (H := sH H kd un nk le ap nu me (N : Int) ((d : Int) + 1) 0 bs bu (up (up tt s (-9)) s (i : Int)) (up tr d (i : Int))) ?_ rfl (sH_md (de2 := (d : Int) + 1) (fo2 := 0))
                      refine E_aload_n (pc' := 165) g141_164 rfl rfl ?_
                      refine E_getI (pc' := 168) g141_165 f141_179 tg7_22 (by decide) rfl g74 rfl ?_
                      refine E_aload_n (pc' := 169) g141_168 rfl rfl ?_
                      refine E_getI (pc' := 172) g141_169 f141_176 tg7_19 (by decide) rfl g74 rfl ?_
                      refine E_icge (pc' := 175) (pt := 185) g141_172 rfl rfl (fun c2 => ?_) (fun c2 => ?_)
                      · first
                        | (exfalso; omega)
                        | (rw [sH_tr]
                           refine E_goto (pc' := 26) g141_185 rfl ?_
                           exact hev)
                      · first
                        | (exfalso; omega)
                        | (refine E_aload_n (pc' := 176) g141_175 rfl rfl ?_
                           refine E_getR (pc' := 179) g141_176 f141_50 tg7_21 rfl g74 rfl ?_
                           refine E_aload_n (pc' := 180) g141_179 rfl rfl ?_
                           refine E_getI (pc' := 183) g141_180 f141_179 tg7_22 (by decide) rfl g74 rfl ?_
                           refine E_iconst (pc' := 184) g141_183 (by decide) rfl ?_
                           refine E_iastore (pc' := 185) g141_184 rfl g88 (by omega) (by rw [up_len]; omega) ?_
                           rw [sH_tr]
                           refine E_goto (pc' := 26) g141_185 rfl ?_
                           exact hev))
                 · first
                   | (exfalso; omega)
                   | (exfalso; omega))
            · first
              | (exfalso; omega)
              | (refine E_aload_n (pc' := 100) g141_99 rfl rfl ?_
                 refine E_iload_n (pc' := 101) g141_100 rfl rfl ?_
                 refine E_iload_n (pc' := 102) g141_101 rfl rfl ?_
                 refine E_cV2i (pc' := 105) g141_102 k141_192 na140 rfl ow140 rfl (Nat.le_of_ble_eq_true rfl) g74 hcan1 (by decide) ?_
                 refine E_ifne (pc' := 108) (pt := 114) g141_105 rfl rfl (fun c3 => ?_) (fun c3 => ?_)
                 · first
                   | (exfalso; omega)
                   | (refine E_iload_n (pc' := 115) g141_114 rfl rfl ?_
                      refine E_iconst (pc' := 116) g141_115 (by decide) rfl ?_
                      refine E_aload_n (pc' := 117) g141_116 rfl rfl ?_
                      refine E_getI (pc' := 120) g141_117 f141_75 tg7_0 (by decide) rfl g74 rfl ?_
                      refine E_imul (pc' := 121) g141_120 (m_in_iff.mpr (by omega)) rfl ?_
                      refine E_icne (pc' := 124) (pt := 137) g141_121 rfl rfl (fun c4 => ?_) (fun c4 => ?_)
                      · first
                        | (exfalso; omega)
                        | (refine E_aload_n (pc' := 138) g141_137 rfl rfl ?_
                           refine E_getR (pc' := 141) g141_138 f141_50 tg7_21 rfl g74 rfl ?_
                           refine E_aload_n (pc' := 142) g141_141 rfl rfl ?_
                           refine E_getI (pc' := 145) g141_142 f141_179 tg7_22 (by decide) rfl g74 rfl ?_
                           refine E_iload_n (pc' := 146) g141_145 rfl rfl ?_
                           refine E_iastore (pc' := 147) g141_146 rfl g88 (by omega) (by omega) ?_
                           rw [sH_tr]
                           refine E_aload_n (pc' := 148) g141_147 rfl rfl ?_
                           refine E_getR (pc' := 151) g141_148 f141_41 tg7_17 rfl g74 rfl ?_
                           refine E_iload_n (pc' := 152) g141_151 rfl rfl ?_
                           refine E_iload_n (pc' := 153) g141_152 rfl rfl ?_
                           refine E_iastore (pc' := 154) g141_153 rfl g85 (by omega) (by rw [up_len]; omega) ?_
                           rw [sH_tt]
                           refine E_aload_n (pc' := 155) g141_154 rfl rfl ?_
                           refine E_dup (pc' := 156) g141_155 rfl ?_
                           refine E_getI (pc' := 159) g141_156 f141_179 tg7_22 (by decide) rfl g74 rfl ?_
                           refine E_iconst (pc' := 160) g141_159 (by decide) rfl ?_
                           refine E_iadd (pc' := 161) g141_160 (m_in_iff.mpr (by omega)) rfl ?_
                           refine E_putf (pc' := 164) g141_161 f141_179 tg7_22 fn7_22 rfl rfl g74 (Nat.le_of_ble_eq_true rfl) ?_
                           refine Ev_cast (H := sH H kd un nk le ap nu me (N : Int) ((d : Int) + 1) 0 bs bu (up (up tt s (-9)) s (i : Int)) (up tr d (i : Int))) ?_ rfl (sH_md (de2 := (d : Int) + 1) (fo2 := 0))
                           refine E_aload_n (pc' := 165) g141_164 rfl rfl ?_
                           refine E_getI (pc' := 168) g141_165 f141_179 tg7_22 (by decide) rfl g74 rfl ?_
                           refine E_aload_n (pc' := 169) g141_168 rfl rfl ?_
                           refine E_getI (pc' := 172) g141_169 f141_176 tg7_19 (by decide) rfl g74 rfl ?_
                           refine E_icge (pc' := 175) (pt := 185) g141_172 rfl rfl (fun c5 => ?_) (fun c5 => ?_)
                           · first
                             | (exfalso; omega)
                             | (rw [sH_tr]
                                refine E_goto (pc' := 26) g141_185 rfl ?_
                                exact hev)
                           · first
                             | (exfalso; omega)
                             | (refine E_aload_n (pc' := 176) g141_175 rfl rfl ?_
                                refine E_getR (pc' := 179) g141_176 f141_50 tg7_21 rfl g74 rfl ?_
                                refine E_aload_n (pc' := 180) g141_179 rfl rfl ?_
                                refine E_getI (pc' := 183) g141_180 f141_179 tg7_22 (by decide) rfl g74 rfl ?_
                                refine E_iconst (pc' := 184) g141_183 (by decide) rfl ?_
                                refine E_iastore (pc' := 185) g141_184 rfl g88 (by omega) (by rw [up_len]; omega) ?_
                                rw [sH_tr]
                                refine E_goto (pc' := 26) g141_185 rfl ?_
                                exact hev))
                      · first
                        | (exfalso; omega)
                        | (exfalso; omega))
                 · first
                   | (exfalso; omega)
                   | (exfalso; omega))
      · intro hbi hall
        have hcb := cn_bd (opn bl n) n
        have egt : gtl (gg (okM sl ed hu kd wd ht rm mo bs bu) bl n (PP bl n tr s) s) (24 - b0) = [] := by
          rw [gtl_jump (c := b0) (k := 24 - b0) (by omega) (fun x h1 h2 => by
            unfold gg
            rcases Nat.lt_or_ge x m with z | z
            · rw [if_neg (by rw [hall x h1 z]; decide)]
            · rw [if_neg (fun y => by have := (okM_t.mp y).1; omega)]), show b0 + (24 - b0) = 24 by omega]
          rfl
        rw [egt, List.nil_append] at hRs
        have hPbd := hPl
        rcases pop_rem (ok := (okM sl ed hu kd wd ht rm mo bs bu)) (bl := bl) (n := n) (tr := tr) (s := s) (by omega) with ⟨z1, z2, z3⟩ | ⟨q, hq1, hq3, hq5, hq6, hq7⟩
        · have hnn := N_none (un := un) (nk := nk) (le := le) (ap := ap) (nu := nu) (me := me) (bs := bs) (bu := bu) (tt := up tt s (-9)) (tr := tr) (de := (d : Int) - 1) (u := mI (s : Int)) (v := mI (m : Int)) hB0 (by omega)
          refine ⟨(d : Int) - 1, 0, up tt s (-9), tr, ⟨by rw [up_len]; exact htt, htl, Or.inl ⟨by rw [hRs, z3], rfl⟩⟩, ?_⟩
          refine E_iload_n (pc' := 90) g141_89 rfl rfl ?_
          refine E_iconst (pc' := 91) g141_90 (by decide) rfl ?_
          refine E_aload_n (pc' := 92) g141_91 rfl rfl ?_
          refine E_getI (pc' := 95) g141_92 f141_75 tg7_0 (by decide) rfl g74 rfl ?_
          refine E_imul (pc' := 96) g141_95 (m_in_iff.mpr (by omega)) rfl ?_
          refine E_icge (pc' := 99) (pt := 114) g141_96 rfl rfl (fun c0 => ?_) (fun c0 => ?_)
          · first
            | (exfalso; omega)
            | (refine E_iload_n (pc' := 115) g141_114 rfl rfl ?_
               refine E_iconst (pc' := 116) g141_115 (by decide) rfl ?_
               refine E_aload_n (pc' := 117) g141_116 rfl rfl ?_
               refine E_getI (pc' := 120) g141_117 f141_75 tg7_0 (by decide) rfl g74 rfl ?_
               refine E_imul (pc' := 121) g141_120 (m_in_iff.mpr (by omega)) rfl ?_
               refine E_icne (pc' := 124) (pt := 137) g141_121 rfl rfl (fun c1 => ?_) (fun c1 => ?_)
               · first
                 | (exfalso; omega)
                 | (exfalso; omega)
               · first
                 | (exfalso; omega)
                 | (refine E_aload_n (pc' := 125) g141_124 rfl rfl ?_
                    refine E_dup (pc' := 126) g141_125 rfl ?_
                    refine E_getI (pc' := 129) g141_126 f141_179 tg7_22 (by decide) rfl g74 rfl ?_
                    refine E_iconst (pc' := 130) g141_129 (by decide) rfl ?_
                    refine E_isub (pc' := 131) g141_130 (m_in_iff.mpr (by omega)) rfl ?_
                    refine E_putf (pc' := 134) g141_131 f141_179 tg7_22 fn7_22 rfl rfl g74 (Nat.le_of_ble_eq_true rfl) ?_
                    refine Ev_cast (H := sH H kd un nk le ap nu me (N : Int) ((d : Int) - 1) 0 bs bu (up tt s (-9)) tr) ?_ rfl (sH_md (de2 := (d : Int) - 1) (fo2 := 0))
                    refine E_goto (pc' := 185) g141_134 rfl ?_
                    refine E_goto (pc' := 26) g141_185 rfl ?_
                    exact hnn))
          · first
            | (exfalso; omega)
            | (exfalso; omega)
        · have hcq := cn_bd (opn bl n) q
          have hPq : PP bl n tr (q + 1) = up (PP bl n tr q) q (ix tr ((d - 1 : Nat) : Int)) := by
            simp only [PP, if_pos hq3]
            rw [show cn (opn bl n) q = ((d - 1 : Nat) : Int) by omega]
          have hmq : mu tr (d - 1 + 1) ≤ M := by rw [show d - 1 + 1 = d by omega]; omega
          obtain ⟨de2, fo2, tt2, tr2, x1, hev⟩ := IH q (d - 1) (up tt s (-9)) tr (PP bl n tr s) (mI (s : Int)) (mI (m : Int)) hq3 (by omega) htl hrS9 hPl (fun j hj hjq => by
            rw [hq7, hPq, ix_upn (PP_len hbl q) (by omega), if_neg (fun z => hjq z.symm)]) (fun j hj => hb1 j (by omega)) (Or.inl (by have := hb1 (d - 1) (by omega); omega)) hmq
          rw [← hq6, ← hRs] at x1
          refine ⟨de2, fo2, tt2, tr2, x1, ?_⟩
          rw [show ((d - 1 : Nat) : Int) = (d : Int) - 1 by omega] at hev
          refine E_iload_n (pc' := 90) g141_89 rfl rfl ?_
          refine E_iconst (pc' := 91) g141_90 (by decide) rfl ?_
          refine E_aload_n (pc' := 92) g141_91 rfl rfl ?_
          refine E_getI (pc' := 95) g141_92 f141_75 tg7_0 (by decide) rfl g74 rfl ?_
          refine E_imul (pc' := 96) g141_95 (m_in_iff.mpr (by omega)) rfl ?_
          refine E_icge (pc' := 99) (pt := 114) g141_96 rfl rfl (fun c0 => ?_) (fun c0 => ?_)
          · first
            | (exfalso; omega)
            | (refine E_iload_n (pc' := 115) g141_114 rfl rfl ?_
               refine E_iconst (pc' := 116) g141_115 (by decide) rfl ?_
               refine E_aload_n (pc' := 117) g141_116 rfl rfl ?_
               refine E_getI (pc' := 120) g141_117 f141_75 tg7_0 (by decide) rfl g74 rfl ?_
               refine E_imul (pc' := 121) g141_120 (m_in_iff.mpr (by omega)) rfl ?_
               refine E_icne (pc' := 124) (pt := 137) g141_121 rfl rfl (fun c1 => ?_) (fun c1 => ?_)
               · first
                 | (exfalso; omega)
                 | (exfalso; omega)
               · first
                 | (exfalso; omega)
                 | (refine E_aload_n (pc' := 125) g141_124 rfl rfl ?_
                    refine E_dup (pc' := 126) g141_125 rfl ?_
                    refine E_getI (pc' := 129) g141_126 f141_179 tg7_22 (by decide) rfl g74 rfl ?_
                    refine E_iconst (pc' := 130) g141_129 (by decide) rfl ?_
                    refine E_isub (pc' := 131) g141_130 (m_in_iff.mpr (by omega)) rfl ?_
                    refine E_putf (pc' := 134) g141_131 f141_179 tg7_22 fn7_22 rfl rfl g74 (Nat.le_of_ble_eq_true rfl) ?_
                    refine Ev_cast (H := sH H kd un nk le ap nu me (N : Int) ((d : Int) - 1) 0 bs bu (up tt s (-9)) tr) ?_ rfl (sH_md (de2 := (d : Int) - 1) (fo2 := 0))
                    refine E_goto (pc' := 185) g141_134 rfl ?_
                    refine E_goto (pc' := 26) g141_185 rfl ?_
                    exact hev))
          · first
            | (exfalso; omega)
            | (exfalso; omega)
    obtain ⟨de2, fo2, tt2, tr2, x1, hev⟩ := hlo b0 (by omega) (Nat.le_refl _) (fun x h1 h2 => absurd h2 (by omega))
    refine ⟨de2, fo2, tt2, tr2, x1, ?_⟩
    refine E_aload_n (pc' := 27) g141_26 rfl rfl ?_
    refine E_getI (pc' := 30) g141_27 f141_179 tg7_22 (by decide) rfl g74 rfl ?_
    refine E_iflt (pc' := 33) (pt := 188) g141_30 rfl rfl (fun c0 => ?_) (fun c0 => ?_)
    · first
      | (exfalso; omega)
      | (exfalso; omega)
    · first
      | (exfalso; omega)
      | (refine E_aload_n (pc' := 34) g141_33 rfl rfl ?_
         refine E_getI (pc' := 37) g141_34 f141_182 tg7_23 (by decide) rfl g74 rfl ?_
         refine E_ifne (pc' := 40) (pt := 188) g141_37 rfl rfl (fun c1 => ?_) (fun c1 => ?_)
         · first
           | (exfalso; omega)
           | (exfalso; omega)
         · first
           | (exfalso; omega)
           | (refine E_aload_n (pc' := 41) g141_40 rfl rfl ?_
              refine E_getI (pc' := 44) g141_41 f141_179 tg7_22 (by decide) rfl g74 rfl ?_
              refine E_aload_n (pc' := 45) g141_44 rfl rfl ?_
              refine E_getI (pc' := 48) g141_45 f141_176 tg7_19 (by decide) rfl g74 rfl ?_
              refine E_icne (pc' := 51) (pt := 59) g141_48 rfl rfl (fun c2 => ?_) (fun c2 => ?_)
              · first
                | (exfalso; omega)
                | (refine E_aload_n (pc' := 60) g141_59 rfl rfl ?_
                   refine E_getR (pc' := 63) g141_60 f141_47 tg7_20 rfl g74 rfl ?_
                   refine E_aload_n (pc' := 64) g141_63 rfl rfl ?_
                   refine E_getI (pc' := 67) g141_64 f141_179 tg7_22 (by decide) rfl g74 rfl ?_
                   refine E_iald (pc' := 68) (v := (s : Int)) g141_67 rfl g87 (by omega) (by omega) hoa1 ?_
                   refine E_st1 (pc' := 69) g141_68 rfl ?_
                   refine E_aload_n (pc' := 70) g141_69 rfl rfl ?_
                   refine E_getR (pc' := 73) g141_70 f141_41 tg7_17 rfl g74 rfl ?_
                   refine E_iload_n (pc' := 74) g141_73 rfl rfl ?_
                   refine E_bipush (pc' := 76) g141_74 (by decide) rfl ?_
                   refine E_iastore (pc' := 77) g141_76 rfl g85 (by omega) (by omega) ?_
                   rw [sH_tt]
                   refine E_aload_n (pc' := 78) g141_77 rfl rfl ?_
                   refine E_getR (pc' := 81) g141_78 f141_50 tg7_21 rfl g74 rfl ?_
                   refine E_aload_n (pc' := 82) g141_81 rfl rfl ?_
                   refine E_getI (pc' := 85) g141_82 f141_179 tg7_22 (by decide) rfl g74 rfl ?_
                   refine E_iaload (pc' := 86) g141_85 rfl g88 (by omega) (by omega) ?_
                   refine E_iconst (pc' := 87) g141_86 (by decide) rfl ?_
                   refine E_iadd (pc' := 88) g141_87 (m_in_iff.mpr (by omega)) rfl ?_
                   refine E_st2 (pc' := 89) g141_88 rfl ?_
                   rw [← hb0]
                   exact hev)
              · first
                | (exfalso; omega)
                | (exfalso; omega)))
end NQ
