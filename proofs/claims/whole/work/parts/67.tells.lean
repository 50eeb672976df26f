/-! tells -/
theorem len6 {Z : List Int} (h : Z.length = 6) : ∃ a b c d e f, Z = [a, b, c, d, e, f] := by
  match Z, h with
  | [a, b, c, d, e, f], _ => exact ⟨a, b, c, d, e, f, rfl⟩
theorem len2 {Z : List Int} (h : Z.length = 2) : ∃ a b, Z = [a, b] := by
  match Z, h with
  | [a, b], _ => exact ⟨a, b, rfl⟩
/-- what the model becomes -/
def bH (H : mH) (m sz td ss ik : List Int) : mH := pt (pt (pt (pt (pt H 74 m) 75 sz) 76 td) 77 ss) 79 ik
def bBase (H : mH) : Prop := (∃ q, H[74]? = some (7, q)) ∧ (∃ q, H[75]? = some (8, q)) ∧ (∃ q, H[76]? = some (8, q)) ∧ (∃ q, H[77]? = some (8, q)) ∧ ∃ q, H[79]? = some (9, q)
def ssB (ss ns : List Int) (nk : Int) : List Int := fil (fil ss 0 (fun _ => -9) 9) 9 (fun k => if (k : Int) < nk then ix ns k else 0) 6
section BEC
variable {H : mH} {kd un nk le ap nu me op de fo bs bu : Int} {tx Z td ns m m2 sz t0 ss ik sz2 t2 ss2 ik2 : List Int} {n p : Nat}
theorem bH_74 (hB : bBase H) : (bH H m sz t0 ss ik)[74]? = some (7, m) := by
  obtain ⟨⟨q, h⟩, -⟩ := hB
  exact pt_nx (by decide) (pt_nx (by decide) (pt_nx (by decide) (pt_nx (by decide) (pt_self h))))
theorem bH_75 (hB : bBase H) : (bH H m sz t0 ss ik)[75]? = some (8, sz) := by
  obtain ⟨-, ⟨q, h⟩, -⟩ := hB
  exact pt_nx (by decide) (pt_nx (by decide) (pt_nx (by decide) (pt_self (pt_nx (by decide) h))))
theorem bH_76 (hB : bBase H) : (bH H m sz t0 ss ik)[76]? = some (8, t0) := by
  obtain ⟨-, -, ⟨q, h⟩, -⟩ := hB
  exact pt_nx (by decide) (pt_nx (by decide) (pt_self (pt_nx (by decide) (pt_nx (by decide) h))))
theorem bH_77 (hB : bBase H) : (bH H m sz t0 ss ik)[77]? = some (8, ss) := by
  obtain ⟨-, -, -, ⟨q, h⟩, -⟩ := hB
  exact pt_nx (by decide) (pt_self (pt_nx (by decide) (pt_nx (by decide) (pt_nx (by decide) h))))
theorem bH_79 (hB : bBase H) : (bH H m sz t0 ss ik)[79]? = some (9, ik) := by
  obtain ⟨-, -, -, -, ⟨q, h⟩⟩ := hB
  exact pt_self (pt_nx (by decide) (pt_nx (by decide) (pt_nx (by decide) (pt_nx (by decide) h))))
theorem bH_ne {a : Nat} {c : Option (Nat × List Int)} (h1 : 74 ≠ a) (h2 : 75 ≠ a) (h3 : 76 ≠ a) (h4 : 77 ≠ a) (h5 : 79 ≠ a) (h : H[a]? = c) : (bH H m sz t0 ss ik)[a]? = c := pt_nx h5 (pt_nx h4 (pt_nx h3 (pt_nx h2 (pt_nx h1 h))))
theorem bH_m : pt (bH H m sz t0 ss ik) 74 m2 = bH H m2 sz t0 ss ik := by
  unfold bH
  rw [pt_swap (a := 79) (b := 74) (by decide), pt_swap (a := 77) (b := 74) (by decide), pt_swap (a := 76) (b := 74) (by decide), pt_swap (a := 75) (b := 74) (by decide), pt_pt]
theorem bH_sz : pt (bH H m sz t0 ss ik) 75 sz2 = bH H m sz2 t0 ss ik := by
  unfold bH
  rw [pt_swap (a := 79) (b := 75) (by decide), pt_swap (a := 77) (b := 75) (by decide), pt_swap (a := 76) (b := 75) (by decide), pt_pt]
theorem bH_t : pt (bH H m sz t0 ss ik) 76 t2 = bH H m sz t2 ss ik := by
  unfold bH
  rw [pt_swap (a := 79) (b := 76) (by decide), pt_swap (a := 77) (b := 76) (by decide), pt_pt]
theorem bH_ss : pt (bH H m sz t0 ss ik) 77 ss2 = bH H m sz t0 ss2 ik := by
  unfold bH
  rw [pt_swap (a := 79) (b := 77) (by decide), pt_pt]
theorem bH_ik : pt (bH H m sz t0 ss ik) 79 ik2 = bH H m sz t0 ss ik2 := by
  unfold bH
  rw [pt_pt]
theorem bH_self (h1 : H[74]? = some (7, m)) (h2 : H[75]? = some (8, sz)) (h3 : H[76]? = some (8, t0)) (h4 : H[77]? = some (8, ss)) (h5 : H[79]? = some (9, ik)) : bH H m sz t0 ss ik = H := by
  unfold bH
  rw [pt_same h1, pt_same h2, pt_same h3, pt_same h4, pt_same h5]
theorem M_becomes (h74 : H[74]? = some (7, mdL kd un nk le ap nu me op de fo bs bu)) (h75 : H[75]? = some (8, sz)) (hsz : sz.length = 6) (h76 : H[76]? = some (8, t0)) (ht0 : t0.length = 30) (h77 : H[77]? = some (8, ss)) (hs15 : ss.length = 15) (h79 : H[79]? = some (9, ik)) (hik : ik.length = 2) (h81 : H[81]? = some (8, Z)) (hZ : Z.length = 6) (h82 : H[82]? = some (8, td)) (htd : td.length = 30) (h83 : H[83]? = some (8, ns)) (hns : ns.length = 6) : Call 0 100 [mR 74] H none (bH H (mdL nk 0 nk le ap nu me op de fo bs bu) Z td (ssB ss ns nk) [0, 0]) := by
  have hB : bBase H := ⟨⟨_, h74⟩, ⟨_, h75⟩, ⟨_, h76⟩, ⟨_, h77⟩, ⟨_, h79⟩⟩
  obtain ⟨k0, k1, rfl⟩ := len2 hik
  refine Call_of rfl ?_
  refine Ev_cast (H := (bH H (mdL kd un nk le ap nu me op de fo bs bu) sz t0 ss [k0, k1])) ?_ rfl (bH_self h74 h75 h76 h77 h79).symm
  refine E_aload_n (pc' := 1) g100_0 rfl rfl ?_
  refine E_aload_n (pc' := 2) g100_1 rfl rfl ?_
  refine E_getI (pc' := 5) g100_2 f100_71 tg7_8 (by decide) rfl (bH_74 hB) rfl ?_
  refine E_putf (pc' := 8) g100_5 f100_75 tg7_0 fn7_0 rfl rfl (bH_74 hB) (Nat.le_of_ble_eq_true rfl) ?_
  rw [bH_m]
  refine Ev_cast (H := (bH H (mdL nk un nk le ap nu me op de fo bs bu) sz t0 ss [k0, k1])) ?_ rfl rfl
  refine E_iconst (pc' := 9) g100_8 (by decide) rfl ?_
  refine E_st1 (pc' := 10) g100_9 rfl ?_
  refine Ev_cast (H := (bH H (mdL nk un nk le ap nu me op de fo bs bu) (fil sz 0 (fun k => ix Z k) 0) t0 ss [k0, k1])) ?_ rfl (by simp only [fil])
  refine E_loop (n := 6) (fun i => Ev 0 100 10 [mR 74, mI (i : Int)] [] (bH H (mdL nk un nk le ap nu me op de fo bs bu) (fil sz 0 (fun k => ix Z k) i) t0 ss [k0, k1]) none (bH H (mdL nk 0 nk le ap nu me op de fo bs bu) Z td (ssB ss ns nk) [0, 0])) ?_ ?_ 0 (by omega)
  · intro i hi hh
    refine E_iload_n (pc' := 11) g100_10 rfl rfl ?_
    refine E_bipush (pc' := 13) g100_11 (by decide) rfl ?_
    refine E_icge (pc' := 16) (pt := 34) g100_13 rfl rfl (fun c0 => ?_) (fun c0 => ?_)
    · exact absurd c0 (by omega)
    · refine E_aload_n (pc' := 17) g100_16 rfl rfl ?_
      refine E_getR (pc' := 20) g100_17 f100_7 tg7_1 rfl (bH_74 hB) rfl ?_
      refine E_iload_n (pc' := 21) g100_20 rfl rfl ?_
      refine E_aload_n (pc' := 22) g100_21 rfl rfl ?_
      refine E_getR (pc' := 25) g100_22 f100_29 tg7_9 rfl (bH_74 hB) rfl ?_
      refine E_iload_n (pc' := 26) g100_25 rfl rfl ?_
      refine E_iaload (pc' := 27) g100_26 rfl (bH_ne (by decide) (by decide) (by decide) (by decide) (by decide) h81) (by omega) (by omega) ?_
      refine E_iastore (pc' := 28) g100_27 rfl (bH_75 hB) (by omega) (by rw [fil_len]; omega) ?_
      refine E_in1 (pc' := 31) g100_28 rfl (m_in_iff.mpr (by omega)) ?_
      refine E_goto (pc' := 10) g100_31 rfl ?_
      refine Ev_cast hh rfl ?_
      rw [bH_sz]
      show _ = bH H _ (up _ (0 + (i : Int)) _) _ _ _
      rw [Int.zero_add]
  · rw [fil_all hsz hZ]
    refine E_iload_n (pc' := 11) g100_10 rfl rfl ?_
    refine E_bipush (pc' := 13) g100_11 (by decide) rfl ?_
    refine E_icge (pc' := 16) (pt := 34) g100_13 rfl rfl (fun c1 => ?_) (fun c1 => ?_)
    · refine E_iconst (pc' := 35) g100_34 (by decide) rfl ?_
      refine E_st1 (pc' := 36) g100_35 rfl ?_
      refine Ev_cast (H := (bH H (mdL nk un nk le ap nu me op de fo bs bu) Z (fil t0 0 (fun k => ix td k) 0) ss [k0, k1])) ?_ rfl (by simp only [fil])
      refine E_loop (n := 30) (fun i => Ev 0 100 36 [mR 74, mI (i : Int)] [] (bH H (mdL nk un nk le ap nu me op de fo bs bu) Z (fil t0 0 (fun k => ix td k) i) ss [k0, k1]) none (bH H (mdL nk 0 nk le ap nu me op de fo bs bu) Z td (ssB ss ns nk) [0, 0])) ?_ ?_ 0 (by omega)
      · intro i hi hh
        refine E_iload_n (pc' := 37) g100_36 rfl rfl ?_
        refine E_bipush (pc' := 39) g100_37 (by decide) rfl ?_
        refine E_icge (pc' := 42) (pt := 60) g100_39 rfl rfl (fun c0 => ?_) (fun c0 => ?_)
        · exact absurd c0 (by omega)
        · refine E_aload_n (pc' := 43) g100_42 rfl rfl ?_
          refine E_getR (pc' := 46) g100_43 f100_13 tg7_2 rfl (bH_74 hB) rfl ?_
          refine E_iload_n (pc' := 47) g100_46 rfl rfl ?_
          refine E_aload_n (pc' := 48) g100_47 rfl rfl ?_
          refine E_getR (pc' := 51) g100_48 f100_32 tg7_10 rfl (bH_74 hB) rfl ?_
          refine E_iload_n (pc' := 52) g100_51 rfl rfl ?_
          refine E_iaload (pc' := 53) g100_52 rfl (bH_ne (by decide) (by decide) (by decide) (by decide) (by decide) h82) (by omega) (by omega) ?_
          refine E_iastore (pc' := 54) g100_53 rfl (bH_76 hB) (by omega) (by rw [fil_len]; omega) ?_
          refine E_in1 (pc' := 57) g100_54 rfl (m_in_iff.mpr (by omega)) ?_
          refine E_goto (pc' := 36) g100_57 rfl ?_
          refine Ev_cast hh rfl ?_
          rw [bH_t]
          show _ = bH H _ _ (up _ (0 + (i : Int)) _) _ _
          rw [Int.zero_add]
      · rw [fil_all ht0 htd]
        refine E_iload_n (pc' := 37) g100_36 rfl rfl ?_
        refine E_bipush (pc' := 39) g100_37 (by decide) rfl ?_
        refine E_icge (pc' := 42) (pt := 60) g100_39 rfl rfl (fun c1 => ?_) (fun c1 => ?_)
        · refine E_iconst (pc' := 61) g100_60 (by decide) rfl ?_
          refine E_st1 (pc' := 62) g100_61 rfl ?_
          refine Ev_cast (H := (bH H (mdL nk un nk le ap nu me op de fo bs bu) Z td (fil ss 0 (fun _ => -9) 0) [k0, k1])) ?_ rfl (by simp only [fil])
          refine E_loop (n := 9) (fun i => Ev 0 100 62 [mR 74, mI (i : Int)] [] (bH H (mdL nk un nk le ap nu me op de fo bs bu) Z td (fil ss 0 (fun _ => -9) i) [k0, k1]) none (bH H (mdL nk 0 nk le ap nu me op de fo bs bu) Z td (ssB ss ns nk) [0, 0])) ?_ ?_ 0 (by omega)
          · intro i hi hh
            refine E_iload_n (pc' := 63) g100_62 rfl rfl ?_
            refine E_bipush (pc' := 65) g100_63 (by decide) rfl ?_
            refine E_icge (pc' := 68) (pt := 82) g100_65 rfl rfl (fun c0 => ?_) (fun c0 => ?_)
            · exact absurd c0 (by omega)
            · refine E_aload_n (pc' := 69) g100_68 rfl rfl ?_
              refine E_getR (pc' := 72) g100_69 f100_16 tg7_3 rfl (bH_74 hB) rfl ?_
              refine E_iload_n (pc' := 73) g100_72 rfl rfl ?_
              refine E_bipush (pc' := 75) g100_73 (by decide) rfl ?_
              refine E_iastore (pc' := 76) g100_75 rfl (bH_77 hB) (by omega) (by rw [fil_len]; omega) ?_
              refine E_in1 (pc' := 79) g100_76 rfl (m_in_iff.mpr (by omega)) ?_
              refine E_goto (pc' := 62) g100_79 rfl ?_
              refine Ev_cast hh rfl ?_
              rw [bH_ss]
              show _ = bH H _ _ _ (up _ (0 + (i : Int)) _) _
              rw [Int.zero_add]
          · refine E_iload_n (pc' := 63) g100_62 rfl rfl ?_
            refine E_bipush (pc' := 65) g100_63 (by decide) rfl ?_
            refine E_icge (pc' := 68) (pt := 82) g100_65 rfl rfl (fun c1 => ?_) (fun c1 => ?_)
            · refine E_iconst (pc' := 83) g100_82 (by decide) rfl ?_
              refine E_st1 (pc' := 84) g100_83 rfl ?_
              refine Ev_cast (H := (bH H (mdL nk un nk le ap nu me op de fo bs bu) Z td (fil (fil ss 0 (fun _ => -9) 9) 9 (fun k => if (k : Int) < nk then ix ns k else 0) 0) [k0, k1])) ?_ rfl (by simp only [fil])
              refine E_loop (n := 6) (fun i => Ev 0 100 84 [mR 74, mI (i : Int)] [] (bH H (mdL nk un nk le ap nu me op de fo bs bu) Z td (fil (fil ss 0 (fun _ => -9) 9) 9 (fun k => if (k : Int) < nk then ix ns k else 0) i) [k0, k1]) none (bH H (mdL nk 0 nk le ap nu me op de fo bs bu) Z td (ssB ss ns nk) [0, 0])) ?_ ?_ 0 (by omega)
              · intro i hi hh
                refine E_iload_n (pc' := 85) g100_84 rfl rfl ?_
                refine E_bipush (pc' := 87) g100_85 (by decide) rfl ?_
                refine E_icge (pc' := 90) (pt := 123) g100_87 rfl rfl (fun c0 => ?_) (fun c0 => ?_)
                · exact absurd c0 (by omega)
                · refine E_aload_n (pc' := 91) g100_90 rfl rfl ?_
                  refine E_getR (pc' := 94) g100_91 f100_16 tg7_3 rfl (bH_74 hB) rfl ?_
                  refine E_bipush (pc' := 96) g100_94 (by decide) rfl ?_
                  refine E_iload_n (pc' := 97) g100_96 rfl rfl ?_
                  refine E_iadd (pc' := 98) g100_97 (m_in_iff.mpr (by omega)) rfl ?_
                  refine E_iload_n (pc' := 99) g100_98 rfl rfl ?_
                  refine E_aload_n (pc' := 100) g100_99 rfl rfl ?_
                  refine E_getI (pc' := 103) g100_100 f100_75 tg7_0 (by decide) rfl (bH_74 hB) rfl ?_
                  refine E_icge (pc' := 106) (pt := 115) g100_103 rfl rfl (fun c1 => ?_) (fun c1 => ?_)
                  · refine E_iconst (pc' := 116) g100_115 (by decide) rfl ?_
                    refine E_iastore (pc' := 117) g100_116 rfl (bH_77 hB) (by omega) (by rw [fil_len, fil_len]; omega) ?_
                    refine E_in1 (pc' := 120) g100_117 rfl (m_in_iff.mpr (by omega)) ?_
                    refine E_goto (pc' := 84) g100_120 rfl ?_
                    refine Ev_cast hh rfl ?_
                    rw [bH_ss]
                    show _ = bH H _ _ _ (up _ (9 + (i : Int)) (if (i : Int) < nk then ix ns i else 0)) _
                    first | rw [if_pos (by omega)] | rw [if_neg (by omega)]
                  · refine E_aload_n (pc' := 107) g100_106 rfl rfl ?_
                    refine E_getR (pc' := 110) g100_107 f100_35 tg7_11 rfl (bH_74 hB) rfl ?_
                    refine E_iload_n (pc' := 111) g100_110 rfl rfl ?_
                    refine E_iaload (pc' := 112) g100_111 rfl (bH_ne (by decide) (by decide) (by decide) (by decide) (by decide) h83) (by omega) (by omega) ?_
                    refine E_goto (pc' := 116) g100_112 rfl ?_
                    refine E_iastore (pc' := 117) g100_116 rfl (bH_77 hB) (by omega) (by rw [fil_len, fil_len]; omega) ?_
                    refine E_in1 (pc' := 120) g100_117 rfl (m_in_iff.mpr (by omega)) ?_
                    refine E_goto (pc' := 84) g100_120 rfl ?_
                    refine Ev_cast hh rfl ?_
                    rw [bH_ss]
                    show _ = bH H _ _ _ (up _ (9 + (i : Int)) (if (i : Int) < nk then ix ns i else 0)) _
                    first | rw [if_pos (by omega)] | rw [if_neg (by omega)]
              · refine E_iload_n (pc' := 85) g100_84 rfl rfl ?_
                refine E_bipush (pc' := 87) g100_85 (by decide) rfl ?_
                refine E_icge (pc' := 90) (pt := 123) g100_87 rfl rfl (fun c2 => ?_) (fun c2 => ?_)
                · refine E_aload_n (pc' := 124) g100_123 rfl rfl ?_
                  refine E_iconst (pc' := 125) g100_124 (by decide) rfl ?_
                  refine E_putf (pc' := 128) g100_125 f100_78 tg7_4 fn7_4 rfl rfl (bH_74 hB) (Nat.le_of_ble_eq_true rfl) ?_
                  rw [bH_m]
                  refine Ev_cast (H := (bH H (mdL nk 0 nk le ap nu me op de fo bs bu) Z td (ssB ss ns nk) [k0, k1])) ?_ rfl rfl
                  refine E_aload_n (pc' := 129) g100_128 rfl rfl ?_
                  refine E_getR (pc' := 132) g100_129 f100_22 tg7_6 rfl (bH_74 hB) rfl ?_
                  refine E_iconst (pc' := 133) g100_132 (by decide) rfl ?_
                  refine E_iconst (pc' := 134) g100_133 (by decide) rfl ?_
                  refine E_bastore (pc' := 135) g100_134 rfl (by omega) (bH_79 hB) (by omega) (by simp) ?_
                  rw [bH_ik]
                  refine E_aload_n (pc' := 136) g100_135 rfl rfl ?_
                  refine E_getR (pc' := 139) g100_136 f100_22 tg7_6 rfl (bH_74 hB) rfl ?_
                  refine E_iconst (pc' := 140) g100_139 (by decide) rfl ?_
                  refine E_iconst (pc' := 141) g100_140 (by decide) rfl ?_
                  refine E_bastore (pc' := 142) g100_141 rfl (by omega) (bH_79 hB) (by omega) (by simp [up_len]) ?_
                  exact E_ret g100_142 rt100 rfl (by rw [bH_ik]; rfl)
                · exact absurd c2 (by omega)
            · exact absurd c1 (by omega)
        · exact absurd c1 (by omega)
    · exact absurd c1 (by omega)
theorem qH_self (h1 : H[74]? = some (7, m)) (h2 : H[81]? = some (8, Z)) (h3 : H[82]? = some (8, td)) (h4 : H[83]? = some (8, ns)) : qH H Z td ns m = H := by
  unfold qH
  rw [pt_same h2, pt_same h3, pt_same h4, pt_same h1]
theorem M_begins (hB : qBase H tx) (hZ : Z.length = 6) : Call 0 99 [mR 74] (qH H Z td ns (mdL kd un nk le ap nu me op de fo bs bu)) none (qH H [2, 2, -9, 9, 4, 1] td ns (mdL kd un 0 le ap nu me op de fo bs bu)) := by
  obtain ⟨z0, z1, z2, z3, z4, z5, rfl⟩ := len6 hZ
  refine Call_of rfl ?_
  refine E_aload_n (pc' := 1) g99_0 rfl rfl ?_
  refine E_iconst (pc' := 2) g99_1 (by decide) rfl ?_
  refine E_putf (pc' := 5) g99_2 f99_71 tg7_8 fn7_8 rfl rfl (qH_74 hB) (Nat.le_of_ble_eq_true rfl) ?_
  rw [qH_m]
  refine Ev_cast (H := qH H [z0, z1, z2, z3, z4, z5] td ns (mdL kd un 0 le ap nu me op de fo bs bu)) ?_ rfl rfl
  refine E_aload_n (pc' := 6) g99_5 rfl rfl ?_
  refine E_getR (pc' := 9) g99_6 f99_29 tg7_9 rfl (qH_74 hB) rfl ?_
  refine E_iconst (pc' := 10) g99_9 (by decide) rfl ?_
  refine E_iconst (pc' := 11) g99_10 (by decide) rfl ?_
  refine E_iastore (pc' := 12) g99_11 rfl (qH_81 hB) (by omega) (by simp) ?_
  rw [qH_Z]
  refine Ev_cast (H := qH H [2, z1, z2, z3, z4, z5] td ns (mdL kd un 0 le ap nu me op de fo bs bu)) ?_ rfl rfl
  refine E_aload_n (pc' := 13) g99_12 rfl rfl ?_
  refine E_getR (pc' := 16) g99_13 f99_29 tg7_9 rfl (qH_74 hB) rfl ?_
  refine E_iconst (pc' := 17) g99_16 (by decide) rfl ?_
  refine E_iconst (pc' := 18) g99_17 (by decide) rfl ?_
  refine E_iastore (pc' := 19) g99_18 rfl (qH_81 hB) (by omega) (by simp) ?_
  rw [qH_Z]
  refine Ev_cast (H := qH H [2, 2, z2, z3, z4, z5] td ns (mdL kd un 0 le ap nu me op de fo bs bu)) ?_ rfl rfl
  refine E_aload_n (pc' := 20) g99_19 rfl rfl ?_
  refine E_getR (pc' := 23) g99_20 f99_29 tg7_9 rfl (qH_74 hB) rfl ?_
  refine E_iconst (pc' := 24) g99_23 (by decide) rfl ?_
  refine E_bipush (pc' := 26) g99_24 (by decide) rfl ?_
  refine E_iastore (pc' := 27) g99_26 rfl (qH_81 hB) (by omega) (by simp) ?_
  rw [qH_Z]
  refine Ev_cast (H := qH H [2, 2, -9, z3, z4, z5] td ns (mdL kd un 0 le ap nu me op de fo bs bu)) ?_ rfl rfl
  refine E_aload_n (pc' := 28) g99_27 rfl rfl ?_
  refine E_getR (pc' := 31) g99_28 f99_29 tg7_9 rfl (qH_74 hB) rfl ?_
  refine E_iconst (pc' := 32) g99_31 (by decide) rfl ?_
  refine E_bipush (pc' := 34) g99_32 (by decide) rfl ?_
  refine E_iastore (pc' := 35) g99_34 rfl (qH_81 hB) (by omega) (by simp) ?_
  rw [qH_Z]
  refine Ev_cast (H := qH H [2, 2, -9, 9, z4, z5] td ns (mdL kd un 0 le ap nu me op de fo bs bu)) ?_ rfl rfl
  refine E_aload_n (pc' := 36) g99_35 rfl rfl ?_
  refine E_getR (pc' := 39) g99_36 f99_29 tg7_9 rfl (qH_74 hB) rfl ?_
  refine E_iconst (pc' := 40) g99_39 (by decide) rfl ?_
  refine E_iconst (pc' := 41) g99_40 (by decide) rfl ?_
  refine E_iastore (pc' := 42) g99_41 rfl (qH_81 hB) (by omega) (by simp) ?_
  rw [qH_Z]
  refine Ev_cast (H := qH H [2, 2, -9, 9, 4, z5] td ns (mdL kd un 0 le ap nu me op de fo bs bu)) ?_ rfl rfl
  refine E_aload_n (pc' := 43) g99_42 rfl rfl ?_
  refine E_getR (pc' := 46) g99_43 f99_29 tg7_9 rfl (qH_74 hB) rfl ?_
  refine E_iconst (pc' := 47) g99_46 (by decide) rfl ?_
  refine E_iconst (pc' := 48) g99_47 (by decide) rfl ?_
  refine E_iastore (pc' := 49) g99_48 rfl (qH_81 hB) (by omega) (by simp) ?_
  rw [qH_Z]
  refine Ev_cast (H := qH H [2, 2, -9, 9, 4, 1] td ns (mdL kd un 0 le ap nu me op de fo bs bu)) ?_ rfl rfl
  exact E_ret g99_49 rt99 rfl rfl
theorem M_tells0 (hB : qBase H tx) (h74 : H[74]? = some (7, mdL kd un nk le ap nu me op de fo bs bu)) (h81 : H[81]? = some (8, Z)) (h82 : H[82]? = some (8, td)) (h83 : H[83]? = some (8, ns)) (hZ : Z.length = 6) {r : mV} {H1 : mH} (h : Ev 4 108 16 [mR 74, mI 0] [] (qH H [2, 2, -9, 9, 4, 1] td ns (mdL kd un 0 le ((0 : Nat) : Int) nu 0 op de fo bs bu)) r H1) : Call 4 108 [mR 74] H r H1 := by
  refine Call_of rfl ?_
  refine Ev_cast (H := qH H Z td ns (mdL kd un nk le ap nu me op de fo bs bu)) ?_ rfl (qH_self h74 h81 h82 h83).symm
  refine E_aload_n (pc' := 1) g108_0 rfl rfl ?_
  refine E_cV0v (pc' := 4) g108_1 k108_65 na99 rfl ow99 rfl (Nat.le_of_ble_eq_true rfl) (qH_74 hB) (M_begins hB hZ) (by decide) ?_
  refine E_aload_n (pc' := 5) g108_4 rfl rfl ?_
  refine E_iconst (pc' := 6) g108_5 (by decide) rfl ?_
  refine E_putf (pc' := 9) g108_6 f108_102 tg7_16 fn7_16 rfl rfl (qH_74 hB) (Nat.le_of_ble_eq_true rfl) ?_
  rw [qH_m]
  refine Ev_cast (H := qH H [2, 2, -9, 9, 4, 1] td ns (mdL kd un 0 le ap nu 0 op de fo bs bu)) ?_ rfl rfl
  refine E_aload_n (pc' := 10) g108_9 rfl rfl ?_
  refine E_iconst (pc' := 11) g108_10 (by decide) rfl ?_
  refine E_putf (pc' := 14) g108_11 f108_88 tg7_14 fn7_14 rfl rfl (qH_74 hB) (Nat.le_of_ble_eq_true rfl) ?_
  rw [qH_m]
  refine Ev_cast (H := qH H [2, 2, -9, 9, 4, 1] td ns (mdL kd un 0 le ((0 : Nat) : Int) nu 0 op de fo bs bu)) ?_ rfl rfl
  refine E_iconst (pc' := 15) g108_14 (by decide) rfl ?_
  refine E_st1 (pc' := 16) g108_15 rfl ?_
  exact h
theorem M_tellsF (hB : bBase H) {v : Int} (hc : Call 0 100 [mR 74] H none (bH H (mdL kd un nk le ap nu me op de fo bs bu) sz t0 ss ik)) (h74 : H[74]? = some (7, m)) : Ev 4 108 64 [mR 74, mI v] [] H (mI v) (bH H (mdL kd un nk 0 ap nu me op de fo bs bu) sz t0 ss ik) := by
  refine E_aload_n (pc' := 65) g108_64 rfl rfl ?_
  refine E_cV0v (pc' := 68) g108_65 k108_68 na100 rfl ow100 rfl (Nat.le_of_ble_eq_true rfl) h74 hc (by decide) ?_
  refine E_aload_n (pc' := 69) g108_68 rfl rfl ?_
  refine E_iconst (pc' := 70) g108_69 (by decide) rfl ?_
  refine E_putf (pc' := 73) g108_70 f108_85 tg7_12 fn7_12 rfl rfl (bH_74 hB) (Nat.le_of_ble_eq_true rfl) ?_
  refine E_iload_n (pc' := 74) g108_73 rfl rfl ?_
  exact E_iret g108_74 ro108 rfl (by rw [bH_m]; rfl)
end BEC
section CTL
variable {H : mH} {ta tb : Nat} {le pe un : Int} {bl sl tx kp : List Int} {kd wd ht rm mo sd bo v : Int} {ed hu sk hv T R : List Int} {n p : Nat} {kn : Int} {ls gr us cu gv : List Int}
theorem C_forget (hR : isRoot H le ta tb pe un) (hK : H[21]? = some (9, kp)) (hkl : kp.length = 2) : Call 0 88 [mR 0] H none (pt H 21 [0, 0]) := by
  obtain ⟨k0, k1, rfl⟩ := len2 hkl
  have q0 : H[0]? = _ := hR
  refine Call_of rfl ?_
  refine E_iconst (pc' := 1) g88_0 (by decide) rfl ?_
  refine E_st1 (pc' := 2) g88_1 rfl ?_
  refine Ev_cast (H := pt H 21 (fil [k0, k1] 0 (fun _ => 0) 0)) ?_ rfl (by simp only [fil]; rw [pt_same hK])
  refine E_loop (n := 2) (fun i => Ev 0 88 2 [mR 0, mI (i : Int)] [] (pt H 21 (fil [k0, k1] 0 (fun _ => 0) i)) none (pt H 21 [0, 0])) ?_ ?_ 0 (by omega)
  · intro i hi hh
    refine E_iload_n (pc' := 3) g88_2 rfl rfl ?_
    refine E_iconst (pc' := 4) g88_3 (by decide) rfl ?_
    refine E_icge (pc' := 7) (pt := 20) g88_4 rfl rfl (fun c0 => ?_) (fun c0 => ?_)
    · exact absurd c0 (by omega)
    · refine E_aload_n (pc' := 8) g88_7 rfl rfl ?_
      refine E_getR (pc' := 11) g88_8 f88_47 tg6_11 rfl (pt_nx (by decide) q0) rfl ?_
      refine E_iload_n (pc' := 12) g88_11 rfl rfl ?_
      refine E_iconst (pc' := 13) g88_12 (by decide) rfl ?_
      refine E_bastore (pc' := 14) g88_13 rfl (by omega) (pt_self hK) (by omega) (by rw [fil_len]; simp; omega) ?_
      refine E_in1 (pc' := 17) g88_14 rfl (m_in_iff.mpr (by omega)) ?_
      refine E_goto (pc' := 2) g88_17 rfl ?_
      refine Ev_cast hh rfl ?_
      rw [pt_pt]
      show _ = pt H 21 (up _ (0 + (i : Int)) _)
      rw [Int.zero_add]
  · refine E_iload_n (pc' := 3) g88_2 rfl rfl ?_
    refine E_iconst (pc' := 4) g88_3 (by decide) rfl ?_
    refine E_icge (pc' := 7) (pt := 20) g88_4 rfl rfl (fun c1 => ?_) (fun c1 => ?_)
    · exact E_ret g88_20 rt88 rfl rfl
    · exact absurd c1 (by omega)
theorem rH_ne {a : Nat} {c : Option (Nat × List Int)} (h0 : 2 ≠ a) (h1 : tb ≠ a) (h2 : tb + 1 ≠ a) (h3 : tb + 2 ≠ a) (h4 : tb + 3 ≠ a) (h : H[a]? = c) : (rH H tb T ed hu sk R)[a]? = c := pt_nx h0 (pt_nx h4 (pt_nx h3 (pt_nx h2 (pt_nx h1 h))))
theorem clo_keep {x : Nat} {g : List Int} (hC : isClo H kn ls gr us cu gv) (hx : x < 31 ∨ 36 < x) : isClo (pt H x g) kn ls gr us cu gv := by
  obtain ⟨c0, c1, c2, c3, c4, c5, r⟩ := hC
  exact ⟨pt_nx (by omega) c0, pt_nx (by omega) c1, pt_nx (by omega) c2, pt_nx (by omega) c3, pt_nx (by omega) c4, pt_nx (by omega) c5, r⟩
theorem C_tellsN (hR : isRoot H (n : Int) ta tb pe un) (h2 : H[2]? = some (3, R)) {H1 : mH} (hc : Call 4 21 [mR 2, mR tb, mR 1, mI (n : Int)] H (mI v) H1) (hv : v < 0) : Call 5 57 [mR 0] H (mI v) H1 := by
  have q0 : H[0]? = _ := hR
  refine Call_of rfl ?_
  refine E_aload_n (pc' := 1) g57_0 rfl rfl ?_
  refine E_getR (pc' := 4) g57_1 f57_16 tg6_2 rfl q0 rfl ?_
  refine E_aload_n (pc' := 5) g57_4 rfl rfl ?_
  refine E_getR (pc' := 8) g57_5 f57_27 tg6_4 rfl q0 rfl ?_
  refine E_aload_n (pc' := 9) g57_8 rfl rfl ?_
  refine E_getR (pc' := 12) g57_9 f57_9 tg6_0 rfl q0 rfl ?_
  refine E_aload_n (pc' := 13) g57_12 rfl rfl ?_
  refine E_getI (pc' := 16) g57_13 f57_79 tg6_1 (by decide) rfl q0 rfl ?_
  refine E_cV3i (pc' := 19) g57_16 k57_83 na21 rfl ow21 rfl (Nat.le_of_ble_eq_true rfl) h2 hc (by decide) ?_
  refine E_st1 (pc' := 20) g57_19 rfl ?_
  refine E_iload_n (pc' := 21) g57_20 rfl rfl ?_
  refine E_ifge (pc' := 24) (pt := 26) g57_21 rfl rfl (fun c0 => ?_) (fun c0 => ?_)
  · first
    | (exfalso; omega)
    | (exfalso; omega)
  · first
    | (exfalso; omega)
    | (refine E_iload_n (pc' := 25) g57_24 rfl rfl ?_
       exact E_iret g57_25 ro57 rfl rfl)
def inTl (tb a : Nat) : Prop := a = 0 ∨ a = 2 ∨ (tb ≤ a ∧ a ≤ tb + 4) ∨ a = 14 ∨ a = 15 ∨ a = 21 ∨ (31 ≤ a ∧ a ≤ 33)
theorem C_tellsY {f1 f2 f3 f4 a b c d : Int} {kd0 wd0 ht0 rm0 mo0 sd0 bo0 : Int} {ed0 hu0 sk0 R : List Int} (hR : isRoot H (n : Int) ta tb pe un) (hab : ta = 3 ∧ tb = 8 ∨ ta = 8 ∧ tb = 3) (hB : rBase H tb tx) (h2 : H[2]? = some (3, R)) (hR8 : R.length = 8) (hT : isTold H tb kd0 wd0 ht0 rm0 mo0 sd0 bo0 ed0 hu0 sk0 hv) (hL : isLay H 13 bl sl) (hK : H[21]? = some (9, kp)) (hkl : kp.length = 2) (hC : isClo H kn ls gr us cu gv) (hO : tOk ((kd, wd, ht, rm, mo, sd, bo), (ed, hu, sk), (f1, f2, f3, f4))) (hc : Call 4 21 [mR 2, mR tb, mR 1, mI (n : Int)] H (mI v) (cS H tb ((kd, wd, ht, rm, mo, sd, bo), (ed, hu, sk), (f1, f2, f3, f4)) a b c d)) (hv0 : 0 ≤ v) : ∃ H1, Call 5 57 [mR 0] H (mI v) H1 ∧ Fr (inTl tb) H H1 ∧ isRoot H1 0 tb ta pe 0 ∧ isTold H1 tb kd wd ht rm mo sd bo ed hu sk (hvs ed (4 * kd).toNat) ∧ isLay H1 13 (List.replicate 6 (-9)) sk ∧ H1[21]? = some (9, [0, 0]) ∧ isClo H1 0 [sd, bo, bo] [sd, wd * sd + 2 * bo, ht * sd + 2 * bo] us cu gv ∧ H1[2]? = some (3, rdL a b c d f1 f2 f3 f4) := by
  have q0 : H[0]? = _ := hR
  obtain ⟨r1, r2, r3, r4, r5, r6, r7, ⟨b1, b2, b3, l1, l2, l3⟩, g1, g2, g3, g4⟩ := hO
  dsimp only at r1 r2 r3 r4 r5 r6 r7 b1 b2 b3 l1 l2 l3 g1 g2 g3 g4
  obtain ⟨t0, t1, t2, t3, t4, ⟨-, -, -, -, -, -, -, -, -, -, m4, n1, n2, n3, n4⟩⟩ := hT
  have x0 : (cS H tb ((kd, wd, ht, rm, mo, sd, bo), (ed, hu, sk), (f1, f2, f3, f4)) a b c d)[0]? = some (6, rootL (n : Int) ta tb pe un) := rH_ne (by omega) (by omega) (by omega) (by omega) (by omega) hR
  have hk6 : (hvs ed (4 * kd).toNat).length = 40 ∧ bet (hvs ed (4 * kd).toNat) 0 16777215 := hvs_ok b1 _ (by omega)
  have xT : isTold (cS H tb ((kd, wd, ht, rm, mo, sd, bo), (ed, hu, sk), (f1, f2, f3, f4)) a b c d) tb kd wd ht rm mo sd bo ed hu sk hv := ⟨rH_t hB, rH_e hB, rH_u hB, rH_s hB, rH_ne (by omega) (by omega) (by omega) (by omega) (by omega) t4, ⟨r1, r2, r3, r4, r5, r6, r7, b1, b2, b3, m4, l1, l2, l3, n4⟩⟩
  have xL : isLay (cS H tb ((kd, wd, ht, rm, mo, sd, bo), (ed, hu, sk), (f1, f2, f3, f4)) a b c d) 13 bl sl := ⟨rH_ne (by omega) (by omega) (by omega) (by omega) (by omega) hL.1, rH_ne (by omega) (by omega) (by omega) (by omega) (by omega) hL.2.1, rH_ne (by omega) (by omega) (by omega) (by omega) (by omega) hL.2.2.1, hL.2.2.2⟩
  have xC : isClo (cS H tb ((kd, wd, ht, rm, mo, sd, bo), (ed, hu, sk), (f1, f2, f3, f4)) a b c d) kn ls gr us cu gv := ⟨rH_ne (by omega) (by omega) (by omega) (by omega) (by omega) hC.1, rH_ne (by omega) (by omega) (by omega) (by omega) (by omega) hC.2.1, rH_ne (by omega) (by omega) (by omega) (by omega) (by omega) hC.2.2.1, rH_ne (by omega) (by omega) (by omega) (by omega) (by omega) hC.2.2.2.1, rH_ne (by omega) (by omega) (by omega) (by omega) (by omega) hC.2.2.2.2.1, rH_ne (by omega) (by omega) (by omega) (by omega) (by omega) hC.2.2.2.2.2.1, hC.2.2.2.2.2.2⟩
  have xK : (cS H tb ((kd, wd, ht, rm, mo, sd, bo), (ed, hu, sk), (f1, f2, f3, f4)) a b c d)[21]? = some (9, kp) := rH_ne (by omega) (by omega) (by omega) (by omega) (by omega) hK
  have x2 : (cS H tb ((kd, wd, ht, rm, mo, sd, bo), (ed, hu, sk), (f1, f2, f3, f4)) a b c d)[2]? = some (3, rdL a b c d f1 f2 f3 f4) := rH_2 hB
  have xF : Fr (inTl tb) H (cS H tb ((kd, wd, ht, rm, mo, sd, bo), (ed, hu, sk), (f1, f2, f3, f4)) a b c d) := Fr_and (Fr_and (Fr_and (Fr_and (Fr_pt (by unfold inTl; omega) t0 rfl) (by unfold inTl; omega) t1 (by rw [n1]; exact l1)) (by unfold inTl; omega) t2 (by rw [n2]; exact l2)) (by unfold inTl; omega) t3 (by rw [n3]; exact l3)) (by unfold inTl; omega) h2 (by rw [hR8]; rfl)
  have y1T := told_keep (x := 0) (fs := rootL (n : Int) tb ta pe un) xT (by omega)
  have hs := C_settleBlocks y1T
  have y2T := told_hv y1T hk6.1 hk6.2
  have y2L : isLay (pt (pt (cS H tb ((kd, wd, ht, rm, mo, sd, bo), (ed, hu, sk), (f1, f2, f3, f4)) a b c d) 0 (rootL (n : Int) tb ta pe un)) (tb + 4) (hvs ed (4 * kd).toNat)) 13 bl sl := lay_keep (lay_keep xL (by omega)) (by omega)
  have hb := C_begin y2L y2T (by omega)
  have rB : okB (List.replicate 6 (-9)) := by
    intro i
    by_cases e : i.toNat < 6
    · refine Or.inl ?_
      unfold ix
      rw [List.getD_eq_getElem?_getD, List.getElem?_replicate, if_pos e]
      rfl
    · refine Or.inr ?_
      unfold ix
      rw [List.getD_eq_getElem?_getD, List.getElem?_replicate, if_neg e]
      decide
  have sB : sml sk := fun i => by have := b3 i; omega
  have y3L : isLay (pt (pt (pt (pt (cS H tb ((kd, wd, ht, rm, mo, sd, bo), (ed, hu, sk), (f1, f2, f3, f4)) a b c d) 0 (rootL (n : Int) tb ta pe un)) (tb + 4) (hvs ed (4 * kd).toNat)) (13 + 1) (List.replicate 6 (-9))) (13 + 2) sk) 13 (List.replicate 6 (-9)) sk := lay_s (lay_b y2L (by simp) rB) l3 sB
  have y3T : isTold (pt (pt (pt (pt (cS H tb ((kd, wd, ht, rm, mo, sd, bo), (ed, hu, sk), (f1, f2, f3, f4)) a b c d) 0 (rootL (n : Int) tb ta pe un)) (tb + 4) (hvs ed (4 * kd).toNat)) (13 + 1) (List.replicate 6 (-9))) (13 + 2) sk) tb kd wd ht rm mo sd bo ed hu sk (hvs ed (4 * kd).toNat) := told_keep (told_keep y2T (by omega)) (by omega)
  have y2R : (pt (pt (cS H tb ((kd, wd, ht, rm, mo, sd, bo), (ed, hu, sk), (f1, f2, f3, f4)) a b c d) 0 (rootL (n : Int) tb ta pe un)) (tb + 4) (hvs ed (4 * kd).toNat))[0]? = some (6, rootL (n : Int) tb ta pe un) := pt_nx (by omega) (pt_self x0)
  have y3R : (pt (pt (pt (pt (cS H tb ((kd, wd, ht, rm, mo, sd, bo), (ed, hu, sk), (f1, f2, f3, f4)) a b c d) 0 (rootL (n : Int) tb ta pe un)) (tb + 4) (hvs ed (4 * kd).toNat)) (13 + 1) (List.replicate 6 (-9))) (13 + 2) sk)[0]? = some (6, rootL (n : Int) tb ta pe un) := pt_nx (by omega) (pt_nx (by omega) y2R)
  have y4R : isRoot (pt (pt (pt (pt (pt (cS H tb ((kd, wd, ht, rm, mo, sd, bo), (ed, hu, sk), (f1, f2, f3, f4)) a b c d) 0 (rootL (n : Int) tb ta pe un)) (tb + 4) (hvs ed (4 * kd).toNat)) (13 + 1) (List.replicate 6 (-9))) (13 + 2) sk) 0 (rootL 0 tb ta pe 0)) 0 tb ta pe 0 := pt_self y3R
  have y3K : (pt (pt (pt (pt (cS H tb ((kd, wd, ht, rm, mo, sd, bo), (ed, hu, sk), (f1, f2, f3, f4)) a b c d) 0 (rootL (n : Int) tb ta pe un)) (tb + 4) (hvs ed (4 * kd).toNat)) (13 + 1) (List.replicate 6 (-9))) (13 + 2) sk)[21]? = some (9, kp) := pt_nx (by omega) (pt_nx (by omega) (pt_nx (by omega) (pt_nx (by omega) xK)))
  have hf := C_forget y4R (pt_nx (by omega) y3K) hkl
  have y5T : isTold (pt (pt (pt (pt (pt (pt (cS H tb ((kd, wd, ht, rm, mo, sd, bo), (ed, hu, sk), (f1, f2, f3, f4)) a b c d) 0 (rootL (n : Int) tb ta pe un)) (tb + 4) (hvs ed (4 * kd).toNat)) (13 + 1) (List.replicate 6 (-9))) (13 + 2) sk) 0 (rootL 0 tb ta pe 0)) 21 [0, 0]) tb kd wd ht rm mo sd bo ed hu sk (hvs ed (4 * kd).toNat) := told_keep (told_keep y3T (by omega)) (by omega)
  have y5C : isClo (pt (pt (pt (pt (pt (pt (cS H tb ((kd, wd, ht, rm, mo, sd, bo), (ed, hu, sk), (f1, f2, f3, f4)) a b c d) 0 (rootL (n : Int) tb ta pe un)) (tb + 4) (hvs ed (4 * kd).toNat)) (13 + 1) (List.replicate 6 (-9))) (13 + 2) sk) 0 (rootL 0 tb ta pe 0)) 21 [0, 0]) kn ls gr us cu gv := clo_keep (clo_keep (clo_keep (clo_keep (clo_keep (clo_keep xC (by omega)) (by omega)) (by omega)) (by omega)) (by omega)) (by omega)
  have hm := C_measure y5T (by omega) y5C
  have y5R : (pt (pt (pt (pt (pt (pt (cS H tb ((kd, wd, ht, rm, mo, sd, bo), (ed, hu, sk), (f1, f2, f3, f4)) a b c d) 0 (rootL (n : Int) tb ta pe un)) (tb + 4) (hvs ed (4 * kd).toNat)) (13 + 1) (List.replicate 6 (-9))) (13 + 2) sk) 0 (rootL 0 tb ta pe 0)) 21 [0, 0])[0]? = some (6, rootL 0 tb ta pe 0) := pt_nx (by omega) y4R
  refine ⟨(pt (pt (pt (pt (pt (pt (pt (pt (pt (cS H tb ((kd, wd, ht, rm, mo, sd, bo), (ed, hu, sk), (f1, f2, f3, f4)) a b c d) 0 (rootL (n : Int) tb ta pe un)) (tb + 4) (hvs ed (4 * kd).toNat)) (13 + 1) (List.replicate 6 (-9))) (13 + 2) sk) 0 (rootL 0 tb ta pe 0)) 21 [0, 0]) 32 [sd, bo, bo]) 33 [sd, wd * sd + 2 * bo, ht * sd + 2 * bo]) 31 (clL 0)), Call_of rfl ?_, ?_, ?_, ?_, ?_, ?_, ?_, ?_⟩
  · refine E_aload_n (pc' := 1) g57_0 rfl rfl ?_
    refine E_getR (pc' := 4) g57_1 f57_16 tg6_2 rfl q0 rfl ?_
    refine E_aload_n (pc' := 5) g57_4 rfl rfl ?_
    refine E_getR (pc' := 8) g57_5 f57_27 tg6_4 rfl q0 rfl ?_
    refine E_aload_n (pc' := 9) g57_8 rfl rfl ?_
    refine E_getR (pc' := 12) g57_9 f57_9 tg6_0 rfl q0 rfl ?_
    refine E_aload_n (pc' := 13) g57_12 rfl rfl ?_
    refine E_getI (pc' := 16) g57_13 f57_79 tg6_1 (by decide) rfl q0 rfl ?_
    refine E_cV3i (pc' := 19) g57_16 k57_83 na21 rfl ow21 rfl (Nat.le_of_ble_eq_true rfl) h2 hc (by decide) ?_
    refine E_st1 (pc' := 20) g57_19 rfl ?_
    refine E_iload_n (pc' := 21) g57_20 rfl rfl ?_
    refine E_ifge (pc' := 24) (pt := 26) g57_21 rfl rfl (fun c0 => ?_) (fun c0 => ?_)
    · first
      | (exfalso; omega)
      | (refine E_aload_n (pc' := 27) g57_26 rfl rfl ?_
         refine E_getR (pc' := 30) g57_27 f57_23 tg6_3 rfl x0 rfl ?_
         refine E_sa2 (pc' := 31) g57_30 rfl ?_
         refine E_aload_n (pc' := 32) g57_31 rfl rfl ?_
         refine E_aload_n (pc' := 33) g57_32 rfl rfl ?_
         refine E_getR (pc' := 36) g57_33 f57_27 tg6_4 rfl x0 rfl ?_
         refine E_putr (pc' := 39) g57_36 f57_23 tg6_3 fn6_3 rfl (m_in_iff.mpr (by omega)) x0 (Nat.le_of_ble_eq_true rfl) ?_
         refine E_aload_n (pc' := 40) g57_39 rfl rfl ?_
         refine E_aload_n (pc' := 41) g57_40 rfl rfl ?_
         refine E_putr (pc' := 44) g57_41 f57_27 tg6_4 fn6_4 rfl (m_in_iff.mpr (by omega)) (pt_self x0) (Nat.le_of_ble_eq_true rfl) ?_
         rw [pt_pt]
         refine Ev_cast (H := (pt (cS H tb ((kd, wd, ht, rm, mo, sd, bo), (ed, hu, sk), (f1, f2, f3, f4)) a b c d) 0 (rootL (n : Int) tb ta pe un))) ?_ rfl rfl
         refine E_aload_n (pc' := 45) g57_44 rfl rfl ?_
         refine E_getR (pc' := 48) g57_45 f57_23 tg6_3 rfl (pt_self x0) rfl ?_
         refine E_cV0v (pc' := 51) g57_48 k57_87 na40 rfl ow40 rfl (Nat.le_of_ble_eq_true rfl) y1T.1 hs (by decide) ?_
         refine E_aload_n (pc' := 52) g57_51 rfl rfl ?_
         refine E_getR (pc' := 55) g57_52 f57_33 tg6_5 rfl y2R rfl ?_
         refine E_aload_n (pc' := 56) g57_55 rfl rfl ?_
         refine E_getR (pc' := 59) g57_56 f57_23 tg6_3 rfl y2R rfl ?_
         refine E_cV1v (pc' := 62) g57_59 k57_90 na14 rfl ow14 rfl (Nat.le_of_ble_eq_true rfl) y2L.1 hb (by decide) ?_
         refine E_aload_n (pc' := 63) g57_62 rfl rfl ?_
         refine E_iconst (pc' := 64) g57_63 (by decide) rfl ?_
         refine E_putf (pc' := 67) g57_64 f57_79 tg6_1 fn6_1 rfl rfl y3R (Nat.le_of_ble_eq_true rfl) ?_
         refine E_aload_n (pc' := 68) g57_67 rfl rfl ?_
         refine E_iconst (pc' := 69) g57_68 (by decide) rfl ?_
         refine E_putf (pc' := 72) g57_69 f57_93 tg6_9 fn6_9 rfl rfl (pt_self y3R) (Nat.le_of_ble_eq_true rfl) ?_
         rw [pt_pt]
         refine Ev_cast (H := (pt (pt (pt (pt (pt (cS H tb ((kd, wd, ht, rm, mo, sd, bo), (ed, hu, sk), (f1, f2, f3, f4)) a b c d) 0 (rootL (n : Int) tb ta pe un)) (tb + 4) (hvs ed (4 * kd).toNat)) (13 + 1) (List.replicate 6 (-9))) (13 + 2) sk) 0 (rootL 0 tb ta pe 0))) ?_ rfl rfl
         refine E_aload_n (pc' := 73) g57_72 rfl rfl ?_
         refine E_cV0v (pc' := 76) g57_73 k57_96 na88 rfl ow88 rfl (Nat.le_of_ble_eq_true rfl) y4R hf (by decide) ?_
         refine E_aload_n (pc' := 77) g57_76 rfl rfl ?_
         refine E_getR (pc' := 80) g57_77 f57_68 tg6_14 rfl y5R rfl ?_
         refine E_aload_n (pc' := 81) g57_80 rfl rfl ?_
         refine E_getR (pc' := 84) g57_81 f57_23 tg6_3 rfl y5R rfl ?_
         refine E_cV1v (pc' := 87) g57_84 k57_75 na2 rfl ow2 rfl (Nat.le_of_ble_eq_true rfl) y5C.1 hm (by decide) ?_
         refine E_iload_n (pc' := 88) g57_87 rfl rfl ?_
         exact E_iret g57_88 ro57 rfl rfl)
    · first
      | (exfalso; omega)
      | (exfalso; omega)
  · exact Fr_and (Fr_and (Fr_and (Fr_and (Fr_and (Fr_and (Fr_and (Fr_and (Fr_and xF (by unfold inTl; omega) hR rfl) (by unfold inTl; omega) t4 (by rw [n4]; exact hk6.1)) (by unfold inTl; omega) hL.2.1 (by rw [hL.2.2.2.1]; rfl)) (by unfold inTl; omega) hL.2.2.1 (by rw [hL.2.2.2.2.1]; exact l3)) (by unfold inTl; omega) hR rfl) (by unfold inTl; omega) hK (by rw [hkl]; rfl)) (by unfold inTl; omega) hC.2.1 (by rw [hC.2.2.2.2.2.2.1]; rfl)) (by unfold inTl; omega) hC.2.2.1 (by rw [hC.2.2.2.2.2.2.2.1]; rfl)) (by unfold inTl; omega) hC.1 rfl
  · exact pt_nx (by omega) (pt_nx (by omega) (pt_nx (by omega) y5R))
  · exact told_keep (told_keep (told_keep y5T (by omega)) (by omega)) (by omega)
  · exact lay_keep (lay_keep (lay_keep (lay_keep (lay_keep y3L (by omega)) (by omega)) (by omega)) (by omega)) (by omega)
  · exact pt_nx (by omega) (pt_nx (by omega) (pt_nx (by omega) (pt_self (pt_nx (by omega) y3K))))
  · obtain ⟨c0, c1, c2, c3, c4, c5, e1, e2, e3⟩ := y5C
    exact ⟨pt_self (pt_nx (by omega) (pt_nx (by omega) c0)), pt_nx (by omega) (pt_nx (by omega) (pt_self c1)), pt_nx (by omega) (pt_self (pt_nx (by omega) c2)), pt_nx (by omega) (pt_nx (by omega) (pt_nx (by omega) c3)), pt_nx (by omega) (pt_nx (by omega) (pt_nx (by omega) c4)), pt_nx (by omega) (pt_nx (by omega) (pt_nx (by omega) c5)), rfl, rfl, e3⟩
  · exact pt_nx (by omega) (pt_nx (by omega) (pt_nx (by omega) (pt_nx (by omega) (pt_nx (by omega) (pt_nx (by omega) (pt_nx (by omega) (pt_nx (by omega) (pt_nx (by omega) x2))))))))
end CTL
