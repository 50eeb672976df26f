/-! the model's cloth -/
def mC (H : mH) (go cu pc : List Int) : mH := pt (pt (pt H 90 go) 91 cu) 92 pc
def isMB (H : mH) (m : List Int) : Prop := H[74]? = some (7, m) ∧ (∃ q, H[90]? = some (8, q)) ∧ (∃ q, H[91]? = some (8, q)) ∧ (∃ q, H[92]? = some (8, q))
def mtb (go cu pc : List Int) (c : Int) : cV := (ix go c, ix cu c, ix pc (3 * c + 0), ix pc (3 * c + 1), ix pc (3 * c + 2))
def m3 (pc : List Int) (cell v0 v1 v2 : Int) : List Int := up (up (up pc (3 * cell + 0) v0) (3 * cell + 1) v1) (3 * cell + 2) v2
section MCL
variable {H : mH} {kd un nk le ap nu me op de fo bs bu wd ht rm mo sd bo : Int} {ed hu go cu pc go2 cu2 pc2 m : List Int}
theorem mC_74 (hB : isMB H m) : (mC H go cu pc)[74]? = some (7, m) := pt_nx (by decide) (pt_nx (by decide) (pt_nx (by decide) hB.1))
theorem mC_90 (hB : isMB H m) : (mC H go cu pc)[90]? = some (8, go) := by
  obtain ⟨q, h⟩ := hB.2.1
  exact pt_nx (by decide) (pt_nx (by decide) (pt_self h))
theorem mC_91 (hB : isMB H m) : (mC H go cu pc)[91]? = some (8, cu) := by
  obtain ⟨q, h⟩ := hB.2.2.1
  exact pt_nx (by decide) (pt_self (pt_nx (by decide) h))
theorem mC_92 (hB : isMB H m) : (mC H go cu pc)[92]? = some (8, pc) := by
  obtain ⟨q, h⟩ := hB.2.2.2
  exact pt_self (pt_nx (by decide) (pt_nx (by decide) h))
theorem mC_go : pt (mC H go cu pc) 90 go2 = (mC H go2 cu pc) := by
  unfold mC
  rw [pt_swap (a := 92) (b := 90) (by decide), pt_swap (a := 91) (b := 90) (by decide), pt_pt]
theorem mC_cu : pt (mC H go cu pc) 91 cu2 = (mC H go cu2 pc) := by
  unfold mC
  rw [pt_swap (a := 92) (b := 91) (by decide), pt_pt]
theorem mC_pc : pt (mC H go cu pc) 92 pc2 = (mC H go cu pc2) := by
  unfold mC
  rw [pt_pt]
theorem m3_len {cell v0 v1 v2 : Int} : (m3 pc cell v0 v1 v2).length = pc.length := by
  unfold m3
  rw [up_len, up_len, up_len]
theorem m3_ix {cell c v0 v1 v2 : Int} (hg : pc.length = 1875) (hc : 0 ≤ cell ∧ cell < 625) (h0 : 0 ≤ c) (h1 : c < 625) : ix (m3 pc cell v0 v1 v2) (3 * c + 0) = (if c = cell then v0 else ix pc (3 * c + 0)) ∧ ix (m3 pc cell v0 v1 v2) (3 * c + 1) = (if c = cell then v1 else ix pc (3 * c + 1)) ∧ ix (m3 pc cell v0 v1 v2) (3 * c + 2) = (if c = cell then v2 else ix pc (3 * c + 2)) := by
  unfold m3
  refine ⟨?_, ?_, ?_⟩
  · rw [ix_up (by omega) (by rw [up_len, up_len]; omega) (by omega), ix_up (by omega) (by rw [up_len]; omega) (by omega), ix_up (by omega) (by omega) (by omega)]
    by_cases e : c = cell
    · rw [if_neg (by omega), if_neg (by omega), if_pos (by omega), if_pos e]
    · rw [if_neg (by omega), if_neg (by omega), if_neg (by omega), if_neg e]
  · rw [ix_up (by omega) (by rw [up_len, up_len]; omega) (by omega), ix_up (by omega) (by rw [up_len]; omega) (by omega), ix_up (by omega) (by omega) (by omega)]
    by_cases e : c = cell
    · rw [if_neg (by omega), if_pos (by omega), if_pos e]
    · rw [if_neg (by omega), if_neg (by omega), if_neg (by omega), if_neg e]
  · rw [ix_up (by omega) (by rw [up_len, up_len]; omega) (by omega), ix_up (by omega) (by rw [up_len]; omega) (by omega), ix_up (by omega) (by omega) (by omega)]
    by_cases e : c = cell
    · rw [if_pos (by omega), if_pos e]
    · rw [if_neg (by omega), if_neg (by omega), if_neg (by omega), if_neg e]
theorem mtb_up {cell s h v0 v1 v2 : Int} (hl : (go.length = 625 ∧ cu.length = 625 ∧ pc.length = 1875)) (hc : 0 ≤ cell ∧ cell < 625) : ∀ c : Int, 0 ≤ c → c < 625 → mtb (up go cell s) (up cu cell h) (m3 pc cell v0 v1 v2) c = if c = cell then (s, h, v0, v1, v2) else mtb go cu pc c := by
  intro c h0 h1
  obtain ⟨e1, e2, e3⟩ := m3_ix (v0 := v0) (v1 := v1) (v2 := v2) hl.2.2 hc h0 h1
  unfold mtb
  rw [e1, e2, e3, ix_up hc.1 (by omega) h0, ix_up hc.1 (by omega) h0]
  by_cases e : c = cell
  · rw [if_pos e, if_pos e, if_pos e, if_pos e, if_pos e.symm, if_pos e.symm]
  · rw [if_neg e, if_neg e, if_neg e, if_neg e, if_neg (fun z => e z.symm), if_neg (fun z => e z.symm)]
theorem M_isCloth {x z : Int} : Call 1 152 [mI x, mI z] H (mI (isRect x z)) H := by
  have e1 := isRect_or x z
  have e2 := inC_or x 1 24
  have e3 := inC_or z 1 24
  refine Call_of rfl ?_
  refine E_iload_n (pc' := 1) g152_0 rfl rfl ?_
  refine E_iconst (pc' := 2) g152_1 (by decide) rfl ?_
  refine E_bipush (pc' := 4) g152_2 (by decide) rfl ?_
  refine E_cS3i (pc' := 7) g152_4 k152_81 na97 rfl rfl (Nat.le_of_ble_eq_true rfl) M_in (by decide) ?_
  refine E_ifeq (pc' := 10) (pt := 24) g152_7 rfl rfl (fun c0 => ?_) (fun c0 => ?_)
  · first
    | (exfalso; omega)
    | (refine E_iconst (pc' := 25) g152_24 (by decide) rfl ?_
       exact E_iret g152_25 (ro152 (by omega)) (congrArg mI (by omega)) rfl)
  · first
    | (exfalso; omega)
    | (refine E_iload_n (pc' := 11) g152_10 rfl rfl ?_
       refine E_iconst (pc' := 12) g152_11 (by decide) rfl ?_
       refine E_bipush (pc' := 14) g152_12 (by decide) rfl ?_
       refine E_cS3i (pc' := 17) g152_14 k152_81 na97 rfl rfl (Nat.le_of_ble_eq_true rfl) M_in (by decide) ?_
       refine E_ifeq (pc' := 20) (pt := 24) g152_17 rfl rfl (fun c1 => ?_) (fun c1 => ?_)
       · first
         | (exfalso; omega)
         | (refine E_iconst (pc' := 25) g152_24 (by decide) rfl ?_
            exact E_iret g152_25 (ro152 (by omega)) (congrArg mI (by omega)) rfl)
       · first
         | (exfalso; omega)
         | (refine E_iconst (pc' := 21) g152_20 (by decide) rfl ?_
            refine E_goto (pc' := 25) g152_21 rfl ?_
            exact E_iret g152_25 (ro152 (by omega)) (congrArg mI (by omega)) rfl))
theorem M_laysCut (hB : isMB H (mdL kd un nk le ap nu me op de fo bs bu)) (hl : (go.length = 625 ∧ cu.length = 625 ∧ pc.length = 1875)) {cell how one two : Int} (hc : 0 ≤ cell ∧ cell < 625) (h1 : 0 ≤ one ∧ one < 625) (h2 : 0 ≤ two ∧ two < 625) (n1 : ¬ one = cell) (n2 : ¬ two = cell) (b1 : vb (mtb go cu pc one) 1000) (b2 : vb (mtb go cu pc two) 1000) : ∃ go2 cu2 pc2, (go2.length = 625 ∧ cu2.length = 625 ∧ pc2.length = 1875) ∧ (∀ c : Int, 0 ≤ c → c < 625 → mtb go2 cu2 pc2 c = if c = cell then cst (mtb go cu pc cell) how (mtb go cu pc one) (mtb go cu pc two) else mtb go cu pc c) ∧ Call 0 149 [mR 74, mI cell, mI one, mI two, mI how] (mC H go cu pc) none (mC H go2 cu2 pc2) := by
  have hl' := hl
  obtain ⟨l1, l2, l3⟩ := hl
  obtain ⟨⟨p1, p2⟩, ⟨p3, p4⟩, ⟨p5, p6⟩, p7, p8⟩ := b1
  obtain ⟨⟨q1, q2⟩, ⟨q3, q4⟩, ⟨q5, q6⟩, q7, q8⟩ := b2
  simp only [mtb] at p1 p2 p3 p4 p5 p6 p7 p8 q1 q2 q3 q4 q5 q6 q7 q8
  by_cases hlt : ix go cell < ix go one + ix go two
  · refine ⟨up go cell (ix go one + ix go two), up cu cell how, m3 pc cell (ix pc (3 * one + 0) + ix pc (3 * two + 0)) (ix pc (3 * one + 1) + ix pc (3 * two + 1)) (ix pc (3 * one + 2) + ix pc (3 * two + 2)), ⟨by rw [up_len]; exact l1, by rw [up_len]; exact l2, by rw [m3_len]; exact l3⟩, ?_, ?_⟩
    · intro c h0 h3
      rw [mtb_up hl' hc c h0 h3]
      have e : cst (mtb go cu pc cell) how (mtb go cu pc one) (mtb go cu pc two) = (ix go one + ix go two, how, (ix pc (3 * one + 0) + ix pc (3 * two + 0)), (ix pc (3 * one + 1) + ix pc (3 * two + 1)), (ix pc (3 * one + 2) + ix pc (3 * two + 2))) := if_pos hlt
      rw [e]
    · refine Call_of rfl ?_
      refine E_aload_n (pc' := 1) g149_0 rfl rfl ?_
      refine E_getR (pc' := 4) g149_1 f149_56 tg7_27 rfl (mC_74 hB) rfl ?_
      refine E_iload_n (pc' := 5) g149_4 rfl rfl ?_
      refine E_iaload (pc' := 6) g149_5 rfl (mC_90 hB) (by omega) (by omega) ?_
      refine E_aload_n (pc' := 7) g149_6 rfl rfl ?_
      refine E_getR (pc' := 10) g149_7 f149_56 tg7_27 rfl (mC_74 hB) rfl ?_
      refine E_iload_n (pc' := 11) g149_10 rfl rfl ?_
      refine E_iaload (pc' := 12) g149_11 rfl (mC_90 hB) (by omega) (by omega) ?_
      refine E_iadd (pc' := 13) g149_12 (m_in_iff.mpr (by omega)) rfl ?_
      refine E_st5 (pc' := 15) g149_13 rfl ?_
      refine E_iload (pc' := 17) g149_15 rfl rfl ?_
      refine E_aload_n (pc' := 18) g149_17 rfl rfl ?_
      refine E_getR (pc' := 21) g149_18 f149_56 tg7_27 rfl (mC_74 hB) rfl ?_
      refine E_iload_n (pc' := 22) g149_21 rfl rfl ?_
      refine E_iaload (pc' := 23) g149_22 rfl (mC_90 hB) (by omega) (by omega) ?_
      refine E_icle (pc' := 26) (pt := 91) g149_23 rfl rfl (fun c0 => ?_) (fun c0 => ?_)
      · first
        | (exfalso; omega)
        | (exfalso; omega)
      · first
        | (exfalso; omega)
        | (refine E_aload_n (pc' := 27) g149_26 rfl rfl ?_
           refine E_getR (pc' := 30) g149_27 f149_56 tg7_27 rfl (mC_74 hB) rfl ?_
           refine E_iload_n (pc' := 31) g149_30 rfl rfl ?_
           refine E_iload (pc' := 33) g149_31 rfl rfl ?_
           refine E_iastore (pc' := 34) g149_33 rfl (mC_90 hB) (by omega) (by omega) ?_
           rw [mC_go]
           refine E_aload_n (pc' := 35) g149_34 rfl rfl ?_
           refine E_getR (pc' := 38) g149_35 f149_59 tg7_28 rfl (mC_74 hB) rfl ?_
           refine E_iload_n (pc' := 39) g149_38 rfl rfl ?_
           refine E_iload (pc' := 41) g149_39 rfl rfl ?_
           refine E_iastore (pc' := 42) g149_41 rfl (mC_91 hB) (by omega) (by omega) ?_
           rw [mC_cu]
           refine E_iconst (pc' := 43) g149_42 (by decide) rfl ?_
           refine E_st6 (pc' := 45) g149_43 rfl ?_
           refine E_iload (pc' := 47) g149_45 rfl rfl ?_
           refine E_iconst (pc' := 48) g149_47 (by decide) rfl ?_
           refine E_icge (pc' := 51) (pt := 91) g149_48 rfl rfl (fun c0 => ?_) (fun c0 => ?_)
           · first
             | (exfalso; omega)
             | (exfalso; omega)
           · first
             | (exfalso; omega)
             | (refine E_aload_n (pc' := 52) g149_51 rfl rfl ?_
                refine E_getR (pc' := 55) g149_52 f149_62 tg7_29 rfl (mC_74 hB) rfl ?_
                refine E_iconst (pc' := 56) g149_55 (by decide) rfl ?_
                refine E_iload_n (pc' := 57) g149_56 rfl rfl ?_
                refine E_imul (pc' := 58) g149_57 (m_in_iff.mpr (by omega)) rfl ?_
                refine E_iload (pc' := 60) g149_58 rfl rfl ?_
                refine E_iadd (pc' := 61) g149_60 (m_in_iff.mpr (by omega)) rfl ?_
                refine E_aload_n (pc' := 62) g149_61 rfl rfl ?_
                refine E_getR (pc' := 65) g149_62 f149_62 tg7_29 rfl (mC_74 hB) rfl ?_
                refine E_iconst (pc' := 66) g149_65 (by decide) rfl ?_
                refine E_iload_n (pc' := 67) g149_66 rfl rfl ?_
                refine E_imul (pc' := 68) g149_67 (m_in_iff.mpr (by omega)) rfl ?_
                refine E_iload (pc' := 70) g149_68 rfl rfl ?_
                refine E_iadd (pc' := 71) g149_70 (m_in_iff.mpr (by omega)) rfl ?_
                refine E_iald (pc' := 72) (v := ix pc (3 * one + 0)) g149_71 rfl (mC_92 hB) (by omega) (by omega) rfl ?_
                refine E_aload_n (pc' := 73) g149_72 rfl rfl ?_
                refine E_getR (pc' := 76) g149_73 f149_62 tg7_29 rfl (mC_74 hB) rfl ?_
                refine E_iconst (pc' := 77) g149_76 (by decide) rfl ?_
                refine E_iload_n (pc' := 78) g149_77 rfl rfl ?_
                refine E_imul (pc' := 79) g149_78 (m_in_iff.mpr (by omega)) rfl ?_
                refine E_iload (pc' := 81) g149_79 rfl rfl ?_
                refine E_iadd (pc' := 82) g149_81 (m_in_iff.mpr (by omega)) rfl ?_
                refine E_iald (pc' := 83) (v := ix pc (3 * two + 0)) g149_82 rfl (mC_92 hB) (by omega) (by omega) rfl ?_
                refine E_iadd (pc' := 84) g149_83 (m_in_iff.mpr (by omega)) rfl ?_
                refine E_iastore (pc' := 85) g149_84 rfl (mC_92 hB) (by omega) (by omega) ?_
                rw [mC_pc]
                refine E_in6 (pc' := 88) g149_85 rfl (m_in_iff.mpr (by omega)) ?_
                refine E_goto (pc' := 45) g149_88 rfl ?_
                refine Ev_cast (ls := [mR 74, mI cell, mI one, mI two, mI how, mI (ix go one + ix go two), mI 1]) ?_ rfl rfl
                refine E_iload (pc' := 47) g149_45 rfl rfl ?_
                refine E_iconst (pc' := 48) g149_47 (by decide) rfl ?_
                refine E_icge (pc' := 51) (pt := 91) g149_48 rfl rfl (fun c0 => ?_) (fun c0 => ?_)
                · first
                  | (exfalso; omega)
                  | (exfalso; omega)
                · first
                  | (exfalso; omega)
                  | (refine E_aload_n (pc' := 52) g149_51 rfl rfl ?_
                     refine E_getR (pc' := 55) g149_52 f149_62 tg7_29 rfl (mC_74 hB) rfl ?_
                     refine E_iconst (pc' := 56) g149_55 (by decide) rfl ?_
                     refine E_iload_n (pc' := 57) g149_56 rfl rfl ?_
                     refine E_imul (pc' := 58) g149_57 (m_in_iff.mpr (by omega)) rfl ?_
                     refine E_iload (pc' := 60) g149_58 rfl rfl ?_
                     refine E_iadd (pc' := 61) g149_60 (m_in_iff.mpr (by omega)) rfl ?_
                     refine E_aload_n (pc' := 62) g149_61 rfl rfl ?_
                     refine E_getR (pc' := 65) g149_62 f149_62 tg7_29 rfl (mC_74 hB) rfl ?_
                     refine E_iconst (pc' := 66) g149_65 (by decide) rfl ?_
                     refine E_iload_n (pc' := 67) g149_66 rfl rfl ?_
                     refine E_imul (pc' := 68) g149_67 (m_in_iff.mpr (by omega)) rfl ?_
                     refine E_iload (pc' := 70) g149_68 rfl rfl ?_
                     refine E_iadd (pc' := 71) g149_70 (m_in_iff.mpr (by omega)) rfl ?_
                     refine E_iald (pc' := 72) (v := ix pc (3 * one + 1)) g149_71 rfl (mC_92 hB) (by omega) (by rw [up_len]; omega) (by rw [ix_up (by omega) (by omega) (by omega), if_neg (by omega)]) ?_
                     refine E_aload_n (pc' := 73) g149_72 rfl rfl ?_
                     refine E_getR (pc' := 76) g149_73 f149_62 tg7_29 rfl (mC_74 hB) rfl ?_
                     refine E_iconst (pc' := 77) g149_76 (by decide) rfl ?_
                     refine E_iload_n (pc' := 78) g149_77 rfl rfl ?_
                     refine E_imul (pc' := 79) g149_78 (m_in_iff.mpr (by omega)) rfl ?_
                     refine E_iload (pc' := 81) g149_79 rfl rfl ?_
                     refine E_iadd (pc' := 82) g149_81 (m_in_iff.mpr (by omega)) rfl ?_
                     refine E_iald (pc' := 83) (v := ix pc (3 * two + 1)) g149_82 rfl (mC_92 hB) (by omega) (by rw [up_len]; omega) (by rw [ix_up (by omega) (by omega) (by omega), if_neg (by omega)]) ?_
                     refine E_iadd (pc' := 84) g149_83 (m_in_iff.mpr (by omega)) rfl ?_
                     refine E_iastore (pc' := 85) g149_84 rfl (mC_92 hB) (by omega) (by rw [up_len]; omega) ?_
                     rw [mC_pc]
                     refine E_in6 (pc' := 88) g149_85 rfl (m_in_iff.mpr (by omega)) ?_
                     refine E_goto (pc' := 45) g149_88 rfl ?_
                     refine Ev_cast (ls := [mR 74, mI cell, mI one, mI two, mI how, mI (ix go one + ix go two), mI 2]) ?_ rfl rfl
                     refine E_iload (pc' := 47) g149_45 rfl rfl ?_
                     refine E_iconst (pc' := 48) g149_47 (by decide) rfl ?_
                     refine E_icge (pc' := 51) (pt := 91) g149_48 rfl rfl (fun c0 => ?_) (fun c0 => ?_)
                     · first
                       | (exfalso; omega)
                       | (exfalso; omega)
                     · first
                       | (exfalso; omega)
                       | (refine E_aload_n (pc' := 52) g149_51 rfl rfl ?_
                          refine E_getR (pc' := 55) g149_52 f149_62 tg7_29 rfl (mC_74 hB) rfl ?_
                          refine E_iconst (pc' := 56) g149_55 (by decide) rfl ?_
                          refine E_iload_n (pc' := 57) g149_56 rfl rfl ?_
                          refine E_imul (pc' := 58) g149_57 (m_in_iff.mpr (by omega)) rfl ?_
                          refine E_iload (pc' := 60) g149_58 rfl rfl ?_
                          refine E_iadd (pc' := 61) g149_60 (m_in_iff.mpr (by omega)) rfl ?_
                          refine E_aload_n (pc' := 62) g149_61 rfl rfl ?_
                          refine E_getR (pc' := 65) g149_62 f149_62 tg7_29 rfl (mC_74 hB) rfl ?_
                          refine E_iconst (pc' := 66) g149_65 (by decide) rfl ?_
                          refine E_iload_n (pc' := 67) g149_66 rfl rfl ?_
                          refine E_imul (pc' := 68) g149_67 (m_in_iff.mpr (by omega)) rfl ?_
                          refine E_iload (pc' := 70) g149_68 rfl rfl ?_
                          refine E_iadd (pc' := 71) g149_70 (m_in_iff.mpr (by omega)) rfl ?_
                          refine E_iald (pc' := 72) (v := ix pc (3 * one + 2)) g149_71 rfl (mC_92 hB) (by omega) (by rw [up_len, up_len]; omega) (by rw [ix_up (by omega) (by rw [up_len]; omega) (by omega), if_neg (by omega), ix_up (by omega) (by omega) (by omega), if_neg (by omega)]) ?_
                          refine E_aload_n (pc' := 73) g149_72 rfl rfl ?_
                          refine E_getR (pc' := 76) g149_73 f149_62 tg7_29 rfl (mC_74 hB) rfl ?_
                          refine E_iconst (pc' := 77) g149_76 (by decide) rfl ?_
                          refine E_iload_n (pc' := 78) g149_77 rfl rfl ?_
                          refine E_imul (pc' := 79) g149_78 (m_in_iff.mpr (by omega)) rfl ?_
                          refine E_iload (pc' := 81) g149_79 rfl rfl ?_
                          refine E_iadd (pc' := 82) g149_81 (m_in_iff.mpr (by omega)) rfl ?_
                          refine E_iald (pc' := 83) (v := ix pc (3 * two + 2)) g149_82 rfl (mC_92 hB) (by omega) (by rw [up_len, up_len]; omega) (by rw [ix_up (by omega) (by rw [up_len]; omega) (by omega), if_neg (by omega), ix_up (by omega) (by omega) (by omega), if_neg (by omega)]) ?_
                          refine E_iadd (pc' := 84) g149_83 (m_in_iff.mpr (by omega)) rfl ?_
                          refine E_iastore (pc' := 85) g149_84 rfl (mC_92 hB) (by omega) (by rw [up_len, up_len]; omega) ?_
                          rw [mC_pc]
                          refine E_in6 (pc' := 88) g149_85 rfl (m_in_iff.mpr (by omega)) ?_
                          refine E_goto (pc' := 45) g149_88 rfl ?_
                          refine Ev_cast (ls := [mR 74, mI cell, mI one, mI two, mI how, mI (ix go one + ix go two), mI 3]) ?_ rfl rfl
                          refine E_iload (pc' := 47) g149_45 rfl rfl ?_
                          refine E_iconst (pc' := 48) g149_47 (by decide) rfl ?_
                          refine E_icge (pc' := 51) (pt := 91) g149_48 rfl rfl (fun c0 => ?_) (fun c0 => ?_)
                          · first
                            | (exfalso; omega)
                            | (exact E_ret g149_91 rt149 rfl rfl)
                          · first
                            | (exfalso; omega)
                            | (exfalso; omega)))))
  · refine ⟨go, cu, pc, hl', ?_, ?_⟩
    · intro c h0 h3
      rw [cst_no (by show ix go one + ix go two ≤ ix go cell; omega)]
      by_cases e : c = cell
      · rw [if_pos e, e]
      · rw [if_neg e]
    · refine Call_of rfl ?_
      refine E_aload_n (pc' := 1) g149_0 rfl rfl ?_
      refine E_getR (pc' := 4) g149_1 f149_56 tg7_27 rfl (mC_74 hB) rfl ?_
      refine E_iload_n (pc' := 5) g149_4 rfl rfl ?_
      refine E_iaload (pc' := 6) g149_5 rfl (mC_90 hB) (by omega) (by omega) ?_
      refine E_aload_n (pc' := 7) g149_6 rfl rfl ?_
      refine E_getR (pc' := 10) g149_7 f149_56 tg7_27 rfl (mC_74 hB) rfl ?_
      refine E_iload_n (pc' := 11) g149_10 rfl rfl ?_
      refine E_iaload (pc' := 12) g149_11 rfl (mC_90 hB) (by omega) (by omega) ?_
      refine E_iadd (pc' := 13) g149_12 (m_in_iff.mpr (by omega)) rfl ?_
      refine E_st5 (pc' := 15) g149_13 rfl ?_
      refine E_iload (pc' := 17) g149_15 rfl rfl ?_
      refine E_aload_n (pc' := 18) g149_17 rfl rfl ?_
      refine E_getR (pc' := 21) g149_18 f149_56 tg7_27 rfl (mC_74 hB) rfl ?_
      refine E_iload_n (pc' := 22) g149_21 rfl rfl ?_
      refine E_iaload (pc' := 23) g149_22 rfl (mC_90 hB) (by omega) (by omega) ?_
      refine E_icle (pc' := 26) (pt := 91) g149_23 rfl rfl (fun c0 => ?_) (fun c0 => ?_)
      · first
        | (exfalso; omega)
        | (exact E_ret g149_91 rt149 rfl rfl)
      · first
        | (exfalso; omega)
        | (exfalso; omega)
theorem M_laysRect (hB : isMB H (mdL kd un nk le ap nu me op de fo bs bu)) (hD : okD kd wd ht rm mo sd bo ed hu) (hz : H[75]? = some (8, [wd, ht, rm, mo, sd, bo])) (hl : (go.length = 625 ∧ cu.length = 625 ∧ pc.length = 1875)) {a b : Nat} (ha : 1 ≤ a ∧ a ≤ 24) (hb : 1 ≤ b ∧ b ≤ 24) {w : Int → Int → Int} (hw : ∀ x z, w x z = (pcF [sd, bo, bo] [sd, wd * sd + 2 * bo, ht * sd + 2 * bo]) x z) {t : Int → cV} (htb : ∀ c : Int, 0 ≤ c → c < 625 → mtb go cu pc c = t c) (hk : okt w t a b) : ∃ go2 cu2 pc2, ((go2.length = 625 ∧ cu2.length = 625 ∧ pc2.length = 1875) ∧ (∀ c : Int, 0 ≤ c → c < 625 → mtb go2 cu2 pc2 c = if c = (25 * (a : Int) + b) then cval t (w a b) a b (a - 1) (b - 1) else t c)) ∧ Call 2 150 [mR 74, mI (a : Int), mI (b : Int)] (mC H go cu pc) none (mC H go2 cu2 pc2) := by
  obtain ⟨l1, l2, l3⟩ := hl
  have har := area_bd ha.1 ha.2 hb.1 hb.2
  have hc : 0 ≤ (25 * (a : Int) + b) ∧ (25 * (a : Int) + b) < 625 := by omega
  have hwv := pcF_ok [sd, bo, bo] [sd, wd * sd + 2 * bo, ht * sd + 2 * bo] a b
  have hwi := pcF_in [sd, bo, bo] [sd, wd * sd + 2 * bo, ht * sd + 2 * bo] a b
  rw [← hw] at hwv hwi
  have hpl : ∀ {go cu pc : List Int}, Call 1 148 [mR 74, mI (a : Int), mI (b : Int)] (mC H go cu pc) (mI (w a b)) (mC H go cu pc) := M_pieceOf (mC_74 hB) hD (pt_nx (by decide) (pt_nx (by decide) (pt_nx (by decide) hz))) hwv
  generalize w a b = wv at hpl hwv hwi ⊢
  have lm3 : ∀ {v0 v1 v2 : Int}, (m3 pc (25 * (a : Int) + b) v0 v1 v2).length = 1875 := by intro v0 v1 v2; rw [m3_len]; exact l3
  rcases hwi with rfl | rfl | rfl | rfl
  · have hv9 : cval t (-9) a b (a - 1) (b - 1) = csY t a b (csX t a b (cini (-9) a b) (a - 1)) (b - 1) := by unfold cval; rw [if_pos rfl]
    rw [hv9]
    have hvb : ∀ x z : Nat, 1 ≤ x → 1 ≤ z → x ≤ a → z ≤ b → x < a ∨ z < b → vb (t (25 * (x : Int) + z)) 1000 := by
      intro x z h1 h2 h3 h4 h5
      have := area_bd h1 (by omega : x ≤ 24) h2 (by omega : z ≤ 24)
      exact vb_le (okt_vb hk (x + z) x z (Nat.le_refl _) h1 (by omega) h2 (by omega) (by unfold lex; omega)) (by omega)
    have loY : ∀ i : Nat, i ≤ b - 1 → ∀ go cu pc : List Int, (go.length = 625 ∧ cu.length = 625 ∧ pc.length = 1875) → (∀ c : Int, 0 ≤ c → c < 625 → mtb go cu pc c = if c = (25 * (a : Int) + b) then csY t a b (csX t a b (cini (-9) a b) (a - 1)) i else t c) → ∃ go2 cu2 pc2, ((go2.length = 625 ∧ cu2.length = 625 ∧ pc2.length = 1875) ∧ (∀ c : Int, 0 ≤ c → c < 625 → mtb go2 cu2 pc2 c = if c = (25 * (a : Int) + b) then csY t a b (csX t a b (cini (-9) a b) (a - 1)) (b - 1) else t c)) ∧ Ev 2 150 145 [mR 74, mI (a : Int), mI (b : Int), mI (25 * (a : Int) + b), mI (-9), mI ((i : Int) + 1)] [] (mC H go cu pc) none (mC H go2 cu2 pc2) := by
      refine E_loop (n := b - 1) _ ?_ ?_
      · intro i hi hh go cu pc hl ht
        have e1 := ht (25 * (a : Int) + ((i : Int) + 1)) (by omega) (by omega)
        rw [if_neg (by omega)] at e1
        have e2 := ht (25 * (a : Int) + ((b : Int) - ((i : Int) + 1))) (by omega) (by omega)
        rw [if_neg (by omega)] at e2
        have e3 := ht (25 * (a : Int) + b) hc.1 hc.2
        rw [if_pos rfl] at e3
        have v1 : vb (t (25 * (a : Int) + ((i : Int) + 1))) 1000 := hvb a (i + 1) (by omega) (by omega) (by omega) (by omega) (by omega)
        have v2 := hvb a (b - (i + 1)) (by omega) (by omega) (by omega) (by omega) (by omega)
        rw [show ((b - (i + 1) : Nat) : Int) = (b : Int) - ((i : Int) + 1) by omega] at v2
        obtain ⟨go3, cu3, pc3, y1, y2, hcut⟩ := M_laysCut hB hl (cell := (25 * (a : Int) + b)) (how := 200 + ((i : Int) + 1)) (one := 25 * (a : Int) + ((i : Int) + 1)) (two := 25 * (a : Int) + ((b : Int) - ((i : Int) + 1))) hc (by omega) (by omega) (by omega) (by omega) (by rw [e1]; exact v1) (by rw [e2]; exact v2)
        rw [e1, e2, e3] at y2
        rw [show 25 * (a : Int) + ((b : Int) - ((i : Int) + 1)) = 25 * (a : Int) + b - ((i : Int) + 1) by omega] at hcut
        obtain ⟨go2, cu2, pc2, z1, hev⟩ := hh go3 cu3 pc3 y1 (fun c h0 h1 => by
          rw [y2 c h0 h1]
          by_cases e : c = (25 * (a : Int) + b)
          · rw [if_pos e, if_pos e]; rfl
          · rw [if_neg e, if_neg e, ht c h0 h1, if_neg e])
        refine ⟨go2, cu2, pc2, z1, ?_⟩
        refine E_iload (pc' := 147) g150_145 rfl rfl ?_
        refine E_iload_n (pc' := 148) g150_147 rfl rfl ?_
        refine E_icge (pc' := 151) (pt := 191) g150_148 rfl rfl (fun c0 => ?_) (fun c0 => ?_)
        · first
          | (exfalso; omega)
          | (exfalso; omega)
        · first
          | (exfalso; omega)
          | (refine E_iload (pc' := 153) g150_151 rfl rfl ?_
             refine E_bipush (pc' := 155) g150_153 (by decide) rfl ?_
             refine E_icne (pc' := 158) (pt := 191) g150_155 rfl rfl (fun c1 => ?_) (fun c1 => ?_)
             · first
               | (exfalso; omega)
               | (exfalso; omega)
             · first
               | (exfalso; omega)
               | (refine E_aload_n (pc' := 159) g150_158 rfl rfl ?_
                  refine E_iload_n (pc' := 160) g150_159 rfl rfl ?_
                  refine E_bipush (pc' := 162) g150_160 (by decide) rfl ?_
                  refine E_iload_n (pc' := 163) g150_162 rfl rfl ?_
                  refine E_imul (pc' := 164) g150_163 (m_in_iff.mpr (by omega)) rfl ?_
                  refine E_iload (pc' := 166) g150_164 rfl rfl ?_
                  refine E_iadd (pc' := 167) g150_166 (m_in_iff.mpr (by omega)) rfl ?_
                  refine E_bipush (pc' := 169) g150_167 (by decide) rfl ?_
                  refine E_iload_n (pc' := 170) g150_169 rfl rfl ?_
                  refine E_imul (pc' := 171) g150_170 (m_in_iff.mpr (by omega)) rfl ?_
                  refine E_iload_n (pc' := 172) g150_171 rfl rfl ?_
                  refine E_iadd (pc' := 173) g150_172 (m_in_iff.mpr (by omega)) rfl ?_
                  refine E_iload (pc' := 175) g150_173 rfl rfl ?_
                  refine E_isub (pc' := 176) g150_175 (m_in_iff.mpr (by omega)) rfl ?_
                  refine E_sipush (pc' := 179) g150_176 (by decide) rfl ?_
                  refine E_iload (pc' := 181) g150_179 rfl rfl ?_
                  refine E_iadd (pc' := 182) g150_181 (m_in_iff.mpr (by omega)) rfl ?_
                  refine E_cV4v (pc' := 185) g150_182 k150_208 na149 rfl ow149 rfl (Nat.le_of_ble_eq_true rfl) (mC_74 hB) hcut (by decide) ?_
                  refine E_in5 (pc' := 188) g150_185 rfl (m_in_iff.mpr (by omega)) ?_
                  refine E_goto (pc' := 145) g150_188 rfl ?_
                  exact hev))
      · intro go cu pc hl ht
        refine ⟨go, cu, pc, ⟨hl, ht⟩, ?_⟩
        refine E_iload (pc' := 147) g150_145 rfl rfl ?_
        refine E_iload_n (pc' := 148) g150_147 rfl rfl ?_
        refine E_icge (pc' := 151) (pt := 191) g150_148 rfl rfl (fun c0 => ?_) (fun c0 => ?_)
        · first
          | (exfalso; omega)
          | (exact E_ret g150_191 rt150 rfl rfl)
        · first
          | (exfalso; omega)
          | (exfalso; omega)
    have loX : ∀ i : Nat, i ≤ a - 1 → ∀ go cu pc : List Int, (go.length = 625 ∧ cu.length = 625 ∧ pc.length = 1875) → (∀ c : Int, 0 ≤ c → c < 625 → mtb go cu pc c = if c = (25 * (a : Int) + b) then csX t a b (cini (-9) a b) i else t c) → ∃ go2 cu2 pc2, ((go2.length = 625 ∧ cu2.length = 625 ∧ pc2.length = 1875) ∧ (∀ c : Int, 0 ≤ c → c < 625 → mtb go2 cu2 pc2 c = if c = (25 * (a : Int) + b) then csY t a b (csX t a b (cini (-9) a b) (a - 1)) (b - 1) else t c)) ∧ Ev 2 150 97 [mR 74, mI (a : Int), mI (b : Int), mI (25 * (a : Int) + b), mI (-9), mI ((i : Int) + 1)] [] (mC H go cu pc) none (mC H go2 cu2 pc2) := by
      refine E_loop (n := a - 1) _ ?_ ?_
      · intro i hi hh go cu pc hl ht
        have e1 := ht (25 * ((i : Int) + 1) + b) (by omega) (by omega)
        rw [if_neg (by omega)] at e1
        have e2 := ht (25 * ((a : Int) - ((i : Int) + 1)) + b) (by omega) (by omega)
        rw [if_neg (by omega)] at e2
        have e3 := ht (25 * (a : Int) + b) hc.1 hc.2
        rw [if_pos rfl] at e3
        have v1 : vb (t (25 * ((i : Int) + 1) + b)) 1000 := hvb (i + 1) b (by omega) (by omega) (by omega) (by omega) (by omega)
        have v2 := hvb (a - (i + 1)) b (by omega) (by omega) (by omega) (by omega) (by omega)
        rw [show ((a - (i + 1) : Nat) : Int) = (a : Int) - ((i : Int) + 1) by omega] at v2
        obtain ⟨go3, cu3, pc3, y1, y2, hcut⟩ := M_laysCut hB hl (cell := (25 * (a : Int) + b)) (how := 100 + ((i : Int) + 1)) (one := 25 * ((i : Int) + 1) + b) (two := 25 * ((a : Int) - ((i : Int) + 1)) + b) hc (by omega) (by omega) (by omega) (by omega) (by rw [e1]; exact v1) (by rw [e2]; exact v2)
        rw [e1, e2, e3] at y2
        obtain ⟨go2, cu2, pc2, z1, hev⟩ := hh go3 cu3 pc3 y1 (fun c h0 h1 => by
          rw [y2 c h0 h1]
          by_cases e : c = (25 * (a : Int) + b)
          · rw [if_pos e, if_pos e]; rfl
          · rw [if_neg e, if_neg e, ht c h0 h1, if_neg e])
        refine ⟨go2, cu2, pc2, z1, ?_⟩
        refine E_iload (pc' := 99) g150_97 rfl rfl ?_
        refine E_iload_n (pc' := 100) g150_99 rfl rfl ?_
        refine E_icge (pc' := 103) (pt := 142) g150_100 rfl rfl (fun c0 => ?_) (fun c0 => ?_)
        · first
          | (exfalso; omega)
          | (exfalso; omega)
        · first
          | (exfalso; omega)
          | (refine E_iload (pc' := 105) g150_103 rfl rfl ?_
             refine E_bipush (pc' := 107) g150_105 (by decide) rfl ?_
             refine E_icne (pc' := 110) (pt := 142) g150_107 rfl rfl (fun c1 => ?_) (fun c1 => ?_)
             · first
               | (exfalso; omega)
               | (exfalso; omega)
             · first
               | (exfalso; omega)
               | (refine E_aload_n (pc' := 111) g150_110 rfl rfl ?_
                  refine E_iload_n (pc' := 112) g150_111 rfl rfl ?_
                  refine E_bipush (pc' := 114) g150_112 (by decide) rfl ?_
                  refine E_iload (pc' := 116) g150_114 rfl rfl ?_
                  refine E_imul (pc' := 117) g150_116 (m_in_iff.mpr (by omega)) rfl ?_
                  refine E_iload_n (pc' := 118) g150_117 rfl rfl ?_
                  refine E_iadd (pc' := 119) g150_118 (m_in_iff.mpr (by omega)) rfl ?_
                  refine E_bipush (pc' := 121) g150_119 (by decide) rfl ?_
                  refine E_iload_n (pc' := 122) g150_121 rfl rfl ?_
                  refine E_iload (pc' := 124) g150_122 rfl rfl ?_
                  refine E_isub (pc' := 125) g150_124 (m_in_iff.mpr (by omega)) rfl ?_
                  refine E_imul (pc' := 126) g150_125 (m_in_iff.mpr (by omega)) rfl ?_
                  refine E_iload_n (pc' := 127) g150_126 rfl rfl ?_
                  refine E_iadd (pc' := 128) g150_127 (m_in_iff.mpr (by omega)) rfl ?_
                  refine E_bipush (pc' := 130) g150_128 (by decide) rfl ?_
                  refine E_iload (pc' := 132) g150_130 rfl rfl ?_
                  refine E_iadd (pc' := 133) g150_132 (m_in_iff.mpr (by omega)) rfl ?_
                  refine E_cV4v (pc' := 136) g150_133 k150_208 na149 rfl ow149 rfl (Nat.le_of_ble_eq_true rfl) (mC_74 hB) hcut (by decide) ?_
                  refine E_in5 (pc' := 139) g150_136 rfl (m_in_iff.mpr (by omega)) ?_
                  refine E_goto (pc' := 97) g150_139 rfl ?_
                  exact hev))
      · intro go cu pc hl ht
        obtain ⟨go2, cu2, pc2, z1, hev⟩ := loY 0 (by omega) go cu pc hl ht
        refine ⟨go2, cu2, pc2, z1, ?_⟩
        refine E_iload (pc' := 99) g150_97 rfl rfl ?_
        refine E_iload_n (pc' := 100) g150_99 rfl rfl ?_
        refine E_icge (pc' := 103) (pt := 142) g150_100 rfl rfl (fun c0 => ?_) (fun c0 => ?_)
        · first
          | (exfalso; omega)
          | (refine E_iconst (pc' := 143) g150_142 (by decide) rfl ?_
             refine E_st5 (pc' := 145) g150_143 rfl ?_
             exact hev)
        · first
          | (exfalso; omega)
          | (exfalso; omega)
    obtain ⟨go2, cu2, pc2, z1, hev⟩ := loX 0 (by omega) (up go (25 * (a : Int) + b) 0) (up cu (25 * (a : Int) + b) 0) (m3 pc (25 * (a : Int) + b) 0 0 0) ⟨by rw [up_len]; exact l1, by rw [up_len]; exact l2, lm3⟩ (fun c h0 h1 => by
      rw [mtb_up ⟨l1, l2, l3⟩ hc c h0 h1]
      by_cases e : c = (25 * (a : Int) + b)
      · rw [if_pos e, if_pos e]; rfl
      · rw [if_neg e, if_neg e, htb c h0 h1])
    refine ⟨go2, cu2, pc2, z1, ?_⟩
    refine Call_of rfl ?_
    refine E_bipush (pc' := 2) g150_0 (by decide) rfl ?_
    refine E_iload_n (pc' := 3) g150_2 rfl rfl ?_
    refine E_imul (pc' := 4) g150_3 (m_in_iff.mpr (by omega)) rfl ?_
    refine E_iload_n (pc' := 5) g150_4 rfl rfl ?_
    refine E_iadd (pc' := 6) g150_5 (m_in_iff.mpr (by omega)) rfl ?_
    refine E_st3 (pc' := 7) g150_6 rfl ?_
    refine E_aload_n (pc' := 8) g150_7 rfl rfl ?_
    refine E_iload_n (pc' := 9) g150_8 rfl rfl ?_
    refine E_iload_n (pc' := 10) g150_9 rfl rfl ?_
    refine E_cV2i (pc' := 13) g150_10 k150_205 na148 rfl ow148 rfl (Nat.le_of_ble_eq_true rfl) (mC_74 hB) hpl (by decide) ?_
    refine E_st4 (pc' := 15) g150_13 rfl ?_
    refine E_aload_n (pc' := 16) g150_15 rfl rfl ?_
    refine E_getR (pc' := 19) g150_16 f150_56 tg7_27 rfl (mC_74 hB) rfl ?_
    refine E_iload_n (pc' := 20) g150_19 rfl rfl ?_
    refine E_iload (pc' := 22) g150_20 rfl rfl ?_
    refine E_bipush (pc' := 24) g150_22 (by decide) rfl ?_
    refine E_icne (pc' := 27) (pt := 31) g150_24 rfl rfl (fun c0 => ?_) (fun c0 => ?_)
    · exact absurd c0 (by omega)
    · first
      | (exfalso; omega)
      | (refine E_iconst (pc' := 28) g150_27 (by decide) rfl ?_
         refine E_goto (pc' := 34) g150_28 rfl ?_
         refine E_iastore (pc' := 35) g150_34 rfl (mC_90 hB) (by omega) (by omega) ?_
         rw [mC_go]
         refine E_aload_n (pc' := 36) g150_35 rfl rfl ?_
         refine E_getR (pc' := 39) g150_36 f150_59 tg7_28 rfl (mC_74 hB) rfl ?_
         refine E_iload_n (pc' := 40) g150_39 rfl rfl ?_
         refine E_iload (pc' := 42) g150_40 rfl rfl ?_
         refine E_bipush (pc' := 44) g150_42 (by decide) rfl ?_
         refine E_icne (pc' := 47) (pt := 51) g150_44 rfl rfl (fun c1 => ?_) (fun c1 => ?_)
         · exact absurd c1 (by omega)
         · first
           | (exfalso; omega)
           | (refine E_iconst (pc' := 48) g150_47 (by decide) rfl ?_
              refine E_goto (pc' := 55) g150_48 rfl ?_
              refine E_iastore (pc' := 56) g150_55 rfl (mC_91 hB) (by omega) (by omega) ?_
              rw [mC_cu]
              refine E_iconst (pc' := 57) g150_56 (by decide) rfl ?_
              refine E_st5 (pc' := 59) g150_57 rfl ?_
              refine E_iload (pc' := 61) g150_59 rfl rfl ?_
              refine E_iconst (pc' := 62) g150_61 (by decide) rfl ?_
              refine E_icge (pc' := 65) (pt := 94) g150_62 rfl rfl (fun c0 => ?_) (fun c0 => ?_)
              · first
                | (exfalso; omega)
                | (exfalso; omega)
              · first
                | (exfalso; omega)
                | (refine E_aload_n (pc' := 66) g150_65 rfl rfl ?_
                   refine E_getR (pc' := 69) g150_66 f150_62 tg7_29 rfl (mC_74 hB) rfl ?_
                   refine E_iconst (pc' := 70) g150_69 (by decide) rfl ?_
                   refine E_iload_n (pc' := 71) g150_70 rfl rfl ?_
                   refine E_imul (pc' := 72) g150_71 (m_in_iff.mpr (by omega)) rfl ?_
                   refine E_iload (pc' := 74) g150_72 rfl rfl ?_
                   refine E_iadd (pc' := 75) g150_74 (m_in_iff.mpr (by omega)) rfl ?_
                   refine E_iload (pc' := 77) g150_75 rfl rfl ?_
                   refine E_iload (pc' := 79) g150_77 rfl rfl ?_
                   refine E_icne (pc' := 82) (pt := 86) g150_79 rfl rfl (fun c1 => ?_) (fun c1 => ?_)
                   · first
                     | (exfalso; omega)
                     | (refine E_iconst (pc' := 87) g150_86 (by decide) rfl ?_
                        refine E_iastore (pc' := 88) g150_87 rfl (mC_92 hB) (by omega) (by omega) ?_
                        rw [mC_pc]
                        refine E_in5 (pc' := 91) g150_88 rfl (m_in_iff.mpr (by omega)) ?_
                        refine E_goto (pc' := 59) g150_91 rfl ?_
                        refine Ev_cast (ls := [mR 74, mI (a : Int), mI (b : Int), mI (25 * (a : Int) + b), mI (-9), mI 1]) ?_ rfl rfl
                        refine E_iload (pc' := 61) g150_59 rfl rfl ?_
                        refine E_iconst (pc' := 62) g150_61 (by decide) rfl ?_
                        refine E_icge (pc' := 65) (pt := 94) g150_62 rfl rfl (fun c0 => ?_) (fun c0 => ?_)
                        · first
                          | (exfalso; omega)
                          | (exfalso; omega)
                        · first
                          | (exfalso; omega)
                          | (refine E_aload_n (pc' := 66) g150_65 rfl rfl ?_
                             refine E_getR (pc' := 69) g150_66 f150_62 tg7_29 rfl (mC_74 hB) rfl ?_
                             refine E_iconst (pc' := 70) g150_69 (by decide) rfl ?_
                             refine E_iload_n (pc' := 71) g150_70 rfl rfl ?_
                             refine E_imul (pc' := 72) g150_71 (m_in_iff.mpr (by omega)) rfl ?_
                             refine E_iload (pc' := 74) g150_72 rfl rfl ?_
                             refine E_iadd (pc' := 75) g150_74 (m_in_iff.mpr (by omega)) rfl ?_
                             refine E_iload (pc' := 77) g150_75 rfl rfl ?_
                             refine E_iload (pc' := 79) g150_77 rfl rfl ?_
                             refine E_icne (pc' := 82) (pt := 86) g150_79 rfl rfl (fun c1 => ?_) (fun c1 => ?_)
                             · first
                               | (exfalso; omega)
                               | (refine E_iconst (pc' := 87) g150_86 (by decide) rfl ?_
                                  refine E_iastore (pc' := 88) g150_87 rfl (mC_92 hB) (by omega) (by rw [up_len]; omega) ?_
                                  rw [mC_pc]
                                  refine E_in5 (pc' := 91) g150_88 rfl (m_in_iff.mpr (by omega)) ?_
                                  refine E_goto (pc' := 59) g150_91 rfl ?_
                                  refine Ev_cast (ls := [mR 74, mI (a : Int), mI (b : Int), mI (25 * (a : Int) + b), mI (-9), mI 2]) ?_ rfl rfl
                                  refine E_iload (pc' := 61) g150_59 rfl rfl ?_
                                  refine E_iconst (pc' := 62) g150_61 (by decide) rfl ?_
                                  refine E_icge (pc' := 65) (pt := 94) g150_62 rfl rfl (fun c0 => ?_) (fun c0 => ?_)
                                  · first
                                    | (exfalso; omega)
                                    | (exfalso; omega)
                                  · first
                                    | (exfalso; omega)
                                    | (refine E_aload_n (pc' := 66) g150_65 rfl rfl ?_
                                       refine E_getR (pc' := 69) g150_66 f150_62 tg7_29 rfl (mC_74 hB) rfl ?_
                                       refine E_iconst (pc' := 70) g150_69 (by decide) rfl ?_
                                       refine E_iload_n (pc' := 71) g150_70 rfl rfl ?_
                                       refine E_imul (pc' := 72) g150_71 (m_in_iff.mpr (by omega)) rfl ?_
                                       refine E_iload (pc' := 74) g150_72 rfl rfl ?_
                                       refine E_iadd (pc' := 75) g150_74 (m_in_iff.mpr (by omega)) rfl ?_
                                       refine E_iload (pc' := 77) g150_75 rfl rfl ?_
                                       refine E_iload (pc' := 79) g150_77 rfl rfl ?_
                                       refine E_icne (pc' := 82) (pt := 86) g150_79 rfl rfl (fun c1 => ?_) (fun c1 => ?_)
                                       · first
                                         | (exfalso; omega)
                                         | (refine E_iconst (pc' := 87) g150_86 (by decide) rfl ?_
                                            refine E_iastore (pc' := 88) g150_87 rfl (mC_92 hB) (by omega) (by rw [up_len, up_len]; omega) ?_
                                            rw [mC_pc]
                                            refine E_in5 (pc' := 91) g150_88 rfl (m_in_iff.mpr (by omega)) ?_
                                            refine E_goto (pc' := 59) g150_91 rfl ?_
                                            refine Ev_cast (ls := [mR 74, mI (a : Int), mI (b : Int), mI (25 * (a : Int) + b), mI (-9), mI 3]) ?_ rfl rfl
                                            refine Ev_cast (H := mC H _ _ (m3 pc (25 * (a : Int) + b) 0 0 0)) ?_ rfl rfl
                                            refine E_iload (pc' := 61) g150_59 rfl rfl ?_
                                            refine E_iconst (pc' := 62) g150_61 (by decide) rfl ?_
                                            refine E_icge (pc' := 65) (pt := 94) g150_62 rfl rfl (fun c0 => ?_) (fun c0 => ?_)
                                            · first
                                              | (exfalso; omega)
                                              | (refine E_iconst (pc' := 95) g150_94 (by decide) rfl ?_
                                                 refine E_st5 (pc' := 97) g150_95 rfl ?_
                                                 exact hev)
                                            · first
                                              | (exfalso; omega)
                                              | (exfalso; omega))
                                       · exact absurd c1 (by omega)))
                             · exact absurd c1 (by omega)))
                   · exact absurd c1 (by omega))))
  · have hv : cval t 0 a b (a - 1) (b - 1) = cini 0 a b := by unfold cval; rw [if_neg (by decide)]
    rw [hv]
    refine ⟨up go (25 * (a : Int) + b) ((a : Int) * b), up cu (25 * (a : Int) + b) (1 + 0), (m3 pc (25 * (a : Int) + b) 1 0 0), ⟨⟨by rw [up_len]; exact l1, by rw [up_len]; exact l2, lm3⟩, fun c h0 h1 => ?_⟩, ?_⟩
    · rw [mtb_up ⟨l1, l2, l3⟩ hc c h0 h1]
      by_cases e : c = (25 * (a : Int) + b)
      · rw [if_pos e, if_pos e]; rfl
      · rw [if_neg e, if_neg e, htb c h0 h1]
    refine Call_of rfl ?_
    refine E_bipush (pc' := 2) g150_0 (by decide) rfl ?_
    refine E_iload_n (pc' := 3) g150_2 rfl rfl ?_
    refine E_imul (pc' := 4) g150_3 (m_in_iff.mpr (by omega)) rfl ?_
    refine E_iload_n (pc' := 5) g150_4 rfl rfl ?_
    refine E_iadd (pc' := 6) g150_5 (m_in_iff.mpr (by omega)) rfl ?_
    refine E_st3 (pc' := 7) g150_6 rfl ?_
    refine E_aload_n (pc' := 8) g150_7 rfl rfl ?_
    refine E_iload_n (pc' := 9) g150_8 rfl rfl ?_
    refine E_iload_n (pc' := 10) g150_9 rfl rfl ?_
    refine E_cV2i (pc' := 13) g150_10 k150_205 na148 rfl ow148 rfl (Nat.le_of_ble_eq_true rfl) (mC_74 hB) hpl (by decide) ?_
    refine E_st4 (pc' := 15) g150_13 rfl ?_
    refine E_aload_n (pc' := 16) g150_15 rfl rfl ?_
    refine E_getR (pc' := 19) g150_16 f150_56 tg7_27 rfl (mC_74 hB) rfl ?_
    refine E_iload_n (pc' := 20) g150_19 rfl rfl ?_
    refine E_iload (pc' := 22) g150_20 rfl rfl ?_
    refine E_bipush (pc' := 24) g150_22 (by decide) rfl ?_
    refine E_icne (pc' := 27) (pt := 31) g150_24 rfl rfl (fun c0 => ?_) (fun c0 => ?_)
    · first
      | (exfalso; omega)
      | (refine E_iload_n (pc' := 32) g150_31 rfl rfl ?_
         refine E_iload_n (pc' := 33) g150_32 rfl rfl ?_
         refine E_imul (pc' := 34) g150_33 (m_in_iff.mpr (by omega)) rfl ?_
         refine E_iastore (pc' := 35) g150_34 rfl (mC_90 hB) (by omega) (by omega) ?_
         rw [mC_go]
         refine E_aload_n (pc' := 36) g150_35 rfl rfl ?_
         refine E_getR (pc' := 39) g150_36 f150_59 tg7_28 rfl (mC_74 hB) rfl ?_
         refine E_iload_n (pc' := 40) g150_39 rfl rfl ?_
         refine E_iload (pc' := 42) g150_40 rfl rfl ?_
         refine E_bipush (pc' := 44) g150_42 (by decide) rfl ?_
         refine E_icne (pc' := 47) (pt := 51) g150_44 rfl rfl (fun c1 => ?_) (fun c1 => ?_)
         · first
           | (exfalso; omega)
           | (refine E_iconst (pc' := 52) g150_51 (by decide) rfl ?_
              refine E_iload (pc' := 54) g150_52 rfl rfl ?_
              refine E_iadd (pc' := 55) g150_54 (m_in_iff.mpr (by omega)) rfl ?_
              refine E_iastore (pc' := 56) g150_55 rfl (mC_91 hB) (by omega) (by omega) ?_
              rw [mC_cu]
              refine E_iconst (pc' := 57) g150_56 (by decide) rfl ?_
              refine E_st5 (pc' := 59) g150_57 rfl ?_
              refine E_iload (pc' := 61) g150_59 rfl rfl ?_
              refine E_iconst (pc' := 62) g150_61 (by decide) rfl ?_
              refine E_icge (pc' := 65) (pt := 94) g150_62 rfl rfl (fun c0 => ?_) (fun c0 => ?_)
              · first
                | (exfalso; omega)
                | (exfalso; omega)
              · first
                | (exfalso; omega)
                | (refine E_aload_n (pc' := 66) g150_65 rfl rfl ?_
                   refine E_getR (pc' := 69) g150_66 f150_62 tg7_29 rfl (mC_74 hB) rfl ?_
                   refine E_iconst (pc' := 70) g150_69 (by decide) rfl ?_
                   refine E_iload_n (pc' := 71) g150_70 rfl rfl ?_
                   refine E_imul (pc' := 72) g150_71 (m_in_iff.mpr (by omega)) rfl ?_
                   refine E_iload (pc' := 74) g150_72 rfl rfl ?_
                   refine E_iadd (pc' := 75) g150_74 (m_in_iff.mpr (by omega)) rfl ?_
                   refine E_iload (pc' := 77) g150_75 rfl rfl ?_
                   refine E_iload (pc' := 79) g150_77 rfl rfl ?_
                   refine E_icne (pc' := 82) (pt := 86) g150_79 rfl rfl (fun c1 => ?_) (fun c1 => ?_)
                   · exact absurd c1 (by omega)
                   · first
                     | (exfalso; omega)
                     | (refine E_iconst (pc' := 83) g150_82 (by decide) rfl ?_
                        refine E_goto (pc' := 87) g150_83 rfl ?_
                        refine E_iastore (pc' := 88) g150_87 rfl (mC_92 hB) (by omega) (by omega) ?_
                        rw [mC_pc]
                        refine E_in5 (pc' := 91) g150_88 rfl (m_in_iff.mpr (by omega)) ?_
                        refine E_goto (pc' := 59) g150_91 rfl ?_
                        refine Ev_cast (ls := [mR 74, mI (a : Int), mI (b : Int), mI (25 * (a : Int) + b), mI (0), mI 1]) ?_ rfl rfl
                        refine E_iload (pc' := 61) g150_59 rfl rfl ?_
                        refine E_iconst (pc' := 62) g150_61 (by decide) rfl ?_
                        refine E_icge (pc' := 65) (pt := 94) g150_62 rfl rfl (fun c0 => ?_) (fun c0 => ?_)
                        · first
                          | (exfalso; omega)
                          | (exfalso; omega)
                        · first
                          | (exfalso; omega)
                          | (refine E_aload_n (pc' := 66) g150_65 rfl rfl ?_
                             refine E_getR (pc' := 69) g150_66 f150_62 tg7_29 rfl (mC_74 hB) rfl ?_
                             refine E_iconst (pc' := 70) g150_69 (by decide) rfl ?_
                             refine E_iload_n (pc' := 71) g150_70 rfl rfl ?_
                             refine E_imul (pc' := 72) g150_71 (m_in_iff.mpr (by omega)) rfl ?_
                             refine E_iload (pc' := 74) g150_72 rfl rfl ?_
                             refine E_iadd (pc' := 75) g150_74 (m_in_iff.mpr (by omega)) rfl ?_
                             refine E_iload (pc' := 77) g150_75 rfl rfl ?_
                             refine E_iload (pc' := 79) g150_77 rfl rfl ?_
                             refine E_icne (pc' := 82) (pt := 86) g150_79 rfl rfl (fun c1 => ?_) (fun c1 => ?_)
                             · first
                               | (exfalso; omega)
                               | (refine E_iconst (pc' := 87) g150_86 (by decide) rfl ?_
                                  refine E_iastore (pc' := 88) g150_87 rfl (mC_92 hB) (by omega) (by rw [up_len]; omega) ?_
                                  rw [mC_pc]
                                  refine E_in5 (pc' := 91) g150_88 rfl (m_in_iff.mpr (by omega)) ?_
                                  refine E_goto (pc' := 59) g150_91 rfl ?_
                                  refine Ev_cast (ls := [mR 74, mI (a : Int), mI (b : Int), mI (25 * (a : Int) + b), mI (0), mI 2]) ?_ rfl rfl
                                  refine E_iload (pc' := 61) g150_59 rfl rfl ?_
                                  refine E_iconst (pc' := 62) g150_61 (by decide) rfl ?_
                                  refine E_icge (pc' := 65) (pt := 94) g150_62 rfl rfl (fun c0 => ?_) (fun c0 => ?_)
                                  · first
                                    | (exfalso; omega)
                                    | (exfalso; omega)
                                  · first
                                    | (exfalso; omega)
                                    | (refine E_aload_n (pc' := 66) g150_65 rfl rfl ?_
                                       refine E_getR (pc' := 69) g150_66 f150_62 tg7_29 rfl (mC_74 hB) rfl ?_
                                       refine E_iconst (pc' := 70) g150_69 (by decide) rfl ?_
                                       refine E_iload_n (pc' := 71) g150_70 rfl rfl ?_
                                       refine E_imul (pc' := 72) g150_71 (m_in_iff.mpr (by omega)) rfl ?_
                                       refine E_iload (pc' := 74) g150_72 rfl rfl ?_
                                       refine E_iadd (pc' := 75) g150_74 (m_in_iff.mpr (by omega)) rfl ?_
                                       refine E_iload (pc' := 77) g150_75 rfl rfl ?_
                                       refine E_iload (pc' := 79) g150_77 rfl rfl ?_
                                       refine E_icne (pc' := 82) (pt := 86) g150_79 rfl rfl (fun c1 => ?_) (fun c1 => ?_)
                                       · first
                                         | (exfalso; omega)
                                         | (refine E_iconst (pc' := 87) g150_86 (by decide) rfl ?_
                                            refine E_iastore (pc' := 88) g150_87 rfl (mC_92 hB) (by omega) (by rw [up_len, up_len]; omega) ?_
                                            rw [mC_pc]
                                            refine E_in5 (pc' := 91) g150_88 rfl (m_in_iff.mpr (by omega)) ?_
                                            refine E_goto (pc' := 59) g150_91 rfl ?_
                                            refine Ev_cast (ls := [mR 74, mI (a : Int), mI (b : Int), mI (25 * (a : Int) + b), mI (0), mI 3]) ?_ rfl rfl
                                            refine Ev_cast (H := mC H _ _ (m3 pc (25 * (a : Int) + b) 1 0 0)) ?_ rfl rfl
                                            refine E_iload (pc' := 61) g150_59 rfl rfl ?_
                                            refine E_iconst (pc' := 62) g150_61 (by decide) rfl ?_
                                            refine E_icge (pc' := 65) (pt := 94) g150_62 rfl rfl (fun c0 => ?_) (fun c0 => ?_)
                                            · first
                                              | (exfalso; omega)
                                              | (refine E_iconst (pc' := 95) g150_94 (by decide) rfl ?_
                                                 refine E_st5 (pc' := 97) g150_95 rfl ?_
                                                 refine E_iload (pc' := 99) g150_97 rfl rfl ?_
                                                 refine E_iload_n (pc' := 100) g150_99 rfl rfl ?_
                                                 refine E_icge (pc' := 103) (pt := 142) g150_100 rfl rfl (fun c1 => ?_) (fun c1 => ?_)
                                                 · first
                                                   | (exfalso; omega)
                                                   | (refine E_iconst (pc' := 143) g150_142 (by decide) rfl ?_
                                                      refine E_st5 (pc' := 145) g150_143 rfl ?_
                                                      refine E_iload (pc' := 147) g150_145 rfl rfl ?_
                                                      refine E_iload_n (pc' := 148) g150_147 rfl rfl ?_
                                                      refine E_icge (pc' := 151) (pt := 191) g150_148 rfl rfl (fun c2 => ?_) (fun c2 => ?_)
                                                      · first
                                                        | (exfalso; omega)
                                                        | (exact E_ret g150_191 rt150 rfl rfl)
                                                      · first
                                                        | (exfalso; omega)
                                                        | (refine E_iload (pc' := 153) g150_151 rfl rfl ?_
                                                           refine E_bipush (pc' := 155) g150_153 (by decide) rfl ?_
                                                           refine E_icne (pc' := 158) (pt := 191) g150_155 rfl rfl (fun c3 => ?_) (fun c3 => ?_)
                                                           · first
                                                             | (exfalso; omega)
                                                             | (exact E_ret g150_191 rt150 rfl rfl)
                                                           · first
                                                             | (exfalso; omega)
                                                             | (exfalso; omega)))
                                                 · first
                                                   | (exfalso; omega)
                                                   | (refine E_iload (pc' := 105) g150_103 rfl rfl ?_
                                                      refine E_bipush (pc' := 107) g150_105 (by decide) rfl ?_
                                                      refine E_icne (pc' := 110) (pt := 142) g150_107 rfl rfl (fun c4 => ?_) (fun c4 => ?_)
                                                      · first
                                                        | (exfalso; omega)
                                                        | (refine E_iconst (pc' := 143) g150_142 (by decide) rfl ?_
                                                           refine E_st5 (pc' := 145) g150_143 rfl ?_
                                                           refine E_iload (pc' := 147) g150_145 rfl rfl ?_
                                                           refine E_iload_n (pc' := 148) g150_147 rfl rfl ?_
                                                           refine E_icge (pc' := 151) (pt := 191) g150_148 rfl rfl (fun c5 => ?_) (fun c5 => ?_)
                                                           · first
                                                             | (exfalso; omega)
                                                             | (exact E_ret g150_191 rt150 rfl rfl)
                                                           · first
                                                             | (exfalso; omega)
                                                             | (refine E_iload (pc' := 153) g150_151 rfl rfl ?_
                                                                refine E_bipush (pc' := 155) g150_153 (by decide) rfl ?_
                                                                refine E_icne (pc' := 158) (pt := 191) g150_155 rfl rfl (fun c6 => ?_) (fun c6 => ?_)
                                                                · first
                                                                  | (exfalso; omega)
                                                                  | (exact E_ret g150_191 rt150 rfl rfl)
                                                                · first
                                                                  | (exfalso; omega)
                                                                  | (exfalso; omega)))
                                                      · first
                                                        | (exfalso; omega)
                                                        | (exfalso; omega)))
                                            · first
                                              | (exfalso; omega)
                                              | (exfalso; omega))
                                       · exact absurd c1 (by omega)))
                             · exact absurd c1 (by omega)))))
         · exact absurd c1 (by omega))
    · exact absurd c0 (by omega)
  · have hv : cval t 1 a b (a - 1) (b - 1) = cini 1 a b := by unfold cval; rw [if_neg (by decide)]
    rw [hv]
    refine ⟨up go (25 * (a : Int) + b) ((a : Int) * b), up cu (25 * (a : Int) + b) (1 + 1), (m3 pc (25 * (a : Int) + b) 0 1 0), ⟨⟨by rw [up_len]; exact l1, by rw [up_len]; exact l2, lm3⟩, fun c h0 h1 => ?_⟩, ?_⟩
    · rw [mtb_up ⟨l1, l2, l3⟩ hc c h0 h1]
      by_cases e : c = (25 * (a : Int) + b)
      · rw [if_pos e, if_pos e]; rfl
      · rw [if_neg e, if_neg e, htb c h0 h1]
    refine Call_of rfl ?_
    refine E_bipush (pc' := 2) g150_0 (by decide) rfl ?_
    refine E_iload_n (pc' := 3) g150_2 rfl rfl ?_
    refine E_imul (pc' := 4) g150_3 (m_in_iff.mpr (by omega)) rfl ?_
    refine E_iload_n (pc' := 5) g150_4 rfl rfl ?_
    refine E_iadd (pc' := 6) g150_5 (m_in_iff.mpr (by omega)) rfl ?_
    refine E_st3 (pc' := 7) g150_6 rfl ?_
    refine E_aload_n (pc' := 8) g150_7 rfl rfl ?_
    refine E_iload_n (pc' := 9) g150_8 rfl rfl ?_
    refine E_iload_n (pc' := 10) g150_9 rfl rfl ?_
    refine E_cV2i (pc' := 13) g150_10 k150_205 na148 rfl ow148 rfl (Nat.le_of_ble_eq_true rfl) (mC_74 hB) hpl (by decide) ?_
    refine E_st4 (pc' := 15) g150_13 rfl ?_
    refine E_aload_n (pc' := 16) g150_15 rfl rfl ?_
    refine E_getR (pc' := 19) g150_16 f150_56 tg7_27 rfl (mC_74 hB) rfl ?_
    refine E_iload_n (pc' := 20) g150_19 rfl rfl ?_
    refine E_iload (pc' := 22) g150_20 rfl rfl ?_
    refine E_bipush (pc' := 24) g150_22 (by decide) rfl ?_
    refine E_icne (pc' := 27) (pt := 31) g150_24 rfl rfl (fun c0 => ?_) (fun c0 => ?_)
    · first
      | (exfalso; omega)
      | (refine E_iload_n (pc' := 32) g150_31 rfl rfl ?_
         refine E_iload_n (pc' := 33) g150_32 rfl rfl ?_
         refine E_imul (pc' := 34) g150_33 (m_in_iff.mpr (by omega)) rfl ?_
         refine E_iastore (pc' := 35) g150_34 rfl (mC_90 hB) (by omega) (by omega) ?_
         rw [mC_go]
         refine E_aload_n (pc' := 36) g150_35 rfl rfl ?_
         refine E_getR (pc' := 39) g150_36 f150_59 tg7_28 rfl (mC_74 hB) rfl ?_
         refine E_iload_n (pc' := 40) g150_39 rfl rfl ?_
         refine E_iload (pc' := 42) g150_40 rfl rfl ?_
         refine E_bipush (pc' := 44) g150_42 (by decide) rfl ?_
         refine E_icne (pc' := 47) (pt := 51) g150_44 rfl rfl (fun c1 => ?_) (fun c1 => ?_)
         · first
           | (exfalso; omega)
           | (refine E_iconst (pc' := 52) g150_51 (by decide) rfl ?_
              refine E_iload (pc' := 54) g150_52 rfl rfl ?_
              refine E_iadd (pc' := 55) g150_54 (m_in_iff.mpr (by omega)) rfl ?_
              refine E_iastore (pc' := 56) g150_55 rfl (mC_91 hB) (by omega) (by omega) ?_
              rw [mC_cu]
              refine E_iconst (pc' := 57) g150_56 (by decide) rfl ?_
              refine E_st5 (pc' := 59) g150_57 rfl ?_
              refine E_iload (pc' := 61) g150_59 rfl rfl ?_
              refine E_iconst (pc' := 62) g150_61 (by decide) rfl ?_
              refine E_icge (pc' := 65) (pt := 94) g150_62 rfl rfl (fun c0 => ?_) (fun c0 => ?_)
              · first
                | (exfalso; omega)
                | (exfalso; omega)
              · first
                | (exfalso; omega)
                | (refine E_aload_n (pc' := 66) g150_65 rfl rfl ?_
                   refine E_getR (pc' := 69) g150_66 f150_62 tg7_29 rfl (mC_74 hB) rfl ?_
                   refine E_iconst (pc' := 70) g150_69 (by decide) rfl ?_
                   refine E_iload_n (pc' := 71) g150_70 rfl rfl ?_
                   refine E_imul (pc' := 72) g150_71 (m_in_iff.mpr (by omega)) rfl ?_
                   refine E_iload (pc' := 74) g150_72 rfl rfl ?_
                   refine E_iadd (pc' := 75) g150_74 (m_in_iff.mpr (by omega)) rfl ?_
                   refine E_iload (pc' := 77) g150_75 rfl rfl ?_
                   refine E_iload (pc' := 79) g150_77 rfl rfl ?_
                   refine E_icne (pc' := 82) (pt := 86) g150_79 rfl rfl (fun c1 => ?_) (fun c1 => ?_)
                   · first
                     | (exfalso; omega)
                     | (refine E_iconst (pc' := 87) g150_86 (by decide) rfl ?_
                        refine E_iastore (pc' := 88) g150_87 rfl (mC_92 hB) (by omega) (by omega) ?_
                        rw [mC_pc]
                        refine E_in5 (pc' := 91) g150_88 rfl (m_in_iff.mpr (by omega)) ?_
                        refine E_goto (pc' := 59) g150_91 rfl ?_
                        refine Ev_cast (ls := [mR 74, mI (a : Int), mI (b : Int), mI (25 * (a : Int) + b), mI (1), mI 1]) ?_ rfl rfl
                        refine E_iload (pc' := 61) g150_59 rfl rfl ?_
                        refine E_iconst (pc' := 62) g150_61 (by decide) rfl ?_
                        refine E_icge (pc' := 65) (pt := 94) g150_62 rfl rfl (fun c0 => ?_) (fun c0 => ?_)
                        · first
                          | (exfalso; omega)
                          | (exfalso; omega)
                        · first
                          | (exfalso; omega)
                          | (refine E_aload_n (pc' := 66) g150_65 rfl rfl ?_
                             refine E_getR (pc' := 69) g150_66 f150_62 tg7_29 rfl (mC_74 hB) rfl ?_
                             refine E_iconst (pc' := 70) g150_69 (by decide) rfl ?_
                             refine E_iload_n (pc' := 71) g150_70 rfl rfl ?_
                             refine E_imul (pc' := 72) g150_71 (m_in_iff.mpr (by omega)) rfl ?_
                             refine E_iload (pc' := 74) g150_72 rfl rfl ?_
                             refine E_iadd (pc' := 75) g150_74 (m_in_iff.mpr (by omega)) rfl ?_
                             refine E_iload (pc' := 77) g150_75 rfl rfl ?_
                             refine E_iload (pc' := 79) g150_77 rfl rfl ?_
                             refine E_icne (pc' := 82) (pt := 86) g150_79 rfl rfl (fun c1 => ?_) (fun c1 => ?_)
                             · exact absurd c1 (by omega)
                             · first
                               | (exfalso; omega)
                               | (refine E_iconst (pc' := 83) g150_82 (by decide) rfl ?_
                                  refine E_goto (pc' := 87) g150_83 rfl ?_
                                  refine E_iastore (pc' := 88) g150_87 rfl (mC_92 hB) (by omega) (by rw [up_len]; omega) ?_
                                  rw [mC_pc]
                                  refine E_in5 (pc' := 91) g150_88 rfl (m_in_iff.mpr (by omega)) ?_
                                  refine E_goto (pc' := 59) g150_91 rfl ?_
                                  refine Ev_cast (ls := [mR 74, mI (a : Int), mI (b : Int), mI (25 * (a : Int) + b), mI (1), mI 2]) ?_ rfl rfl
                                  refine E_iload (pc' := 61) g150_59 rfl rfl ?_
                                  refine E_iconst (pc' := 62) g150_61 (by decide) rfl ?_
                                  refine E_icge (pc' := 65) (pt := 94) g150_62 rfl rfl (fun c0 => ?_) (fun c0 => ?_)
                                  · first
                                    | (exfalso; omega)
                                    | (exfalso; omega)
                                  · first
                                    | (exfalso; omega)
                                    | (refine E_aload_n (pc' := 66) g150_65 rfl rfl ?_
                                       refine E_getR (pc' := 69) g150_66 f150_62 tg7_29 rfl (mC_74 hB) rfl ?_
                                       refine E_iconst (pc' := 70) g150_69 (by decide) rfl ?_
                                       refine E_iload_n (pc' := 71) g150_70 rfl rfl ?_
                                       refine E_imul (pc' := 72) g150_71 (m_in_iff.mpr (by omega)) rfl ?_
                                       refine E_iload (pc' := 74) g150_72 rfl rfl ?_
                                       refine E_iadd (pc' := 75) g150_74 (m_in_iff.mpr (by omega)) rfl ?_
                                       refine E_iload (pc' := 77) g150_75 rfl rfl ?_
                                       refine E_iload (pc' := 79) g150_77 rfl rfl ?_
                                       refine E_icne (pc' := 82) (pt := 86) g150_79 rfl rfl (fun c1 => ?_) (fun c1 => ?_)
                                       · first
                                         | (exfalso; omega)
                                         | (refine E_iconst (pc' := 87) g150_86 (by decide) rfl ?_
                                            refine E_iastore (pc' := 88) g150_87 rfl (mC_92 hB) (by omega) (by rw [up_len, up_len]; omega) ?_
                                            rw [mC_pc]
                                            refine E_in5 (pc' := 91) g150_88 rfl (m_in_iff.mpr (by omega)) ?_
                                            refine E_goto (pc' := 59) g150_91 rfl ?_
                                            refine Ev_cast (ls := [mR 74, mI (a : Int), mI (b : Int), mI (25 * (a : Int) + b), mI (1), mI 3]) ?_ rfl rfl
                                            refine Ev_cast (H := mC H _ _ (m3 pc (25 * (a : Int) + b) 0 1 0)) ?_ rfl rfl
                                            refine E_iload (pc' := 61) g150_59 rfl rfl ?_
                                            refine E_iconst (pc' := 62) g150_61 (by decide) rfl ?_
                                            refine E_icge (pc' := 65) (pt := 94) g150_62 rfl rfl (fun c0 => ?_) (fun c0 => ?_)
                                            · first
                                              | (exfalso; omega)
                                              | (refine E_iconst (pc' := 95) g150_94 (by decide) rfl ?_
                                                 refine E_st5 (pc' := 97) g150_95 rfl ?_
                                                 refine E_iload (pc' := 99) g150_97 rfl rfl ?_
                                                 refine E_iload_n (pc' := 100) g150_99 rfl rfl ?_
                                                 refine E_icge (pc' := 103) (pt := 142) g150_100 rfl rfl (fun c1 => ?_) (fun c1 => ?_)
                                                 · first
                                                   | (exfalso; omega)
                                                   | (refine E_iconst (pc' := 143) g150_142 (by decide) rfl ?_
                                                      refine E_st5 (pc' := 145) g150_143 rfl ?_
                                                      refine E_iload (pc' := 147) g150_145 rfl rfl ?_
                                                      refine E_iload_n (pc' := 148) g150_147 rfl rfl ?_
                                                      refine E_icge (pc' := 151) (pt := 191) g150_148 rfl rfl (fun c2 => ?_) (fun c2 => ?_)
                                                      · first
                                                        | (exfalso; omega)
                                                        | (exact E_ret g150_191 rt150 rfl rfl)
                                                      · first
                                                        | (exfalso; omega)
                                                        | (refine E_iload (pc' := 153) g150_151 rfl rfl ?_
                                                           refine E_bipush (pc' := 155) g150_153 (by decide) rfl ?_
                                                           refine E_icne (pc' := 158) (pt := 191) g150_155 rfl rfl (fun c3 => ?_) (fun c3 => ?_)
                                                           · first
                                                             | (exfalso; omega)
                                                             | (exact E_ret g150_191 rt150 rfl rfl)
                                                           · first
                                                             | (exfalso; omega)
                                                             | (exfalso; omega)))
                                                 · first
                                                   | (exfalso; omega)
                                                   | (refine E_iload (pc' := 105) g150_103 rfl rfl ?_
                                                      refine E_bipush (pc' := 107) g150_105 (by decide) rfl ?_
                                                      refine E_icne (pc' := 110) (pt := 142) g150_107 rfl rfl (fun c4 => ?_) (fun c4 => ?_)
                                                      · first
                                                        | (exfalso; omega)
                                                        | (refine E_iconst (pc' := 143) g150_142 (by decide) rfl ?_
                                                           refine E_st5 (pc' := 145) g150_143 rfl ?_
                                                           refine E_iload (pc' := 147) g150_145 rfl rfl ?_
                                                           refine E_iload_n (pc' := 148) g150_147 rfl rfl ?_
                                                           refine E_icge (pc' := 151) (pt := 191) g150_148 rfl rfl (fun c5 => ?_) (fun c5 => ?_)
                                                           · first
                                                             | (exfalso; omega)
                                                             | (exact E_ret g150_191 rt150 rfl rfl)
                                                           · first
                                                             | (exfalso; omega)
                                                             | (refine E_iload (pc' := 153) g150_151 rfl rfl ?_
                                                                refine E_bipush (pc' := 155) g150_153 (by decide) rfl ?_
                                                                refine E_icne (pc' := 158) (pt := 191) g150_155 rfl rfl (fun c6 => ?_) (fun c6 => ?_)
                                                                · first
                                                                  | (exfalso; omega)
                                                                  | (exact E_ret g150_191 rt150 rfl rfl)
                                                                · first
                                                                  | (exfalso; omega)
                                                                  | (exfalso; omega)))
                                                      · first
                                                        | (exfalso; omega)
                                                        | (exfalso; omega)))
                                            · first
                                              | (exfalso; omega)
                                              | (exfalso; omega))
                                       · exact absurd c1 (by omega)))))
                   · exact absurd c1 (by omega)))
         · exact absurd c1 (by omega))
    · exact absurd c0 (by omega)
  · have hv : cval t 2 a b (a - 1) (b - 1) = cini 2 a b := by unfold cval; rw [if_neg (by decide)]
    rw [hv]
    refine ⟨up go (25 * (a : Int) + b) ((a : Int) * b), up cu (25 * (a : Int) + b) (1 + 2), (m3 pc (25 * (a : Int) + b) 0 0 1), ⟨⟨by rw [up_len]; exact l1, by rw [up_len]; exact l2, lm3⟩, fun c h0 h1 => ?_⟩, ?_⟩
    · rw [mtb_up ⟨l1, l2, l3⟩ hc c h0 h1]
      by_cases e : c = (25 * (a : Int) + b)
      · rw [if_pos e, if_pos e]; rfl
      · rw [if_neg e, if_neg e, htb c h0 h1]
    refine Call_of rfl ?_
    refine E_bipush (pc' := 2) g150_0 (by decide) rfl ?_
    refine E_iload_n (pc' := 3) g150_2 rfl rfl ?_
    refine E_imul (pc' := 4) g150_3 (m_in_iff.mpr (by omega)) rfl ?_
    refine E_iload_n (pc' := 5) g150_4 rfl rfl ?_
    refine E_iadd (pc' := 6) g150_5 (m_in_iff.mpr (by omega)) rfl ?_
    refine E_st3 (pc' := 7) g150_6 rfl ?_
    refine E_aload_n (pc' := 8) g150_7 rfl rfl ?_
    refine E_iload_n (pc' := 9) g150_8 rfl rfl ?_
    refine E_iload_n (pc' := 10) g150_9 rfl rfl ?_
    refine E_cV2i (pc' := 13) g150_10 k150_205 na148 rfl ow148 rfl (Nat.le_of_ble_eq_true rfl) (mC_74 hB) hpl (by decide) ?_
    refine E_st4 (pc' := 15) g150_13 rfl ?_
    refine E_aload_n (pc' := 16) g150_15 rfl rfl ?_
    refine E_getR (pc' := 19) g150_16 f150_56 tg7_27 rfl (mC_74 hB) rfl ?_
    refine E_iload_n (pc' := 20) g150_19 rfl rfl ?_
    refine E_iload (pc' := 22) g150_20 rfl rfl ?_
    refine E_bipush (pc' := 24) g150_22 (by decide) rfl ?_
    refine E_icne (pc' := 27) (pt := 31) g150_24 rfl rfl (fun c0 => ?_) (fun c0 => ?_)
    · first
      | (exfalso; omega)
      | (refine E_iload_n (pc' := 32) g150_31 rfl rfl ?_
         refine E_iload_n (pc' := 33) g150_32 rfl rfl ?_
         refine E_imul (pc' := 34) g150_33 (m_in_iff.mpr (by omega)) rfl ?_
         refine E_iastore (pc' := 35) g150_34 rfl (mC_90 hB) (by omega) (by omega) ?_
         rw [mC_go]
         refine E_aload_n (pc' := 36) g150_35 rfl rfl ?_
         refine E_getR (pc' := 39) g150_36 f150_59 tg7_28 rfl (mC_74 hB) rfl ?_
         refine E_iload_n (pc' := 40) g150_39 rfl rfl ?_
         refine E_iload (pc' := 42) g150_40 rfl rfl ?_
         refine E_bipush (pc' := 44) g150_42 (by decide) rfl ?_
         refine E_icne (pc' := 47) (pt := 51) g150_44 rfl rfl (fun c1 => ?_) (fun c1 => ?_)
         · first
           | (exfalso; omega)
           | (refine E_iconst (pc' := 52) g150_51 (by decide) rfl ?_
              refine E_iload (pc' := 54) g150_52 rfl rfl ?_
              refine E_iadd (pc' := 55) g150_54 (m_in_iff.mpr (by omega)) rfl ?_
              refine E_iastore (pc' := 56) g150_55 rfl (mC_91 hB) (by omega) (by omega) ?_
              rw [mC_cu]
              refine E_iconst (pc' := 57) g150_56 (by decide) rfl ?_
              refine E_st5 (pc' := 59) g150_57 rfl ?_
              refine E_iload (pc' := 61) g150_59 rfl rfl ?_
              refine E_iconst (pc' := 62) g150_61 (by decide) rfl ?_
              refine E_icge (pc' := 65) (pt := 94) g150_62 rfl rfl (fun c0 => ?_) (fun c0 => ?_)
              · first
                | (exfalso; omega)
                | (exfalso; omega)
              · first
                | (exfalso; omega)
                | (refine E_aload_n (pc' := 66) g150_65 rfl rfl ?_
                   refine E_getR (pc' := 69) g150_66 f150_62 tg7_29 rfl (mC_74 hB) rfl ?_
                   refine E_iconst (pc' := 70) g150_69 (by decide) rfl ?_
                   refine E_iload_n (pc' := 71) g150_70 rfl rfl ?_
                   refine E_imul (pc' := 72) g150_71 (m_in_iff.mpr (by omega)) rfl ?_
                   refine E_iload (pc' := 74) g150_72 rfl rfl ?_
                   refine E_iadd (pc' := 75) g150_74 (m_in_iff.mpr (by omega)) rfl ?_
                   refine E_iload (pc' := 77) g150_75 rfl rfl ?_
                   refine E_iload (pc' := 79) g150_77 rfl rfl ?_
                   refine E_icne (pc' := 82) (pt := 86) g150_79 rfl rfl (fun c1 => ?_) (fun c1 => ?_)
                   · first
                     | (exfalso; omega)
                     | (refine E_iconst (pc' := 87) g150_86 (by decide) rfl ?_
                        refine E_iastore (pc' := 88) g150_87 rfl (mC_92 hB) (by omega) (by omega) ?_
                        rw [mC_pc]
                        refine E_in5 (pc' := 91) g150_88 rfl (m_in_iff.mpr (by omega)) ?_
                        refine E_goto (pc' := 59) g150_91 rfl ?_
                        refine Ev_cast (ls := [mR 74, mI (a : Int), mI (b : Int), mI (25 * (a : Int) + b), mI (2), mI 1]) ?_ rfl rfl
                        refine E_iload (pc' := 61) g150_59 rfl rfl ?_
                        refine E_iconst (pc' := 62) g150_61 (by decide) rfl ?_
                        refine E_icge (pc' := 65) (pt := 94) g150_62 rfl rfl (fun c0 => ?_) (fun c0 => ?_)
                        · first
                          | (exfalso; omega)
                          | (exfalso; omega)
                        · first
                          | (exfalso; omega)
                          | (refine E_aload_n (pc' := 66) g150_65 rfl rfl ?_
                             refine E_getR (pc' := 69) g150_66 f150_62 tg7_29 rfl (mC_74 hB) rfl ?_
                             refine E_iconst (pc' := 70) g150_69 (by decide) rfl ?_
                             refine E_iload_n (pc' := 71) g150_70 rfl rfl ?_
                             refine E_imul (pc' := 72) g150_71 (m_in_iff.mpr (by omega)) rfl ?_
                             refine E_iload (pc' := 74) g150_72 rfl rfl ?_
                             refine E_iadd (pc' := 75) g150_74 (m_in_iff.mpr (by omega)) rfl ?_
                             refine E_iload (pc' := 77) g150_75 rfl rfl ?_
                             refine E_iload (pc' := 79) g150_77 rfl rfl ?_
                             refine E_icne (pc' := 82) (pt := 86) g150_79 rfl rfl (fun c1 => ?_) (fun c1 => ?_)
                             · first
                               | (exfalso; omega)
                               | (refine E_iconst (pc' := 87) g150_86 (by decide) rfl ?_
                                  refine E_iastore (pc' := 88) g150_87 rfl (mC_92 hB) (by omega) (by rw [up_len]; omega) ?_
                                  rw [mC_pc]
                                  refine E_in5 (pc' := 91) g150_88 rfl (m_in_iff.mpr (by omega)) ?_
                                  refine E_goto (pc' := 59) g150_91 rfl ?_
                                  refine Ev_cast (ls := [mR 74, mI (a : Int), mI (b : Int), mI (25 * (a : Int) + b), mI (2), mI 2]) ?_ rfl rfl
                                  refine E_iload (pc' := 61) g150_59 rfl rfl ?_
                                  refine E_iconst (pc' := 62) g150_61 (by decide) rfl ?_
                                  refine E_icge (pc' := 65) (pt := 94) g150_62 rfl rfl (fun c0 => ?_) (fun c0 => ?_)
                                  · first
                                    | (exfalso; omega)
                                    | (exfalso; omega)
                                  · first
                                    | (exfalso; omega)
                                    | (refine E_aload_n (pc' := 66) g150_65 rfl rfl ?_
                                       refine E_getR (pc' := 69) g150_66 f150_62 tg7_29 rfl (mC_74 hB) rfl ?_
                                       refine E_iconst (pc' := 70) g150_69 (by decide) rfl ?_
                                       refine E_iload_n (pc' := 71) g150_70 rfl rfl ?_
                                       refine E_imul (pc' := 72) g150_71 (m_in_iff.mpr (by omega)) rfl ?_
                                       refine E_iload (pc' := 74) g150_72 rfl rfl ?_
                                       refine E_iadd (pc' := 75) g150_74 (m_in_iff.mpr (by omega)) rfl ?_
                                       refine E_iload (pc' := 77) g150_75 rfl rfl ?_
                                       refine E_iload (pc' := 79) g150_77 rfl rfl ?_
                                       refine E_icne (pc' := 82) (pt := 86) g150_79 rfl rfl (fun c1 => ?_) (fun c1 => ?_)
                                       · exact absurd c1 (by omega)
                                       · first
                                         | (exfalso; omega)
                                         | (refine E_iconst (pc' := 83) g150_82 (by decide) rfl ?_
                                            refine E_goto (pc' := 87) g150_83 rfl ?_
                                            refine E_iastore (pc' := 88) g150_87 rfl (mC_92 hB) (by omega) (by rw [up_len, up_len]; omega) ?_
                                            rw [mC_pc]
                                            refine E_in5 (pc' := 91) g150_88 rfl (m_in_iff.mpr (by omega)) ?_
                                            refine E_goto (pc' := 59) g150_91 rfl ?_
                                            refine Ev_cast (ls := [mR 74, mI (a : Int), mI (b : Int), mI (25 * (a : Int) + b), mI (2), mI 3]) ?_ rfl rfl
                                            refine Ev_cast (H := mC H _ _ (m3 pc (25 * (a : Int) + b) 0 0 1)) ?_ rfl rfl
                                            refine E_iload (pc' := 61) g150_59 rfl rfl ?_
                                            refine E_iconst (pc' := 62) g150_61 (by decide) rfl ?_
                                            refine E_icge (pc' := 65) (pt := 94) g150_62 rfl rfl (fun c0 => ?_) (fun c0 => ?_)
                                            · first
                                              | (exfalso; omega)
                                              | (refine E_iconst (pc' := 95) g150_94 (by decide) rfl ?_
                                                 refine E_st5 (pc' := 97) g150_95 rfl ?_
                                                 refine E_iload (pc' := 99) g150_97 rfl rfl ?_
                                                 refine E_iload_n (pc' := 100) g150_99 rfl rfl ?_
                                                 refine E_icge (pc' := 103) (pt := 142) g150_100 rfl rfl (fun c1 => ?_) (fun c1 => ?_)
                                                 · first
                                                   | (exfalso; omega)
                                                   | (refine E_iconst (pc' := 143) g150_142 (by decide) rfl ?_
                                                      refine E_st5 (pc' := 145) g150_143 rfl ?_
                                                      refine E_iload (pc' := 147) g150_145 rfl rfl ?_
                                                      refine E_iload_n (pc' := 148) g150_147 rfl rfl ?_
                                                      refine E_icge (pc' := 151) (pt := 191) g150_148 rfl rfl (fun c2 => ?_) (fun c2 => ?_)
                                                      · first
                                                        | (exfalso; omega)
                                                        | (exact E_ret g150_191 rt150 rfl rfl)
                                                      · first
                                                        | (exfalso; omega)
                                                        | (refine E_iload (pc' := 153) g150_151 rfl rfl ?_
                                                           refine E_bipush (pc' := 155) g150_153 (by decide) rfl ?_
                                                           refine E_icne (pc' := 158) (pt := 191) g150_155 rfl rfl (fun c3 => ?_) (fun c3 => ?_)
                                                           · first
                                                             | (exfalso; omega)
                                                             | (exact E_ret g150_191 rt150 rfl rfl)
                                                           · first
                                                             | (exfalso; omega)
                                                             | (exfalso; omega)))
                                                 · first
                                                   | (exfalso; omega)
                                                   | (refine E_iload (pc' := 105) g150_103 rfl rfl ?_
                                                      refine E_bipush (pc' := 107) g150_105 (by decide) rfl ?_
                                                      refine E_icne (pc' := 110) (pt := 142) g150_107 rfl rfl (fun c4 => ?_) (fun c4 => ?_)
                                                      · first
                                                        | (exfalso; omega)
                                                        | (refine E_iconst (pc' := 143) g150_142 (by decide) rfl ?_
                                                           refine E_st5 (pc' := 145) g150_143 rfl ?_
                                                           refine E_iload (pc' := 147) g150_145 rfl rfl ?_
                                                           refine E_iload_n (pc' := 148) g150_147 rfl rfl ?_
                                                           refine E_icge (pc' := 151) (pt := 191) g150_148 rfl rfl (fun c5 => ?_) (fun c5 => ?_)
                                                           · first
                                                             | (exfalso; omega)
                                                             | (exact E_ret g150_191 rt150 rfl rfl)
                                                           · first
                                                             | (exfalso; omega)
                                                             | (refine E_iload (pc' := 153) g150_151 rfl rfl ?_
                                                                refine E_bipush (pc' := 155) g150_153 (by decide) rfl ?_
                                                                refine E_icne (pc' := 158) (pt := 191) g150_155 rfl rfl (fun c6 => ?_) (fun c6 => ?_)
                                                                · first
                                                                  | (exfalso; omega)
                                                                  | (exact E_ret g150_191 rt150 rfl rfl)
                                                                · first
                                                                  | (exfalso; omega)
                                                                  | (exfalso; omega)))
                                                      · first
                                                        | (exfalso; omega)
                                                        | (exfalso; omega)))
                                            · first
                                              | (exfalso; omega)
                                              | (exfalso; omega))))
                             · exact absurd c1 (by omega)))
                   · exact absurd c1 (by omega)))
         · exact absurd c1 (by omega))
    · exact absurd c0 (by omega)
theorem M_laysCloth (hB : isMB H (mdL kd un nk le ap nu me op de fo bs bu)) (hD : okD kd wd ht rm mo sd bo ed hu) (hz : H[75]? = some (8, [wd, ht, rm, mo, sd, bo])) {w : Int → Int → Int} (hw : ∀ x z, w x z = (pcF [sd, bo, bo] [sd, wd * sd + 2 * bo, ht * sd + 2 * bo]) x z) (hl : (go.length = 625 ∧ cu.length = 625 ∧ pc.length = 1875)) : ∃ go2 cu2 pc2, (go2.length = 625 ∧ cu2.length = 625 ∧ pc2.length = 1875) ∧ okt w (mtb go2 cu2 pc2) 25 1 ∧ Call 3 151 [mR 74] (mC H go cu pc) none (mC H go2 cu2 pc2) := by
  have lo : ∀ i : Nat, i ≤ 24 → ∀ (u : mV) (go cu pc : List Int), (go.length = 625 ∧ cu.length = 625 ∧ pc.length = 1875) → okt w (mtb go cu pc) ((i : Int) + 1) 1 → ∃ go2 cu2 pc2, (go2.length = 625 ∧ cu2.length = 625 ∧ pc2.length = 1875) ∧ okt w (mtb go2 cu2 pc2) 25 1 ∧ Ev 3 151 2 [mR 74, mI ((i : Int) + 1), u] [] (mC H go cu pc) none (mC H go2 cu2 pc2) := by
    refine E_loop (n := 24) _ ?_ ?_
    · intro i hi hh u go cu pc hl hk
      have li : ∀ j : Nat, j ≤ 24 → ∀ go cu pc : List Int, (go.length = 625 ∧ cu.length = 625 ∧ pc.length = 1875) → okt w (mtb go cu pc) ((i : Int) + 1) ((j : Int) + 1) → ∃ go2 cu2 pc2, (go2.length = 625 ∧ cu2.length = 625 ∧ pc2.length = 1875) ∧ okt w (mtb go2 cu2 pc2) 25 1 ∧ Ev 3 151 10 [mR 74, mI ((i : Int) + 1), mI ((j : Int) + 1)] [] (mC H go cu pc) none (mC H go2 cu2 pc2) := by
        refine E_loop (n := 24) _ ?_ ?_
        · intro j hj hg go cu pc hl hk
          obtain ⟨go3, cu3, pc3, ⟨y1, y2⟩, hwo⟩ := M_laysRect hB hD hz hl (a := i + 1) (b := j + 1) (by omega) (by omega) hw (t := mtb go cu pc) (fun c _ _ => rfl) hk
          have hk2 := okt_step (A := i + 1) (B := j + 1) (by omega) (by omega) hk y2
          obtain ⟨go2, cu2, pc2, z1, z2, hev⟩ := hg go3 cu3 pc3 y1 hk2
          refine ⟨go2, cu2, pc2, z1, z2, ?_⟩
          refine E_iload_n (pc' := 11) g151_10 rfl rfl ?_
          refine E_bipush (pc' := 13) g151_11 (by decide) rfl ?_
          refine E_icgt (pc' := 16) (pt := 28) g151_13 rfl rfl (fun c0 => ?_) (fun c0 => ?_)
          · first
            | (exfalso; omega)
            | (exfalso; omega)
          · first
            | (exfalso; omega)
            | (refine E_aload_n (pc' := 17) g151_16 rfl rfl ?_
               refine E_iload_n (pc' := 18) g151_17 rfl rfl ?_
               refine E_iload_n (pc' := 19) g151_18 rfl rfl ?_
               refine E_cV2v (pc' := 22) g151_19 k151_212 na150 rfl ow150 rfl (Nat.le_of_ble_eq_true rfl) (mC_74 hB) hwo (by decide) ?_
               refine E_in2 (pc' := 25) g151_22 rfl (m_in_iff.mpr (by omega)) ?_
               refine E_goto (pc' := 10) g151_25 rfl ?_
               exact hev)
        · intro go cu pc hl hk
          have hk2 : okt w (mtb go cu pc) (((i + 1 : Nat) : Int) + 1) 1 := okt_row (A := i + 1) hk
          obtain ⟨go2, cu2, pc2, z1, z2, hev⟩ := hh (mI ((24 : Nat) + 1 : Int)) go cu pc hl hk2
          refine ⟨go2, cu2, pc2, z1, z2, ?_⟩
          refine E_iload_n (pc' := 11) g151_10 rfl rfl ?_
          refine E_bipush (pc' := 13) g151_11 (by decide) rfl ?_
          refine E_icgt (pc' := 16) (pt := 28) g151_13 rfl rfl (fun c0 => ?_) (fun c0 => ?_)
          · first
            | (exfalso; omega)
            | (refine E_in1 (pc' := 31) g151_28 rfl (m_in_iff.mpr (by omega)) ?_
               refine E_goto (pc' := 2) g151_31 rfl ?_
               exact hev)
          · first
            | (exfalso; omega)
            | (exfalso; omega)
      obtain ⟨go2, cu2, pc2, z1, z2, hev⟩ := li 0 (by omega) go cu pc hl hk
      refine ⟨go2, cu2, pc2, z1, z2, ?_⟩
      refine E_iload_n (pc' := 3) g151_2 rfl rfl ?_
      refine E_bipush (pc' := 5) g151_3 (by decide) rfl ?_
      refine E_icgt (pc' := 8) (pt := 34) g151_5 rfl rfl (fun c0 => ?_) (fun c0 => ?_)
      · first
        | (exfalso; omega)
        | (exfalso; omega)
      · first
        | (exfalso; omega)
        | (refine E_iconst (pc' := 9) g151_8 (by decide) rfl ?_
           refine E_st2 (pc' := 10) g151_9 rfl ?_
           exact hev)
    · intro u go cu pc hl hk
      refine ⟨go, cu, pc, hl, hk, ?_⟩
      refine E_iload_n (pc' := 3) g151_2 rfl rfl ?_
      refine E_bipush (pc' := 5) g151_3 (by decide) rfl ?_
      refine E_icgt (pc' := 8) (pt := 34) g151_5 rfl rfl (fun c0 => ?_) (fun c0 => ?_)
      · first
        | (exfalso; omega)
        | (exact E_ret g151_34 rt151 rfl rfl)
      · first
        | (exfalso; omega)
        | (exfalso; omega)
  obtain ⟨go2, cu2, pc2, z1, z2, hev⟩ := lo 0 (by omega) none go cu pc hl okt_0
  refine ⟨go2, cu2, pc2, z1, z2, ?_⟩
  refine Call_of rfl ?_
  refine E_iconst (pc' := 1) g151_0 (by decide) rfl ?_
  refine E_st1 (pc' := 2) g151_1 rfl ?_
  exact hev
theorem M_good_no {a b : Int} (hno : ¬ (1 ≤ a ∧ a ≤ 24 ∧ 1 ≤ b ∧ b ≤ 24)) : Call 4 154 [mR 74, mI a, mI b] H (mI (-1)) H := by
  have e1 := isRect_or a b
  refine Call_of rfl ?_
  refine E_iload_n (pc' := 1) g154_0 rfl rfl ?_
  refine E_iload_n (pc' := 2) g154_1 rfl rfl ?_
  refine E_cS2i (pc' := 5) g154_2 k154_216 na152 rfl rfl (Nat.le_of_ble_eq_true rfl) M_isCloth (by decide) ?_
  refine E_ifne (pc' := 8) (pt := 10) g154_5 rfl rfl (fun c0 => ?_) (fun c0 => ?_)
  · first
    | (exfalso; omega)
    | (exfalso; omega)
  · first
    | (exfalso; omega)
    | (refine E_iconst (pc' := 9) g154_8 (by decide) rfl ?_
       exact E_iret g154_9 ro154 rfl rfl)
theorem M_good (hM : H[74]? = some (7, mdL kd un nk le ap nu me op de fo bs bu)) (hD : okD kd wd ht rm mo sd bo ed hu) (hz : H[75]? = some (8, [wd, ht, rm, mo, sd, bo])) (h90 : H[90]? = some (8, go)) (h91 : H[91]? = some (8, cu)) (h92 : H[92]? = some (8, pc)) (hl : (go.length = 625 ∧ cu.length = 625 ∧ pc.length = 1875)) {a b : Int} (hab : 1 ≤ a ∧ a ≤ 24 ∧ 1 ≤ b ∧ b ≤ 24) : ∃ H2 go2 cu2 pc2, H2 = mC H go2 cu2 pc2 ∧ (go2.length = 625 ∧ cu2.length = 625 ∧ pc2.length = 1875) ∧ okt (pcF [sd, bo, bo] [sd, wd * sd + 2 * bo, ht * sd + 2 * bo]) (mtb go2 cu2 pc2) 25 1 ∧ Call 4 154 [mR 74, mI a, mI b] H (mI (mtb go2 cu2 pc2 (25 * a + b)).1) H2 := by
  have hB : isMB H (mdL kd un nk le ap nu me op de fo bs bu) := ⟨hM, ⟨_, h90⟩, ⟨_, h91⟩, ⟨_, h92⟩⟩
  have hH : H = (mC H go cu pc) := by
    unfold mC
    rw [pt_same h90, pt_same h91, pt_same h92]
  obtain ⟨go2, cu2, pc2, z1, z2, hc⟩ := M_laysCloth hB hD hz (w := (pcF [sd, bo, bo] [sd, wd * sd + 2 * bo, ht * sd + 2 * bo])) (fun _ _ => rfl) hl
  rw [← hH] at hc
  refine ⟨_, go2, cu2, pc2, rfl, z1, z2, ?_⟩
  obtain ⟨l1, l2, l3⟩ := z1
  have e1 := isRect_or a b
  refine Call_of rfl ?_
  refine E_iload_n (pc' := 1) g154_0 rfl rfl ?_
  refine E_iload_n (pc' := 2) g154_1 rfl rfl ?_
  refine E_cS2i (pc' := 5) g154_2 k154_216 na152 rfl rfl (Nat.le_of_ble_eq_true rfl) M_isCloth (by decide) ?_
  refine E_ifne (pc' := 8) (pt := 10) g154_5 rfl rfl (fun c0 => ?_) (fun c0 => ?_)
  · first
    | (exfalso; omega)
    | (refine E_aload_n (pc' := 11) g154_10 rfl rfl ?_
       refine E_cV0v (pc' := 14) g154_11 k154_219 na151 rfl ow151 rfl (Nat.le_of_ble_eq_true rfl) hM hc (by decide) ?_
       refine E_aload_n (pc' := 15) g154_14 rfl rfl ?_
       refine E_getR (pc' := 18) g154_15 f154_56 tg7_27 rfl (mC_74 hB) rfl ?_
       refine E_bipush (pc' := 20) g154_18 (by decide) rfl ?_
       refine E_iload_n (pc' := 21) g154_20 rfl rfl ?_
       refine E_imul (pc' := 22) g154_21 (m_in_iff.mpr (by omega)) rfl ?_
       refine E_iload_n (pc' := 23) g154_22 rfl rfl ?_
       refine E_iadd (pc' := 24) g154_23 (m_in_iff.mpr (by omega)) rfl ?_
       refine E_iaload (pc' := 25) g154_24 rfl (mC_90 hB) (by omega) (by omega) ?_
       exact E_iret g154_25 ro154 rfl rfl)
  · first
    | (exfalso; omega)
    | (exfalso; omega)
theorem M_cut_no {a b : Int} (hno : ¬ (1 ≤ a ∧ a ≤ 24 ∧ 1 ≤ b ∧ b ≤ 24)) : Call 4 155 [mR 74, mI a, mI b] H (mI (-1)) H := by
  have e1 := isRect_or a b
  refine Call_of rfl ?_
  refine E_iload_n (pc' := 1) g155_0 rfl rfl ?_
  refine E_iload_n (pc' := 2) g155_1 rfl rfl ?_
  refine E_cS2i (pc' := 5) g155_2 k155_216 na152 rfl rfl (Nat.le_of_ble_eq_true rfl) M_isCloth (by decide) ?_
  refine E_ifne (pc' := 8) (pt := 10) g155_5 rfl rfl (fun c0 => ?_) (fun c0 => ?_)
  · first
    | (exfalso; omega)
    | (exfalso; omega)
  · first
    | (exfalso; omega)
    | (refine E_iconst (pc' := 9) g155_8 (by decide) rfl ?_
       exact E_iret g155_9 ro155 rfl rfl)
theorem M_cut (hM : H[74]? = some (7, mdL kd un nk le ap nu me op de fo bs bu)) (hD : okD kd wd ht rm mo sd bo ed hu) (hz : H[75]? = some (8, [wd, ht, rm, mo, sd, bo])) (h90 : H[90]? = some (8, go)) (h91 : H[91]? = some (8, cu)) (h92 : H[92]? = some (8, pc)) (hl : (go.length = 625 ∧ cu.length = 625 ∧ pc.length = 1875)) {a b : Int} (hab : 1 ≤ a ∧ a ≤ 24 ∧ 1 ≤ b ∧ b ≤ 24) : ∃ H2 go2 cu2 pc2, H2 = mC H go2 cu2 pc2 ∧ (go2.length = 625 ∧ cu2.length = 625 ∧ pc2.length = 1875) ∧ okt (pcF [sd, bo, bo] [sd, wd * sd + 2 * bo, ht * sd + 2 * bo]) (mtb go2 cu2 pc2) 25 1 ∧ Call 4 155 [mR 74, mI a, mI b] H (mI (mtb go2 cu2 pc2 (25 * a + b)).2.1) H2 := by
  have hB : isMB H (mdL kd un nk le ap nu me op de fo bs bu) := ⟨hM, ⟨_, h90⟩, ⟨_, h91⟩, ⟨_, h92⟩⟩
  have hH : H = (mC H go cu pc) := by
    unfold mC
    rw [pt_same h90, pt_same h91, pt_same h92]
  obtain ⟨go2, cu2, pc2, z1, z2, hc⟩ := M_laysCloth hB hD hz (w := (pcF [sd, bo, bo] [sd, wd * sd + 2 * bo, ht * sd + 2 * bo])) (fun _ _ => rfl) hl
  rw [← hH] at hc
  refine ⟨_, go2, cu2, pc2, rfl, z1, z2, ?_⟩
  obtain ⟨l1, l2, l3⟩ := z1
  have e1 := isRect_or a b
  refine Call_of rfl ?_
  refine E_iload_n (pc' := 1) g155_0 rfl rfl ?_
  refine E_iload_n (pc' := 2) g155_1 rfl rfl ?_
  refine E_cS2i (pc' := 5) g155_2 k155_216 na152 rfl rfl (Nat.le_of_ble_eq_true rfl) M_isCloth (by decide) ?_
  refine E_ifne (pc' := 8) (pt := 10) g155_5 rfl rfl (fun c0 => ?_) (fun c0 => ?_)
  · first
    | (exfalso; omega)
    | (refine E_aload_n (pc' := 11) g155_10 rfl rfl ?_
       refine E_cV0v (pc' := 14) g155_11 k155_219 na151 rfl ow151 rfl (Nat.le_of_ble_eq_true rfl) hM hc (by decide) ?_
       refine E_aload_n (pc' := 15) g155_14 rfl rfl ?_
       refine E_getR (pc' := 18) g155_15 f155_59 tg7_28 rfl (mC_74 hB) rfl ?_
       refine E_bipush (pc' := 20) g155_18 (by decide) rfl ?_
       refine E_iload_n (pc' := 21) g155_20 rfl rfl ?_
       refine E_imul (pc' := 22) g155_21 (m_in_iff.mpr (by omega)) rfl ?_
       refine E_iload_n (pc' := 23) g155_22 rfl rfl ?_
       refine E_iadd (pc' := 24) g155_23 (m_in_iff.mpr (by omega)) rfl ?_
       refine E_iaload (pc' := 25) g155_24 rfl (mC_91 hB) (by omega) (by omega) ?_
       exact E_iret g155_25 ro155 rfl rfl)
  · first
    | (exfalso; omega)
    | (exfalso; omega)
theorem M_made_no {a b p : Int} (hno : ¬ (1 ≤ a ∧ a ≤ 24 ∧ 1 ≤ b ∧ b ≤ 24 ∧ 0 ≤ p ∧ p < 3)) : Call 4 156 [mR 74, mI a, mI b, mI p] H (mI (-1)) H := by
  have e1 := isRect_or a b
  have e2 := inC_or p 0 2
  refine Call_of rfl ?_
  refine E_iload_n (pc' := 1) g156_0 rfl rfl ?_
  refine E_iload_n (pc' := 2) g156_1 rfl rfl ?_
  refine E_cS2i (pc' := 5) g156_2 k156_216 na152 rfl rfl (Nat.le_of_ble_eq_true rfl) M_isCloth (by decide) ?_
  refine E_ifeq (pc' := 8) (pt := 17) g156_5 rfl rfl (fun c0 => ?_) (fun c0 => ?_)
  · first
    | (exfalso; omega)
    | (refine E_iconst (pc' := 18) g156_17 (by decide) rfl ?_
       exact E_iret g156_18 ro156 rfl rfl)
  · first
    | (exfalso; omega)
    | (refine E_iload_n (pc' := 9) g156_8 rfl rfl ?_
       refine E_iconst (pc' := 10) g156_9 (by decide) rfl ?_
       refine E_iconst (pc' := 11) g156_10 (by decide) rfl ?_
       refine E_cS3i (pc' := 14) g156_11 k156_81 na97 rfl rfl (Nat.le_of_ble_eq_true rfl) M_in (by decide) ?_
       refine E_ifne (pc' := 17) (pt := 19) g156_14 rfl rfl (fun c1 => ?_) (fun c1 => ?_)
       · first
         | (exfalso; omega)
         | (exfalso; omega)
       · first
         | (exfalso; omega)
         | (refine E_iconst (pc' := 18) g156_17 (by decide) rfl ?_
            exact E_iret g156_18 ro156 rfl rfl))
theorem M_made (hM : H[74]? = some (7, mdL kd un nk le ap nu me op de fo bs bu)) (hD : okD kd wd ht rm mo sd bo ed hu) (hz : H[75]? = some (8, [wd, ht, rm, mo, sd, bo])) (h90 : H[90]? = some (8, go)) (h91 : H[91]? = some (8, cu)) (h92 : H[92]? = some (8, pc)) (hl : (go.length = 625 ∧ cu.length = 625 ∧ pc.length = 1875)) {a b p : Int} (hab : 1 ≤ a ∧ a ≤ 24 ∧ 1 ≤ b ∧ b ≤ 24 ∧ 0 ≤ p ∧ p < 3) : ∃ H2 go2 cu2 pc2, H2 = mC H go2 cu2 pc2 ∧ (go2.length = 625 ∧ cu2.length = 625 ∧ pc2.length = 1875) ∧ okt (pcF [sd, bo, bo] [sd, wd * sd + 2 * bo, ht * sd + 2 * bo]) (mtb go2 cu2 pc2) 25 1 ∧ Call 4 156 [mR 74, mI a, mI b, mI p] H (mI (cgv (mtb go2 cu2 pc2 (25 * a + b)) p)) H2 := by
  have hB : isMB H (mdL kd un nk le ap nu me op de fo bs bu) := ⟨hM, ⟨_, h90⟩, ⟨_, h91⟩, ⟨_, h92⟩⟩
  have hH : H = (mC H go cu pc) := by
    unfold mC
    rw [pt_same h90, pt_same h91, pt_same h92]
  obtain ⟨go2, cu2, pc2, z1, z2, hc⟩ := M_laysCloth hB hD hz (w := (pcF [sd, bo, bo] [sd, wd * sd + 2 * bo, ht * sd + 2 * bo])) (fun _ _ => rfl) hl
  rw [← hH] at hc
  refine ⟨_, go2, cu2, pc2, rfl, z1, z2, ?_⟩
  obtain ⟨l1, l2, l3⟩ := z1
  have e1 := isRect_or a b
  have e2 := inC_or p 0 2
  refine Call_of rfl ?_
  refine E_iload_n (pc' := 1) g156_0 rfl rfl ?_
  refine E_iload_n (pc' := 2) g156_1 rfl rfl ?_
  refine E_cS2i (pc' := 5) g156_2 k156_216 na152 rfl rfl (Nat.le_of_ble_eq_true rfl) M_isCloth (by decide) ?_
  refine E_ifeq (pc' := 8) (pt := 17) g156_5 rfl rfl (fun c0 => ?_) (fun c0 => ?_)
  · first
    | (exfalso; omega)
    | (exfalso; omega)
  · first
    | (exfalso; omega)
    | (refine E_iload_n (pc' := 9) g156_8 rfl rfl ?_
       refine E_iconst (pc' := 10) g156_9 (by decide) rfl ?_
       refine E_iconst (pc' := 11) g156_10 (by decide) rfl ?_
       refine E_cS3i (pc' := 14) g156_11 k156_81 na97 rfl rfl (Nat.le_of_ble_eq_true rfl) M_in (by decide) ?_
       refine E_ifne (pc' := 17) (pt := 19) g156_14 rfl rfl (fun c1 => ?_) (fun c1 => ?_)
       · first
         | (exfalso; omega)
         | (refine E_aload_n (pc' := 20) g156_19 rfl rfl ?_
            refine E_cV0v (pc' := 23) g156_20 k156_219 na151 rfl ow151 rfl (Nat.le_of_ble_eq_true rfl) hM hc (by decide) ?_
            refine E_aload_n (pc' := 24) g156_23 rfl rfl ?_
            refine E_getR (pc' := 27) g156_24 f156_62 tg7_29 rfl (mC_74 hB) rfl ?_
            refine E_iconst (pc' := 28) g156_27 (by decide) rfl ?_
            refine E_bipush (pc' := 30) g156_28 (by decide) rfl ?_
            refine E_iload_n (pc' := 31) g156_30 rfl rfl ?_
            refine E_imul (pc' := 32) g156_31 (m_in_iff.mpr (by omega)) rfl ?_
            refine E_iload_n (pc' := 33) g156_32 rfl rfl ?_
            refine E_iadd (pc' := 34) g156_33 (m_in_iff.mpr (by omega)) rfl ?_
            refine E_imul (pc' := 35) g156_34 (m_in_iff.mpr (by omega)) rfl ?_
            refine E_iload_n (pc' := 36) g156_35 rfl rfl ?_
            refine E_iadd (pc' := 37) g156_36 (m_in_iff.mpr (by omega)) rfl ?_
            refine E_iaload (pc' := 38) g156_37 rfl (mC_92 hB) (by omega) (by omega) ?_
            exact E_iret g156_38 ro156 (congrArg mI (by rcases (by omega : p = 0 ∨ p = 1 ∨ p = 2) with rfl | rfl | rfl <;> rfl)) rfl)
       · first
         | (exfalso; omega)
         | (exfalso; omega))
end MCL
