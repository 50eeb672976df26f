/-! the class's cloth -/
def cH (H : mH) (us cu gv : List Int) : mH := pt (pt (pt H 34 us) 35 cu) 36 gv
def isCB (H : mH) (kn : Int) (ls gr : List Int) : Prop := H[31]? = some (0, clL kn) ∧ H[32]? = some (8, ls) ∧ H[33]? = some (8, gr) ∧ (∃ q, H[34]? = some (8, q)) ∧ (∃ q, H[35]? = some (8, q)) ∧ (∃ q, H[36]? = some (8, q)) ∧ ls.length = 3 ∧ gr.length = 3
def ctb (us cu gv : List Int) (c : Int) : cV := (ix us c, ix cu c, ix gv (0 * 625 + c), ix gv (1 * 625 + c), ix gv (2 * 625 + c))
def g3 (gv : List Int) (cell v0 v1 v2 : Int) : List Int := up (up (up gv (0 * 625 + cell) v0) (1 * 625 + cell) v1) (2 * 625 + cell) v2
section CL
variable {H : mH} {kn : Int} {ls gr us cu gv us2 cu2 gv2 : List Int}
theorem cH_31 (hB : isCB H kn ls gr) : (cH H us cu gv)[31]? = some (0, clL kn) := pt_nx (by decide) (pt_nx (by decide) (pt_nx (by decide) hB.1))
theorem cH_32 (hB : isCB H kn ls gr) : (cH H us cu gv)[32]? = some (8, ls) := pt_nx (by decide) (pt_nx (by decide) (pt_nx (by decide) hB.2.1))
theorem cH_33 (hB : isCB H kn ls gr) : (cH H us cu gv)[33]? = some (8, gr) := pt_nx (by decide) (pt_nx (by decide) (pt_nx (by decide) hB.2.2.1))
theorem cH_34 (hB : isCB H kn ls gr) : (cH H us cu gv)[34]? = some (8, us) := by
  obtain ⟨q, h⟩ := hB.2.2.2.1
  exact pt_nx (by decide) (pt_nx (by decide) (pt_self h))
theorem cH_35 (hB : isCB H kn ls gr) : (cH H us cu gv)[35]? = some (8, cu) := by
  obtain ⟨q, h⟩ := hB.2.2.2.2.1
  exact pt_nx (by decide) (pt_self (pt_nx (by decide) h))
theorem cH_36 (hB : isCB H kn ls gr) : (cH H us cu gv)[36]? = some (8, gv) := by
  obtain ⟨q, h⟩ := hB.2.2.2.2.2.1
  exact pt_self (pt_nx (by decide) (pt_nx (by decide) h))
theorem cH_us : pt (cH H us cu gv) 34 us2 = (cH H us2 cu gv) := by
  unfold cH
  rw [pt_swap (a := 36) (b := 34) (by decide), pt_swap (a := 35) (b := 34) (by decide), pt_pt]
theorem cH_cu : pt (cH H us cu gv) 35 cu2 = (cH H us cu2 gv) := by
  unfold cH
  rw [pt_swap (a := 36) (b := 35) (by decide), pt_pt]
theorem cH_gv : pt (cH H us cu gv) 36 gv2 = (cH H us cu gv2) := by
  unfold cH
  rw [pt_pt]
theorem g3_len {cell v0 v1 v2 : Int} : (g3 gv cell v0 v1 v2).length = gv.length := by
  unfold g3
  rw [up_len, up_len, up_len]
theorem g3_ix {cell c v0 v1 v2 : Int} (hg : gv.length = 1875) (hc : 0 ≤ cell ∧ cell < 625) (h0 : 0 ≤ c) (h1 : c < 625) : ix (g3 gv cell v0 v1 v2) (0 * 625 + c) = (if c = cell then v0 else ix gv (0 * 625 + c)) ∧ ix (g3 gv cell v0 v1 v2) (1 * 625 + c) = (if c = cell then v1 else ix gv (1 * 625 + c)) ∧ ix (g3 gv cell v0 v1 v2) (2 * 625 + c) = (if c = cell then v2 else ix gv (2 * 625 + c)) := by
  unfold g3
  refine ⟨?_, ?_, ?_⟩
  · rw [ix_up (by omega) (by rw [up_len, up_len]; omega) (by omega), ix_up (by omega) (by rw [up_len]; omega) (by omega), ix_up (by omega) (by omega) (by omega)]
    by_cases e : c = cell
    · rw [if_neg (by omega), if_neg (by omega), if_pos (by omega), if_pos e]
    · rw [if_neg (by omega), if_neg (by omega), if_neg (by omega), if_neg e]
  · rw [ix_up (by omega) (by rw [up_len, up_len]; omega) (by omega), ix_up (by omega) (by rw [up_len]; omega) (by omega), ix_up (by omega) (by omega) (by omega)]
    by_cases e : c = cell
    · rw [if_neg (by omega), if_pos (by omega), if_pos e]
    · rw [if_neg (by omega), if_neg (by omega), if_neg (by omega), if_neg e]
  · rw [ix_up (by omega) (by rw [up_len, up_len]; omega) (by omega), ix_up (by omega) (by rw [up_len]; omega) (by omega), ix_up (by omega) (by omega) (by omega)]
    by_cases e : c = cell
    · rw [if_pos (by omega), if_pos e]
    · rw [if_neg (by omega), if_neg (by omega), if_neg (by omega), if_neg e]
theorem ctb_up {cell s h v0 v1 v2 : Int} (hl : (us.length = 625 ∧ cu.length = 625 ∧ gv.length = 1875)) (hc : 0 ≤ cell ∧ cell < 625) : ∀ c : Int, 0 ≤ c → c < 625 → ctb (up us cell s) (up cu cell h) (g3 gv cell v0 v1 v2) c = if c = cell then (s, h, v0, v1, v2) else ctb us cu gv c := by
  intro c h0 h1
  obtain ⟨e1, e2, e3⟩ := g3_ix (v0 := v0) (v1 := v1) (v2 := v2) hl.2.2 hc h0 h1
  unfold ctb
  rw [e1, e2, e3, ix_up hc.1 (by omega) h0, ix_up hc.1 (by omega) h0]
  by_cases e : c = cell
  · rw [if_pos e, if_pos e, if_pos e, if_pos e, if_pos e.symm, if_pos e.symm]
  · rw [if_neg e, if_neg e, if_neg e, if_neg e, if_neg (fun z => e z.symm), if_neg (fun z => e z.symm)]
theorem vb_le {v : cV} {A B : Int} (h : vb v A) (hAB : A ≤ B) : vb v B := by
  obtain ⟨⟨a1, a2⟩, ⟨a3, a4⟩, ⟨a5, a6⟩, a7, a8⟩ := h
  exact ⟨⟨a1, by omega⟩, ⟨a3, by omega⟩, ⟨a5, by omega⟩, a7, by omega⟩
theorem C_at {x z : Int} (hx : -10000 ≤ x ∧ x ≤ 10000) (hz : -10000 ≤ z ∧ z ≤ 10000) : Call 0 1 [mI x, mI z] H (mI (25 * x + z)) H := by
  refine Call_of rfl ?_
  refine E_iload_n (pc' := 1) g1_0 rfl rfl ?_
  refine E_bipush (pc' := 3) g1_1 (by decide) rfl ?_
  refine E_imul (pc' := 4) g1_3 (m_in_iff.mpr (by omega)) rfl ?_
  refine E_iload_n (pc' := 5) g1_4 rfl rfl ?_
  refine E_iadd (pc' := 6) g1_5 (m_in_iff.mpr (by omega)) rfl ?_
  exact E_iret g1_6 ro1 (congrArg mI (by omega)) rfl
theorem C_tryCut (hB : isCB H kn ls gr) (hl : (us.length = 625 ∧ cu.length = 625 ∧ gv.length = 1875)) {cell how one other : Int} (hc : 0 ≤ cell ∧ cell < 625) (h1 : 0 ≤ one ∧ one < 625) (h2 : 0 ≤ other ∧ other < 625) (n1 : ¬ one = cell) (n2 : ¬ other = cell) (b1 : vb (ctb us cu gv one) 1000) (b2 : vb (ctb us cu gv other) 1000) : ∃ us2 cu2 gv2, (us2.length = 625 ∧ cu2.length = 625 ∧ gv2.length = 1875) ∧ (∀ c : Int, 0 ≤ c → c < 625 → ctb us2 cu2 gv2 c = if c = cell then cst (ctb us cu gv cell) how (ctb us cu gv one) (ctb us cu gv other) else ctb us cu gv c) ∧ Call 0 5 [mR 31, mI cell, mI how, mI one, mI other] (cH H us cu gv) none (cH H us2 cu2 gv2) := by
  have hl' := hl
  obtain ⟨l1, l2, l3⟩ := hl
  obtain ⟨⟨p1, p2⟩, ⟨p3, p4⟩, ⟨p5, p6⟩, p7, p8⟩ := b1
  obtain ⟨⟨q1, q2⟩, ⟨q3, q4⟩, ⟨q5, q6⟩, q7, q8⟩ := b2
  simp only [ctb] at p1 p2 p3 p4 p5 p6 p7 p8 q1 q2 q3 q4 q5 q6 q7 q8
  by_cases hlt : ix us cell < ix us one + ix us other
  · refine ⟨up us cell (ix us one + ix us other), up cu cell how, g3 gv cell (ix gv (0 * 625 + one) + ix gv (0 * 625 + other)) (ix gv (1 * 625 + one) + ix gv (1 * 625 + other)) (ix gv (2 * 625 + one) + ix gv (2 * 625 + other)), ⟨by rw [up_len]; exact l1, by rw [up_len]; exact l2, by rw [g3_len]; exact l3⟩, ?_, ?_⟩
    · intro c h0 h3
      rw [ctb_up hl' hc c h0 h3]
      have e : cst (ctb us cu gv cell) how (ctb us cu gv one) (ctb us cu gv other) = (ix us one + ix us other, how, ix gv (0 * 625 + one) + ix gv (0 * 625 + other), ix gv (1 * 625 + one) + ix gv (1 * 625 + other), ix gv (2 * 625 + one) + ix gv (2 * 625 + other)) := if_pos hlt
      rw [e]
    · refine Call_of rfl ?_
      refine E_aload_n (pc' := 1) g5_0 rfl rfl ?_
      refine E_getR (pc' := 4) g5_1 f5_18 tg0_2 rfl (cH_31 hB) rfl ?_
      refine E_iload_n (pc' := 5) g5_4 rfl rfl ?_
      refine E_iaload (pc' := 6) g5_5 rfl (cH_34 hB) (by omega) (by omega) ?_
      refine E_aload_n (pc' := 7) g5_6 rfl rfl ?_
      refine E_getR (pc' := 10) g5_7 f5_18 tg0_2 rfl (cH_31 hB) rfl ?_
      refine E_iload (pc' := 12) g5_10 rfl rfl ?_
      refine E_iaload (pc' := 13) g5_12 rfl (cH_34 hB) (by omega) (by omega) ?_
      refine E_iadd (pc' := 14) g5_13 (m_in_iff.mpr (by omega)) rfl ?_
      refine E_st5 (pc' := 16) g5_14 rfl ?_
      refine E_iload (pc' := 18) g5_16 rfl rfl ?_
      refine E_aload_n (pc' := 19) g5_18 rfl rfl ?_
      refine E_getR (pc' := 22) g5_19 f5_18 tg0_2 rfl (cH_31 hB) rfl ?_
      refine E_iload_n (pc' := 23) g5_22 rfl rfl ?_
      refine E_iaload (pc' := 24) g5_23 rfl (cH_34 hB) (by omega) (by omega) ?_
      refine E_icgt (pc' := 27) (pt := 28) g5_24 rfl rfl (fun c0 => ?_) (fun c0 => ?_)
      · first
        | (exfalso; omega)
        | (refine E_aload_n (pc' := 29) g5_28 rfl rfl ?_
           refine E_getR (pc' := 32) g5_29 f5_18 tg0_2 rfl (cH_31 hB) rfl ?_
           refine E_iload_n (pc' := 33) g5_32 rfl rfl ?_
           refine E_iload (pc' := 35) g5_33 rfl rfl ?_
           refine E_iastore (pc' := 36) g5_35 rfl (cH_34 hB) (by omega) (by omega) ?_
           rw [cH_us]
           refine E_aload_n (pc' := 37) g5_36 rfl rfl ?_
           refine E_getR (pc' := 40) g5_37 f5_21 tg0_3 rfl (cH_31 hB) rfl ?_
           refine E_iload_n (pc' := 41) g5_40 rfl rfl ?_
           refine E_iload_n (pc' := 42) g5_41 rfl rfl ?_
           refine E_iastore (pc' := 43) g5_42 rfl (cH_35 hB) (by omega) (by omega) ?_
           rw [cH_cu]
           refine E_iconst (pc' := 44) g5_43 (by decide) rfl ?_
           refine E_st6 (pc' := 46) g5_44 rfl ?_
           refine E_iload (pc' := 48) g5_46 rfl rfl ?_
           refine E_iconst (pc' := 49) g5_48 (by decide) rfl ?_
           refine E_icge (pc' := 52) (pt := 95) g5_49 rfl rfl (fun c0 => ?_) (fun c0 => ?_)
           · first
             | (exfalso; omega)
             | (exfalso; omega)
           · first
             | (exfalso; omega)
             | (refine E_iload (pc' := 54) g5_52 rfl rfl ?_
                refine E_sipush (pc' := 57) g5_54 (by decide) rfl ?_
                refine E_imul (pc' := 58) g5_57 (m_in_iff.mpr (by omega)) rfl ?_
                refine E_st7 (pc' := 60) g5_58 rfl ?_
                refine E_aload_n (pc' := 61) g5_60 rfl rfl ?_
                refine E_getR (pc' := 64) g5_61 f5_24 tg0_4 rfl (cH_31 hB) rfl ?_
                refine E_iload (pc' := 66) g5_64 rfl rfl ?_
                refine E_iload_n (pc' := 67) g5_66 rfl rfl ?_
                refine E_iadd (pc' := 68) g5_67 (m_in_iff.mpr (by omega)) rfl ?_
                refine E_aload_n (pc' := 69) g5_68 rfl rfl ?_
                refine E_getR (pc' := 72) g5_69 f5_24 tg0_4 rfl (cH_31 hB) rfl ?_
                refine E_iload (pc' := 74) g5_72 rfl rfl ?_
                refine E_iload_n (pc' := 75) g5_74 rfl rfl ?_
                refine E_iadd (pc' := 76) g5_75 (m_in_iff.mpr (by omega)) rfl ?_
                refine E_iald (pc' := 77) (v := ix gv (0 * 625 + one)) g5_76 rfl (cH_36 hB) (by omega) (by omega) rfl ?_
                refine E_aload_n (pc' := 78) g5_77 rfl rfl ?_
                refine E_getR (pc' := 81) g5_78 f5_24 tg0_4 rfl (cH_31 hB) rfl ?_
                refine E_iload (pc' := 83) g5_81 rfl rfl ?_
                refine E_iload (pc' := 85) g5_83 rfl rfl ?_
                refine E_iadd (pc' := 86) g5_85 (m_in_iff.mpr (by omega)) rfl ?_
                refine E_iald (pc' := 87) (v := ix gv (0 * 625 + other)) g5_86 rfl (cH_36 hB) (by omega) (by omega) rfl ?_
                refine E_iadd (pc' := 88) g5_87 (m_in_iff.mpr (by omega)) rfl ?_
                refine E_iastore (pc' := 89) g5_88 rfl (cH_36 hB) (by omega) (by omega) ?_
                rw [cH_gv]
                refine E_in6 (pc' := 92) g5_89 rfl (m_in_iff.mpr (by omega)) ?_
                refine E_goto (pc' := 46) g5_92 rfl ?_
                refine Ev_cast (ls := [mR 31, mI cell, mI how, mI one, mI other, mI (ix us one + ix us other), mI 1, _]) ?_ rfl rfl
                refine E_iload (pc' := 48) g5_46 rfl rfl ?_
                refine E_iconst (pc' := 49) g5_48 (by decide) rfl ?_
                refine E_icge (pc' := 52) (pt := 95) g5_49 rfl rfl (fun c0 => ?_) (fun c0 => ?_)
                · first
                  | (exfalso; omega)
                  | (exfalso; omega)
                · first
                  | (exfalso; omega)
                  | (refine E_iload (pc' := 54) g5_52 rfl rfl ?_
                     refine E_sipush (pc' := 57) g5_54 (by decide) rfl ?_
                     refine E_imul (pc' := 58) g5_57 (m_in_iff.mpr (by omega)) rfl ?_
                     refine E_st7 (pc' := 60) g5_58 rfl ?_
                     refine E_aload_n (pc' := 61) g5_60 rfl rfl ?_
                     refine E_getR (pc' := 64) g5_61 f5_24 tg0_4 rfl (cH_31 hB) rfl ?_
                     refine E_iload (pc' := 66) g5_64 rfl rfl ?_
                     refine E_iload_n (pc' := 67) g5_66 rfl rfl ?_
                     refine E_iadd (pc' := 68) g5_67 (m_in_iff.mpr (by omega)) rfl ?_
                     refine E_aload_n (pc' := 69) g5_68 rfl rfl ?_
                     refine E_getR (pc' := 72) g5_69 f5_24 tg0_4 rfl (cH_31 hB) rfl ?_
                     refine E_iload (pc' := 74) g5_72 rfl rfl ?_
                     refine E_iload_n (pc' := 75) g5_74 rfl rfl ?_
                     refine E_iadd (pc' := 76) g5_75 (m_in_iff.mpr (by omega)) rfl ?_
                     refine E_iald (pc' := 77) (v := ix gv (1 * 625 + one)) g5_76 rfl (cH_36 hB) (by omega) (by rw [up_len]; omega) (by rw [ix_up (by omega) (by omega) (by omega), if_neg (by omega)]) ?_
                     refine E_aload_n (pc' := 78) g5_77 rfl rfl ?_
                     refine E_getR (pc' := 81) g5_78 f5_24 tg0_4 rfl (cH_31 hB) rfl ?_
                     refine E_iload (pc' := 83) g5_81 rfl rfl ?_
                     refine E_iload (pc' := 85) g5_83 rfl rfl ?_
                     refine E_iadd (pc' := 86) g5_85 (m_in_iff.mpr (by omega)) rfl ?_
                     refine E_iald (pc' := 87) (v := ix gv (1 * 625 + other)) g5_86 rfl (cH_36 hB) (by omega) (by rw [up_len]; omega) (by rw [ix_up (by omega) (by omega) (by omega), if_neg (by omega)]) ?_
                     refine E_iadd (pc' := 88) g5_87 (m_in_iff.mpr (by omega)) rfl ?_
                     refine E_iastore (pc' := 89) g5_88 rfl (cH_36 hB) (by omega) (by rw [up_len]; omega) ?_
                     rw [cH_gv]
                     refine E_in6 (pc' := 92) g5_89 rfl (m_in_iff.mpr (by omega)) ?_
                     refine E_goto (pc' := 46) g5_92 rfl ?_
                     refine Ev_cast (ls := [mR 31, mI cell, mI how, mI one, mI other, mI (ix us one + ix us other), mI 2, _]) ?_ rfl rfl
                     refine E_iload (pc' := 48) g5_46 rfl rfl ?_
                     refine E_iconst (pc' := 49) g5_48 (by decide) rfl ?_
                     refine E_icge (pc' := 52) (pt := 95) g5_49 rfl rfl (fun c0 => ?_) (fun c0 => ?_)
                     · first
                       | (exfalso; omega)
                       | (exfalso; omega)
                     · first
                       | (exfalso; omega)
                       | (refine E_iload (pc' := 54) g5_52 rfl rfl ?_
                          refine E_sipush (pc' := 57) g5_54 (by decide) rfl ?_
                          refine E_imul (pc' := 58) g5_57 (m_in_iff.mpr (by omega)) rfl ?_
                          refine E_st7 (pc' := 60) g5_58 rfl ?_
                          refine E_aload_n (pc' := 61) g5_60 rfl rfl ?_
                          refine E_getR (pc' := 64) g5_61 f5_24 tg0_4 rfl (cH_31 hB) rfl ?_
                          refine E_iload (pc' := 66) g5_64 rfl rfl ?_
                          refine E_iload_n (pc' := 67) g5_66 rfl rfl ?_
                          refine E_iadd (pc' := 68) g5_67 (m_in_iff.mpr (by omega)) rfl ?_
                          refine E_aload_n (pc' := 69) g5_68 rfl rfl ?_
                          refine E_getR (pc' := 72) g5_69 f5_24 tg0_4 rfl (cH_31 hB) rfl ?_
                          refine E_iload (pc' := 74) g5_72 rfl rfl ?_
                          refine E_iload_n (pc' := 75) g5_74 rfl rfl ?_
                          refine E_iadd (pc' := 76) g5_75 (m_in_iff.mpr (by omega)) rfl ?_
                          refine E_iald (pc' := 77) (v := ix gv (2 * 625 + one)) g5_76 rfl (cH_36 hB) (by omega) (by rw [up_len, up_len]; omega) (by rw [ix_up (by omega) (by rw [up_len]; omega) (by omega), if_neg (by omega), ix_up (by omega) (by omega) (by omega), if_neg (by omega)]) ?_
                          refine E_aload_n (pc' := 78) g5_77 rfl rfl ?_
                          refine E_getR (pc' := 81) g5_78 f5_24 tg0_4 rfl (cH_31 hB) rfl ?_
                          refine E_iload (pc' := 83) g5_81 rfl rfl ?_
                          refine E_iload (pc' := 85) g5_83 rfl rfl ?_
                          refine E_iadd (pc' := 86) g5_85 (m_in_iff.mpr (by omega)) rfl ?_
                          refine E_iald (pc' := 87) (v := ix gv (2 * 625 + other)) g5_86 rfl (cH_36 hB) (by omega) (by rw [up_len, up_len]; omega) (by rw [ix_up (by omega) (by rw [up_len]; omega) (by omega), if_neg (by omega), ix_up (by omega) (by omega) (by omega), if_neg (by omega)]) ?_
                          refine E_iadd (pc' := 88) g5_87 (m_in_iff.mpr (by omega)) rfl ?_
                          refine E_iastore (pc' := 89) g5_88 rfl (cH_36 hB) (by omega) (by rw [up_len, up_len]; omega) ?_
                          rw [cH_gv]
                          refine E_in6 (pc' := 92) g5_89 rfl (m_in_iff.mpr (by omega)) ?_
                          refine E_goto (pc' := 46) g5_92 rfl ?_
                          refine Ev_cast (ls := [mR 31, mI cell, mI how, mI one, mI other, mI (ix us one + ix us other), mI 3, _]) ?_ rfl rfl
                          refine E_iload (pc' := 48) g5_46 rfl rfl ?_
                          refine E_iconst (pc' := 49) g5_48 (by decide) rfl ?_
                          refine E_icge (pc' := 52) (pt := 95) g5_49 rfl rfl (fun c0 => ?_) (fun c0 => ?_)
                          · first
                            | (exfalso; omega)
                            | (exact E_ret g5_95 rt5 rfl rfl)
                          · first
                            | (exfalso; omega)
                            | (exfalso; omega)))))
      · first
        | (exfalso; omega)
        | (exfalso; omega)
  · refine ⟨us, cu, gv, hl', ?_, ?_⟩
    · intro c h0 h3
      rw [cst_no (by show ix us one + ix us other ≤ ix us cell; omega)]
      by_cases e : c = cell
      · rw [if_pos e, e]
      · rw [if_neg e]
    · refine Call_of rfl ?_
      refine E_aload_n (pc' := 1) g5_0 rfl rfl ?_
      refine E_getR (pc' := 4) g5_1 f5_18 tg0_2 rfl (cH_31 hB) rfl ?_
      refine E_iload_n (pc' := 5) g5_4 rfl rfl ?_
      refine E_iaload (pc' := 6) g5_5 rfl (cH_34 hB) (by omega) (by omega) ?_
      refine E_aload_n (pc' := 7) g5_6 rfl rfl ?_
      refine E_getR (pc' := 10) g5_7 f5_18 tg0_2 rfl (cH_31 hB) rfl ?_
      refine E_iload (pc' := 12) g5_10 rfl rfl ?_
      refine E_iaload (pc' := 13) g5_12 rfl (cH_34 hB) (by omega) (by omega) ?_
      refine E_iadd (pc' := 14) g5_13 (m_in_iff.mpr (by omega)) rfl ?_
      refine E_st5 (pc' := 16) g5_14 rfl ?_
      refine E_iload (pc' := 18) g5_16 rfl rfl ?_
      refine E_aload_n (pc' := 19) g5_18 rfl rfl ?_
      refine E_getR (pc' := 22) g5_19 f5_18 tg0_2 rfl (cH_31 hB) rfl ?_
      refine E_iload_n (pc' := 23) g5_22 rfl rfl ?_
      refine E_iaload (pc' := 24) g5_23 rfl (cH_34 hB) (by omega) (by omega) ?_
      refine E_icgt (pc' := 27) (pt := 28) g5_24 rfl rfl (fun c0 => ?_) (fun c0 => ?_)
      · first
        | (exfalso; omega)
        | (exfalso; omega)
      · first
        | (exfalso; omega)
        | (exact E_ret g5_27 rt5 rfl rfl)
theorem C_pieceLike (h31 : H[31]? = some (0, clL kn)) (h32 : H[32]? = some (8, ls)) (h33 : H[33]? = some (8, gr)) (hl1 : ls.length = 3) (hl2 : gr.length = 3) {a b r : Int} (hr : pcR ls gr a b r) : Call 1 6 [mR 31, mI a, mI b] H (mI r) H := by
  refine Call_of rfl ?_
  refine E_iload_n (pc' := 1) g6_0 rfl rfl ?_
  refine E_iload_n (pc' := 2) g6_1 rfl rfl ?_
  refine E_min (pc' := 5) g6_2 k6_61 rfl (Nat.le_of_ble_eq_true rfl) ?_
  refine E_st3 (pc' := 6) g6_5 rfl ?_
  refine E_iload_n (pc' := 7) g6_6 rfl rfl ?_
  refine E_iload_n (pc' := 8) g6_7 rfl rfl ?_
  refine E_max (pc' := 11) g6_8 k6_66 rfl (Nat.le_of_ble_eq_true rfl) ?_
  refine E_st4 (pc' := 13) g6_11 rfl ?_
  refine E_iconst (pc' := 14) g6_13 (by decide) rfl ?_
  refine E_st5 (pc' := 16) g6_14 rfl ?_
  refine (E_loop (n := 3) (fun i => (∀ j : Nat, j < i → ¬ pcQ ls gr a b j) → Ev 1 6 16 [mR 31, mI a, mI b, mI (min a b), mI (max a b), mI (i : Int)] [] H (mI r) H) ?_ ?_ 0 (by omega)) (fun j hj => absurd hj (by omega))
  · intro i hi hh hall
    refine E_iload (pc' := 18) g6_16 rfl rfl ?_
    refine E_iconst (pc' := 19) g6_18 (by decide) rfl ?_
    refine E_icge (pc' := 22) (pt := 54) g6_19 rfl rfl (fun c0 => ?_) (fun c0 => ?_)
    · exact absurd c0 (by omega)
    · refine E_aload_n (pc' := 23) g6_22 rfl rfl ?_
      refine E_getR (pc' := 26) g6_23 f6_9 tg0_0 rfl h31 rfl ?_
      refine E_iload (pc' := 28) g6_26 rfl rfl ?_
      refine E_iaload (pc' := 29) g6_28 rfl h32 (by omega) (by omega) ?_
      refine E_iload_n (pc' := 30) g6_29 rfl rfl ?_
      refine E_icne (pc' := 33) (pt := 48) g6_30 rfl rfl (fun c1 => ?_) (fun c1 => ?_)
      · refine E_in5 (pc' := 51) g6_48 rfl (m_in_iff.mpr (by omega)) ?_
        refine E_goto (pc' := 16) g6_51 rfl ?_
        refine hh (fun j hj => ?_)
        rcases Nat.lt_or_ge j i with q | q
        · exact hall j q
        · rw [show j = i by omega]; rintro ⟨w1, w2⟩; first | exact absurd w1 (by assumption) | exact absurd w2 (by assumption)
      · refine E_aload_n (pc' := 34) g6_33 rfl rfl ?_
        refine E_getR (pc' := 37) g6_34 f6_15 tg0_1 rfl h31 rfl ?_
        refine E_iload (pc' := 39) g6_37 rfl rfl ?_
        refine E_iaload (pc' := 40) g6_39 rfl h33 (by omega) (by omega) ?_
        refine E_iload (pc' := 42) g6_40 rfl rfl ?_
        refine E_icne (pc' := 45) (pt := 48) g6_42 rfl rfl (fun c2 => ?_) (fun c2 => ?_)
        · refine E_in5 (pc' := 51) g6_48 rfl (m_in_iff.mpr (by omega)) ?_
          refine E_goto (pc' := 16) g6_51 rfl ?_
          refine hh (fun j hj => ?_)
          rcases Nat.lt_or_ge j i with q | q
          · exact hall j q
          · rw [show j = i by omega]; rintro ⟨w1, w2⟩; first | exact absurd w1 (by assumption) | exact absurd w2 (by assumption)
        · refine E_iload (pc' := 47) g6_45 rfl rfl ?_
          exact E_iret g6_47 ro6 (by rw [hr.1 i (by omega) ⟨by assumption, by assumption⟩ hall]) rfl
  · intro hall
    refine E_iload (pc' := 18) g6_16 rfl rfl ?_
    refine E_iconst (pc' := 19) g6_18 (by decide) rfl ?_
    refine E_icge (pc' := 22) (pt := 54) g6_19 rfl rfl (fun c0 => ?_) (fun c0 => ?_)
    · refine E_bipush (pc' := 56) g6_54 (by decide) rfl ?_
      exact E_iret g6_56 ro6 (by rw [hr.2 hall]) rfl
    · exact absurd c0 (by omega)
theorem C_workOut (hB : isCB H kn ls gr) (hl : (us.length = 625 ∧ cu.length = 625 ∧ gv.length = 1875)) {a b : Nat} (ha : 1 ≤ a ∧ a ≤ 24) (hb : 1 ≤ b ∧ b ≤ 24) {w : Int → Int → Int} (hw : ∀ x z, w x z = pcF ls gr x z) {t : Int → cV} (ht : ∀ c : Int, 0 ≤ c → c < 625 → ctb us cu gv c = t c) (hk : okt w t a b) : ∃ us2 cu2 gv2, ((us2.length = 625 ∧ cu2.length = 625 ∧ gv2.length = 1875) ∧ (∀ c : Int, 0 ≤ c → c < 625 → ctb us2 cu2 gv2 c = if c = (25 * (a : Int) + b) then cval t (w a b) a b (a - 1) (b - 1) else t c)) ∧ Call 2 4 [mR 31, mI (a : Int), mI (b : Int)] (cH H us cu gv) none (cH H us2 cu2 gv2) := by
  obtain ⟨l1, l2, l3⟩ := hl
  have har := area_bd ha.1 ha.2 hb.1 hb.2
  obtain ⟨cell, hcell⟩ : ∃ cell : Int, cell = 25 * (a : Int) + b := ⟨_, rfl⟩
  have hc : 0 ≤ cell ∧ cell < 625 := by omega
  have hat : ∀ {Hx : mH}, Call 0 1 [mI (a : Int), mI (b : Int)] Hx (mI cell) Hx := by
    intro Hx
    rw [hcell]
    exact C_at (by omega) (by omega)
  rw [← hcell, ← cval_half ha.1 hb.1]
  have hwv := pcF_ok ls gr a b
  have hwi := pcF_in ls gr a b
  rw [← hw] at hwv hwi
  have hpl : ∀ {us cu gv : List Int}, Call 1 6 [mR 31, mI (a : Int), mI (b : Int)] (cH H us cu gv) (mI (w a b)) (cH H us cu gv) := C_pieceLike (cH_31 hB) (cH_32 hB) (cH_33 hB) hB.2.2.2.2.2.2.1 hB.2.2.2.2.2.2.2 hwv
  generalize w a b = wv at hpl hwv hwi ⊢
  have h2a : (a : Int).tdiv 2 = ((a / 2 : Nat) : Int) := by rw [Int.tdiv_eq_ediv_of_nonneg (by omega)]; omega
  have h2b : (b : Int).tdiv 2 = ((b / 2 : Nat) : Int) := by rw [Int.tdiv_eq_ediv_of_nonneg (by omega)]; omega
  have lg3 : ∀ {v0 v1 v2 : Int}, (g3 gv cell v0 v1 v2).length = 1875 := by intro v0 v1 v2; rw [g3_len]; exact l3
  rcases hwi with rfl | rfl | rfl | rfl
  · have hv9 : cval t (-9) a b (a / 2) (b / 2) = csY t a b (csX t a b (cini (-9) a b) (a / 2)) (b / 2) := by unfold cval; rw [if_pos rfl]
    rw [hv9]
    have hvb : ∀ x z : Nat, 1 ≤ x → 1 ≤ z → x ≤ a → z ≤ b → x < a ∨ z < b → vb (t (25 * (x : Int) + z)) 1000 := by
      intro x z h1 h2 h3 h4 h5
      have := area_bd h1 (by omega : x ≤ 24) h2 (by omega : z ≤ 24)
      exact vb_le (okt_vb hk (x + z) x z (Nat.le_refl _) h1 (by omega) h2 (by omega) (by unfold lex; omega)) (by omega)
    have loY : ∀ i : Nat, i ≤ b / 2 → ∀ us cu gv : List Int, (us.length = 625 ∧ cu.length = 625 ∧ gv.length = 1875) → (∀ c : Int, 0 ≤ c → c < 625 → ctb us cu gv c = if c = cell then csY t a b (csX t a b (cini (-9) a b) (a / 2)) i else t c) → ∃ us2 cu2 gv2, ((us2.length = 625 ∧ cu2.length = 625 ∧ gv2.length = 1875) ∧ (∀ c : Int, 0 ≤ c → c < 625 → ctb us2 cu2 gv2 c = if c = cell then csY t a b (csX t a b (cini (-9) a b) (a / 2)) (b / 2) else t c)) ∧ Ev 2 4 140 [mR 31, mI (a : Int), mI (b : Int), mI cell, mI (-9), mI ((i : Int) + 1)] [] (cH H us cu gv) none (cH H us2 cu2 gv2) := by
      refine E_loop (n := b / 2) _ ?_ ?_
      · intro i hi hh us cu gv hl ht
        have e1 := ht (25 * (a : Int) + ((i : Int) + 1)) (by omega) (by omega)
        rw [if_neg (by omega)] at e1
        have e2 := ht (25 * (a : Int) + ((b : Int) - ((i : Int) + 1))) (by omega) (by omega)
        rw [if_neg (by omega)] at e2
        have e3 := ht cell hc.1 hc.2
        rw [if_pos rfl] at e3
        have v1 : vb (t (25 * (a : Int) + ((i : Int) + 1))) 1000 := hvb a (i + 1) (by omega) (by omega) (by omega) (by omega) (by omega)
        have v2 := hvb a (b - (i + 1)) (by omega) (by omega) (by omega) (by omega) (by omega)
        rw [show ((b - (i + 1) : Nat) : Int) = (b : Int) - ((i : Int) + 1) by omega] at v2
        obtain ⟨us3, cu3, gv3, y1, y2, hcut⟩ := C_tryCut hB hl (cell := cell) (how := 200 + ((i : Int) + 1)) (one := 25 * (a : Int) + ((i : Int) + 1)) (other := 25 * (a : Int) + ((b : Int) - ((i : Int) + 1))) hc (by omega) (by omega) (by omega) (by omega) (by rw [e1]; exact v1) (by rw [e2]; exact v2)
        rw [e1, e2, e3] at y2
        obtain ⟨us2, cu2, gv2, z1, hev⟩ := hh us3 cu3 gv3 y1 (fun c h0 h1 => by
          rw [y2 c h0 h1]
          by_cases e : c = cell
          · rw [if_pos e, if_pos e]; rfl
          · rw [if_neg e, if_neg e, ht c h0 h1, if_neg e])
        refine ⟨us2, cu2, gv2, z1, ?_⟩
        refine E_iload (pc' := 142) g4_140 rfl rfl ?_
        refine E_iload_n (pc' := 143) g4_142 rfl rfl ?_
        refine E_iconst (pc' := 144) g4_143 (by decide) rfl ?_
        refine E_idiv (pc' := 145) g4_144 (by omega) rfl ?_
        refine E_icgt (pc' := 148) (pt := 179) g4_145 rfl rfl (fun c0 => ?_) (fun c0 => ?_)
        · first
          | (exfalso; omega)
          | (exfalso; omega)
        · first
          | (exfalso; omega)
          | (refine E_aload_n (pc' := 149) g4_148 rfl rfl ?_
             refine E_iload_n (pc' := 150) g4_149 rfl rfl ?_
             refine E_sipush (pc' := 153) g4_150 (by decide) rfl ?_
             refine E_iload (pc' := 155) g4_153 rfl rfl ?_
             refine E_iadd (pc' := 156) g4_155 (m_in_iff.mpr (by omega)) rfl ?_
             refine E_iload_n (pc' := 157) g4_156 rfl rfl ?_
             refine E_iload (pc' := 159) g4_157 rfl rfl ?_
             refine E_cS2i (pc' := 162) g4_159 k4_50 na1 rfl rfl (Nat.le_of_ble_eq_true rfl) (C_at (by omega) (by omega)) (by decide) ?_
             refine E_iload_n (pc' := 163) g4_162 rfl rfl ?_
             refine E_iload_n (pc' := 164) g4_163 rfl rfl ?_
             refine E_iload (pc' := 166) g4_164 rfl rfl ?_
             refine E_isub (pc' := 167) g4_166 (m_in_iff.mpr (by omega)) rfl ?_
             refine E_cS2i (pc' := 170) g4_167 k4_50 na1 rfl rfl (Nat.le_of_ble_eq_true rfl) (C_at (by omega) (by omega)) (by decide) ?_
             refine E_cV4v (pc' := 173) g4_170 k4_57 na5 rfl ow5 rfl (Nat.le_of_ble_eq_true rfl) (cH_31 hB) hcut (by decide) ?_
             refine E_in5 (pc' := 176) g4_173 rfl (m_in_iff.mpr (by omega)) ?_
             refine E_goto (pc' := 140) g4_176 rfl ?_
             exact hev)
      · intro us cu gv hl ht
        refine ⟨us, cu, gv, ⟨hl, ht⟩, ?_⟩
        refine E_iload (pc' := 142) g4_140 rfl rfl ?_
        refine E_iload_n (pc' := 143) g4_142 rfl rfl ?_
        refine E_iconst (pc' := 144) g4_143 (by decide) rfl ?_
        refine E_idiv (pc' := 145) g4_144 (by omega) rfl ?_
        refine E_icgt (pc' := 148) (pt := 179) g4_145 rfl rfl (fun c0 => ?_) (fun c0 => ?_)
        · first
          | (exfalso; omega)
          | (exact E_ret g4_179 rt4 rfl rfl)
        · first
          | (exfalso; omega)
          | (exfalso; omega)
    have loX : ∀ i : Nat, i ≤ a / 2 → ∀ us cu gv : List Int, (us.length = 625 ∧ cu.length = 625 ∧ gv.length = 1875) → (∀ c : Int, 0 ≤ c → c < 625 → ctb us cu gv c = if c = cell then csX t a b (cini (-9) a b) i else t c) → ∃ us2 cu2 gv2, ((us2.length = 625 ∧ cu2.length = 625 ∧ gv2.length = 1875) ∧ (∀ c : Int, 0 ≤ c → c < 625 → ctb us2 cu2 gv2 c = if c = cell then csY t a b (csX t a b (cini (-9) a b) (a / 2)) (b / 2) else t c)) ∧ Ev 2 4 99 [mR 31, mI (a : Int), mI (b : Int), mI cell, mI (-9), mI ((i : Int) + 1)] [] (cH H us cu gv) none (cH H us2 cu2 gv2) := by
      refine E_loop (n := a / 2) _ ?_ ?_
      · intro i hi hh us cu gv hl ht
        have e1 := ht (25 * ((i : Int) + 1) + b) (by omega) (by omega)
        rw [if_neg (by omega)] at e1
        have e2 := ht (25 * ((a : Int) - ((i : Int) + 1)) + b) (by omega) (by omega)
        rw [if_neg (by omega)] at e2
        have e3 := ht cell hc.1 hc.2
        rw [if_pos rfl] at e3
        have v1 : vb (t (25 * ((i : Int) + 1) + b)) 1000 := hvb (i + 1) b (by omega) (by omega) (by omega) (by omega) (by omega)
        have v2 := hvb (a - (i + 1)) b (by omega) (by omega) (by omega) (by omega) (by omega)
        rw [show ((a - (i + 1) : Nat) : Int) = (a : Int) - ((i : Int) + 1) by omega] at v2
        obtain ⟨us3, cu3, gv3, y1, y2, hcut⟩ := C_tryCut hB hl (cell := cell) (how := 100 + ((i : Int) + 1)) (one := 25 * ((i : Int) + 1) + b) (other := 25 * ((a : Int) - ((i : Int) + 1)) + b) hc (by omega) (by omega) (by omega) (by omega) (by rw [e1]; exact v1) (by rw [e2]; exact v2)
        rw [e1, e2, e3] at y2
        obtain ⟨us2, cu2, gv2, z1, hev⟩ := hh us3 cu3 gv3 y1 (fun c h0 h1 => by
          rw [y2 c h0 h1]
          by_cases e : c = cell
          · rw [if_pos e, if_pos e]; rfl
          · rw [if_neg e, if_neg e, ht c h0 h1, if_neg e])
        refine ⟨us2, cu2, gv2, z1, ?_⟩
        refine E_iload (pc' := 101) g4_99 rfl rfl ?_
        refine E_iload_n (pc' := 102) g4_101 rfl rfl ?_
        refine E_iconst (pc' := 103) g4_102 (by decide) rfl ?_
        refine E_idiv (pc' := 104) g4_103 (by omega) rfl ?_
        refine E_icgt (pc' := 107) (pt := 137) g4_104 rfl rfl (fun c0 => ?_) (fun c0 => ?_)
        · first
          | (exfalso; omega)
          | (exfalso; omega)
        · first
          | (exfalso; omega)
          | (refine E_aload_n (pc' := 108) g4_107 rfl rfl ?_
             refine E_iload_n (pc' := 109) g4_108 rfl rfl ?_
             refine E_bipush (pc' := 111) g4_109 (by decide) rfl ?_
             refine E_iload (pc' := 113) g4_111 rfl rfl ?_
             refine E_iadd (pc' := 114) g4_113 (m_in_iff.mpr (by omega)) rfl ?_
             refine E_iload (pc' := 116) g4_114 rfl rfl ?_
             refine E_iload_n (pc' := 117) g4_116 rfl rfl ?_
             refine E_cS2i (pc' := 120) g4_117 k4_50 na1 rfl rfl (Nat.le_of_ble_eq_true rfl) (C_at (by omega) (by omega)) (by decide) ?_
             refine E_iload_n (pc' := 121) g4_120 rfl rfl ?_
             refine E_iload (pc' := 123) g4_121 rfl rfl ?_
             refine E_isub (pc' := 124) g4_123 (m_in_iff.mpr (by omega)) rfl ?_
             refine E_iload_n (pc' := 125) g4_124 rfl rfl ?_
             refine E_cS2i (pc' := 128) g4_125 k4_50 na1 rfl rfl (Nat.le_of_ble_eq_true rfl) (C_at (by omega) (by omega)) (by decide) ?_
             refine E_cV4v (pc' := 131) g4_128 k4_57 na5 rfl ow5 rfl (Nat.le_of_ble_eq_true rfl) (cH_31 hB) hcut (by decide) ?_
             refine E_in5 (pc' := 134) g4_131 rfl (m_in_iff.mpr (by omega)) ?_
             refine E_goto (pc' := 99) g4_134 rfl ?_
             exact hev)
      · intro us cu gv hl ht
        obtain ⟨us2, cu2, gv2, z1, hev⟩ := loY 0 (by omega) us cu gv hl ht
        refine ⟨us2, cu2, gv2, z1, ?_⟩
        refine E_iload (pc' := 101) g4_99 rfl rfl ?_
        refine E_iload_n (pc' := 102) g4_101 rfl rfl ?_
        refine E_iconst (pc' := 103) g4_102 (by decide) rfl ?_
        refine E_idiv (pc' := 104) g4_103 (by omega) rfl ?_
        refine E_icgt (pc' := 107) (pt := 137) g4_104 rfl rfl (fun c0 => ?_) (fun c0 => ?_)
        · first
          | (exfalso; omega)
          | (refine E_iconst (pc' := 138) g4_137 (by decide) rfl ?_
             refine E_st5 (pc' := 140) g4_138 rfl ?_
             exact hev)
        · first
          | (exfalso; omega)
          | (exfalso; omega)
    obtain ⟨us2, cu2, gv2, z1, hev⟩ := loX 0 (by omega) (up us cell 0) (up cu cell 0) (g3 gv cell 0 0 0) ⟨by rw [up_len]; exact l1, by rw [up_len]; exact l2, lg3⟩ (fun c h0 h1 => by
      rw [ctb_up ⟨l1, l2, l3⟩ hc c h0 h1]
      by_cases e : c = cell
      · rw [if_pos e, if_pos e]; rfl
      · rw [if_neg e, if_neg e, ht c h0 h1])
    refine ⟨us2, cu2, gv2, z1, ?_⟩
    refine Call_of rfl ?_
    refine E_iload_n (pc' := 1) g4_0 rfl rfl ?_
    refine E_iload_n (pc' := 2) g4_1 rfl rfl ?_
    refine E_cS2i (pc' := 5) g4_2 k4_50 na1 rfl rfl (Nat.le_of_ble_eq_true rfl) hat (by decide) ?_
    refine E_st3 (pc' := 6) g4_5 rfl ?_
    refine E_iconst (pc' := 7) g4_6 (by decide) rfl ?_
    refine E_st4 (pc' := 9) g4_7 rfl ?_
    refine E_iload (pc' := 11) g4_9 rfl rfl ?_
    refine E_iconst (pc' := 12) g4_11 (by decide) rfl ?_
    refine E_icge (pc' := 15) (pt := 35) g4_12 rfl rfl (fun c0 => ?_) (fun c0 => ?_)
    · first
      | (exfalso; omega)
      | (exfalso; omega)
    · first
      | (exfalso; omega)
      | (refine E_aload_n (pc' := 16) g4_15 rfl rfl ?_
         refine E_getR (pc' := 19) g4_16 f4_24 tg0_4 rfl (cH_31 hB) rfl ?_
         refine E_iload (pc' := 21) g4_19 rfl rfl ?_
         refine E_sipush (pc' := 24) g4_21 (by decide) rfl ?_
         refine E_imul (pc' := 25) g4_24 (m_in_iff.mpr (by omega)) rfl ?_
         refine E_iload_n (pc' := 26) g4_25 rfl rfl ?_
         refine E_iadd (pc' := 27) g4_26 (m_in_iff.mpr (by omega)) rfl ?_
         refine E_iconst (pc' := 28) g4_27 (by decide) rfl ?_
         refine E_iastore (pc' := 29) g4_28 rfl (cH_36 hB) (by omega) (by omega) ?_
         rw [cH_gv]
         refine E_in4 (pc' := 32) g4_29 rfl (m_in_iff.mpr (by omega)) ?_
         refine E_goto (pc' := 9) g4_32 rfl ?_
         refine Ev_cast (ls := [mR 31, mI (a : Int), mI (b : Int), mI cell, mI 1, none]) ?_ rfl rfl
         refine E_iload (pc' := 11) g4_9 rfl rfl ?_
         refine E_iconst (pc' := 12) g4_11 (by decide) rfl ?_
         refine E_icge (pc' := 15) (pt := 35) g4_12 rfl rfl (fun c0 => ?_) (fun c0 => ?_)
         · first
           | (exfalso; omega)
           | (exfalso; omega)
         · first
           | (exfalso; omega)
           | (refine E_aload_n (pc' := 16) g4_15 rfl rfl ?_
              refine E_getR (pc' := 19) g4_16 f4_24 tg0_4 rfl (cH_31 hB) rfl ?_
              refine E_iload (pc' := 21) g4_19 rfl rfl ?_
              refine E_sipush (pc' := 24) g4_21 (by decide) rfl ?_
              refine E_imul (pc' := 25) g4_24 (m_in_iff.mpr (by omega)) rfl ?_
              refine E_iload_n (pc' := 26) g4_25 rfl rfl ?_
              refine E_iadd (pc' := 27) g4_26 (m_in_iff.mpr (by omega)) rfl ?_
              refine E_iconst (pc' := 28) g4_27 (by decide) rfl ?_
              refine E_iastore (pc' := 29) g4_28 rfl (cH_36 hB) (by omega) (by rw [up_len]; omega) ?_
              rw [cH_gv]
              refine E_in4 (pc' := 32) g4_29 rfl (m_in_iff.mpr (by omega)) ?_
              refine E_goto (pc' := 9) g4_32 rfl ?_
              refine Ev_cast (ls := [mR 31, mI (a : Int), mI (b : Int), mI cell, mI 2, none]) ?_ rfl rfl
              refine E_iload (pc' := 11) g4_9 rfl rfl ?_
              refine E_iconst (pc' := 12) g4_11 (by decide) rfl ?_
              refine E_icge (pc' := 15) (pt := 35) g4_12 rfl rfl (fun c0 => ?_) (fun c0 => ?_)
              · first
                | (exfalso; omega)
                | (exfalso; omega)
              · first
                | (exfalso; omega)
                | (refine E_aload_n (pc' := 16) g4_15 rfl rfl ?_
                   refine E_getR (pc' := 19) g4_16 f4_24 tg0_4 rfl (cH_31 hB) rfl ?_
                   refine E_iload (pc' := 21) g4_19 rfl rfl ?_
                   refine E_sipush (pc' := 24) g4_21 (by decide) rfl ?_
                   refine E_imul (pc' := 25) g4_24 (m_in_iff.mpr (by omega)) rfl ?_
                   refine E_iload_n (pc' := 26) g4_25 rfl rfl ?_
                   refine E_iadd (pc' := 27) g4_26 (m_in_iff.mpr (by omega)) rfl ?_
                   refine E_iconst (pc' := 28) g4_27 (by decide) rfl ?_
                   refine E_iastore (pc' := 29) g4_28 rfl (cH_36 hB) (by omega) (by rw [up_len, up_len]; omega) ?_
                   rw [cH_gv]
                   refine E_in4 (pc' := 32) g4_29 rfl (m_in_iff.mpr (by omega)) ?_
                   refine E_goto (pc' := 9) g4_32 rfl ?_
                   refine Ev_cast (ls := [mR 31, mI (a : Int), mI (b : Int), mI cell, mI 3, none]) ?_ rfl rfl
                   refine Ev_cast (H := (cH H us cu (g3 gv cell 0 0 0))) ?_ rfl rfl
                   refine E_iload (pc' := 11) g4_9 rfl rfl ?_
                   refine E_iconst (pc' := 12) g4_11 (by decide) rfl ?_
                   refine E_icge (pc' := 15) (pt := 35) g4_12 rfl rfl (fun c0 => ?_) (fun c0 => ?_)
                   · first
                     | (exfalso; omega)
                     | (refine E_aload_n (pc' := 36) g4_35 rfl rfl ?_
                        refine E_iload_n (pc' := 37) g4_36 rfl rfl ?_
                        refine E_iload_n (pc' := 38) g4_37 rfl rfl ?_
                        refine E_cV2i (pc' := 41) g4_38 k4_54 na6 rfl ow6 rfl (Nat.le_of_ble_eq_true rfl) (cH_31 hB) hpl (by decide) ?_
                        refine E_st4 (pc' := 43) g4_41 rfl ?_
                        refine E_iload (pc' := 45) g4_43 rfl rfl ?_
                        refine E_iflt (pc' := 48) (pt := 82) g4_45 rfl rfl (fun c1 => ?_) (fun c1 => ?_)
                        · first
                          | (exfalso; omega)
                          | (refine E_aload_n (pc' := 83) g4_82 rfl rfl ?_
                             refine E_getR (pc' := 86) g4_83 f4_18 tg0_2 rfl (cH_31 hB) rfl ?_
                             refine E_iload_n (pc' := 87) g4_86 rfl rfl ?_
                             refine E_iconst (pc' := 88) g4_87 (by decide) rfl ?_
                             refine E_iastore (pc' := 89) g4_88 rfl (cH_34 hB) (by omega) (by omega) ?_
                             rw [cH_us]
                             refine E_aload_n (pc' := 90) g4_89 rfl rfl ?_
                             refine E_getR (pc' := 93) g4_90 f4_21 tg0_3 rfl (cH_31 hB) rfl ?_
                             refine E_iload_n (pc' := 94) g4_93 rfl rfl ?_
                             refine E_iconst (pc' := 95) g4_94 (by decide) rfl ?_
                             refine E_iastore (pc' := 96) g4_95 rfl (cH_35 hB) (by omega) (by omega) ?_
                             rw [cH_cu]
                             refine E_iconst (pc' := 97) g4_96 (by decide) rfl ?_
                             refine E_st5 (pc' := 99) g4_97 rfl ?_
                             exact hev)
                        · first
                          | (exfalso; omega)
                          | (exfalso; omega))
                   · first
                     | (exfalso; omega)
                     | (exfalso; omega))))
  · have hge : ∀ c : Int, 0 ≤ c → c < 625 → ctb (up us cell ((a : Int) * b)) (up cu cell (1 + 0)) (up (g3 gv cell 0 0 0) (0 * 625 + cell) 1) c = if c = cell then cini 0 a b else t c := by
      intro c h0 h1
      have hg : (up (g3 gv cell 0 0 0) (0 * 625 + cell) 1) = (g3 gv cell 1 0 0) := by
        apply ix_ext (by rw [up_len, lg3, lg3])
        intro j j0 j1
        rw [up_len, lg3] at j1
        unfold g3
        rw [ix_up (by omega) (by rw [up_len, up_len, up_len]; omega) (by omega), ix_up (by omega) (by rw [up_len, up_len]; omega) (by omega), ix_up (by omega) (by rw [up_len]; omega) (by omega), ix_up (by omega) (by omega) (by omega), ix_up (by omega) (by rw [up_len, up_len]; omega) (by omega), ix_up (by omega) (by rw [up_len]; omega) (by omega), ix_up (by omega) (by omega) (by omega)]
        repeat' split
        all_goals (first | rfl | (exfalso; omega))
      rw [hg, ctb_up ⟨l1, l2, l3⟩ hc c h0 h1]
      by_cases e : c = cell
      · rw [if_pos e, if_pos e]; rfl
      · rw [if_neg e, if_neg e, ht c h0 h1]
    have hv : cval t 0 a b (a / 2) (b / 2) = cini 0 a b := by unfold cval; rw [if_neg (by decide)]
    rw [hv]
    refine ⟨_, _, _, ⟨⟨by rw [up_len]; exact l1, by rw [up_len]; exact l2, by rw [up_len]; exact lg3⟩, hge⟩, ?_⟩
    refine Call_of rfl ?_
    refine E_iload_n (pc' := 1) g4_0 rfl rfl ?_
    refine E_iload_n (pc' := 2) g4_1 rfl rfl ?_
    refine E_cS2i (pc' := 5) g4_2 k4_50 na1 rfl rfl (Nat.le_of_ble_eq_true rfl) hat (by decide) ?_
    refine E_st3 (pc' := 6) g4_5 rfl ?_
    refine E_iconst (pc' := 7) g4_6 (by decide) rfl ?_
    refine E_st4 (pc' := 9) g4_7 rfl ?_
    refine E_iload (pc' := 11) g4_9 rfl rfl ?_
    refine E_iconst (pc' := 12) g4_11 (by decide) rfl ?_
    refine E_icge (pc' := 15) (pt := 35) g4_12 rfl rfl (fun c0 => ?_) (fun c0 => ?_)
    · first
      | (exfalso; omega)
      | (exfalso; omega)
    · first
      | (exfalso; omega)
      | (refine E_aload_n (pc' := 16) g4_15 rfl rfl ?_
         refine E_getR (pc' := 19) g4_16 f4_24 tg0_4 rfl (cH_31 hB) rfl ?_
         refine E_iload (pc' := 21) g4_19 rfl rfl ?_
         refine E_sipush (pc' := 24) g4_21 (by decide) rfl ?_
         refine E_imul (pc' := 25) g4_24 (m_in_iff.mpr (by omega)) rfl ?_
         refine E_iload_n (pc' := 26) g4_25 rfl rfl ?_
         refine E_iadd (pc' := 27) g4_26 (m_in_iff.mpr (by omega)) rfl ?_
         refine E_iconst (pc' := 28) g4_27 (by decide) rfl ?_
         refine E_iastore (pc' := 29) g4_28 rfl (cH_36 hB) (by omega) (by omega) ?_
         rw [cH_gv]
         refine E_in4 (pc' := 32) g4_29 rfl (m_in_iff.mpr (by omega)) ?_
         refine E_goto (pc' := 9) g4_32 rfl ?_
         refine Ev_cast (ls := [mR 31, mI (a : Int), mI (b : Int), mI cell, mI 1, none]) ?_ rfl rfl
         refine E_iload (pc' := 11) g4_9 rfl rfl ?_
         refine E_iconst (pc' := 12) g4_11 (by decide) rfl ?_
         refine E_icge (pc' := 15) (pt := 35) g4_12 rfl rfl (fun c0 => ?_) (fun c0 => ?_)
         · first
           | (exfalso; omega)
           | (exfalso; omega)
         · first
           | (exfalso; omega)
           | (refine E_aload_n (pc' := 16) g4_15 rfl rfl ?_
              refine E_getR (pc' := 19) g4_16 f4_24 tg0_4 rfl (cH_31 hB) rfl ?_
              refine E_iload (pc' := 21) g4_19 rfl rfl ?_
              refine E_sipush (pc' := 24) g4_21 (by decide) rfl ?_
              refine E_imul (pc' := 25) g4_24 (m_in_iff.mpr (by omega)) rfl ?_
              refine E_iload_n (pc' := 26) g4_25 rfl rfl ?_
              refine E_iadd (pc' := 27) g4_26 (m_in_iff.mpr (by omega)) rfl ?_
              refine E_iconst (pc' := 28) g4_27 (by decide) rfl ?_
              refine E_iastore (pc' := 29) g4_28 rfl (cH_36 hB) (by omega) (by rw [up_len]; omega) ?_
              rw [cH_gv]
              refine E_in4 (pc' := 32) g4_29 rfl (m_in_iff.mpr (by omega)) ?_
              refine E_goto (pc' := 9) g4_32 rfl ?_
              refine Ev_cast (ls := [mR 31, mI (a : Int), mI (b : Int), mI cell, mI 2, none]) ?_ rfl rfl
              refine E_iload (pc' := 11) g4_9 rfl rfl ?_
              refine E_iconst (pc' := 12) g4_11 (by decide) rfl ?_
              refine E_icge (pc' := 15) (pt := 35) g4_12 rfl rfl (fun c0 => ?_) (fun c0 => ?_)
              · first
                | (exfalso; omega)
                | (exfalso; omega)
              · first
                | (exfalso; omega)
                | (refine E_aload_n (pc' := 16) g4_15 rfl rfl ?_
                   refine E_getR (pc' := 19) g4_16 f4_24 tg0_4 rfl (cH_31 hB) rfl ?_
                   refine E_iload (pc' := 21) g4_19 rfl rfl ?_
                   refine E_sipush (pc' := 24) g4_21 (by decide) rfl ?_
                   refine E_imul (pc' := 25) g4_24 (m_in_iff.mpr (by omega)) rfl ?_
                   refine E_iload_n (pc' := 26) g4_25 rfl rfl ?_
                   refine E_iadd (pc' := 27) g4_26 (m_in_iff.mpr (by omega)) rfl ?_
                   refine E_iconst (pc' := 28) g4_27 (by decide) rfl ?_
                   refine E_iastore (pc' := 29) g4_28 rfl (cH_36 hB) (by omega) (by rw [up_len, up_len]; omega) ?_
                   rw [cH_gv]
                   refine E_in4 (pc' := 32) g4_29 rfl (m_in_iff.mpr (by omega)) ?_
                   refine E_goto (pc' := 9) g4_32 rfl ?_
                   refine Ev_cast (ls := [mR 31, mI (a : Int), mI (b : Int), mI cell, mI 3, none]) ?_ rfl rfl
                   refine Ev_cast (H := (cH H us cu (g3 gv cell 0 0 0))) ?_ rfl rfl
                   refine E_iload (pc' := 11) g4_9 rfl rfl ?_
                   refine E_iconst (pc' := 12) g4_11 (by decide) rfl ?_
                   refine E_icge (pc' := 15) (pt := 35) g4_12 rfl rfl (fun c0 => ?_) (fun c0 => ?_)
                   · first
                     | (exfalso; omega)
                     | (refine E_aload_n (pc' := 36) g4_35 rfl rfl ?_
                        refine E_iload_n (pc' := 37) g4_36 rfl rfl ?_
                        refine E_iload_n (pc' := 38) g4_37 rfl rfl ?_
                        refine E_cV2i (pc' := 41) g4_38 k4_54 na6 rfl ow6 rfl (Nat.le_of_ble_eq_true rfl) (cH_31 hB) hpl (by decide) ?_
                        refine E_st4 (pc' := 43) g4_41 rfl ?_
                        refine E_iload (pc' := 45) g4_43 rfl rfl ?_
                        refine E_iflt (pc' := 48) (pt := 82) g4_45 rfl rfl (fun c1 => ?_) (fun c1 => ?_)
                        · first
                          | (exfalso; omega)
                          | (exfalso; omega)
                        · first
                          | (exfalso; omega)
                          | (refine E_aload_n (pc' := 49) g4_48 rfl rfl ?_
                             refine E_getR (pc' := 52) g4_49 f4_18 tg0_2 rfl (cH_31 hB) rfl ?_
                             refine E_iload_n (pc' := 53) g4_52 rfl rfl ?_
                             refine E_iload_n (pc' := 54) g4_53 rfl rfl ?_
                             refine E_iload_n (pc' := 55) g4_54 rfl rfl ?_
                             refine E_imul (pc' := 56) g4_55 (m_in_iff.mpr (by omega)) rfl ?_
                             refine E_iastore (pc' := 57) g4_56 rfl (cH_34 hB) (by omega) (by omega) ?_
                             rw [cH_us]
                             refine E_aload_n (pc' := 58) g4_57 rfl rfl ?_
                             refine E_getR (pc' := 61) g4_58 f4_21 tg0_3 rfl (cH_31 hB) rfl ?_
                             refine E_iload_n (pc' := 62) g4_61 rfl rfl ?_
                             refine E_iconst (pc' := 63) g4_62 (by decide) rfl ?_
                             refine E_iload (pc' := 65) g4_63 rfl rfl ?_
                             refine E_iadd (pc' := 66) g4_65 (m_in_iff.mpr (by omega)) rfl ?_
                             refine E_iastore (pc' := 67) g4_66 rfl (cH_35 hB) (by omega) (by omega) ?_
                             rw [cH_cu]
                             refine E_aload_n (pc' := 68) g4_67 rfl rfl ?_
                             refine E_getR (pc' := 71) g4_68 f4_24 tg0_4 rfl (cH_31 hB) rfl ?_
                             refine E_iload (pc' := 73) g4_71 rfl rfl ?_
                             refine E_sipush (pc' := 76) g4_73 (by decide) rfl ?_
                             refine E_imul (pc' := 77) g4_76 (m_in_iff.mpr (by omega)) rfl ?_
                             refine E_iload_n (pc' := 78) g4_77 rfl rfl ?_
                             refine E_iadd (pc' := 79) g4_78 (m_in_iff.mpr (by omega)) rfl ?_
                             refine E_iconst (pc' := 80) g4_79 (by decide) rfl ?_
                             refine E_iastore (pc' := 81) g4_80 rfl (cH_36 hB) (by omega) (by rw [lg3]; omega) ?_
                             rw [cH_gv]
                             exact E_ret g4_81 rt4 rfl rfl))
                   · first
                     | (exfalso; omega)
                     | (exfalso; omega))))
  · have hge : ∀ c : Int, 0 ≤ c → c < 625 → ctb (up us cell ((a : Int) * b)) (up cu cell (1 + 1)) (up (g3 gv cell 0 0 0) (1 * 625 + cell) 1) c = if c = cell then cini 1 a b else t c := by
      intro c h0 h1
      have hg : (up (g3 gv cell 0 0 0) (1 * 625 + cell) 1) = (g3 gv cell 0 1 0) := by
        apply ix_ext (by rw [up_len, lg3, lg3])
        intro j j0 j1
        rw [up_len, lg3] at j1
        unfold g3
        rw [ix_up (by omega) (by rw [up_len, up_len, up_len]; omega) (by omega), ix_up (by omega) (by rw [up_len, up_len]; omega) (by omega), ix_up (by omega) (by rw [up_len]; omega) (by omega), ix_up (by omega) (by omega) (by omega), ix_up (by omega) (by rw [up_len, up_len]; omega) (by omega), ix_up (by omega) (by rw [up_len]; omega) (by omega), ix_up (by omega) (by omega) (by omega)]
        repeat' split
        all_goals (first | rfl | (exfalso; omega))
      rw [hg, ctb_up ⟨l1, l2, l3⟩ hc c h0 h1]
      by_cases e : c = cell
      · rw [if_pos e, if_pos e]; rfl
      · rw [if_neg e, if_neg e, ht c h0 h1]
    have hv : cval t 1 a b (a / 2) (b / 2) = cini 1 a b := by unfold cval; rw [if_neg (by decide)]
    rw [hv]
    refine ⟨_, _, _, ⟨⟨by rw [up_len]; exact l1, by rw [up_len]; exact l2, by rw [up_len]; exact lg3⟩, hge⟩, ?_⟩
    refine Call_of rfl ?_
    refine E_iload_n (pc' := 1) g4_0 rfl rfl ?_
    refine E_iload_n (pc' := 2) g4_1 rfl rfl ?_
    refine E_cS2i (pc' := 5) g4_2 k4_50 na1 rfl rfl (Nat.le_of_ble_eq_true rfl) hat (by decide) ?_
    refine E_st3 (pc' := 6) g4_5 rfl ?_
    refine E_iconst (pc' := 7) g4_6 (by decide) rfl ?_
    refine E_st4 (pc' := 9) g4_7 rfl ?_
    refine E_iload (pc' := 11) g4_9 rfl rfl ?_
    refine E_iconst (pc' := 12) g4_11 (by decide) rfl ?_
    refine E_icge (pc' := 15) (pt := 35) g4_12 rfl rfl (fun c0 => ?_) (fun c0 => ?_)
    · first
      | (exfalso; omega)
      | (exfalso; omega)
    · first
      | (exfalso; omega)
      | (refine E_aload_n (pc' := 16) g4_15 rfl rfl ?_
         refine E_getR (pc' := 19) g4_16 f4_24 tg0_4 rfl (cH_31 hB) rfl ?_
         refine E_iload (pc' := 21) g4_19 rfl rfl ?_
         refine E_sipush (pc' := 24) g4_21 (by decide) rfl ?_
         refine E_imul (pc' := 25) g4_24 (m_in_iff.mpr (by omega)) rfl ?_
         refine E_iload_n (pc' := 26) g4_25 rfl rfl ?_
         refine E_iadd (pc' := 27) g4_26 (m_in_iff.mpr (by omega)) rfl ?_
         refine E_iconst (pc' := 28) g4_27 (by decide) rfl ?_
         refine E_iastore (pc' := 29) g4_28 rfl (cH_36 hB) (by omega) (by omega) ?_
         rw [cH_gv]
         refine E_in4 (pc' := 32) g4_29 rfl (m_in_iff.mpr (by omega)) ?_
         refine E_goto (pc' := 9) g4_32 rfl ?_
         refine Ev_cast (ls := [mR 31, mI (a : Int), mI (b : Int), mI cell, mI 1, none]) ?_ rfl rfl
         refine E_iload (pc' := 11) g4_9 rfl rfl ?_
         refine E_iconst (pc' := 12) g4_11 (by decide) rfl ?_
         refine E_icge (pc' := 15) (pt := 35) g4_12 rfl rfl (fun c0 => ?_) (fun c0 => ?_)
         · first
           | (exfalso; omega)
           | (exfalso; omega)
         · first
           | (exfalso; omega)
           | (refine E_aload_n (pc' := 16) g4_15 rfl rfl ?_
              refine E_getR (pc' := 19) g4_16 f4_24 tg0_4 rfl (cH_31 hB) rfl ?_
              refine E_iload (pc' := 21) g4_19 rfl rfl ?_
              refine E_sipush (pc' := 24) g4_21 (by decide) rfl ?_
              refine E_imul (pc' := 25) g4_24 (m_in_iff.mpr (by omega)) rfl ?_
              refine E_iload_n (pc' := 26) g4_25 rfl rfl ?_
              refine E_iadd (pc' := 27) g4_26 (m_in_iff.mpr (by omega)) rfl ?_
              refine E_iconst (pc' := 28) g4_27 (by decide) rfl ?_
              refine E_iastore (pc' := 29) g4_28 rfl (cH_36 hB) (by omega) (by rw [up_len]; omega) ?_
              rw [cH_gv]
              refine E_in4 (pc' := 32) g4_29 rfl (m_in_iff.mpr (by omega)) ?_
              refine E_goto (pc' := 9) g4_32 rfl ?_
              refine Ev_cast (ls := [mR 31, mI (a : Int), mI (b : Int), mI cell, mI 2, none]) ?_ rfl rfl
              refine E_iload (pc' := 11) g4_9 rfl rfl ?_
              refine E_iconst (pc' := 12) g4_11 (by decide) rfl ?_
              refine E_icge (pc' := 15) (pt := 35) g4_12 rfl rfl (fun c0 => ?_) (fun c0 => ?_)
              · first
                | (exfalso; omega)
                | (exfalso; omega)
              · first
                | (exfalso; omega)
                | (refine E_aload_n (pc' := 16) g4_15 rfl rfl ?_
                   refine E_getR (pc' := 19) g4_16 f4_24 tg0_4 rfl (cH_31 hB) rfl ?_
                   refine E_iload (pc' := 21) g4_19 rfl rfl ?_
                   refine E_sipush (pc' := 24) g4_21 (by decide) rfl ?_
                   refine E_imul (pc' := 25) g4_24 (m_in_iff.mpr (by omega)) rfl ?_
                   refine E_iload_n (pc' := 26) g4_25 rfl rfl ?_
                   refine E_iadd (pc' := 27) g4_26 (m_in_iff.mpr (by omega)) rfl ?_
                   refine E_iconst (pc' := 28) g4_27 (by decide) rfl ?_
                   refine E_iastore (pc' := 29) g4_28 rfl (cH_36 hB) (by omega) (by rw [up_len, up_len]; omega) ?_
                   rw [cH_gv]
                   refine E_in4 (pc' := 32) g4_29 rfl (m_in_iff.mpr (by omega)) ?_
                   refine E_goto (pc' := 9) g4_32 rfl ?_
                   refine Ev_cast (ls := [mR 31, mI (a : Int), mI (b : Int), mI cell, mI 3, none]) ?_ rfl rfl
                   refine Ev_cast (H := (cH H us cu (g3 gv cell 0 0 0))) ?_ rfl rfl
                   refine E_iload (pc' := 11) g4_9 rfl rfl ?_
                   refine E_iconst (pc' := 12) g4_11 (by decide) rfl ?_
                   refine E_icge (pc' := 15) (pt := 35) g4_12 rfl rfl (fun c0 => ?_) (fun c0 => ?_)
                   · first
                     | (exfalso; omega)
                     | (refine E_aload_n (pc' := 36) g4_35 rfl rfl ?_
                        refine E_iload_n (pc' := 37) g4_36 rfl rfl ?_
                        refine E_iload_n (pc' := 38) g4_37 rfl rfl ?_
                        refine E_cV2i (pc' := 41) g4_38 k4_54 na6 rfl ow6 rfl (Nat.le_of_ble_eq_true rfl) (cH_31 hB) hpl (by decide) ?_
                        refine E_st4 (pc' := 43) g4_41 rfl ?_
                        refine E_iload (pc' := 45) g4_43 rfl rfl ?_
                        refine E_iflt (pc' := 48) (pt := 82) g4_45 rfl rfl (fun c1 => ?_) (fun c1 => ?_)
                        · first
                          | (exfalso; omega)
                          | (exfalso; omega)
                        · first
                          | (exfalso; omega)
                          | (refine E_aload_n (pc' := 49) g4_48 rfl rfl ?_
                             refine E_getR (pc' := 52) g4_49 f4_18 tg0_2 rfl (cH_31 hB) rfl ?_
                             refine E_iload_n (pc' := 53) g4_52 rfl rfl ?_
                             refine E_iload_n (pc' := 54) g4_53 rfl rfl ?_
                             refine E_iload_n (pc' := 55) g4_54 rfl rfl ?_
                             refine E_imul (pc' := 56) g4_55 (m_in_iff.mpr (by omega)) rfl ?_
                             refine E_iastore (pc' := 57) g4_56 rfl (cH_34 hB) (by omega) (by omega) ?_
                             rw [cH_us]
                             refine E_aload_n (pc' := 58) g4_57 rfl rfl ?_
                             refine E_getR (pc' := 61) g4_58 f4_21 tg0_3 rfl (cH_31 hB) rfl ?_
                             refine E_iload_n (pc' := 62) g4_61 rfl rfl ?_
                             refine E_iconst (pc' := 63) g4_62 (by decide) rfl ?_
                             refine E_iload (pc' := 65) g4_63 rfl rfl ?_
                             refine E_iadd (pc' := 66) g4_65 (m_in_iff.mpr (by omega)) rfl ?_
                             refine E_iastore (pc' := 67) g4_66 rfl (cH_35 hB) (by omega) (by omega) ?_
                             rw [cH_cu]
                             refine E_aload_n (pc' := 68) g4_67 rfl rfl ?_
                             refine E_getR (pc' := 71) g4_68 f4_24 tg0_4 rfl (cH_31 hB) rfl ?_
                             refine E_iload (pc' := 73) g4_71 rfl rfl ?_
                             refine E_sipush (pc' := 76) g4_73 (by decide) rfl ?_
                             refine E_imul (pc' := 77) g4_76 (m_in_iff.mpr (by omega)) rfl ?_
                             refine E_iload_n (pc' := 78) g4_77 rfl rfl ?_
                             refine E_iadd (pc' := 79) g4_78 (m_in_iff.mpr (by omega)) rfl ?_
                             refine E_iconst (pc' := 80) g4_79 (by decide) rfl ?_
                             refine E_iastore (pc' := 81) g4_80 rfl (cH_36 hB) (by omega) (by rw [lg3]; omega) ?_
                             rw [cH_gv]
                             exact E_ret g4_81 rt4 rfl rfl))
                   · first
                     | (exfalso; omega)
                     | (exfalso; omega))))
  · have hge : ∀ c : Int, 0 ≤ c → c < 625 → ctb (up us cell ((a : Int) * b)) (up cu cell (1 + 2)) (up (g3 gv cell 0 0 0) (2 * 625 + cell) 1) c = if c = cell then cini 2 a b else t c := by
      intro c h0 h1
      have hg : (up (g3 gv cell 0 0 0) (2 * 625 + cell) 1) = (g3 gv cell 0 0 1) := by
        apply ix_ext (by rw [up_len, lg3, lg3])
        intro j j0 j1
        rw [up_len, lg3] at j1
        unfold g3
        rw [ix_up (by omega) (by rw [up_len, up_len, up_len]; omega) (by omega), ix_up (by omega) (by rw [up_len, up_len]; omega) (by omega), ix_up (by omega) (by rw [up_len]; omega) (by omega), ix_up (by omega) (by omega) (by omega), ix_up (by omega) (by rw [up_len, up_len]; omega) (by omega), ix_up (by omega) (by rw [up_len]; omega) (by omega), ix_up (by omega) (by omega) (by omega)]
        repeat' split
        all_goals (first | rfl | (exfalso; omega))
      rw [hg, ctb_up ⟨l1, l2, l3⟩ hc c h0 h1]
      by_cases e : c = cell
      · rw [if_pos e, if_pos e]; rfl
      · rw [if_neg e, if_neg e, ht c h0 h1]
    have hv : cval t 2 a b (a / 2) (b / 2) = cini 2 a b := by unfold cval; rw [if_neg (by decide)]
    rw [hv]
    refine ⟨_, _, _, ⟨⟨by rw [up_len]; exact l1, by rw [up_len]; exact l2, by rw [up_len]; exact lg3⟩, hge⟩, ?_⟩
    refine Call_of rfl ?_
    refine E_iload_n (pc' := 1) g4_0 rfl rfl ?_
    refine E_iload_n (pc' := 2) g4_1 rfl rfl ?_
    refine E_cS2i (pc' := 5) g4_2 k4_50 na1 rfl rfl (Nat.le_of_ble_eq_true rfl) hat (by decide) ?_
    refine E_st3 (pc' := 6) g4_5 rfl ?_
    refine E_iconst (pc' := 7) g4_6 (by decide) rfl ?_
    refine E_st4 (pc' := 9) g4_7 rfl ?_
    refine E_iload (pc' := 11) g4_9 rfl rfl ?_
    refine E_iconst (pc' := 12) g4_11 (by decide) rfl ?_
    refine E_icge (pc' := 15) (pt := 35) g4_12 rfl rfl (fun c0 => ?_) (fun c0 => ?_)
    · first
      | (exfalso; omega)
      | (exfalso; omega)
    · first
      | (exfalso; omega)
      | (refine E_aload_n (pc' := 16) g4_15 rfl rfl ?_
         refine E_getR (pc' := 19) g4_16 f4_24 tg0_4 rfl (cH_31 hB) rfl ?_
         refine E_iload (pc' := 21) g4_19 rfl rfl ?_
         refine E_sipush (pc' := 24) g4_21 (by decide) rfl ?_
         refine E_imul (pc' := 25) g4_24 (m_in_iff.mpr (by omega)) rfl ?_
         refine E_iload_n (pc' := 26) g4_25 rfl rfl ?_
         refine E_iadd (pc' := 27) g4_26 (m_in_iff.mpr (by omega)) rfl ?_
         refine E_iconst (pc' := 28) g4_27 (by decide) rfl ?_
         refine E_iastore (pc' := 29) g4_28 rfl (cH_36 hB) (by omega) (by omega) ?_
         rw [cH_gv]
         refine E_in4 (pc' := 32) g4_29 rfl (m_in_iff.mpr (by omega)) ?_
         refine E_goto (pc' := 9) g4_32 rfl ?_
         refine Ev_cast (ls := [mR 31, mI (a : Int), mI (b : Int), mI cell, mI 1, none]) ?_ rfl rfl
         refine E_iload (pc' := 11) g4_9 rfl rfl ?_
         refine E_iconst (pc' := 12) g4_11 (by decide) rfl ?_
         refine E_icge (pc' := 15) (pt := 35) g4_12 rfl rfl (fun c0 => ?_) (fun c0 => ?_)
         · first
           | (exfalso; omega)
           | (exfalso; omega)
         · first
           | (exfalso; omega)
           | (refine E_aload_n (pc' := 16) g4_15 rfl rfl ?_
              refine E_getR (pc' := 19) g4_16 f4_24 tg0_4 rfl (cH_31 hB) rfl ?_
              refine E_iload (pc' := 21) g4_19 rfl rfl ?_
              refine E_sipush (pc' := 24) g4_21 (by decide) rfl ?_
              refine E_imul (pc' := 25) g4_24 (m_in_iff.mpr (by omega)) rfl ?_
              refine E_iload_n (pc' := 26) g4_25 rfl rfl ?_
              refine E_iadd (pc' := 27) g4_26 (m_in_iff.mpr (by omega)) rfl ?_
              refine E_iconst (pc' := 28) g4_27 (by decide) rfl ?_
              refine E_iastore (pc' := 29) g4_28 rfl (cH_36 hB) (by omega) (by rw [up_len]; omega) ?_
              rw [cH_gv]
              refine E_in4 (pc' := 32) g4_29 rfl (m_in_iff.mpr (by omega)) ?_
              refine E_goto (pc' := 9) g4_32 rfl ?_
              refine Ev_cast (ls := [mR 31, mI (a : Int), mI (b : Int), mI cell, mI 2, none]) ?_ rfl rfl
              refine E_iload (pc' := 11) g4_9 rfl rfl ?_
              refine E_iconst (pc' := 12) g4_11 (by decide) rfl ?_
              refine E_icge (pc' := 15) (pt := 35) g4_12 rfl rfl (fun c0 => ?_) (fun c0 => ?_)
              · first
                | (exfalso; omega)
                | (exfalso; omega)
              · first
                | (exfalso; omega)
                | (refine E_aload_n (pc' := 16) g4_15 rfl rfl ?_
                   refine E_getR (pc' := 19) g4_16 f4_24 tg0_4 rfl (cH_31 hB) rfl ?_
                   refine E_iload (pc' := 21) g4_19 rfl rfl ?_
                   refine E_sipush (pc' := 24) g4_21 (by decide) rfl ?_
                   refine E_imul (pc' := 25) g4_24 (m_in_iff.mpr (by omega)) rfl ?_
                   refine E_iload_n (pc' := 26) g4_25 rfl rfl ?_
                   refine E_iadd (pc' := 27) g4_26 (m_in_iff.mpr (by omega)) rfl ?_
                   refine E_iconst (pc' := 28) g4_27 (by decide) rfl ?_
                   refine E_iastore (pc' := 29) g4_28 rfl (cH_36 hB) (by omega) (by rw [up_len, up_len]; omega) ?_
                   rw [cH_gv]
                   refine E_in4 (pc' := 32) g4_29 rfl (m_in_iff.mpr (by omega)) ?_
                   refine E_goto (pc' := 9) g4_32 rfl ?_
                   refine Ev_cast (ls := [mR 31, mI (a : Int), mI (b : Int), mI cell, mI 3, none]) ?_ rfl rfl
                   refine Ev_cast (H := (cH H us cu (g3 gv cell 0 0 0))) ?_ rfl rfl
                   refine E_iload (pc' := 11) g4_9 rfl rfl ?_
                   refine E_iconst (pc' := 12) g4_11 (by decide) rfl ?_
                   refine E_icge (pc' := 15) (pt := 35) g4_12 rfl rfl (fun c0 => ?_) (fun c0 => ?_)
                   · first
                     | (exfalso; omega)
                     | (refine E_aload_n (pc' := 36) g4_35 rfl rfl ?_
                        refine E_iload_n (pc' := 37) g4_36 rfl rfl ?_
                        refine E_iload_n (pc' := 38) g4_37 rfl rfl ?_
                        refine E_cV2i (pc' := 41) g4_38 k4_54 na6 rfl ow6 rfl (Nat.le_of_ble_eq_true rfl) (cH_31 hB) hpl (by decide) ?_
                        refine E_st4 (pc' := 43) g4_41 rfl ?_
                        refine E_iload (pc' := 45) g4_43 rfl rfl ?_
                        refine E_iflt (pc' := 48) (pt := 82) g4_45 rfl rfl (fun c1 => ?_) (fun c1 => ?_)
                        · first
                          | (exfalso; omega)
                          | (exfalso; omega)
                        · first
                          | (exfalso; omega)
                          | (refine E_aload_n (pc' := 49) g4_48 rfl rfl ?_
                             refine E_getR (pc' := 52) g4_49 f4_18 tg0_2 rfl (cH_31 hB) rfl ?_
                             refine E_iload_n (pc' := 53) g4_52 rfl rfl ?_
                             refine E_iload_n (pc' := 54) g4_53 rfl rfl ?_
                             refine E_iload_n (pc' := 55) g4_54 rfl rfl ?_
                             refine E_imul (pc' := 56) g4_55 (m_in_iff.mpr (by omega)) rfl ?_
                             refine E_iastore (pc' := 57) g4_56 rfl (cH_34 hB) (by omega) (by omega) ?_
                             rw [cH_us]
                             refine E_aload_n (pc' := 58) g4_57 rfl rfl ?_
                             refine E_getR (pc' := 61) g4_58 f4_21 tg0_3 rfl (cH_31 hB) rfl ?_
                             refine E_iload_n (pc' := 62) g4_61 rfl rfl ?_
                             refine E_iconst (pc' := 63) g4_62 (by decide) rfl ?_
                             refine E_iload (pc' := 65) g4_63 rfl rfl ?_
                             refine E_iadd (pc' := 66) g4_65 (m_in_iff.mpr (by omega)) rfl ?_
                             refine E_iastore (pc' := 67) g4_66 rfl (cH_35 hB) (by omega) (by omega) ?_
                             rw [cH_cu]
                             refine E_aload_n (pc' := 68) g4_67 rfl rfl ?_
                             refine E_getR (pc' := 71) g4_68 f4_24 tg0_4 rfl (cH_31 hB) rfl ?_
                             refine E_iload (pc' := 73) g4_71 rfl rfl ?_
                             refine E_sipush (pc' := 76) g4_73 (by decide) rfl ?_
                             refine E_imul (pc' := 77) g4_76 (m_in_iff.mpr (by omega)) rfl ?_
                             refine E_iload_n (pc' := 78) g4_77 rfl rfl ?_
                             refine E_iadd (pc' := 79) g4_78 (m_in_iff.mpr (by omega)) rfl ?_
                             refine E_iconst (pc' := 80) g4_79 (by decide) rfl ?_
                             refine E_iastore (pc' := 81) g4_80 rfl (cH_36 hB) (by omega) (by rw [lg3]; omega) ?_
                             rw [cH_gv]
                             exact E_ret g4_81 rt4 rfl rfl))
                   · first
                     | (exfalso; omega)
                     | (exfalso; omega))))
theorem C_know0 (hB : isCB H 0 ls gr) {w : Int → Int → Int} (hw : ∀ x z, w x z = pcF ls gr x z) (hl : (us.length = 625 ∧ cu.length = 625 ∧ gv.length = 1875)) : ∃ us2 cu2 gv2, (us2.length = 625 ∧ cu2.length = 625 ∧ gv2.length = 1875) ∧ okt w (ctb us2 cu2 gv2) 25 1 ∧ Call 3 3 [mR 31] (cH H us cu gv) none (pt (cH H us2 cu2 gv2) 31 (clL 1)) := by
  have lo : ∀ i : Nat, i ≤ 24 → ∀ (u : mV) (us cu gv : List Int), (us.length = 625 ∧ cu.length = 625 ∧ gv.length = 1875) → okt w (ctb us cu gv) ((i : Int) + 1) 1 → ∃ us2 cu2 gv2, (us2.length = 625 ∧ cu2.length = 625 ∧ gv2.length = 1875) ∧ okt w (ctb us2 cu2 gv2) 25 1 ∧ Ev 3 3 10 [mR 31, mI ((i : Int) + 1), u] [] (cH H us cu gv) none (pt (cH H us2 cu2 gv2) 31 (clL 1)) := by
    refine E_loop (n := 24) _ ?_ ?_
    · intro i hi hh u us cu gv hl hk
      have li : ∀ j : Nat, j ≤ 24 → ∀ us cu gv : List Int, (us.length = 625 ∧ cu.length = 625 ∧ gv.length = 1875) → okt w (ctb us cu gv) ((i : Int) + 1) ((j : Int) + 1) → ∃ us2 cu2 gv2, (us2.length = 625 ∧ cu2.length = 625 ∧ gv2.length = 1875) ∧ okt w (ctb us2 cu2 gv2) 25 1 ∧ Ev 3 3 18 [mR 31, mI ((i : Int) + 1), mI ((j : Int) + 1)] [] (cH H us cu gv) none (pt (cH H us2 cu2 gv2) 31 (clL 1)) := by
        refine E_loop (n := 24) _ ?_ ?_
        · intro j hj hg us cu gv hl hk
          obtain ⟨us3, cu3, gv3, ⟨y1, y2⟩, hwo⟩ := C_workOut hB hl (a := i + 1) (b := j + 1) (by omega) (by omega) hw (t := ctb us cu gv) (fun c _ _ => rfl) hk
          have hk2 := okt_step (A := i + 1) (B := j + 1) (by omega) (by omega) hk y2
          obtain ⟨us2, cu2, gv2, z1, z2, hev⟩ := hg us3 cu3 gv3 y1 hk2
          refine ⟨us2, cu2, gv2, z1, z2, ?_⟩
          refine E_iload_n (pc' := 19) g3_18 rfl rfl ?_
          refine E_bipush (pc' := 21) g3_19 (by decide) rfl ?_
          refine E_icgt (pc' := 24) (pt := 36) g3_21 rfl rfl (fun c0 => ?_) (fun c0 => ?_)
          · first
            | (exfalso; omega)
            | (exfalso; omega)
          · first
            | (exfalso; omega)
            | (refine E_aload_n (pc' := 25) g3_24 rfl rfl ?_
               refine E_iload_n (pc' := 26) g3_25 rfl rfl ?_
               refine E_iload_n (pc' := 27) g3_26 rfl rfl ?_
               refine E_cV2v (pc' := 30) g3_27 k3_46 na4 rfl ow4 rfl (Nat.le_of_ble_eq_true rfl) (cH_31 hB) hwo (by decide) ?_
               refine E_in2 (pc' := 33) g3_30 rfl (m_in_iff.mpr (by omega)) ?_
               refine E_goto (pc' := 18) g3_33 rfl ?_
               exact hev)
        · intro us cu gv hl hk
          have hk2 : okt w (ctb us cu gv) (((i + 1 : Nat) : Int) + 1) 1 := okt_row (A := i + 1) hk
          obtain ⟨us2, cu2, gv2, z1, z2, hev⟩ := hh (mI ((24 : Nat) + 1 : Int)) us cu gv hl hk2
          refine ⟨us2, cu2, gv2, z1, z2, ?_⟩
          refine E_iload_n (pc' := 19) g3_18 rfl rfl ?_
          refine E_bipush (pc' := 21) g3_19 (by decide) rfl ?_
          refine E_icgt (pc' := 24) (pt := 36) g3_21 rfl rfl (fun c0 => ?_) (fun c0 => ?_)
          · first
            | (exfalso; omega)
            | (refine E_in1 (pc' := 39) g3_36 rfl (m_in_iff.mpr (by omega)) ?_
               refine E_goto (pc' := 10) g3_39 rfl ?_
               exact hev)
          · first
            | (exfalso; omega)
            | (exfalso; omega)
      obtain ⟨us2, cu2, gv2, z1, z2, hev⟩ := li 0 (by omega) us cu gv hl hk
      refine ⟨us2, cu2, gv2, z1, z2, ?_⟩
      refine E_iload_n (pc' := 11) g3_10 rfl rfl ?_
      refine E_bipush (pc' := 13) g3_11 (by decide) rfl ?_
      refine E_icgt (pc' := 16) (pt := 42) g3_13 rfl rfl (fun c0 => ?_) (fun c0 => ?_)
      · first
        | (exfalso; omega)
        | (exfalso; omega)
      · first
        | (exfalso; omega)
        | (refine E_iconst (pc' := 17) g3_16 (by decide) rfl ?_
           refine E_st2 (pc' := 18) g3_17 rfl ?_
           exact hev)
    · intro u us cu gv hl hk
      refine ⟨us, cu, gv, hl, hk, ?_⟩
      refine E_iload_n (pc' := 11) g3_10 rfl rfl ?_
      refine E_bipush (pc' := 13) g3_11 (by decide) rfl ?_
      refine E_icgt (pc' := 16) (pt := 42) g3_13 rfl rfl (fun c0 => ?_) (fun c0 => ?_)
      · first
        | (exfalso; omega)
        | (refine E_aload_n (pc' := 43) g3_42 rfl rfl ?_
           refine E_iconst (pc' := 44) g3_43 (by decide) rfl ?_
           refine E_putf (pc' := 47) g3_44 f3_42 tg0_5 fn0_5 rfl rfl (cH_31 hB) (Nat.le_of_ble_eq_true rfl) ?_
           exact E_ret g3_47 rt3 rfl rfl)
      · first
        | (exfalso; omega)
        | (exfalso; omega)
  obtain ⟨us2, cu2, gv2, z1, z2, hev⟩ := lo 0 (by omega) none us cu gv hl okt_0
  refine ⟨us2, cu2, gv2, z1, z2, ?_⟩
  refine Call_of rfl ?_
  refine E_aload_n (pc' := 1) g3_0 rfl rfl ?_
  refine E_getI (pc' := 4) g3_1 f3_42 tg0_5 (by decide) rfl (cH_31 hB) rfl ?_
  refine E_ifeq (pc' := 7) (pt := 8) g3_4 rfl rfl (fun c0 => ?_) (fun c0 => ?_)
  · first
    | (exfalso; omega)
    | (refine E_iconst (pc' := 9) g3_8 (by decide) rfl ?_
       refine E_st1 (pc' := 10) g3_9 rfl ?_
       exact hev)
  · first
    | (exfalso; omega)
    | (exfalso; omega)
def inCl (a : Nat) : Prop := a = 31 ∨ 34 ≤ a ∧ a ≤ 36
/-- a table is known, or is none yet -/
def cKn (kn : Int) (ls gr us cu gv : List Int) : Prop := kn = 0 ∨ (kn = 1 ∧ okt (pcF ls gr) (ctb us cu gv) 25 1)
theorem C_know (hC : isClo H kn ls gr us cu gv) (hk : cKn kn ls gr us cu gv) : ∃ H2 us2 cu2 gv2, Fr inCl H H2 ∧ isClo H2 1 ls gr us2 cu2 gv2 ∧ okt (pcF ls gr) (ctb us2 cu2 gv2) 25 1 ∧ Call 3 3 [mR 31] H none H2 := by
  obtain ⟨c1, c2, c3, c4, c5, c6, m1, m2, m3, m4, m5⟩ := hC
  rcases hk with rfl | ⟨rfl, hk⟩
  · have hB : isCB H 0 ls gr := ⟨c1, c2, c3, ⟨_, c4⟩, ⟨_, c5⟩, ⟨_, c6⟩, m1, m2⟩
    have hH : H = (cH H us cu gv) := by
      unfold cH
      rw [pt_same c4, pt_same c5, pt_same c6]
    obtain ⟨us2, cu2, gv2, z1, z2, hc⟩ := C_know0 hB (w := pcF ls gr) (fun _ _ => rfl) ⟨m3, m4, m5⟩
    rw [← hH] at hc
    refine ⟨_, us2, cu2, gv2, ?_, ⟨pt_self (cH_31 hB), pt_nx (by decide) (cH_32 hB), pt_nx (by decide) (cH_33 hB), pt_nx (by decide) (cH_34 hB), pt_nx (by decide) (cH_35 hB), pt_nx (by decide) (cH_36 hB), m1, m2, z1.1, z1.2.1, z1.2.2⟩, z2, hc⟩
    unfold cH
    exact Fr_and (Fr_and (Fr_and (Fr_pt (A := inCl) (by unfold inCl; omega) c4 (by omega)) (by unfold inCl; omega) c5 (by omega)) (by unfold inCl; omega) c6 (by omega)) (by unfold inCl; omega) c1 rfl
  · refine ⟨H, us, cu, gv, Fr_refl H, ⟨c1, c2, c3, c4, c5, c6, m1, m2, m3, m4, m5⟩, hk, ?_⟩
    refine Call_of rfl ?_
    refine E_aload_n (pc' := 1) g3_0 rfl rfl ?_
    refine E_getI (pc' := 4) g3_1 f3_42 tg0_5 (by decide) rfl c1 rfl ?_
    refine E_ifeq (pc' := 7) (pt := 8) g3_4 rfl rfl (fun c0 => ?_) (fun c0 => ?_)
    · first
      | (exfalso; omega)
      | (exfalso; omega)
    · first
      | (exfalso; omega)
      | (exact E_ret g3_7 rt3 rfl rfl)
/-- how many of a piece -/
def cgv (v : cV) (p : Int) : Int := if p = 0 then v.2.2.1 else if p = 1 then v.2.2.2.1 else v.2.2.2.2
theorem isRect_or (x z : Int) : (isRect x z = 1 ∧ 1 ≤ x ∧ x ≤ 24 ∧ 1 ≤ z ∧ z ≤ 24) ∨ (isRect x z = 0 ∧ ¬ (1 ≤ x ∧ x ≤ 24 ∧ 1 ≤ z ∧ z ≤ 24)) := by
  unfold isRect
  split
  · rename_i h; exact Or.inl ⟨rfl, h⟩
  · rename_i h; exact Or.inr ⟨rfl, h⟩
theorem C_good_no {a b : Int} (hno : ¬ (1 ≤ a ∧ a ≤ 24 ∧ 1 ≤ b ∧ b ≤ 24)) : Call 4 75 [mR 0, mI a, mI b] H (mI (-1)) H := by
  have e1 := isRect_or a b
  refine Call_of rfl ?_
  refine E_iload_n (pc' := 1) g75_0 rfl rfl ?_
  refine E_iload_n (pc' := 2) g75_1 rfl rfl ?_
  refine E_cS2i (pc' := 5) g75_2 k75_207 na85 rfl rfl (Nat.le_of_ble_eq_true rfl) C_isRect (by decide) ?_
  refine E_ifne (pc' := 8) (pt := 10) g75_5 rfl rfl (fun c0 => ?_) (fun c0 => ?_)
  · first
    | (exfalso; omega)
    | (exfalso; omega)
  · first
    | (exfalso; omega)
    | (refine E_iconst (pc' := 9) g75_8 (by decide) rfl ?_
       exact E_iret g75_9 ro75 rfl rfl)
theorem C_good {le pe un : Int} {ta tb : Nat} (hR : isRoot H le ta tb pe un) (hC : isClo H kn ls gr us cu gv) (hk : cKn kn ls gr us cu gv) {a b : Int} (hab : 1 ≤ a ∧ a ≤ 24 ∧ 1 ≤ b ∧ b ≤ 24) : ∃ H2 us2 cu2 gv2, Fr inCl H H2 ∧ isClo H2 1 ls gr us2 cu2 gv2 ∧ okt (pcF ls gr) (ctb us2 cu2 gv2) 25 1 ∧ Call 4 75 [mR 0, mI a, mI b] H (mI (ctb us2 cu2 gv2 (25 * a + b)).1) H2 := by
  obtain ⟨H2, us2, cu2, gv2, f1, hC2, hok, hc⟩ := C_know hC hk
  refine ⟨H2, us2, cu2, gv2, f1, hC2, hok, ?_⟩
  have e1 := isRect_or a b
  have r0 : H[0]? = _ := hR
  have r1 : H2[0]? = _ := root_fr f1 hR (by unfold inCl; omega)
  have c31 := hC.1
  obtain ⟨d1, d2, d3, d4, d5, d6, m1, m2, m3, m4, m5⟩ := hC2
  refine Call_of rfl ?_
  refine E_iload_n (pc' := 1) g75_0 rfl rfl ?_
  refine E_iload_n (pc' := 2) g75_1 rfl rfl ?_
  refine E_cS2i (pc' := 5) g75_2 k75_207 na85 rfl rfl (Nat.le_of_ble_eq_true rfl) C_isRect (by decide) ?_
  refine E_ifne (pc' := 8) (pt := 10) g75_5 rfl rfl (fun c0 => ?_) (fun c0 => ?_)
  · first
    | (exfalso; omega)
    | (refine E_aload_n (pc' := 11) g75_10 rfl rfl ?_
       refine E_getR (pc' := 14) g75_11 f75_68 tg6_14 rfl r0 rfl ?_
       refine E_cV0v (pc' := 17) g75_14 k75_211 na3 rfl ow3 rfl (Nat.le_of_ble_eq_true rfl) c31 hc (by decide) ?_
       refine E_aload_n (pc' := 18) g75_17 rfl rfl ?_
       refine E_getR (pc' := 21) g75_18 f75_68 tg6_14 rfl r1 rfl ?_
       refine E_getR (pc' := 24) g75_21 f75_214 tg0_2 rfl d1 rfl ?_
       refine E_iload_n (pc' := 25) g75_24 rfl rfl ?_
       refine E_iload_n (pc' := 26) g75_25 rfl rfl ?_
       refine E_cS2i (pc' := 29) g75_26 k75_217 na1 rfl rfl (Nat.le_of_ble_eq_true rfl) (C_at (by omega) (by omega)) (by decide) ?_
       refine E_iaload (pc' := 30) g75_29 rfl d4 (by omega) (by omega) ?_
       exact E_iret g75_30 ro75 rfl rfl)
  · first
    | (exfalso; omega)
    | (exfalso; omega)
theorem C_cut_no {a b : Int} (hno : ¬ (1 ≤ a ∧ a ≤ 24 ∧ 1 ≤ b ∧ b ≤ 24)) : Call 4 76 [mR 0, mI a, mI b] H (mI (-1)) H := by
  have e1 := isRect_or a b
  refine Call_of rfl ?_
  refine E_iload_n (pc' := 1) g76_0 rfl rfl ?_
  refine E_iload_n (pc' := 2) g76_1 rfl rfl ?_
  refine E_cS2i (pc' := 5) g76_2 k76_207 na85 rfl rfl (Nat.le_of_ble_eq_true rfl) C_isRect (by decide) ?_
  refine E_ifne (pc' := 8) (pt := 10) g76_5 rfl rfl (fun c0 => ?_) (fun c0 => ?_)
  · first
    | (exfalso; omega)
    | (exfalso; omega)
  · first
    | (exfalso; omega)
    | (refine E_iconst (pc' := 9) g76_8 (by decide) rfl ?_
       exact E_iret g76_9 ro76 rfl rfl)
theorem C_cut {le pe un : Int} {ta tb : Nat} (hR : isRoot H le ta tb pe un) (hC : isClo H kn ls gr us cu gv) (hk : cKn kn ls gr us cu gv) {a b : Int} (hab : 1 ≤ a ∧ a ≤ 24 ∧ 1 ≤ b ∧ b ≤ 24) : ∃ H2 us2 cu2 gv2, Fr inCl H H2 ∧ isClo H2 1 ls gr us2 cu2 gv2 ∧ okt (pcF ls gr) (ctb us2 cu2 gv2) 25 1 ∧ Call 4 76 [mR 0, mI a, mI b] H (mI (ctb us2 cu2 gv2 (25 * a + b)).2.1) H2 := by
  obtain ⟨H2, us2, cu2, gv2, f1, hC2, hok, hc⟩ := C_know hC hk
  refine ⟨H2, us2, cu2, gv2, f1, hC2, hok, ?_⟩
  have e1 := isRect_or a b
  have r0 : H[0]? = _ := hR
  have r1 : H2[0]? = _ := root_fr f1 hR (by unfold inCl; omega)
  have c31 := hC.1
  obtain ⟨d1, d2, d3, d4, d5, d6, m1, m2, m3, m4, m5⟩ := hC2
  refine Call_of rfl ?_
  refine E_iload_n (pc' := 1) g76_0 rfl rfl ?_
  refine E_iload_n (pc' := 2) g76_1 rfl rfl ?_
  refine E_cS2i (pc' := 5) g76_2 k76_207 na85 rfl rfl (Nat.le_of_ble_eq_true rfl) C_isRect (by decide) ?_
  refine E_ifne (pc' := 8) (pt := 10) g76_5 rfl rfl (fun c0 => ?_) (fun c0 => ?_)
  · first
    | (exfalso; omega)
    | (refine E_aload_n (pc' := 11) g76_10 rfl rfl ?_
       refine E_getR (pc' := 14) g76_11 f76_68 tg6_14 rfl r0 rfl ?_
       refine E_cV0v (pc' := 17) g76_14 k76_211 na3 rfl ow3 rfl (Nat.le_of_ble_eq_true rfl) c31 hc (by decide) ?_
       refine E_aload_n (pc' := 18) g76_17 rfl rfl ?_
       refine E_getR (pc' := 21) g76_18 f76_68 tg6_14 rfl r1 rfl ?_
       refine E_getR (pc' := 24) g76_21 f76_220 tg0_3 rfl d1 rfl ?_
       refine E_iload_n (pc' := 25) g76_24 rfl rfl ?_
       refine E_iload_n (pc' := 26) g76_25 rfl rfl ?_
       refine E_cS2i (pc' := 29) g76_26 k76_217 na1 rfl rfl (Nat.le_of_ble_eq_true rfl) (C_at (by omega) (by omega)) (by decide) ?_
       refine E_iaload (pc' := 30) g76_29 rfl d5 (by omega) (by omega) ?_
       exact E_iret g76_30 ro76 rfl rfl)
  · first
    | (exfalso; omega)
    | (exfalso; omega)
theorem C_made_no {a b p : Int} (hno : ¬ (1 ≤ a ∧ a ≤ 24 ∧ 1 ≤ b ∧ b ≤ 24 ∧ 0 ≤ p ∧ p < 3)) : Call 4 77 [mR 0, mI a, mI b, mI p] H (mI (-1)) H := by
  have e1 := isRect_or a b
  have e2 := inI_or p 0 3
  refine Call_of rfl ?_
  refine E_iload_n (pc' := 1) g77_0 rfl rfl ?_
  refine E_iload_n (pc' := 2) g77_1 rfl rfl ?_
  refine E_cS2i (pc' := 5) g77_2 k77_207 na85 rfl rfl (Nat.le_of_ble_eq_true rfl) C_isRect (by decide) ?_
  refine E_ifeq (pc' := 8) (pt := 15) g77_5 rfl rfl (fun c0 => ?_) (fun c0 => ?_)
  · first
    | (exfalso; omega)
    | (refine E_iconst (pc' := 16) g77_15 (by decide) rfl ?_
       exact E_iret g77_16 ro77 rfl rfl)
  · first
    | (exfalso; omega)
    | (refine E_iload_n (pc' := 9) g77_8 rfl rfl ?_
       refine E_cS1i (pc' := 12) g77_9 k77_198 na84 rfl rfl (Nat.le_of_ble_eq_true rfl) C_isPiece (by decide) ?_
       refine E_ifne (pc' := 15) (pt := 17) g77_12 rfl rfl (fun c1 => ?_) (fun c1 => ?_)
       · first
         | (exfalso; omega)
         | (exfalso; omega)
       · first
         | (exfalso; omega)
         | (refine E_iconst (pc' := 16) g77_15 (by decide) rfl ?_
            exact E_iret g77_16 ro77 rfl rfl))
theorem C_made {le pe un : Int} {ta tb : Nat} (hR : isRoot H le ta tb pe un) (hC : isClo H kn ls gr us cu gv) (hk : cKn kn ls gr us cu gv) {a b p : Int} (hab : 1 ≤ a ∧ a ≤ 24 ∧ 1 ≤ b ∧ b ≤ 24 ∧ 0 ≤ p ∧ p < 3) : ∃ H2 us2 cu2 gv2, Fr inCl H H2 ∧ isClo H2 1 ls gr us2 cu2 gv2 ∧ okt (pcF ls gr) (ctb us2 cu2 gv2) 25 1 ∧ Call 4 77 [mR 0, mI a, mI b, mI p] H (mI (cgv (ctb us2 cu2 gv2 (25 * a + b)) p)) H2 := by
  obtain ⟨H2, us2, cu2, gv2, f1, hC2, hok, hc⟩ := C_know hC hk
  refine ⟨H2, us2, cu2, gv2, f1, hC2, hok, ?_⟩
  have e1 := isRect_or a b
  have e2 := inI_or p 0 3
  have r0 : H[0]? = _ := hR
  have r1 : H2[0]? = _ := root_fr f1 hR (by unfold inCl; omega)
  have c31 := hC.1
  obtain ⟨d1, d2, d3, d4, d5, d6, m1, m2, m3, m4, m5⟩ := hC2
  refine Call_of rfl ?_
  refine E_iload_n (pc' := 1) g77_0 rfl rfl ?_
  refine E_iload_n (pc' := 2) g77_1 rfl rfl ?_
  refine E_cS2i (pc' := 5) g77_2 k77_207 na85 rfl rfl (Nat.le_of_ble_eq_true rfl) C_isRect (by decide) ?_
  refine E_ifeq (pc' := 8) (pt := 15) g77_5 rfl rfl (fun c0 => ?_) (fun c0 => ?_)
  · first
    | (exfalso; omega)
    | (exfalso; omega)
  · first
    | (exfalso; omega)
    | (refine E_iload_n (pc' := 9) g77_8 rfl rfl ?_
       refine E_cS1i (pc' := 12) g77_9 k77_198 na84 rfl rfl (Nat.le_of_ble_eq_true rfl) C_isPiece (by decide) ?_
       refine E_ifne (pc' := 15) (pt := 17) g77_12 rfl rfl (fun c1 => ?_) (fun c1 => ?_)
       · first
         | (exfalso; omega)
         | (refine E_aload_n (pc' := 18) g77_17 rfl rfl ?_
            refine E_getR (pc' := 21) g77_18 f77_68 tg6_14 rfl r0 rfl ?_
            refine E_cV0v (pc' := 24) g77_21 k77_211 na3 rfl ow3 rfl (Nat.le_of_ble_eq_true rfl) c31 hc (by decide) ?_
            refine E_aload_n (pc' := 25) g77_24 rfl rfl ?_
            refine E_getR (pc' := 28) g77_25 f77_68 tg6_14 rfl r1 rfl ?_
            refine E_getR (pc' := 31) g77_28 f77_223 tg0_4 rfl d1 rfl ?_
            refine E_iload_n (pc' := 32) g77_31 rfl rfl ?_
            refine E_sipush (pc' := 35) g77_32 (by decide) rfl ?_
            refine E_imul (pc' := 36) g77_35 (m_in_iff.mpr (by omega)) rfl ?_
            refine E_iload_n (pc' := 37) g77_36 rfl rfl ?_
            refine E_iload_n (pc' := 38) g77_37 rfl rfl ?_
            refine E_cS2i (pc' := 41) g77_38 k77_217 na1 rfl rfl (Nat.le_of_ble_eq_true rfl) (C_at (by omega) (by omega)) (by decide) ?_
            refine E_iadd (pc' := 42) g77_41 (m_in_iff.mpr (by omega)) rfl ?_
            refine E_iaload (pc' := 43) g77_42 rfl d6 (by omega) (by omega) ?_
            exact E_iret g77_43 ro77 (congrArg mI (by rcases (by omega : p = 0 ∨ p = 1 ∨ p = 2) with rfl | rfl | rfl <;> rfl)) rfl)
       · first
         | (exfalso; omega)
         | (exfalso; omega))
end CL
