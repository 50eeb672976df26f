/-! QuiltPatches: calls without the winnow -/
theorem inI_or (x lo hi : Int) : (inI x lo hi = 1 ∧ lo ≤ x ∧ x < hi) ∨ (inI x lo hi = 0 ∧ ¬ (lo ≤ x ∧ x < hi)) := by
  unfold inI
  split
  · exact Or.inl ⟨rfl, by assumption⟩
  · exact Or.inr ⟨rfl, by assumption⟩
theorem isO_or (bl : List Int) (s : Int) : (isO bl s = 1 ∧ 0 ≤ s ∧ s < 6 ∧ ix bl s = -9) ∨ (isO bl s = 0 ∧ ¬ (0 ≤ s ∧ s < 6 ∧ ix bl s = -9)) := by
  unfold isO
  split
  · exact Or.inl ⟨rfl, by assumption⟩
  · exact Or.inr ⟨rfl, by assumption⟩
theorem told_keep {H : mH} {a x : Nat} {fs : List Int} {kd wd ht rm mo sd bo : Int} {ed hu sk hv : List Int} (hT : isTold H a kd wd ht rm mo sd bo ed hu sk hv) (hx : x < a ∨ a + 4 < x) : isTold (pt H x fs) a kd wd ht rm mo sd bo ed hu sk hv := by
  obtain ⟨t0, t1, t2, t3, t4, t5⟩ := hT
  exact ⟨by rw [pt_ne (by omega)]; exact t0, by rw [pt_ne (by omega)]; exact t1, by rw [pt_ne (by omega)]; exact t2, by rw [pt_ne (by omega)]; exact t3, by rw [pt_ne (by omega)]; exact t4, t5⟩
theorem lay_keep {H : mH} {a x : Nat} {fs bl sl : List Int} (hL : isLay H a bl sl) (hx : x < a ∨ a + 2 < x) : isLay (pt H x fs) a bl sl := by
  obtain ⟨t0, t1, t2, t5⟩ := hL
  exact ⟨by rw [pt_ne (by omega)]; exact t0, by rw [pt_ne (by omega)]; exact t1, by rw [pt_ne (by omega)]; exact t2, t5⟩
theorem lay_b {H : mH} {a : Nat} {bl sl bl2 : List Int} (hL : isLay H a bl sl) (hl : bl2.length = 6) (hb : okB bl2) : isLay (pt H (a + 1) bl2) a bl2 sl := by
  obtain ⟨t0, t1, t2, t3, t4, t5, t6⟩ := hL
  exact ⟨by rw [pt_ne (by omega)]; exact t0, pt_self t1, by rw [pt_ne (by omega)]; exact t2, hl, t4, hb, t6⟩
theorem lay_s {H : mH} {a : Nat} {bl sl sl2 : List Int} (hL : isLay H a bl sl) (hl : sl2.length = 6) (hb : sml sl2) : isLay (pt H (a + 2) sl2) a bl sl2 := by
  obtain ⟨t0, t1, t2, t3, t4, t5, t6⟩ := hL
  exact ⟨by rw [pt_ne (by omega)]; exact t0, by rw [pt_ne (by omega)]; exact t1, pt_self t2, t3, hl, t5, hb⟩
theorem root_keep {H : mH} {x : Nat} {fs : List Int} {le : Int} {ta tb : Nat} {pe un : Int} (hR : isRoot H le ta tb pe un) (hx : x ≠ 0) : isRoot (pt H x fs) le ta tb pe un := by
  unfold isRoot at *
  rw [pt_ne hx]
  exact hR
def rootL (le : Int) (ta tb : Nat) (pe un : Int) : List Int := [((1 : Nat) : Int), le, ((2 : Nat) : Int), ((ta : Nat) : Int), ((tb : Nat) : Int), ((13 : Nat) : Int), ((16 : Nat) : Int), ((19 : Nat) : Int), pe, un, ((20 : Nat) : Int), ((21 : Nat) : Int), ((22 : Nat) : Int), ((24 : Nat) : Int), ((31 : Nat) : Int), ((37 : Nat) : Int)]
theorem root_new {H : mH} {le le2 : Int} {ta tb ta2 tb2 : Nat} {pe un pe2 un2 : Int} (hR : isRoot H le ta tb pe un) : isRoot (pt H 0 (rootL le2 ta2 tb2 pe2 un2)) le2 ta2 tb2 pe2 un2 := pt_self hR
def pastA (p : Int) : Nat := 38 + 3 * p.toNat
theorem past_get {p : Int} (h0 : 0 ≤ p) (h : p < 10) : ((List.range 10).map (fun i => ((38 + 3 * i : Nat) : Int)))[p.toNat]? = some ((pastA p : Nat) : Int) := by
  rw [List.getElem?_map, List.getElem?_range (by omega)]
  rfl
def isPast (H : mH) (PB PS : Nat → List Int) : Prop := H[19]? = some (10, ((List.range 10).map (fun i => ((38 + 3 * i : Nat) : Int)))) ∧ ∀ i : Nat, i < 10 → isLay H (38 + 3 * i) (PB i) (PS i)
section QC
variable {H : mH} {ta tb : Nat} {le pe un : Int} {bl sl : List Int} {kd wd ht rm mo sd bo : Int} {ed hu sk hv : List Int} {PB PS : Nat → List Int} {tx : List Int}
theorem C_remember (hR : isRoot H le ta tb pe un) (hT : isTold H ta kd wd ht rm mo sd bo ed hu sk hv) (hL : isLay H 13 bl sl) (hP : isPast H PB PS) (hpe : 0 ≤ pe ∧ pe < 10) (hun : 0 ≤ un ∧ un ≤ 10) : Call 2 89 [mR 0] H none (pt (pt (pt H (pastA pe + 1) bl) (pastA pe + 2) sl) 0 (rootL le ta tb ((pe + 1).tmod 10) (min (un + 1) 10))) := by
  have hT0 := hT
  have hL0 := hL
  have hR0 : H[0]? = _ := hR
  obtain ⟨t0, t1, t2, t3, t4, ⟨r1, r2, r3, r4, r5, r6, r7, b1, b2, b3, b4, n1, n2, n3, n4⟩⟩ := hT
  obtain ⟨h0, h1, h2, l1, l2, ob, ok⟩ := hL
  have hw := wh_bd r2.1 r2.2 r3.1 r3.2
  have hpp := hP.2 pe.toNat (by omega)
  have hq : H[pastA pe]? = _ := hpp.1
  have hp19 := hP.1
  have hpa : 38 ≤ pastA pe := by unfold pastA; omega
  refine Call_of rfl ?_
  refine E_aload_n (pc' := 1) g89_0 rfl rfl ?_
  refine E_getR (pc' := 4) g89_1 f89_40 tg6_7 rfl (by first | assumption | exact pt_self (by first | assumption | exact pt_self (by first | assumption | exact pt_self (by first | assumption | exact pt_self (by assumption) | (rw [pt_ne (by omega)]; assumption)) | (rw [pt_ne (by omega)]; first | assumption | exact pt_self (by assumption) | (rw [pt_ne (by omega)]; assumption))) | (rw [pt_ne (by omega)]; first | assumption | exact pt_self (by first | assumption | exact pt_self (by assumption) | (rw [pt_ne (by omega)]; assumption)) | (rw [pt_ne (by omega)]; first | assumption | exact pt_self (by assumption) | (rw [pt_ne (by omega)]; assumption)))) | (rw [pt_ne (by omega)]; first | assumption | exact pt_self (by first | assumption | exact pt_self (by first | assumption | exact pt_self (by assumption) | (rw [pt_ne (by omega)]; assumption)) | (rw [pt_ne (by omega)]; first | assumption | exact pt_self (by assumption) | (rw [pt_ne (by omega)]; assumption))) | (rw [pt_ne (by omega)]; first | assumption | exact pt_self (by first | assumption | exact pt_self (by assumption) | (rw [pt_ne (by omega)]; assumption)) | (rw [pt_ne (by omega)]; first | assumption | exact pt_self (by assumption) | (rw [pt_ne (by omega)]; assumption))))) rfl ?_
  refine E_aload_n (pc' := 5) g89_4 rfl rfl ?_
  refine E_getI (pc' := 8) g89_5 f89_148 tg6_8 (by decide) rfl (by first | assumption | exact pt_self (by first | assumption | exact pt_self (by first | assumption | exact pt_self (by first | assumption | exact pt_self (by assumption) | (rw [pt_ne (by omega)]; assumption)) | (rw [pt_ne (by omega)]; first | assumption | exact pt_self (by assumption) | (rw [pt_ne (by omega)]; assumption))) | (rw [pt_ne (by omega)]; first | assumption | exact pt_self (by first | assumption | exact pt_self (by assumption) | (rw [pt_ne (by omega)]; assumption)) | (rw [pt_ne (by omega)]; first | assumption | exact pt_self (by assumption) | (rw [pt_ne (by omega)]; assumption)))) | (rw [pt_ne (by omega)]; first | assumption | exact pt_self (by first | assumption | exact pt_self (by first | assumption | exact pt_self (by assumption) | (rw [pt_ne (by omega)]; assumption)) | (rw [pt_ne (by omega)]; first | assumption | exact pt_self (by assumption) | (rw [pt_ne (by omega)]; assumption))) | (rw [pt_ne (by omega)]; first | assumption | exact pt_self (by first | assumption | exact pt_self (by assumption) | (rw [pt_ne (by omega)]; assumption)) | (rw [pt_ne (by omega)]; first | assumption | exact pt_self (by assumption) | (rw [pt_ne (by omega)]; assumption))))) rfl ?_
  refine E_aaload (pc' := 9) g89_8 rfl (by first | assumption | exact pt_self (by first | assumption | exact pt_self (by first | assumption | exact pt_self (by first | assumption | exact pt_self (by assumption) | (rw [pt_ne (by omega)]; assumption)) | (rw [pt_ne (by omega)]; first | assumption | exact pt_self (by assumption) | (rw [pt_ne (by omega)]; assumption))) | (rw [pt_ne (by omega)]; first | assumption | exact pt_self (by first | assumption | exact pt_self (by assumption) | (rw [pt_ne (by omega)]; assumption)) | (rw [pt_ne (by omega)]; first | assumption | exact pt_self (by assumption) | (rw [pt_ne (by omega)]; assumption)))) | (rw [pt_ne (by omega)]; first | assumption | exact pt_self (by first | assumption | exact pt_self (by first | assumption | exact pt_self (by assumption) | (rw [pt_ne (by omega)]; assumption)) | (rw [pt_ne (by omega)]; first | assumption | exact pt_self (by assumption) | (rw [pt_ne (by omega)]; assumption))) | (rw [pt_ne (by omega)]; first | assumption | exact pt_self (by first | assumption | exact pt_self (by assumption) | (rw [pt_ne (by omega)]; assumption)) | (rw [pt_ne (by omega)]; first | assumption | exact pt_self (by assumption) | (rw [pt_ne (by omega)]; assumption))))) (by omega) (past_get hpe.1 hpe.2) ?_
  refine E_aload_n (pc' := 10) g89_9 rfl rfl ?_
  refine E_getR (pc' := 13) g89_10 f89_33 tg6_5 rfl (by first | assumption | exact pt_self (by first | assumption | exact pt_self (by first | assumption | exact pt_self (by first | assumption | exact pt_self (by assumption) | (rw [pt_ne (by omega)]; assumption)) | (rw [pt_ne (by omega)]; first | assumption | exact pt_self (by assumption) | (rw [pt_ne (by omega)]; assumption))) | (rw [pt_ne (by omega)]; first | assumption | exact pt_self (by first | assumption | exact pt_self (by assumption) | (rw [pt_ne (by omega)]; assumption)) | (rw [pt_ne (by omega)]; first | assumption | exact pt_self (by assumption) | (rw [pt_ne (by omega)]; assumption)))) | (rw [pt_ne (by omega)]; first | assumption | exact pt_self (by first | assumption | exact pt_self (by first | assumption | exact pt_self (by assumption) | (rw [pt_ne (by omega)]; assumption)) | (rw [pt_ne (by omega)]; first | assumption | exact pt_self (by assumption) | (rw [pt_ne (by omega)]; assumption))) | (rw [pt_ne (by omega)]; first | assumption | exact pt_self (by first | assumption | exact pt_self (by assumption) | (rw [pt_ne (by omega)]; assumption)) | (rw [pt_ne (by omega)]; first | assumption | exact pt_self (by assumption) | (rw [pt_ne (by omega)]; assumption))))) rfl ?_
  refine E_cV1v (pc' := 16) g89_13 k89_151 na15 rfl ow15 rfl (Nat.le_of_ble_eq_true rfl) (by first | assumption | exact pt_self (by first | assumption | exact pt_self (by first | assumption | exact pt_self (by first | assumption | exact pt_self (by assumption) | (rw [pt_ne (by omega)]; assumption)) | (rw [pt_ne (by omega)]; first | assumption | exact pt_self (by assumption) | (rw [pt_ne (by omega)]; assumption))) | (rw [pt_ne (by omega)]; first | assumption | exact pt_self (by first | assumption | exact pt_self (by assumption) | (rw [pt_ne (by omega)]; assumption)) | (rw [pt_ne (by omega)]; first | assumption | exact pt_self (by assumption) | (rw [pt_ne (by omega)]; assumption)))) | (rw [pt_ne (by omega)]; first | assumption | exact pt_self (by first | assumption | exact pt_self (by first | assumption | exact pt_self (by assumption) | (rw [pt_ne (by omega)]; assumption)) | (rw [pt_ne (by omega)]; first | assumption | exact pt_self (by assumption) | (rw [pt_ne (by omega)]; assumption))) | (rw [pt_ne (by omega)]; first | assumption | exact pt_self (by first | assumption | exact pt_self (by assumption) | (rw [pt_ne (by omega)]; assumption)) | (rw [pt_ne (by omega)]; first | assumption | exact pt_self (by assumption) | (rw [pt_ne (by omega)]; assumption))))) (C_become hpp hL0 (by omega)) (by decide) ?_
  refine E_aload_n (pc' := 17) g89_16 rfl rfl ?_
  refine E_aload_n (pc' := 18) g89_17 rfl rfl ?_
  refine E_getI (pc' := 21) g89_18 f89_148 tg6_8 (by decide) rfl (by first | assumption | exact pt_self (by first | assumption | exact pt_self (by first | assumption | exact pt_self (by first | assumption | exact pt_self (by assumption) | (rw [pt_ne (by omega)]; assumption)) | (rw [pt_ne (by omega)]; first | assumption | exact pt_self (by assumption) | (rw [pt_ne (by omega)]; assumption))) | (rw [pt_ne (by omega)]; first | assumption | exact pt_self (by first | assumption | exact pt_self (by assumption) | (rw [pt_ne (by omega)]; assumption)) | (rw [pt_ne (by omega)]; first | assumption | exact pt_self (by assumption) | (rw [pt_ne (by omega)]; assumption)))) | (rw [pt_ne (by omega)]; first | assumption | exact pt_self (by first | assumption | exact pt_self (by first | assumption | exact pt_self (by assumption) | (rw [pt_ne (by omega)]; assumption)) | (rw [pt_ne (by omega)]; first | assumption | exact pt_self (by assumption) | (rw [pt_ne (by omega)]; assumption))) | (rw [pt_ne (by omega)]; first | assumption | exact pt_self (by first | assumption | exact pt_self (by assumption) | (rw [pt_ne (by omega)]; assumption)) | (rw [pt_ne (by omega)]; first | assumption | exact pt_self (by assumption) | (rw [pt_ne (by omega)]; assumption))))) rfl ?_
  refine E_iconst (pc' := 22) g89_21 (by decide) rfl ?_
  refine E_iadd (pc' := 23) g89_22 (m_in_iff.mpr (by omega)) rfl ?_
  refine E_bipush (pc' := 25) g89_23 (by decide) rfl ?_
  refine E_irem (pc' := 26) g89_25 (by omega) rfl ?_
  refine E_putf (pc' := 29) g89_26 f89_148 tg6_8 fn6_8 rfl rfl (by first | assumption | exact pt_self (by first | assumption | exact pt_self (by first | assumption | exact pt_self (by first | assumption | exact pt_self (by assumption) | (rw [pt_ne (by omega)]; assumption)) | (rw [pt_ne (by omega)]; first | assumption | exact pt_self (by assumption) | (rw [pt_ne (by omega)]; assumption))) | (rw [pt_ne (by omega)]; first | assumption | exact pt_self (by first | assumption | exact pt_self (by assumption) | (rw [pt_ne (by omega)]; assumption)) | (rw [pt_ne (by omega)]; first | assumption | exact pt_self (by assumption) | (rw [pt_ne (by omega)]; assumption)))) | (rw [pt_ne (by omega)]; first | assumption | exact pt_self (by first | assumption | exact pt_self (by first | assumption | exact pt_self (by assumption) | (rw [pt_ne (by omega)]; assumption)) | (rw [pt_ne (by omega)]; first | assumption | exact pt_self (by assumption) | (rw [pt_ne (by omega)]; assumption))) | (rw [pt_ne (by omega)]; first | assumption | exact pt_self (by first | assumption | exact pt_self (by assumption) | (rw [pt_ne (by omega)]; assumption)) | (rw [pt_ne (by omega)]; first | assumption | exact pt_self (by assumption) | (rw [pt_ne (by omega)]; assumption))))) (Nat.le_of_ble_eq_true rfl) ?_
  refine E_aload_n (pc' := 30) g89_29 rfl rfl ?_
  refine E_aload_n (pc' := 31) g89_30 rfl rfl ?_
  refine E_getI (pc' := 34) g89_31 f89_93 tg6_9 (by decide) rfl (by first | assumption | exact pt_self (by first | assumption | exact pt_self (by first | assumption | exact pt_self (by first | assumption | exact pt_self (by assumption) | (rw [pt_ne (by omega)]; assumption)) | (rw [pt_ne (by omega)]; first | assumption | exact pt_self (by assumption) | (rw [pt_ne (by omega)]; assumption))) | (rw [pt_ne (by omega)]; first | assumption | exact pt_self (by first | assumption | exact pt_self (by assumption) | (rw [pt_ne (by omega)]; assumption)) | (rw [pt_ne (by omega)]; first | assumption | exact pt_self (by assumption) | (rw [pt_ne (by omega)]; assumption)))) | (rw [pt_ne (by omega)]; first | assumption | exact pt_self (by first | assumption | exact pt_self (by first | assumption | exact pt_self (by assumption) | (rw [pt_ne (by omega)]; assumption)) | (rw [pt_ne (by omega)]; first | assumption | exact pt_self (by assumption) | (rw [pt_ne (by omega)]; assumption))) | (rw [pt_ne (by omega)]; first | assumption | exact pt_self (by first | assumption | exact pt_self (by assumption) | (rw [pt_ne (by omega)]; assumption)) | (rw [pt_ne (by omega)]; first | assumption | exact pt_self (by assumption) | (rw [pt_ne (by omega)]; assumption))))) rfl ?_
  refine E_iconst (pc' := 35) g89_34 (by decide) rfl ?_
  refine E_iadd (pc' := 36) g89_35 (m_in_iff.mpr (by omega)) rfl ?_
  refine E_bipush (pc' := 38) g89_36 (by decide) rfl ?_
  refine E_min (pc' := 41) g89_38 k89_253 rfl (Nat.le_of_ble_eq_true rfl) ?_
  refine E_putf (pc' := 44) g89_41 f89_93 tg6_9 fn6_9 rfl rfl (by first | assumption | exact pt_self (by first | assumption | exact pt_self (by first | assumption | exact pt_self (by first | assumption | exact pt_self (by assumption) | (rw [pt_ne (by omega)]; assumption)) | (rw [pt_ne (by omega)]; first | assumption | exact pt_self (by assumption) | (rw [pt_ne (by omega)]; assumption))) | (rw [pt_ne (by omega)]; first | assumption | exact pt_self (by first | assumption | exact pt_self (by assumption) | (rw [pt_ne (by omega)]; assumption)) | (rw [pt_ne (by omega)]; first | assumption | exact pt_self (by assumption) | (rw [pt_ne (by omega)]; assumption)))) | (rw [pt_ne (by omega)]; first | assumption | exact pt_self (by first | assumption | exact pt_self (by first | assumption | exact pt_self (by assumption) | (rw [pt_ne (by omega)]; assumption)) | (rw [pt_ne (by omega)]; first | assumption | exact pt_self (by assumption) | (rw [pt_ne (by omega)]; assumption))) | (rw [pt_ne (by omega)]; first | assumption | exact pt_self (by first | assumption | exact pt_self (by assumption) | (rw [pt_ne (by omega)]; assumption)) | (rw [pt_ne (by omega)]; first | assumption | exact pt_self (by assumption) | (rw [pt_ne (by omega)]; assumption))))) (Nat.le_of_ble_eq_true rfl) ?_
  exact E_ret g89_44 rt89 rfl (by rw [pt_pt]; rfl)
theorem C_type_no (hR : isRoot H le ta tb pe un) (hT : isTold H ta kd wd ht rm mo sd bo ed hu sk hv) (hL : isLay H 13 bl sl) {x r : Int} (hr : (¬ (0 ≤ x ∧ x ≤ 255) → r = -1) ∧ ((0 ≤ x ∧ x ≤ 255) → r = -3)) (hno : ¬ (0 ≤ x ∧ x ≤ 255) ∨ 120 ≤ le) : Call 0 55 [mR 0, mI x] H (mI r) H := by
  have hT0 := hT
  have hL0 := hL
  have hR0 : H[0]? = _ := hR
  obtain ⟨t0, t1, t2, t3, t4, ⟨r1, r2, r3, r4, r5, r6, r7, b1, b2, b3, b4, n1, n2, n3, n4⟩⟩ := hT
  obtain ⟨h0, h1, h2, l1, l2, ob, ok⟩ := hL
  have hw := wh_bd r2.1 r2.2 r3.1 r3.2
  refine Call_of rfl ?_
  refine E_iload_n (pc' := 1) g55_0 rfl rfl ?_
  refine E_iflt (pc' := 4) (pt := 11) g55_1 rfl rfl (fun c0 => ?_) (fun c0 => ?_)
  · first
    | (exfalso; omega)
    | (refine E_iconst (pc' := 12) g55_11 (by decide) rfl ?_
       exact E_iret g55_12 ro55 (congrArg mI (by first | (have q := hr.1 (by omega); first | exact q | omega) | (have q := hr.2 (by omega); first | exact q | omega))) rfl)
  · first
    | (exfalso; omega)
    | (refine E_iload_n (pc' := 5) g55_4 rfl rfl ?_
       refine E_sipush (pc' := 8) g55_5 (by decide) rfl ?_
       refine E_icle (pc' := 11) (pt := 13) g55_8 rfl rfl (fun c1 => ?_) (fun c1 => ?_)
       · first
         | (exfalso; omega)
         | (refine E_aload_n (pc' := 14) g55_13 rfl rfl ?_
            refine E_getI (pc' := 17) g55_14 f55_79 tg6_1 (by decide) rfl (by assumption) rfl ?_
            refine E_bipush (pc' := 19) g55_17 (by decide) rfl ?_
            refine E_iclt (pc' := 22) (pt := 25) g55_19 rfl rfl (fun c2 => ?_) (fun c2 => ?_)
            · first
              | (exfalso; omega)
              | (exfalso; omega)
            · first
              | (exfalso; omega)
              | (refine E_bipush (pc' := 24) g55_22 (by decide) rfl ?_
                 exact E_iret g55_24 ro55 (congrArg mI (by first | (have q := hr.1 (by omega); first | exact q | omega) | (have q := hr.2 (by omega); first | exact q | omega))) rfl))
       · first
         | (exfalso; omega)
         | (refine E_iconst (pc' := 12) g55_11 (by decide) rfl ?_
            exact E_iret g55_12 ro55 (congrArg mI (by first | (have q := hr.1 (by omega); first | exact q | omega) | (have q := hr.2 (by omega); first | exact q | omega))) rfl))
theorem C_type (hR : isRoot H le ta tb pe un) (hT : isTold H ta kd wd ht rm mo sd bo ed hu sk hv) (hL : isLay H 13 bl sl) {x : Int} (hx : 0 ≤ x ∧ x ≤ 255) (hle : 0 ≤ le ∧ le < 120) (htx : H[1]? = some (8, tx)) (hl : tx.length = 120) : Call 0 55 [mR 0, mI x] H (mI (le + 1)) (pt (pt H 1 (up tx le x)) 0 (rootL (le + 1) ta tb pe un)) := by
  have hT0 := hT
  have hL0 := hL
  have hR0 : H[0]? = _ := hR
  obtain ⟨t0, t1, t2, t3, t4, ⟨r1, r2, r3, r4, r5, r6, r7, b1, b2, b3, b4, n1, n2, n3, n4⟩⟩ := hT
  obtain ⟨h0, h1, h2, l1, l2, ob, ok⟩ := hL
  have hw := wh_bd r2.1 r2.2 r3.1 r3.2
  refine Call_of rfl ?_
  refine E_iload_n (pc' := 1) g55_0 rfl rfl ?_
  refine E_iflt (pc' := 4) (pt := 11) g55_1 rfl rfl (fun c0 => ?_) (fun c0 => ?_)
  · exact absurd c0 (by omega)
  · refine E_iload_n (pc' := 5) g55_4 rfl rfl ?_
    refine E_sipush (pc' := 8) g55_5 (by decide) rfl ?_
    refine E_icle (pc' := 11) (pt := 13) g55_8 rfl rfl (fun c1 => ?_) (fun c1 => ?_)
    · refine E_aload_n (pc' := 14) g55_13 rfl rfl ?_
      refine E_getI (pc' := 17) g55_14 f55_79 tg6_1 (by decide) rfl (by first | assumption | exact pt_self (by first | assumption | exact pt_self (by first | assumption | exact pt_self (by assumption) | (rw [pt_ne (by omega)]; assumption)) | (rw [pt_ne (by omega)]; first | assumption | exact pt_self (by assumption) | (rw [pt_ne (by omega)]; assumption))) | (rw [pt_ne (by omega)]; first | assumption | exact pt_self (by first | assumption | exact pt_self (by assumption) | (rw [pt_ne (by omega)]; assumption)) | (rw [pt_ne (by omega)]; first | assumption | exact pt_self (by assumption) | (rw [pt_ne (by omega)]; assumption)))) rfl ?_
      refine E_bipush (pc' := 19) g55_17 (by decide) rfl ?_
      refine E_iclt (pc' := 22) (pt := 25) g55_19 rfl rfl (fun c2 => ?_) (fun c2 => ?_)
      · refine E_aload_n (pc' := 26) g55_25 rfl rfl ?_
        refine E_getR (pc' := 29) g55_26 f55_9 tg6_0 rfl (by first | assumption | exact pt_self (by first | assumption | exact pt_self (by first | assumption | exact pt_self (by assumption) | (rw [pt_ne (by omega)]; assumption)) | (rw [pt_ne (by omega)]; first | assumption | exact pt_self (by assumption) | (rw [pt_ne (by omega)]; assumption))) | (rw [pt_ne (by omega)]; first | assumption | exact pt_self (by first | assumption | exact pt_self (by assumption) | (rw [pt_ne (by omega)]; assumption)) | (rw [pt_ne (by omega)]; first | assumption | exact pt_self (by assumption) | (rw [pt_ne (by omega)]; assumption)))) rfl ?_
        refine E_aload_n (pc' := 30) g55_29 rfl rfl ?_
        refine E_getI (pc' := 33) g55_30 f55_79 tg6_1 (by decide) rfl (by first | assumption | exact pt_self (by first | assumption | exact pt_self (by first | assumption | exact pt_self (by assumption) | (rw [pt_ne (by omega)]; assumption)) | (rw [pt_ne (by omega)]; first | assumption | exact pt_self (by assumption) | (rw [pt_ne (by omega)]; assumption))) | (rw [pt_ne (by omega)]; first | assumption | exact pt_self (by first | assumption | exact pt_self (by assumption) | (rw [pt_ne (by omega)]; assumption)) | (rw [pt_ne (by omega)]; first | assumption | exact pt_self (by assumption) | (rw [pt_ne (by omega)]; assumption)))) rfl ?_
        refine E_iload_n (pc' := 34) g55_33 rfl rfl ?_
        refine E_iastore (pc' := 35) g55_34 rfl (by first | assumption | exact pt_self (by first | assumption | exact pt_self (by first | assumption | exact pt_self (by assumption) | (rw [pt_ne (by omega)]; assumption)) | (rw [pt_ne (by omega)]; first | assumption | exact pt_self (by assumption) | (rw [pt_ne (by omega)]; assumption))) | (rw [pt_ne (by omega)]; first | assumption | exact pt_self (by first | assumption | exact pt_self (by assumption) | (rw [pt_ne (by omega)]; assumption)) | (rw [pt_ne (by omega)]; first | assumption | exact pt_self (by assumption) | (rw [pt_ne (by omega)]; assumption)))) (by omega) (by omega) ?_
        refine E_aload_n (pc' := 36) g55_35 rfl rfl ?_
        refine E_dup (pc' := 37) g55_36 rfl ?_
        refine E_getI (pc' := 40) g55_37 f55_79 tg6_1 (by decide) rfl (by first | assumption | exact pt_self (by first | assumption | exact pt_self (by first | assumption | exact pt_self (by assumption) | (rw [pt_ne (by omega)]; assumption)) | (rw [pt_ne (by omega)]; first | assumption | exact pt_self (by assumption) | (rw [pt_ne (by omega)]; assumption))) | (rw [pt_ne (by omega)]; first | assumption | exact pt_self (by first | assumption | exact pt_self (by assumption) | (rw [pt_ne (by omega)]; assumption)) | (rw [pt_ne (by omega)]; first | assumption | exact pt_self (by assumption) | (rw [pt_ne (by omega)]; assumption)))) rfl ?_
        refine E_iconst (pc' := 41) g55_40 (by decide) rfl ?_
        refine E_iadd (pc' := 42) g55_41 (m_in_iff.mpr (by omega)) rfl ?_
        refine E_putf (pc' := 45) g55_42 f55_79 tg6_1 fn6_1 rfl rfl (by first | assumption | exact pt_self (by first | assumption | exact pt_self (by first | assumption | exact pt_self (by assumption) | (rw [pt_ne (by omega)]; assumption)) | (rw [pt_ne (by omega)]; first | assumption | exact pt_self (by assumption) | (rw [pt_ne (by omega)]; assumption))) | (rw [pt_ne (by omega)]; first | assumption | exact pt_self (by first | assumption | exact pt_self (by assumption) | (rw [pt_ne (by omega)]; assumption)) | (rw [pt_ne (by omega)]; first | assumption | exact pt_self (by assumption) | (rw [pt_ne (by omega)]; assumption)))) (Nat.le_of_ble_eq_true rfl) ?_
        refine E_aload_n (pc' := 46) g55_45 rfl rfl ?_
        refine E_getI (pc' := 49) g55_46 f55_79 tg6_1 (by decide) rfl (by first | assumption | exact pt_self (by first | assumption | exact pt_self (by first | assumption | exact pt_self (by assumption) | (rw [pt_ne (by omega)]; assumption)) | (rw [pt_ne (by omega)]; first | assumption | exact pt_self (by assumption) | (rw [pt_ne (by omega)]; assumption))) | (rw [pt_ne (by omega)]; first | assumption | exact pt_self (by first | assumption | exact pt_self (by assumption) | (rw [pt_ne (by omega)]; assumption)) | (rw [pt_ne (by omega)]; first | assumption | exact pt_self (by assumption) | (rw [pt_ne (by omega)]; assumption)))) rfl ?_
        exact E_iret g55_49 ro55 rfl rfl
      · exact absurd c2 (by omega)
    · exact absurd c1 (by omega)
theorem C_clear (hR : isRoot H le ta tb pe un) (hT : isTold H ta kd wd ht rm mo sd bo ed hu sk hv) (hL : isLay H 13 bl sl) : Call 0 56 [mR 0] H (mI le) (pt H 0 (rootL 0 ta tb pe un)) := by
  have hT0 := hT
  have hL0 := hL
  have hR0 : H[0]? = _ := hR
  obtain ⟨t0, t1, t2, t3, t4, ⟨r1, r2, r3, r4, r5, r6, r7, b1, b2, b3, b4, n1, n2, n3, n4⟩⟩ := hT
  obtain ⟨h0, h1, h2, l1, l2, ob, ok⟩ := hL
  have hw := wh_bd r2.1 r2.2 r3.1 r3.2
  refine Call_of rfl ?_
  refine E_aload_n (pc' := 1) g56_0 rfl rfl ?_
  refine E_getI (pc' := 4) g56_1 f56_79 tg6_1 (by decide) rfl (by first | assumption | exact pt_self (by first | assumption | exact pt_self (by first | assumption | exact pt_self (by assumption) | (rw [pt_ne (by omega)]; assumption)) | (rw [pt_ne (by omega)]; first | assumption | exact pt_self (by assumption) | (rw [pt_ne (by omega)]; assumption))) | (rw [pt_ne (by omega)]; first | assumption | exact pt_self (by first | assumption | exact pt_self (by assumption) | (rw [pt_ne (by omega)]; assumption)) | (rw [pt_ne (by omega)]; first | assumption | exact pt_self (by assumption) | (rw [pt_ne (by omega)]; assumption)))) rfl ?_
  refine E_st1 (pc' := 5) g56_4 rfl ?_
  refine E_aload_n (pc' := 6) g56_5 rfl rfl ?_
  refine E_iconst (pc' := 7) g56_6 (by decide) rfl ?_
  refine E_putf (pc' := 10) g56_7 f56_79 tg6_1 fn6_1 rfl rfl (by first | assumption | exact pt_self (by first | assumption | exact pt_self (by first | assumption | exact pt_self (by assumption) | (rw [pt_ne (by omega)]; assumption)) | (rw [pt_ne (by omega)]; first | assumption | exact pt_self (by assumption) | (rw [pt_ne (by omega)]; assumption))) | (rw [pt_ne (by omega)]; first | assumption | exact pt_self (by first | assumption | exact pt_self (by assumption) | (rw [pt_ne (by omega)]; assumption)) | (rw [pt_ne (by omega)]; first | assumption | exact pt_self (by assumption) | (rw [pt_ne (by omega)]; assumption)))) (Nat.le_of_ble_eq_true rfl) ?_
  refine E_iload_n (pc' := 11) g56_10 rfl rfl ?_
  exact E_iret g56_11 ro56 rfl rfl
theorem C_kind (hR : isRoot H le ta tb pe un) (hT : isTold H ta kd wd ht rm mo sd bo ed hu sk hv) (hL : isLay H 13 bl sl) {k x r : Int} (hr : (¬ (0 ≤ k ∧ k < kd ∧ 0 ≤ x ∧ x ≤ 6) → r = -1) ∧ ((0 ≤ k ∧ k < kd ∧ 0 ≤ x ∧ x ≤ 3) → r = eo ed (k * 4) x) ∧ ((0 ≤ k ∧ k < kd ∧ x = 4) → r = ix hu k) ∧ ((0 ≤ k ∧ k < kd ∧ x = 5) → r = ix sl k) ∧ ((0 ≤ k ∧ k < kd ∧ x = 6) → r = ix sl k - nK bl k 6 + 100)) : Call 1 58 [mR 0, mI k, mI x] H (mI r) H := by
  have hT0 := hT
  have hL0 := hL
  have hR0 : H[0]? = _ := hR
  obtain ⟨t0, t1, t2, t3, t4, ⟨r1, r2, r3, r4, r5, r6, r7, b1, b2, b3, b4, n1, n2, n3, n4⟩⟩ := hT
  obtain ⟨h0, h1, h2, l1, l2, ob, ok⟩ := hL
  have hw := wh_bd r2.1 r2.2 r3.1 r3.2
  have e1 := inI_or k 0 kd
  have okk := ok k
  have hnk : 0 ≤ nK bl k 6 ∧ nK bl k 6 ≤ 6 := cn_bd _ 6
  refine Call_of rfl ?_
  refine E_aload_n (pc' := 1) g58_0 rfl rfl ?_
  refine E_iload_n (pc' := 2) g58_1 rfl rfl ?_
  refine E_cV1i (pc' := 5) g58_2 k58_99 na81 rfl ow81 rfl (Nat.le_of_ble_eq_true rfl) (by assumption) (C_isKind hR hT0 hL0) (by decide) ?_
  refine E_ifeq (pc' := 8) (pt := 18) g58_5 rfl rfl (fun c0 => ?_) (fun c0 => ?_)
  · first
    | (exfalso; omega)
    | (refine E_iconst (pc' := 19) g58_18 (by decide) rfl ?_
       exact E_iret g58_19 ro58 (congrArg mI (by first | (have q := hr.1 (by omega); first | exact q | omega) | (have q := hr.2.1 (by omega); first | exact q | omega) | (have q := hr.2.2.1 (by omega); first | exact q | omega) | (have q := hr.2.2.2.1 (by omega); first | exact q | omega) | (have q := hr.2.2.2.2 (by omega); first | exact q | omega))) rfl)
  · first
    | (exfalso; omega)
    | (refine E_iload_n (pc' := 9) g58_8 rfl rfl ?_
       refine E_iflt (pc' := 12) (pt := 18) g58_9 rfl rfl (fun c1 => ?_) (fun c1 => ?_)
       · first
         | (exfalso; omega)
         | (refine E_iconst (pc' := 19) g58_18 (by decide) rfl ?_
            exact E_iret g58_19 ro58 (congrArg mI (by first | (have q := hr.1 (by omega); first | exact q | omega) | (have q := hr.2.1 (by omega); first | exact q | omega) | (have q := hr.2.2.1 (by omega); first | exact q | omega) | (have q := hr.2.2.2.1 (by omega); first | exact q | omega) | (have q := hr.2.2.2.2 (by omega); first | exact q | omega))) rfl)
       · first
         | (exfalso; omega)
         | (refine E_iload_n (pc' := 13) g58_12 rfl rfl ?_
            refine E_bipush (pc' := 15) g58_13 (by decide) rfl ?_
            refine E_icle (pc' := 18) (pt := 20) g58_15 rfl rfl (fun c2 => ?_) (fun c2 => ?_)
            · first
              | (exfalso; omega)
              | (refine E_iload_n (pc' := 21) g58_20 rfl rfl ?_
                 by_cases e0 : x = 4
                 · refine E_table (pt := 48) g58_21 (by rw [e0]; rfl) ?_
                   refine E_aload_n (pc' := 49) g58_48 rfl rfl ?_
                   refine E_getR (pc' := 52) g58_49 f58_23 tg6_3 rfl (by assumption) rfl ?_
                   refine E_getR (pc' := 55) g58_52 f58_103 tg4_8 rfl (by assumption) rfl ?_
                   refine E_iload_n (pc' := 56) g58_55 rfl rfl ?_
                   refine E_iaload (pc' := 57) g58_56 rfl (by assumption) (by omega) (by omega) ?_
                   exact E_iret g58_57 ro58 (congrArg mI (by first | (have q := hr.1 (by omega); first | exact q | omega) | (have q := hr.2.1 (by omega); first | exact q | omega) | (have q := hr.2.2.1 (by omega); first | exact q | omega) | (have q := hr.2.2.2.1 (by omega); first | exact q | omega) | (have q := hr.2.2.2.2 (by omega); first | exact q | omega))) rfl
                 by_cases e1 : x = 5
                 · refine E_table (pt := 58) g58_21 (by rw [e1]; rfl) ?_
                   refine E_aload_n (pc' := 59) g58_58 rfl rfl ?_
                   refine E_getR (pc' := 62) g58_59 f58_33 tg6_5 rfl (by assumption) rfl ?_
                   refine E_getR (pc' := 65) g58_62 f58_106 tg2_1 rfl (by assumption) rfl ?_
                   refine E_iload_n (pc' := 66) g58_65 rfl rfl ?_
                   refine E_iaload (pc' := 67) g58_66 rfl (by assumption) (by omega) (by omega) ?_
                   exact E_iret g58_67 ro58 (congrArg mI (by first | (have q := hr.1 (by omega); first | exact q | omega) | (have q := hr.2.1 (by omega); first | exact q | omega) | (have q := hr.2.2.1 (by omega); first | exact q | omega) | (have q := hr.2.2.2.1 (by omega); first | exact q | omega) | (have q := hr.2.2.2.2 (by omega); first | exact q | omega))) rfl
                 by_cases e2 : x = 6
                 · refine E_table (pt := 68) g58_21 (by rw [e2]; rfl) ?_
                   refine E_aload_n (pc' := 69) g58_68 rfl rfl ?_
                   refine E_getR (pc' := 72) g58_69 f58_33 tg6_5 rfl (by assumption) rfl ?_
                   refine E_iload_n (pc' := 73) g58_72 rfl rfl ?_
                   refine E_cV1i (pc' := 76) g58_73 k58_109 na18 rfl ow18 rfl (Nat.le_of_ble_eq_true rfl) (by assumption) (C_leftOf hL0 (by omega)) (by decide) ?_
                   refine E_bipush (pc' := 78) g58_76 (by decide) rfl ?_
                   refine E_iadd (pc' := 79) g58_78 (m_in_iff.mpr (by omega)) rfl ?_
                   exact E_iret g58_79 ro58 (congrArg mI (by first | (have q := hr.1 (by omega); first | exact q | omega) | (have q := hr.2.1 (by omega); first | exact q | omega) | (have q := hr.2.2.1 (by omega); first | exact q | omega) | (have q := hr.2.2.2.1 (by omega); first | exact q | omega) | (have q := hr.2.2.2.2 (by omega); first | exact q | omega))) rfl
                 refine E_table (pt := 80) g58_21 (by rw [if_pos (by omega)]; rfl) ?_
                 refine E_aload_n (pc' := 81) g58_80 rfl rfl ?_
                 refine E_getR (pc' := 84) g58_81 f58_23 tg6_3 rfl (by assumption) rfl ?_
                 refine E_iload_n (pc' := 85) g58_84 rfl rfl ?_
                 refine E_iconst (pc' := 86) g58_85 (by decide) rfl ?_
                 refine E_imul (pc' := 87) g58_86 (m_in_iff.mpr (by omega)) rfl ?_
                 refine E_iload_n (pc' := 88) g58_87 rfl rfl ?_
                 refine E_cV2i (pc' := 91) g58_88 k58_113 na37 rfl ow37 rfl (Nat.le_of_ble_eq_true rfl) (by assumption) (C_edgeOf hT0) (by decide) ?_
                 exact E_iret g58_91 ro58 (congrArg mI (by first | (have q := hr.1 (by omega); first | exact q | omega) | (have q := hr.2.1 (by omega); first | exact q | omega) | (have q := hr.2.2.1 (by omega); first | exact q | omega) | (have q := hr.2.2.2.1 (by omega); first | exact q | omega) | (have q := hr.2.2.2.2 (by omega); first | exact q | omega))) rfl)
            · first
              | (exfalso; omega)
              | (refine E_iconst (pc' := 19) g58_18 (by decide) rfl ?_
                 exact E_iret g58_19 ro58 (congrArg mI (by first | (have q := hr.1 (by omega); first | exact q | omega) | (have q := hr.2.1 (by omega); first | exact q | omega) | (have q := hr.2.2.1 (by omega); first | exact q | omega) | (have q := hr.2.2.2.1 (by omega); first | exact q | omega) | (have q := hr.2.2.2.2 (by omega); first | exact q | omega))) rfl)))
theorem C_block (hR : isRoot H le ta tb pe un) (hT : isTold H ta kd wd ht rm mo sd bo ed hu sk hv) (hL : isLay H 13 bl sl) {b x r : Int} (hr : (¬ (0 ≤ b ∧ b < kd * 4 ∧ 0 ≤ x ∧ x ≤ 4) → r = -1) ∧ ((0 ≤ b ∧ b < kd * 4 ∧ 0 ≤ x ∧ x ≤ 3) → r = eo ed b x) ∧ ((0 ≤ b ∧ b < kd * 4 ∧ x = 4) → r = b01 (plB ed b))) : Call 3 59 [mR 0, mI b, mI x] H (mI r) H := by
  have hT0 := hT
  have hL0 := hL
  have hR0 : H[0]? = _ := hR
  obtain ⟨t0, t1, t2, t3, t4, ⟨r1, r2, r3, r4, r5, r6, r7, b1, b2, b3, b4, n1, n2, n3, n4⟩⟩ := hT
  obtain ⟨h0, h1, h2, l1, l2, ob, ok⟩ := hL
  have hw := wh_bd r2.1 r2.2 r3.1 r3.2
  have e1 := inI_or b 0 (kd * 4)
  refine Call_of rfl ?_
  refine E_aload_n (pc' := 1) g59_0 rfl rfl ?_
  refine E_iload_n (pc' := 2) g59_1 rfl rfl ?_
  refine E_cV1i (pc' := 5) g59_2 k59_117 na82 rfl ow82 rfl (Nat.le_of_ble_eq_true rfl) (by assumption) (C_isBlock hR hT0 hL0) (by decide) ?_
  refine E_ifeq (pc' := 8) (pt := 17) g59_5 rfl rfl (fun c0 => ?_) (fun c0 => ?_)
  · first
    | (exfalso; omega)
    | (refine E_iconst (pc' := 18) g59_17 (by decide) rfl ?_
       exact E_iret g59_18 ro59 (congrArg mI (by first | (have q := hr.1 (by omega); first | exact q | omega) | (have q := hr.2.1 (by omega); first | exact q | omega) | (have q := hr.2.2 (by omega); first | exact q | omega))) rfl)
  · first
    | (exfalso; omega)
    | (refine E_iload_n (pc' := 9) g59_8 rfl rfl ?_
       refine E_iflt (pc' := 12) (pt := 17) g59_9 rfl rfl (fun c1 => ?_) (fun c1 => ?_)
       · first
         | (exfalso; omega)
         | (refine E_iconst (pc' := 18) g59_17 (by decide) rfl ?_
            exact E_iret g59_18 ro59 (congrArg mI (by first | (have q := hr.1 (by omega); first | exact q | omega) | (have q := hr.2.1 (by omega); first | exact q | omega) | (have q := hr.2.2 (by omega); first | exact q | omega))) rfl)
       · first
         | (exfalso; omega)
         | (refine E_iload_n (pc' := 13) g59_12 rfl rfl ?_
            refine E_iconst (pc' := 14) g59_13 (by decide) rfl ?_
            refine E_icle (pc' := 17) (pt := 19) g59_14 rfl rfl (fun c2 => ?_) (fun c2 => ?_)
            · first
              | (exfalso; omega)
              | (refine E_iload_n (pc' := 20) g59_19 rfl rfl ?_
                 refine E_iconst (pc' := 21) g59_20 (by decide) rfl ?_
                 refine E_icne (pc' := 24) (pt := 41) g59_21 rfl rfl (fun c3 => ?_) (fun c3 => ?_)
                 · first
                   | (exfalso; omega)
                   | (refine E_aload_n (pc' := 42) g59_41 rfl rfl ?_
                      refine E_getR (pc' := 45) g59_42 f59_23 tg6_3 rfl (by assumption) rfl ?_
                      refine E_iload_n (pc' := 46) g59_45 rfl rfl ?_
                      refine E_iload_n (pc' := 47) g59_46 rfl rfl ?_
                      refine E_cV2i (pc' := 50) g59_47 k59_113 na37 rfl ow37 rfl (Nat.le_of_ble_eq_true rfl) (by assumption) (C_edgeOf hT0) (by decide) ?_
                      exact E_iret g59_50 ro59 (congrArg mI (by first | (have q := hr.1 (by omega); first | exact q | omega) | (have q := hr.2.1 (by omega); first | exact q | omega) | (have q := hr.2.2 (by omega); first | exact q | omega))) rfl)
                 · first
                   | (exfalso; omega)
                   | (refine E_aload_n (pc' := 25) g59_24 rfl rfl ?_
                      refine E_getR (pc' := 28) g59_25 f59_23 tg6_3 rfl (by assumption) rfl ?_
                      refine E_iload_n (pc' := 29) g59_28 rfl rfl ?_
                      refine E_cV1i (pc' := 32) g59_29 k59_120 na38 rfl ow38 rfl (Nat.le_of_ble_eq_true rfl) (by assumption) (C_plain hT0 (by omega)) (by decide) ?_
                      have e2 := b01_in (plB ed b)
                      refine E_ifeq (pc' := 35) (pt := 39) g59_32 rfl rfl (fun c4 => ?_) (fun c4 => ?_)
                      · first
                        | (exfalso; omega)
                        | (refine E_iconst (pc' := 40) g59_39 (by decide) rfl ?_
                           exact E_iret g59_40 ro59 (congrArg mI (by first | (have q := hr.1 (by omega); first | exact q | omega) | (have q := hr.2.1 (by omega); first | exact q | omega) | (have q := hr.2.2 (by omega); first | exact q | omega))) rfl)
                      · first
                        | (exfalso; omega)
                        | (refine E_iconst (pc' := 36) g59_35 (by decide) rfl ?_
                           refine E_goto (pc' := 40) g59_36 rfl ?_
                           exact E_iret g59_40 ro59 (congrArg mI (by first | (have q := hr.1 (by omega); first | exact q | omega) | (have q := hr.2.1 (by omega); first | exact q | omega) | (have q := hr.2.2 (by omega); first | exact q | omega))) rfl)))
            · first
              | (exfalso; omega)
              | (refine E_iconst (pc' := 18) g59_17 (by decide) rfl ?_
                 exact E_iret g59_18 ro59 (congrArg mI (by first | (have q := hr.1 (by omega); first | exact q | omega) | (have q := hr.2.1 (by omega); first | exact q | omega) | (have q := hr.2.2 (by omega); first | exact q | omega))) rfl)))
theorem C_square (hR : isRoot H le ta tb pe un) (hT : isTold H ta kd wd ht rm mo sd bo ed hu sk hv) (hL : isLay H 13 bl sl) {s r : Int} (hr : (¬ (0 ≤ s ∧ s < wd * ht) → r = -1) ∧ ((0 ≤ s ∧ s < wd * ht) → r = ix bl s)) : Call 3 65 [mR 0, mI s] H (mI r) H := by
  have hT0 := hT
  have hL0 := hL
  have hR0 : H[0]? = _ := hR
  obtain ⟨t0, t1, t2, t3, t4, ⟨r1, r2, r3, r4, r5, r6, r7, b1, b2, b3, b4, n1, n2, n3, n4⟩⟩ := hT
  obtain ⟨h0, h1, h2, l1, l2, ob, ok⟩ := hL
  have hw := wh_bd r2.1 r2.2 r3.1 r3.2
  have e1 := inI_or s 0 (wd * ht)
  refine Call_of rfl ?_
  refine E_aload_n (pc' := 1) g65_0 rfl rfl ?_
  refine E_iload_n (pc' := 2) g65_1 rfl rfl ?_
  refine E_cV1i (pc' := 5) g65_2 k65_123 na83 rfl ow83 rfl (Nat.le_of_ble_eq_true rfl) (by assumption) (C_isSquare hR hT0 hL0) (by decide) ?_
  refine E_ifne (pc' := 8) (pt := 10) g65_5 rfl rfl (fun c0 => ?_) (fun c0 => ?_)
  · first
    | (exfalso; omega)
    | (refine E_aload_n (pc' := 11) g65_10 rfl rfl ?_
       refine E_getR (pc' := 14) g65_11 f65_33 tg6_5 rfl (by assumption) rfl ?_
       refine E_getR (pc' := 17) g65_14 f65_135 tg2_0 rfl (by assumption) rfl ?_
       refine E_iload_n (pc' := 18) g65_17 rfl rfl ?_
       refine E_iaload (pc' := 19) g65_18 rfl (by assumption) (by omega) (by omega) ?_
       exact E_iret g65_19 ro65 (congrArg mI (by first | (have q := hr.1 (by omega); first | exact q | omega) | (have q := hr.2 (by omega); first | exact q | omega))) rfl)
  · first
    | (exfalso; omega)
    | (refine E_iconst (pc' := 9) g65_8 (by decide) rfl ?_
       exact E_iret g65_9 ro65 (congrArg mI (by first | (have q := hr.1 (by omega); first | exact q | omega) | (have q := hr.2 (by omega); first | exact q | omega))) rfl)
end QC
