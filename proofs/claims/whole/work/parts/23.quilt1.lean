/-! QuiltPatches: what the calls share -/
def isRoot (H : mH) (le : Int) (ta tb : Nat) (pe un : Int) : Prop := H[0]? = some (6, [((1 : Nat) : Int), le, ((2 : Nat) : Int), ((ta : Nat) : Int), ((tb : Nat) : Int), ((13 : Nat) : Int), ((16 : Nat) : Int), ((19 : Nat) : Int), pe, un, ((20 : Nat) : Int), ((21 : Nat) : Int), ((22 : Nat) : Int), ((24 : Nat) : Int), ((31 : Nat) : Int), ((37 : Nat) : Int)])
theorem al_no {p : Nat → Bool} {n i : Nat} (hi : i < n) (h : p i = false) : al p n = false := by
  cases q : al p n with
  | false => rfl
  | true => rw [al_iff.mp q i hi] at h; cases h
section QP
variable {H : mH} {ta tb : Nat} {le pe un : Int} {bl sl : List Int} {kd wd ht rm mo sd bo : Int} {ed hu sk hv : List Int}
def inI (x lo hi : Int) : Int := if lo ≤ x ∧ x < hi then 1 else 0
theorem C_isKind (hR : isRoot H le ta tb pe un) (hT : isTold H ta kd wd ht rm mo sd bo ed hu sk hv) (hL : isLay H 13 bl sl) {k : Int} : Call 0 81 [mR 0, mI k] H (mI (inI k 0 kd)) H := by
  have hT0 := hT
  have hL0 := hL
  have hR0 : H[0]? = _ := hR
  obtain ⟨t0, t1, t2, t3, t4, ⟨r1, r2, r3, r4, r5, r6, r7, b1, b2, b3, b4, n1, n2, n3, n4⟩⟩ := hT
  obtain ⟨h0, h1, h2, l1, l2, ob, ok⟩ := hL
  have hw := wh_bd r2.1 r2.2 r3.1 r3.2
  refine Call_of rfl ?_
  refine E_iload_n (pc' := 1) g81_0 rfl rfl ?_
  refine E_iflt (pc' := 4) (pt := 19) g81_1 rfl rfl (fun c0 => ?_) (fun c0 => ?_)
  · refine E_iconst (pc' := 20) g81_19 (by decide) rfl ?_
    exact E_iret g81_20 (ro81 (by omega)) (by unfold inI; (repeat' split); all_goals (first | rfl | (exfalso; omega))) rfl
  · refine E_iload_n (pc' := 5) g81_4 rfl rfl ?_
    refine E_aload_n (pc' := 6) g81_5 rfl rfl ?_
    refine E_getR (pc' := 9) g81_6 f81_23 tg6_3 rfl (by assumption) rfl ?_
    refine E_getI (pc' := 12) g81_9 f81_229 tg4_0 (by decide) rfl (by assumption) rfl ?_
    refine E_icge (pc' := 15) (pt := 19) g81_12 rfl rfl (fun c1 => ?_) (fun c1 => ?_)
    · refine E_iconst (pc' := 20) g81_19 (by decide) rfl ?_
      exact E_iret g81_20 (ro81 (by omega)) (by unfold inI; (repeat' split); all_goals (first | rfl | (exfalso; omega))) rfl
    · refine E_iconst (pc' := 16) g81_15 (by decide) rfl ?_
      refine E_goto (pc' := 20) g81_16 rfl ?_
      exact E_iret g81_20 (ro81 (by omega)) (by unfold inI; (repeat' split); all_goals (first | rfl | (exfalso; omega))) rfl
theorem C_isBlock (hR : isRoot H le ta tb pe un) (hT : isTold H ta kd wd ht rm mo sd bo ed hu sk hv) (hL : isLay H 13 bl sl) {k : Int} : Call 0 82 [mR 0, mI k] H (mI (inI k 0 (kd * 4))) H := by
  have hT0 := hT
  have hL0 := hL
  have hR0 : H[0]? = _ := hR
  obtain ⟨t0, t1, t2, t3, t4, ⟨r1, r2, r3, r4, r5, r6, r7, b1, b2, b3, b4, n1, n2, n3, n4⟩⟩ := hT
  obtain ⟨h0, h1, h2, l1, l2, ob, ok⟩ := hL
  have hw := wh_bd r2.1 r2.2 r3.1 r3.2
  refine Call_of rfl ?_
  refine E_iload_n (pc' := 1) g82_0 rfl rfl ?_
  refine E_iflt (pc' := 4) (pt := 21) g82_1 rfl rfl (fun c0 => ?_) (fun c0 => ?_)
  · refine E_iconst (pc' := 22) g82_21 (by decide) rfl ?_
    exact E_iret g82_22 (ro82 (by omega)) (by unfold inI; (repeat' split); all_goals (first | rfl | (exfalso; omega))) rfl
  · refine E_iload_n (pc' := 5) g82_4 rfl rfl ?_
    refine E_aload_n (pc' := 6) g82_5 rfl rfl ?_
    refine E_getR (pc' := 9) g82_6 f82_23 tg6_3 rfl (by assumption) rfl ?_
    refine E_getI (pc' := 12) g82_9 f82_229 tg4_0 (by decide) rfl (by assumption) rfl ?_
    refine E_iconst (pc' := 13) g82_12 (by decide) rfl ?_
    refine E_imul (pc' := 14) g82_13 (m_in_iff.mpr (by omega)) rfl ?_
    refine E_icge (pc' := 17) (pt := 21) g82_14 rfl rfl (fun c1 => ?_) (fun c1 => ?_)
    · refine E_iconst (pc' := 22) g82_21 (by decide) rfl ?_
      exact E_iret g82_22 (ro82 (by omega)) (by unfold inI; (repeat' split); all_goals (first | rfl | (exfalso; omega))) rfl
    · refine E_iconst (pc' := 18) g82_17 (by decide) rfl ?_
      refine E_goto (pc' := 22) g82_18 rfl ?_
      exact E_iret g82_22 (ro82 (by omega)) (by unfold inI; (repeat' split); all_goals (first | rfl | (exfalso; omega))) rfl
theorem C_isSquare (hR : isRoot H le ta tb pe un) (hT : isTold H ta kd wd ht rm mo sd bo ed hu sk hv) (hL : isLay H 13 bl sl) {k : Int} : Call 2 83 [mR 0, mI k] H (mI (inI k 0 (wd * ht))) H := by
  have hT0 := hT
  have hL0 := hL
  have hR0 : H[0]? = _ := hR
  obtain ⟨t0, t1, t2, t3, t4, ⟨r1, r2, r3, r4, r5, r6, r7, b1, b2, b3, b4, n1, n2, n3, n4⟩⟩ := hT
  obtain ⟨h0, h1, h2, l1, l2, ob, ok⟩ := hL
  have hw := wh_bd r2.1 r2.2 r3.1 r3.2
  refine Call_of rfl ?_
  refine E_iload_n (pc' := 1) g83_0 rfl rfl ?_
  refine E_iflt (pc' := 4) (pt := 19) g83_1 rfl rfl (fun c0 => ?_) (fun c0 => ?_)
  · refine E_iconst (pc' := 20) g83_19 (by decide) rfl ?_
    exact E_iret g83_20 (ro83 (by omega)) (by unfold inI; (repeat' split); all_goals (first | rfl | (exfalso; omega))) rfl
  · refine E_iload_n (pc' := 5) g83_4 rfl rfl ?_
    refine E_aload_n (pc' := 6) g83_5 rfl rfl ?_
    refine E_getR (pc' := 9) g83_6 f83_23 tg6_3 rfl (by assumption) rfl ?_
    refine E_cV0i (pc' := 12) g83_9 k83_142 na36 rfl ow36 rfl (Nat.le_of_ble_eq_true rfl) (by assumption) (C_squares hT0) (by decide) ?_
    refine E_icge (pc' := 15) (pt := 19) g83_12 rfl rfl (fun c1 => ?_) (fun c1 => ?_)
    · refine E_iconst (pc' := 20) g83_19 (by decide) rfl ?_
      exact E_iret g83_20 (ro83 (by omega)) (by unfold inI; (repeat' split); all_goals (first | rfl | (exfalso; omega))) rfl
    · refine E_iconst (pc' := 16) g83_15 (by decide) rfl ?_
      refine E_goto (pc' := 20) g83_16 rfl ?_
      exact E_iret g83_20 (ro83 (by omega)) (by unfold inI; (repeat' split); all_goals (first | rfl | (exfalso; omega))) rfl
theorem C_isPiece {k : Int} : Call 0 84 [mI k] H (mI (inI k 0 3)) H := by
  refine Call_of rfl ?_
  refine E_iload_n (pc' := 1) g84_0 rfl rfl ?_
  refine E_iflt (pc' := 4) (pt := 13) g84_1 rfl rfl (fun c0 => ?_) (fun c0 => ?_)
  · refine E_iconst (pc' := 14) g84_13 (by decide) rfl ?_
    exact E_iret g84_14 (ro84 (by omega)) (by unfold inI; (repeat' split); all_goals (first | rfl | (exfalso; omega))) rfl
  · refine E_iload_n (pc' := 5) g84_4 rfl rfl ?_
    refine E_iconst (pc' := 6) g84_5 (by decide) rfl ?_
    refine E_icge (pc' := 9) (pt := 13) g84_6 rfl rfl (fun c1 => ?_) (fun c1 => ?_)
    · refine E_iconst (pc' := 14) g84_13 (by decide) rfl ?_
      exact E_iret g84_14 (ro84 (by omega)) (by unfold inI; (repeat' split); all_goals (first | rfl | (exfalso; omega))) rfl
    · refine E_iconst (pc' := 10) g84_9 (by decide) rfl ?_
      refine E_goto (pc' := 14) g84_10 rfl ?_
      exact E_iret g84_14 (ro84 (by omega)) (by unfold inI; (repeat' split); all_goals (first | rfl | (exfalso; omega))) rfl
theorem C_isImage {k : Int} : Call 0 86 [mI k] H (mI (inI k 0 2)) H := by
  refine Call_of rfl ?_
  refine E_iload_n (pc' := 1) g86_0 rfl rfl ?_
  refine E_iflt (pc' := 4) (pt := 13) g86_1 rfl rfl (fun c0 => ?_) (fun c0 => ?_)
  · refine E_iconst (pc' := 14) g86_13 (by decide) rfl ?_
    exact E_iret g86_14 (ro86 (by omega)) (by unfold inI; (repeat' split); all_goals (first | rfl | (exfalso; omega))) rfl
  · refine E_iload_n (pc' := 5) g86_4 rfl rfl ?_
    refine E_iconst (pc' := 6) g86_5 (by decide) rfl ?_
    refine E_icge (pc' := 9) (pt := 13) g86_6 rfl rfl (fun c1 => ?_) (fun c1 => ?_)
    · refine E_iconst (pc' := 14) g86_13 (by decide) rfl ?_
      exact E_iret g86_14 (ro86 (by omega)) (by unfold inI; (repeat' split); all_goals (first | rfl | (exfalso; omega))) rfl
    · refine E_iconst (pc' := 10) g86_9 (by decide) rfl ?_
      refine E_goto (pc' := 14) g86_10 rfl ?_
      exact E_iret g86_14 (ro86 (by omega)) (by unfold inI; (repeat' split); all_goals (first | rfl | (exfalso; omega))) rfl
def isRect (x z : Int) : Int := if 1 ≤ x ∧ x ≤ 24 ∧ 1 ≤ z ∧ z ≤ 24 then 1 else 0
theorem C_isRect {x z : Int} : Call 0 85 [mI x, mI z] H (mI (isRect x z)) H := by
  refine Call_of rfl ?_
  refine E_iload_n (pc' := 1) g85_0 rfl rfl ?_
  refine E_iconst (pc' := 2) g85_1 (by decide) rfl ?_
  refine E_iclt (pc' := 5) (pt := 26) g85_2 rfl rfl (fun c0 => ?_) (fun c0 => ?_)
  · refine E_iconst (pc' := 27) g85_26 (by decide) rfl ?_
    exact E_iret g85_27 (ro85 (by omega)) (by unfold isRect; (repeat' split); all_goals (first | rfl | (exfalso; omega))) rfl
  · refine E_iload_n (pc' := 6) g85_5 rfl rfl ?_
    refine E_bipush (pc' := 8) g85_6 (by decide) rfl ?_
    refine E_icgt (pc' := 11) (pt := 26) g85_8 rfl rfl (fun c1 => ?_) (fun c1 => ?_)
    · refine E_iconst (pc' := 27) g85_26 (by decide) rfl ?_
      exact E_iret g85_27 (ro85 (by omega)) (by unfold isRect; (repeat' split); all_goals (first | rfl | (exfalso; omega))) rfl
    · refine E_iload_n (pc' := 12) g85_11 rfl rfl ?_
      refine E_iconst (pc' := 13) g85_12 (by decide) rfl ?_
      refine E_iclt (pc' := 16) (pt := 26) g85_13 rfl rfl (fun c2 => ?_) (fun c2 => ?_)
      · refine E_iconst (pc' := 27) g85_26 (by decide) rfl ?_
        exact E_iret g85_27 (ro85 (by omega)) (by unfold isRect; (repeat' split); all_goals (first | rfl | (exfalso; omega))) rfl
      · refine E_iload_n (pc' := 17) g85_16 rfl rfl ?_
        refine E_bipush (pc' := 19) g85_17 (by decide) rfl ?_
        refine E_icgt (pc' := 22) (pt := 26) g85_19 rfl rfl (fun c3 => ?_) (fun c3 => ?_)
        · refine E_iconst (pc' := 27) g85_26 (by decide) rfl ?_
          exact E_iret g85_27 (ro85 (by omega)) (by unfold isRect; (repeat' split); all_goals (first | rfl | (exfalso; omega))) rfl
        · refine E_iconst (pc' := 23) g85_22 (by decide) rfl ?_
          refine E_goto (pc' := 27) g85_23 rfl ?_
          exact E_iret g85_27 (ro85 (by omega)) (by unfold isRect; (repeat' split); all_goals (first | rfl | (exfalso; omega))) rfl
/-- how many squares are open -/
def nO (bl : List Int) : Nat → Int := cn (fun s => decide (ix bl s = -9))
theorem C_openSq (hR : isRoot H le ta tb pe un) (hT : isTold H ta kd wd ht rm mo sd bo ed hu sk hv) (hL : isLay H 13 bl sl) : Call 2 87 [mR 0] H (mI (nO bl (wd * ht).toNat)) H := by
  have hT0 := hT
  have hL0 := hL
  have hR0 : H[0]? = _ := hR
  obtain ⟨t0, t1, t2, t3, t4, ⟨r1, r2, r3, r4, r5, r6, r7, b1, b2, b3, b4, n1, n2, n3, n4⟩⟩ := hT
  obtain ⟨h0, h1, h2, l1, l2, ob, ok⟩ := hL
  have hw := wh_bd r2.1 r2.2 r3.1 r3.2
  obtain ⟨n, hn⟩ : ∃ n : Nat, (n : Int) = wd * ht := ⟨(wd * ht).toNat, by omega⟩
  rw [show (wd * ht).toNat = n by omega]
  refine Call_of rfl ?_
  refine E_iconst (pc' := 1) g87_0 (by decide) rfl ?_
  refine E_st1 (pc' := 2) g87_1 rfl ?_
  refine E_iconst (pc' := 3) g87_2 (by decide) rfl ?_
  refine E_st2 (pc' := 4) g87_3 rfl ?_
  refine E_loop (n := n) (fun i => Ev 2 87 4 [mR 0, mI (nO bl i), mI (i : Int)] [] H (mI (nO bl n)) H) ?_ ?_ 0 (by omega)
  · intro i hi hh
    have hb := cn_bd (fun s => decide (ix bl s = -9)) i
    unfold nO at hh ⊢
    refine E_iload_n (pc' := 5) g87_4 rfl rfl ?_
    refine E_aload_n (pc' := 6) g87_5 rfl rfl ?_
    refine E_getR (pc' := 9) g87_6 f87_23 tg6_3 rfl (by assumption) rfl ?_
    refine E_cV0i (pc' := 12) g87_9 k87_142 na36 rfl ow36 rfl (Nat.le_of_ble_eq_true rfl) (by assumption) (C_squares hT0) (by decide) ?_
    refine E_icge (pc' := 15) (pt := 35) g87_12 rfl rfl (fun c0 => ?_) (fun c0 => ?_)
    · exact absurd c0 (by omega)
    · refine E_aload_n (pc' := 16) g87_15 rfl rfl ?_
      refine E_getR (pc' := 19) g87_16 f87_33 tg6_5 rfl (by assumption) rfl ?_
      refine E_iload_n (pc' := 20) g87_19 rfl rfl ?_
      refine E_cV1i (pc' := 23) g87_20 k87_126 na17 rfl ow17 rfl (Nat.le_of_ble_eq_true rfl) (by assumption) (C_isOpen hL0) (by decide) ?_
      refine E_ifeq (pc' := 26) (pt := 29) g87_23 rfl rfl (fun c1 => ?_) (fun c1 => ?_)
      · have hp : ¬ ix bl i = -9 := by intro q; unfold isO at c1; rw [if_pos (by omega)] at c1; omega
        refine E_in2 (pc' := 32) g87_29 rfl (m_in_iff.mpr (by omega)) ?_
        refine E_goto (pc' := 4) g87_32 rfl ?_
        first | exact Ev_cast hh (by rw [cn_t (decide_eq_true (by omega))]; rfl) rfl | exact Ev_cast hh (by rw [cn_f (decide_eq_false (by omega))]; rfl) rfl
      · have hp : ix bl i = -9 := by unfold isO at c1; split at c1 <;> omega
        refine E_in1 (pc' := 29) g87_26 rfl (m_in_iff.mpr (by omega)) ?_
        refine E_in2 (pc' := 32) g87_29 rfl (m_in_iff.mpr (by omega)) ?_
        refine E_goto (pc' := 4) g87_32 rfl ?_
        first | exact Ev_cast hh (by rw [cn_t (decide_eq_true (by omega))]; rfl) rfl | exact Ev_cast hh (by rw [cn_f (decide_eq_false (by omega))]; rfl) rfl
  · refine E_iload_n (pc' := 5) g87_4 rfl rfl ?_
    refine E_aload_n (pc' := 6) g87_5 rfl rfl ?_
    refine E_getR (pc' := 9) g87_6 f87_23 tg6_3 rfl (by assumption) rfl ?_
    refine E_cV0i (pc' := 12) g87_9 k87_142 na36 rfl ow36 rfl (Nat.le_of_ble_eq_true rfl) (by assumption) (C_squares hT0) (by decide) ?_
    refine E_icge (pc' := 15) (pt := 35) g87_12 rfl rfl (fun c2 => ?_) (fun c2 => ?_)
    · refine E_iload_n (pc' := 36) g87_35 rfl rfl ?_
      exact E_iret g87_36 ro87 rfl rfl
    · exact absurd c2 (by omega)
/-- whether a block meets its neighbours; keeps the rim -/
def mtP (bl ed : List Int) (wd ht s b : Int) (h : Nat) : Prop := ¬ (0 ≤ bsd wd ht s h ∧ bsd wd ht s h < 6 ∧ isO bl (bsd wd ht s h) = 0 ∧ ¬ eo ed (ix bl (bsd wd ht s h)) (((h : Int) + 2).tmod 4) = eo ed b h)
def mt (bl ed : List Int) (wd ht s b : Int) : Prop := ∀ h : Nat, h < 4 → mtP bl ed wd ht s b h
theorem bsd_bd {s h : Int} (h1 : 1 ≤ wd) (h2 : wd ≤ 3) (hs : 0 ≤ s ∧ s < 6) : -9 ≤ bsd wd ht s h ∧ bsd wd ht s h ≤ 9 := by
  unfold bsd
  (repeat' split) <;> omega
theorem C_meets (hR : isRoot H le ta tb pe un) (hT : isTold H ta kd wd ht rm mo sd bo ed hu sk hv) (hL : isLay H 13 bl sl) {s b r : Int} (hs : 0 ≤ s ∧ s < 6) (hr : (mt bl ed wd ht s b → r = 1) ∧ (¬ mt bl ed wd ht s b → r = 0)) : Call 1 91 [mR 0, mI s, mI b] H (mI r) H := by
  have hT0 := hT
  have hL0 := hL
  have hR0 : H[0]? = _ := hR
  obtain ⟨t0, t1, t2, t3, t4, ⟨r1, r2, r3, r4, r5, r6, r7, b1, b2, b3, b4, n1, n2, n3, n4⟩⟩ := hT
  obtain ⟨h0, h1, h2, l1, l2, ob, ok⟩ := hL
  have hw := wh_bd r2.1 r2.2 r3.1 r3.2
  refine Call_of rfl ?_
  refine E_iconst (pc' := 1) g91_0 (by decide) rfl ?_
  refine E_st3 (pc' := 2) g91_1 rfl ?_
  refine (E_loop (n := 4) (fun i => (∀ j : Nat, j < i → mtP bl ed wd ht s b j) → ∀ x : mV, Ev 1 91 2 [mR 0, mI s, mI b, mI (i : Int), x] [] H (mI r) H) ?_ ?_ 0 (by omega)) (fun j hj => absurd hj (by omega)) none
  · intro i hi hh hall x
    have hbd := bsd_bd (ht := ht) (s := s) (h := i) r2.1 r2.2 hs
    refine E_iload_n (pc' := 3) g91_2 rfl rfl ?_
    refine E_iconst (pc' := 4) g91_3 (by decide) rfl ?_
    refine E_icge (pc' := 7) (pt := 83) g91_4 rfl rfl (fun c0 => ?_) (fun c0 => ?_)
    · exact absurd c0 (by omega)
    · refine E_aload_n (pc' := 8) g91_7 rfl rfl ?_
      refine E_getR (pc' := 11) g91_8 f91_23 tg6_3 rfl (by assumption) rfl ?_
      refine E_iload_n (pc' := 12) g91_11 rfl rfl ?_
      refine E_iload_n (pc' := 13) g91_12 rfl rfl ?_
      refine E_cV2i (pc' := 16) g91_13 k91_264 na42 rfl ow42 rfl (Nat.le_of_ble_eq_true rfl) (by assumption) (C_beside hT0 (by omega)) (by decide) ?_
      refine E_st4 (pc' := 18) g91_16 rfl ?_
      refine E_iload (pc' := 20) g91_18 rfl rfl ?_
      refine E_iflt (pc' := 23) (pt := 77) g91_20 rfl rfl (fun c1 => ?_) (fun c1 => ?_)
      · refine E_in3 (pc' := 80) g91_77 rfl (m_in_iff.mpr (by omega)) ?_
        refine E_goto (pc' := 2) g91_80 rfl ?_
        exact hh (fun j hj => by
          rcases Nat.lt_or_ge j i with q | q
          · exact hall j q
          · rw [show j = i by omega]; unfold mtP; omega) _
      · refine E_iload (pc' := 25) g91_23 rfl rfl ?_
        refine E_bipush (pc' := 27) g91_25 (by decide) rfl ?_
        refine E_icge (pc' := 30) (pt := 77) g91_27 rfl rfl (fun c2 => ?_) (fun c2 => ?_)
        · refine E_in3 (pc' := 80) g91_77 rfl (m_in_iff.mpr (by omega)) ?_
          refine E_goto (pc' := 2) g91_80 rfl ?_
          exact hh (fun j hj => by
            rcases Nat.lt_or_ge j i with q | q
            · exact hall j q
            · rw [show j = i by omega]; unfold mtP; omega) _
        · refine E_aload_n (pc' := 31) g91_30 rfl rfl ?_
          refine E_getR (pc' := 34) g91_31 f91_33 tg6_5 rfl (by assumption) rfl ?_
          refine E_iload (pc' := 36) g91_34 rfl rfl ?_
          refine E_cV1i (pc' := 39) g91_36 k91_126 na17 rfl ow17 rfl (Nat.le_of_ble_eq_true rfl) (by assumption) (C_isOpen hL0) (by decide) ?_
          refine E_ifne (pc' := 42) (pt := 77) g91_39 rfl rfl (fun c3 => ?_) (fun c3 => ?_)
          · refine E_in3 (pc' := 80) g91_77 rfl (m_in_iff.mpr (by omega)) ?_
            refine E_goto (pc' := 2) g91_80 rfl ?_
            exact hh (fun j hj => by
              rcases Nat.lt_or_ge j i with q | q
              · exact hall j q
              · rw [show j = i by omega]; unfold mtP; omega) _
          · refine E_aload_n (pc' := 43) g91_42 rfl rfl ?_
            refine E_getR (pc' := 46) g91_43 f91_23 tg6_3 rfl (by assumption) rfl ?_
            refine E_aload_n (pc' := 47) g91_46 rfl rfl ?_
            refine E_getR (pc' := 50) g91_47 f91_33 tg6_5 rfl (by assumption) rfl ?_
            refine E_getR (pc' := 53) g91_50 f91_135 tg2_0 rfl (by assumption) rfl ?_
            refine E_iload (pc' := 55) g91_53 rfl rfl ?_
            refine E_iaload (pc' := 56) g91_55 rfl (by assumption) (by omega) (by omega) ?_
            refine E_iload_n (pc' := 57) g91_56 rfl rfl ?_
            refine E_cS1i (pc' := 60) g91_57 k91_267 na96 rfl rfl (Nat.le_of_ble_eq_true rfl) (C_opposite (by omega)) (by decide) ?_
            refine E_cV2i (pc' := 63) g91_60 k91_113 na37 rfl ow37 rfl (Nat.le_of_ble_eq_true rfl) (by assumption) (C_edgeOf hT0) (by decide) ?_
            refine E_aload_n (pc' := 64) g91_63 rfl rfl ?_
            refine E_getR (pc' := 67) g91_64 f91_23 tg6_3 rfl (by assumption) rfl ?_
            refine E_iload_n (pc' := 68) g91_67 rfl rfl ?_
            refine E_iload_n (pc' := 69) g91_68 rfl rfl ?_
            refine E_cV2i (pc' := 72) g91_69 k91_113 na37 rfl ow37 rfl (Nat.le_of_ble_eq_true rfl) (by assumption) (C_edgeOf hT0) (by decide) ?_
            refine E_iceq (pc' := 75) (pt := 77) g91_72 rfl rfl (fun c4 => ?_) (fun c4 => ?_)
            · refine E_in3 (pc' := 80) g91_77 rfl (m_in_iff.mpr (by omega)) ?_
              refine E_goto (pc' := 2) g91_80 rfl ?_
              exact hh (fun j hj => by
                rcases Nat.lt_or_ge j i with q | q
                · exact hall j q
                · rw [show j = i by omega]; unfold mtP; omega) _
            · refine E_iconst (pc' := 76) g91_75 (by decide) rfl ?_
              exact E_iret g91_76 (ro91 (by omega)) (by rw [hr.2 (fun q => absurd (q i hi) (by unfold mtP; omega))]) rfl
  · intro hall x
    refine E_iload_n (pc' := 3) g91_2 rfl rfl ?_
    refine E_iconst (pc' := 4) g91_3 (by decide) rfl ?_
    refine E_icge (pc' := 7) (pt := 83) g91_4 rfl rfl (fun c0 => ?_) (fun c0 => ?_)
    · refine E_iconst (pc' := 84) g91_83 (by decide) rfl ?_
      exact E_iret g91_84 (ro91 (by omega)) (by rw [hr.1 (fun j hj => hall j hj)]) rfl
    · exact absurd c0 (by omega)
def krP (ed : List Int) (wd ht rm s b : Int) (h : Nat) : Prop := ¬ (bsd wd ht s h < 0 ∧ ¬ eo ed b h = rm)
def kr (ed : List Int) (wd ht rm s b : Int) : Prop := rm = -9 ∨ ∀ h : Nat, h < 4 → krP ed wd ht rm s b h
theorem C_keeps (hR : isRoot H le ta tb pe un) (hT : isTold H ta kd wd ht rm mo sd bo ed hu sk hv) (hL : isLay H 13 bl sl) {s b r : Int} (hs : 0 ≤ s ∧ s < 6) (hr : (kr ed wd ht rm s b → r = 1) ∧ (¬ kr ed wd ht rm s b → r = 0)) : Call 1 92 [mR 0, mI s, mI b] H (mI r) H := by
  have hT0 := hT
  have hL0 := hL
  have hR0 : H[0]? = _ := hR
  obtain ⟨t0, t1, t2, t3, t4, ⟨r1, r2, r3, r4, r5, r6, r7, b1, b2, b3, b4, n1, n2, n3, n4⟩⟩ := hT
  obtain ⟨h0, h1, h2, l1, l2, ob, ok⟩ := hL
  have hw := wh_bd r2.1 r2.2 r3.1 r3.2
  refine Call_of rfl ?_
  refine E_aload_n (pc' := 1) g92_0 rfl rfl ?_
  refine E_getR (pc' := 4) g92_1 f92_23 tg6_3 rfl (by assumption) rfl ?_
  refine E_getI (pc' := 7) g92_4 f92_238 tg4_3 (by decide) rfl (by assumption) rfl ?_
  refine E_bipush (pc' := 9) g92_7 (by decide) rfl ?_
  refine E_icne (pc' := 12) (pt := 14) g92_9 rfl rfl (fun c0 => ?_) (fun c0 => ?_)
  · refine E_iconst (pc' := 15) g92_14 (by decide) rfl ?_
    refine E_st3 (pc' := 16) g92_15 rfl ?_
    refine (E_loop (n := 4) (fun i => (∀ j : Nat, j < i → krP ed wd ht rm s b j) → Ev 1 92 16 [mR 0, mI s, mI b, mI (i : Int)] [] H (mI r) H) ?_ ?_ 0 (by omega)) (fun j hj => absurd hj (by omega))
    · intro i hi hh hall
      refine E_iload_n (pc' := 17) g92_16 rfl rfl ?_
      refine E_iconst (pc' := 18) g92_17 (by decide) rfl ?_
      refine E_icge (pc' := 21) (pt := 60) g92_18 rfl rfl (fun c0 => ?_) (fun c0 => ?_)
      · exact absurd c0 (by omega)
      · refine E_aload_n (pc' := 22) g92_21 rfl rfl ?_
        refine E_getR (pc' := 25) g92_22 f92_23 tg6_3 rfl (by assumption) rfl ?_
        refine E_iload_n (pc' := 26) g92_25 rfl rfl ?_
        refine E_iload_n (pc' := 27) g92_26 rfl rfl ?_
        refine E_cV2i (pc' := 30) g92_27 k92_264 na42 rfl ow42 rfl (Nat.le_of_ble_eq_true rfl) (by assumption) (C_beside hT0 (by omega)) (by decide) ?_
        refine E_ifge (pc' := 33) (pt := 54) g92_30 rfl rfl (fun c1 => ?_) (fun c1 => ?_)
        · refine E_in3 (pc' := 57) g92_54 rfl (m_in_iff.mpr (by omega)) ?_
          refine E_goto (pc' := 16) g92_57 rfl ?_
          exact hh (fun j hj => by
            rcases Nat.lt_or_ge j i with q | q
            · exact hall j q
            · rw [show j = i by omega]; unfold krP; omega)
        · refine E_aload_n (pc' := 34) g92_33 rfl rfl ?_
          refine E_getR (pc' := 37) g92_34 f92_23 tg6_3 rfl (by assumption) rfl ?_
          refine E_iload_n (pc' := 38) g92_37 rfl rfl ?_
          refine E_iload_n (pc' := 39) g92_38 rfl rfl ?_
          refine E_cV2i (pc' := 42) g92_39 k92_113 na37 rfl ow37 rfl (Nat.le_of_ble_eq_true rfl) (by assumption) (C_edgeOf hT0) (by decide) ?_
          refine E_aload_n (pc' := 43) g92_42 rfl rfl ?_
          refine E_getR (pc' := 46) g92_43 f92_23 tg6_3 rfl (by assumption) rfl ?_
          refine E_getI (pc' := 49) g92_46 f92_238 tg4_3 (by decide) rfl (by assumption) rfl ?_
          refine E_iceq (pc' := 52) (pt := 54) g92_49 rfl rfl (fun c2 => ?_) (fun c2 => ?_)
          · refine E_in3 (pc' := 57) g92_54 rfl (m_in_iff.mpr (by omega)) ?_
            refine E_goto (pc' := 16) g92_57 rfl ?_
            exact hh (fun j hj => by
              rcases Nat.lt_or_ge j i with q | q
              · exact hall j q
              · rw [show j = i by omega]; unfold krP; omega)
          · refine E_iconst (pc' := 53) g92_52 (by decide) rfl ?_
            exact E_iret g92_53 (ro92 (by omega)) (by rw [hr.2 (fun q => q.elim (fun z => absurd z (by assumption)) (fun z => absurd (z i hi) (by unfold krP; omega)))]) rfl
    · intro hall
      refine E_iload_n (pc' := 17) g92_16 rfl rfl ?_
      refine E_iconst (pc' := 18) g92_17 (by decide) rfl ?_
      refine E_icge (pc' := 21) (pt := 60) g92_18 rfl rfl (fun c0 => ?_) (fun c0 => ?_)
      · refine E_iconst (pc' := 61) g92_60 (by decide) rfl ?_
        exact E_iret g92_61 (ro92 (by omega)) (by rw [hr.1 (Or.inr (fun j hj => hall j hj))]) rfl
      · exact absurd c0 (by omega)
  · refine E_iconst (pc' := 13) g92_12 (by decide) rfl ?_
    exact E_iret g92_13 (ro92 (by omega)) (by rw [hr.1 (Or.inl (by assumption))]) rfl
/-- why a block does not fit -/
theorem C_whyNot (hR : isRoot H le ta tb pe un) (hT : isTold H ta kd wd ht rm mo sd bo ed hu sk hv) (hL : isLay H 13 bl sl) {s b r : Int} (hs : 0 ≤ s ∧ s < 6) (hb : 0 ≤ b ∧ b < 24)
    (hr : (ix sl (b.tdiv 4) - nK bl (b.tdiv 4) 6 ≤ 0 → r = 1) ∧ (0 < ix sl (b.tdiv 4) - nK bl (b.tdiv 4) 6 → (¬ mt bl ed wd ht s b → r = 2) ∧ (mt bl ed wd ht s b → (¬ kr ed wd ht rm s b → r = 3) ∧ (kr ed wd ht rm s b → (mo ≤ nH bl hu (ix hu (b.tdiv 4)) 6 → r = 4) ∧ (nH bl hu (ix hu (b.tdiv 4)) 6 < mo → r = 0))))) : Call 2 90 [mR 0, mI s, mI b] H (mI r) H := by
  have hT0 := hT
  have hL0 := hL
  have hR0 : H[0]? = _ := hR
  obtain ⟨t0, t1, t2, t3, t4, ⟨r1, r2, r3, r4, r5, r6, r7, b1, b2, b3, b4, n1, n2, n3, n4⟩⟩ := hT
  obtain ⟨h0, h1, h2, l1, l2, ob, ok⟩ := hL
  have hw := wh_bd r2.1 r2.2 r3.1 r3.2
  have q1 := td4 hb.1 hb.2
  obtain ⟨mI1, hm1⟩ : ∃ v : Int, (mt bl ed wd ht s b → v = 1) ∧ (¬ mt bl ed wd ht s b → v = 0) := by
    by_cases q : mt bl ed wd ht s b
    · exact ⟨1, fun _ => rfl, fun z => absurd q z⟩
    · exact ⟨0, fun z => absurd z q, fun _ => rfl⟩
  obtain ⟨kI1, hk1⟩ : ∃ v : Int, (kr ed wd ht rm s b → v = 1) ∧ (¬ kr ed wd ht rm s b → v = 0) := by
    by_cases q : kr ed wd ht rm s b
    · exact ⟨1, fun _ => rfl, fun z => absurd q z⟩
    · exact ⟨0, fun z => absurd z q, fun _ => rfl⟩
  refine Call_of rfl ?_
  refine E_iload_n (pc' := 1) g90_0 rfl rfl ?_
  refine E_iconst (pc' := 2) g90_1 (by decide) rfl ?_
  refine E_idiv (pc' := 3) g90_2 (by omega) rfl ?_
  refine E_st3 (pc' := 4) g90_3 rfl ?_
  refine E_aload_n (pc' := 5) g90_4 rfl rfl ?_
  refine E_getR (pc' := 8) g90_5 f90_33 tg6_5 rfl (by assumption) rfl ?_
  refine E_iload_n (pc' := 9) g90_8 rfl rfl ?_
  refine E_cV1i (pc' := 12) g90_9 k90_109 na18 rfl ow18 rfl (Nat.le_of_ble_eq_true rfl) (by assumption) (C_leftOf hL0 q1) (by decide) ?_
  refine E_ifgt (pc' := 15) (pt := 17) g90_12 rfl rfl (fun c0 => ?_) (fun c0 => ?_)
  · have hA := hr.2 c0
    refine E_aload_n (pc' := 18) g90_17 rfl rfl ?_
    refine E_iload_n (pc' := 19) g90_18 rfl rfl ?_
    refine E_iload_n (pc' := 20) g90_19 rfl rfl ?_
    refine E_cV2i (pc' := 23) g90_20 k90_258 na91 rfl ow91 rfl (Nat.le_of_ble_eq_true rfl) (by assumption) (C_meets hR hT0 hL0 hs hm1) (by decide) ?_
    refine E_ifne (pc' := 26) (pt := 28) g90_23 rfl rfl (fun c1 => ?_) (fun c1 => ?_)
    · have hM : mt bl ed wd ht s b := Classical.byContradiction (fun z => c1 (hm1.2 z))
      have hB := hA.2 hM
      refine E_aload_n (pc' := 29) g90_28 rfl rfl ?_
      refine E_iload_n (pc' := 30) g90_29 rfl rfl ?_
      refine E_iload_n (pc' := 31) g90_30 rfl rfl ?_
      refine E_cV2i (pc' := 34) g90_31 k90_261 na92 rfl ow92 rfl (Nat.le_of_ble_eq_true rfl) (by assumption) (C_keeps hR hT0 hL0 hs hk1) (by decide) ?_
      refine E_ifne (pc' := 37) (pt := 39) g90_34 rfl rfl (fun c2 => ?_) (fun c2 => ?_)
      · have hK : kr ed wd ht rm s b := Classical.byContradiction (fun z => c2 (hk1.2 z))
        have hC := hB.2 hK
        refine E_aload_n (pc' := 40) g90_39 rfl rfl ?_
        refine E_getR (pc' := 43) g90_40 f90_33 tg6_5 rfl (by assumption) rfl ?_
        refine E_aload_n (pc' := 44) g90_43 rfl rfl ?_
        refine E_getR (pc' := 47) g90_44 f90_23 tg6_3 rfl (by assumption) rfl ?_
        refine E_aload_n (pc' := 48) g90_47 rfl rfl ?_
        refine E_getR (pc' := 51) g90_48 f90_23 tg6_3 rfl (by assumption) rfl ?_
        refine E_getR (pc' := 54) g90_51 f90_103 tg4_8 rfl (by assumption) rfl ?_
        refine E_iload_n (pc' := 55) g90_54 rfl rfl ?_
        refine E_iaload (pc' := 56) g90_55 rfl (by assumption) (by omega) (by omega) ?_
        refine E_cV2i (pc' := 59) g90_56 k90_178 na19 rfl ow19 rfl (Nat.le_of_ble_eq_true rfl) (by assumption) (C_sqHue hL0 hT0) (by decide) ?_
        refine E_aload_n (pc' := 60) g90_59 rfl rfl ?_
        refine E_getR (pc' := 63) g90_60 f90_23 tg6_3 rfl (by assumption) rfl ?_
        refine E_getI (pc' := 66) g90_63 f90_241 tg4_4 (by decide) rfl (by assumption) rfl ?_
        refine E_iclt (pc' := 69) (pt := 73) g90_66 rfl rfl (fun c3 => ?_) (fun c3 => ?_)
        · refine E_iconst (pc' := 74) g90_73 (by decide) rfl ?_
          exact E_iret g90_74 ro90 (by first | rw [hC.1 (by assumption)] | rw [hC.2 (by assumption)]) rfl
        · refine E_iconst (pc' := 70) g90_69 (by decide) rfl ?_
          refine E_goto (pc' := 74) g90_70 rfl ?_
          exact E_iret g90_74 ro90 (by first | rw [hC.1 (by assumption)] | rw [hC.2 (by assumption)]) rfl
      · have hK : ¬ kr ed wd ht rm s b := fun z => by have := hk1.1 z; omega
        have hC := hB.1 hK
        refine E_iconst (pc' := 38) g90_37 (by decide) rfl ?_
        exact E_iret g90_38 ro90 (by rw [hC]) rfl
    · have hM : ¬ mt bl ed wd ht s b := fun z => by have := hm1.1 z; omega
      have hB := hA.1 hM
      refine E_iconst (pc' := 27) g90_26 (by decide) rfl ?_
      exact E_iret g90_27 ro90 (by rw [hB]) rfl
  · have hA := hr.1 c0
    refine E_iconst (pc' := 16) g90_15 (by decide) rfl ?_
    exact E_iret g90_16 ro90 (by rw [hA]) rfl
/-- the i-th of a set -/
theorem C_bitAt {x i r : Int} (hx : 0 ≤ x ∧ x ≤ 16777215) (hr : (∀ k : Nat, k < 24 → bit x k = true → cn (fun b => bit x b) k = i → r = k) ∧ ((∀ k : Nat, k < 24 → bit x k = true → ¬ cn (fun b => bit x b) k = i) → r = -9)) : Call 0 95 [mI x, mI i] H (mI r) H := by
  refine Call_of rfl ?_
  refine E_iconst (pc' := 1) g95_0 (by decide) rfl ?_
  refine E_st2 (pc' := 2) g95_1 rfl ?_
  refine E_iconst (pc' := 3) g95_2 (by decide) rfl ?_
  refine E_st3 (pc' := 4) g95_3 rfl ?_
  refine (E_loop (n := 24) (fun j => (∀ k : Nat, k < j → bit x k = true → ¬ cn (fun b => bit x b) k = i) → Ev 0 95 4 [mI x, mI i, mI (cn (fun b => bit x b) j), mI (j : Int)] [] H (mI r) H) ?_ ?_ 0 (by omega)) (fun k hk => absurd hk (by omega))
  · intro j hj hh hall
    have hb := cn_bd (fun b => bit x b) j
    refine E_iload_n (pc' := 5) g95_4 rfl rfl ?_
    refine E_bipush (pc' := 7) g95_5 (by decide) rfl ?_
    refine E_icge (pc' := 10) (pt := 35) g95_7 rfl rfl (fun c0 => ?_) (fun c0 => ?_)
    · exact absurd c0 (by omega)
    · refine E_iload_n (pc' := 11) g95_10 rfl rfl ?_
      refine E_iload_n (pc' := 12) g95_11 rfl rfl ?_
      refine E_ishr (pc' := 13) g95_12 rfl ?_
      refine E_iconst (pc' := 14) g95_13 (by decide) rfl ?_
      refine E_iand (pc' := 15) g95_14 rfl ?_
      refine E_iconst (pc' := 16) g95_15 (by decide) rfl ?_
      refine E_icne (pc' := 19) (pt := 29) g95_16 rfl rfl (fun c1 => ?_) (fun c1 => ?_)
      · have hp : bit x j = false := by
          rw [bit_ask hx (by omega) (by omega)] at c1
          cases q : bit x j with
          | false => rfl
          | true => rw [q] at c1; simp at c1
        refine E_in3 (pc' := 32) g95_29 rfl (m_in_iff.mpr (by omega)) ?_
        refine E_goto (pc' := 4) g95_32 rfl ?_
        refine Ev_cast (hh (fun k hk hf => ?_)) (by first | (rw [cn_t (p := fun b => bit x b) hp]; rfl) | (rw [cn_f (p := fun b => bit x b) hp]; rfl)) rfl
        rcases Nat.lt_or_ge k j with q | q
        · exact hall k q hf
        · rw [show k = j by omega] at hf ⊢
          first | assumption | (rw [hp] at hf; cases hf)
      · have hp : bit x j = true := by
          rw [bit_ask hx (by omega) (by omega)] at c1
          cases q : bit x j with
          | true => rfl
          | false => rw [q] at c1; simp at c1
        refine E_iload_n (pc' := 20) g95_19 rfl rfl ?_
        refine E_iload_n (pc' := 21) g95_20 rfl rfl ?_
        refine E_icne (pc' := 24) (pt := 26) g95_21 rfl rfl (fun c2 => ?_) (fun c2 => ?_)
        · refine E_in2 (pc' := 29) g95_26 rfl (m_in_iff.mpr (by omega)) ?_
          refine E_in3 (pc' := 32) g95_29 rfl (m_in_iff.mpr (by omega)) ?_
          refine E_goto (pc' := 4) g95_32 rfl ?_
          refine Ev_cast (hh (fun k hk hf => ?_)) (by first | (rw [cn_t (p := fun b => bit x b) hp]; rfl) | (rw [cn_f (p := fun b => bit x b) hp]; rfl)) rfl
          rcases Nat.lt_or_ge k j with q | q
          · exact hall k q hf
          · rw [show k = j by omega] at hf ⊢
            first | assumption | (rw [hp] at hf; cases hf)
        · refine E_iload_n (pc' := 25) g95_24 rfl rfl ?_
          exact E_iret g95_25 ro95 (by rw [hr.1 j (by omega) hp (by assumption)]) rfl
  · intro hall
    refine E_iload_n (pc' := 5) g95_4 rfl rfl ?_
    refine E_bipush (pc' := 7) g95_5 (by decide) rfl ?_
    refine E_icge (pc' := 10) (pt := 35) g95_7 rfl rfl (fun c0 => ?_) (fun c0 => ?_)
    · refine E_bipush (pc' := 37) g95_35 (by decide) rfl ?_
      exact E_iret g95_37 ro95 (by rw [hr.2 (fun k hk => hall k (by omega))]) rfl
    · exact absurd c0 (by omega)
end QP
