/-! Layout's rest; the class Told -/
theorem wh_bd {w h : Int} (h1 : 1 ≤ w) (h2 : w ≤ 3) (h3 : 1 ≤ h) (h4 : h ≤ 2) : 1 ≤ w * h ∧ w * h ≤ 6 := by
  have hw : w = 1 ∨ w = 2 ∨ w = 3 := by omega
  rcases hw with rfl | rfl | rfl <;> omega
def bet (l : List Int) (lo hi : Int) : Prop := ∀ i : Int, lo ≤ ix l i ∧ ix l i ≤ hi
def okT (kd wd ht rm mo sd bo : Int) (ed hu sk hv : List Int) : Prop := (0 ≤ kd ∧ kd ≤ 6) ∧ (1 ≤ wd ∧ wd ≤ 3) ∧ (1 ≤ ht ∧ ht ≤ 2) ∧ (rm = -9 ∨ (0 ≤ rm ∧ rm ≤ 9)) ∧ (1 ≤ mo ∧ mo ≤ 9) ∧ (1 ≤ sd ∧ sd ≤ 9) ∧ (1 ≤ bo ∧ bo ≤ 4) ∧ bet ed 0 9 ∧ bet hu 0 5 ∧ bet sk 0 9 ∧ bet hv 0 16777215 ∧ ed.length = 24 ∧ hu.length = 6 ∧ sk.length = 6 ∧ hv.length = 40
def isTold (H : mH) (a : Nat) (kd wd ht rm mo sd bo : Int) (ed hu sk hv : List Int) : Prop := H[a]? = some (4, [kd, wd, ht, rm, mo, sd, bo, ((a + 1 : Nat) : Int), ((a + 2 : Nat) : Int), ((a + 3 : Nat) : Int), ((a + 4 : Nat) : Int)]) ∧ H[a + 1]? = some (8, ed) ∧ H[a + 2]? = some (8, hu) ∧ H[a + 3]? = some (8, sk) ∧ H[a + 4]? = some (8, hv) ∧ okT kd wd ht rm mo sd bo ed hu sk hv
section TD
variable {H : mH} {a b t : Nat} {bl sl bl2 sl2 : List Int} {kd wd ht rm mo sd bo : Int} {ed hu sk hv : List Int}
theorem C_openAll (hL : isLay H a bl sl) : Call 1 16 [mR a] H none (pt H (a + 1) (List.replicate 6 (-9))) := by
  obtain ⟨h0, h1, h2, l1, l2, ob, ok⟩ := hL
  refine Call_of rfl ?_
  refine E_aload_n (pc' := 1) g16_0 rfl rfl ?_
  refine E_getR (pc' := 4) g16_1 f16_9 tg2_0 rfl (by assumption) rfl ?_
  refine E_bipush (pc' := 6) g16_4 (by decide) rfl ?_
  refine E_cS2v (pc' := 9) g16_6 k16_30 na161 rfl rfl (Nat.le_of_ble_eq_true rfl) (C_fill h1 (by omega)) (by decide) ?_
  exact E_ret g16_9 rt16 rfl (by rw [l1])
theorem C_become (hL : isLay H a bl sl) (hM : isLay H b bl2 sl2) (hd : a + 3 ≤ b ∨ b + 3 ≤ a) : Call 1 15 [mR a, mR b] H none (pt (pt H (a + 1) bl2) (a + 2) sl2) := by
  obtain ⟨h0, h1, h2, l1, l2, ob, ok⟩ := hL
  obtain ⟨q0, q1, q2, m1, m2, oc, ok2⟩ := hM
  refine Call_of rfl ?_
  refine E_aload_n (pc' := 1) g15_0 rfl rfl ?_
  refine E_getR (pc' := 4) g15_1 f15_9 tg2_0 rfl (by first | assumption | exact pt_self (by first | assumption | exact pt_self (by first | assumption | exact pt_self (by assumption) | (rw [pt_ne (by omega)]; assumption)) | (rw [pt_ne (by omega)]; first | assumption | exact pt_self (by assumption) | (rw [pt_ne (by omega)]; assumption))) | (rw [pt_ne (by omega)]; first | assumption | exact pt_self (by first | assumption | exact pt_self (by assumption) | (rw [pt_ne (by omega)]; assumption)) | (rw [pt_ne (by omega)]; first | assumption | exact pt_self (by assumption) | (rw [pt_ne (by omega)]; assumption)))) rfl ?_
  refine E_iconst (pc' := 5) g15_4 (by decide) rfl ?_
  refine E_aload_n (pc' := 6) g15_5 rfl rfl ?_
  refine E_getR (pc' := 9) g15_6 f15_9 tg2_0 rfl (by first | assumption | exact pt_self (by first | assumption | exact pt_self (by first | assumption | exact pt_self (by assumption) | (rw [pt_ne (by omega)]; assumption)) | (rw [pt_ne (by omega)]; first | assumption | exact pt_self (by assumption) | (rw [pt_ne (by omega)]; assumption))) | (rw [pt_ne (by omega)]; first | assumption | exact pt_self (by first | assumption | exact pt_self (by assumption) | (rw [pt_ne (by omega)]; assumption)) | (rw [pt_ne (by omega)]; first | assumption | exact pt_self (by assumption) | (rw [pt_ne (by omega)]; assumption)))) rfl ?_
  refine E_iconst (pc' := 10) g15_9 (by decide) rfl ?_
  refine E_bipush (pc' := 12) g15_10 (by decide) rfl ?_
  refine E_copy (pc' := 15) g15_12 k15_24 rfl (Nat.le_of_ble_eq_true rfl) (by first | assumption | exact pt_self (by first | assumption | exact pt_self (by first | assumption | exact pt_self (by assumption) | (rw [pt_ne (by omega)]; assumption)) | (rw [pt_ne (by omega)]; first | assumption | exact pt_self (by assumption) | (rw [pt_ne (by omega)]; assumption))) | (rw [pt_ne (by omega)]; first | assumption | exact pt_self (by first | assumption | exact pt_self (by assumption) | (rw [pt_ne (by omega)]; assumption)) | (rw [pt_ne (by omega)]; first | assumption | exact pt_self (by assumption) | (rw [pt_ne (by omega)]; assumption)))) (by first | assumption | exact pt_self (by first | assumption | exact pt_self (by first | assumption | exact pt_self (by assumption) | (rw [pt_ne (by omega)]; assumption)) | (rw [pt_ne (by omega)]; first | assumption | exact pt_self (by assumption) | (rw [pt_ne (by omega)]; assumption))) | (rw [pt_ne (by omega)]; first | assumption | exact pt_self (by first | assumption | exact pt_self (by assumption) | (rw [pt_ne (by omega)]; assumption)) | (rw [pt_ne (by omega)]; first | assumption | exact pt_self (by assumption) | (rw [pt_ne (by omega)]; assumption)))) (by omega) (by omega) ?_
  refine E_aload_n (pc' := 16) g15_15 rfl rfl ?_
  refine E_getR (pc' := 19) g15_16 f15_15 tg2_1 rfl (by first | assumption | exact pt_self (by first | assumption | exact pt_self (by first | assumption | exact pt_self (by assumption) | (rw [pt_ne (by omega)]; assumption)) | (rw [pt_ne (by omega)]; first | assumption | exact pt_self (by assumption) | (rw [pt_ne (by omega)]; assumption))) | (rw [pt_ne (by omega)]; first | assumption | exact pt_self (by first | assumption | exact pt_self (by assumption) | (rw [pt_ne (by omega)]; assumption)) | (rw [pt_ne (by omega)]; first | assumption | exact pt_self (by assumption) | (rw [pt_ne (by omega)]; assumption)))) rfl ?_
  refine E_iconst (pc' := 20) g15_19 (by decide) rfl ?_
  refine E_aload_n (pc' := 21) g15_20 rfl rfl ?_
  refine E_getR (pc' := 24) g15_21 f15_15 tg2_1 rfl (by first | assumption | exact pt_self (by first | assumption | exact pt_self (by first | assumption | exact pt_self (by assumption) | (rw [pt_ne (by omega)]; assumption)) | (rw [pt_ne (by omega)]; first | assumption | exact pt_self (by assumption) | (rw [pt_ne (by omega)]; assumption))) | (rw [pt_ne (by omega)]; first | assumption | exact pt_self (by first | assumption | exact pt_self (by assumption) | (rw [pt_ne (by omega)]; assumption)) | (rw [pt_ne (by omega)]; first | assumption | exact pt_self (by assumption) | (rw [pt_ne (by omega)]; assumption)))) rfl ?_
  refine E_iconst (pc' := 25) g15_24 (by decide) rfl ?_
  refine E_bipush (pc' := 27) g15_25 (by decide) rfl ?_
  refine E_copy (pc' := 30) g15_27 k15_24 rfl (Nat.le_of_ble_eq_true rfl) (by first | assumption | exact pt_self (by first | assumption | exact pt_self (by first | assumption | exact pt_self (by assumption) | (rw [pt_ne (by omega)]; assumption)) | (rw [pt_ne (by omega)]; first | assumption | exact pt_self (by assumption) | (rw [pt_ne (by omega)]; assumption))) | (rw [pt_ne (by omega)]; first | assumption | exact pt_self (by first | assumption | exact pt_self (by assumption) | (rw [pt_ne (by omega)]; assumption)) | (rw [pt_ne (by omega)]; first | assumption | exact pt_self (by assumption) | (rw [pt_ne (by omega)]; assumption)))) (by first | assumption | exact pt_self (by first | assumption | exact pt_self (by first | assumption | exact pt_self (by assumption) | (rw [pt_ne (by omega)]; assumption)) | (rw [pt_ne (by omega)]; first | assumption | exact pt_self (by assumption) | (rw [pt_ne (by omega)]; assumption))) | (rw [pt_ne (by omega)]; first | assumption | exact pt_self (by first | assumption | exact pt_self (by assumption) | (rw [pt_ne (by omega)]; assumption)) | (rw [pt_ne (by omega)]; first | assumption | exact pt_self (by assumption) | (rw [pt_ne (by omega)]; assumption)))) (by omega) (by omega) ?_
  exact E_ret g15_30 rt15 rfl rfl
theorem C_begin (hL : isLay H a bl sl) (hT : isTold H t kd wd ht rm mo sd bo ed hu sk hv) (hd : a + 3 ≤ t ∨ t + 5 ≤ a) : Call 2 14 [mR a, mR t] H none (pt (pt H (a + 1) (List.replicate 6 (-9))) (a + 2) sk) := by
  have hL0 := hL
  obtain ⟨h0, h1, h2, l1, l2, ob, ok⟩ := hL
  obtain ⟨t0, t1, t2, t3, t4, ⟨r1, r2, r3, r4, r5, r6, r7, b1, b2, b3, b4, n1, n2, n3, n4⟩⟩ := hT
  refine Call_of rfl ?_
  refine E_aload_n (pc' := 1) g14_0 rfl rfl ?_
  refine E_cV0v (pc' := 4) g14_1 k14_18 na16 rfl ow16 rfl (Nat.le_of_ble_eq_true rfl) (by assumption) (C_openAll hL0) (by decide) ?_
  refine E_aload_n (pc' := 5) g14_4 rfl rfl ?_
  refine E_getR (pc' := 8) g14_5 f14_21 tg4_9 rfl (by first | assumption | exact pt_self (by first | assumption | exact pt_self (by first | assumption | exact pt_self (by assumption) | (rw [pt_ne (by omega)]; assumption)) | (rw [pt_ne (by omega)]; first | assumption | exact pt_self (by assumption) | (rw [pt_ne (by omega)]; assumption))) | (rw [pt_ne (by omega)]; first | assumption | exact pt_self (by first | assumption | exact pt_self (by assumption) | (rw [pt_ne (by omega)]; assumption)) | (rw [pt_ne (by omega)]; first | assumption | exact pt_self (by assumption) | (rw [pt_ne (by omega)]; assumption)))) rfl ?_
  refine E_iconst (pc' := 9) g14_8 (by decide) rfl ?_
  refine E_aload_n (pc' := 10) g14_9 rfl rfl ?_
  refine E_getR (pc' := 13) g14_10 f14_15 tg2_1 rfl (by first | assumption | exact pt_self (by first | assumption | exact pt_self (by first | assumption | exact pt_self (by assumption) | (rw [pt_ne (by omega)]; assumption)) | (rw [pt_ne (by omega)]; first | assumption | exact pt_self (by assumption) | (rw [pt_ne (by omega)]; assumption))) | (rw [pt_ne (by omega)]; first | assumption | exact pt_self (by first | assumption | exact pt_self (by assumption) | (rw [pt_ne (by omega)]; assumption)) | (rw [pt_ne (by omega)]; first | assumption | exact pt_self (by assumption) | (rw [pt_ne (by omega)]; assumption)))) rfl ?_
  refine E_iconst (pc' := 14) g14_13 (by decide) rfl ?_
  refine E_bipush (pc' := 16) g14_14 (by decide) rfl ?_
  refine E_copy (pc' := 19) g14_16 k14_24 rfl (Nat.le_of_ble_eq_true rfl) (by first | assumption | exact pt_self (by first | assumption | exact pt_self (by first | assumption | exact pt_self (by assumption) | (rw [pt_ne (by omega)]; assumption)) | (rw [pt_ne (by omega)]; first | assumption | exact pt_self (by assumption) | (rw [pt_ne (by omega)]; assumption))) | (rw [pt_ne (by omega)]; first | assumption | exact pt_self (by first | assumption | exact pt_self (by assumption) | (rw [pt_ne (by omega)]; assumption)) | (rw [pt_ne (by omega)]; first | assumption | exact pt_self (by assumption) | (rw [pt_ne (by omega)]; assumption)))) (by first | assumption | exact pt_self (by first | assumption | exact pt_self (by first | assumption | exact pt_self (by assumption) | (rw [pt_ne (by omega)]; assumption)) | (rw [pt_ne (by omega)]; first | assumption | exact pt_self (by assumption) | (rw [pt_ne (by omega)]; assumption))) | (rw [pt_ne (by omega)]; first | assumption | exact pt_self (by first | assumption | exact pt_self (by assumption) | (rw [pt_ne (by omega)]; assumption)) | (rw [pt_ne (by omega)]; first | assumption | exact pt_self (by assumption) | (rw [pt_ne (by omega)]; assumption)))) (by omega) (by omega) ?_
  exact E_ret g14_19 rt14 rfl rfl
theorem C_sqHue (hL : isLay H a bl sl) (hT : isTold H t kd wd ht rm mo sd bo ed hu sk hv) {v : Int} : Call 0 19 [mR a, mR t, mI v] H (mI (nH bl hu v 6)) H := by
  obtain ⟨h0, h1, h2, l1, l2, ob, ok⟩ := hL
  obtain ⟨t0, t1, t2, t3, t4, ⟨r1, r2, r3, r4, r5, r6, r7, b1, b2, b3, b4, n1, n2, n3, n4⟩⟩ := hT
  refine Call_of rfl ?_
  refine E_iconst (pc' := 1) g19_0 (by decide) rfl ?_
  refine E_st3 (pc' := 2) g19_1 rfl ?_
  refine E_iconst (pc' := 3) g19_2 (by decide) rfl ?_
  refine E_st4 (pc' := 5) g19_3 rfl ?_
  suffices key : ∀ i : Nat, i ≤ 6 → ∀ x : mV, Ev 0 19 5 [mR a, mR t, mI v, mI (nH bl hu v i), mI (i : Int), x] [] H (mI (nH bl hu v 6)) H from key 0 (by omega) none
  refine E_loop (n := 6) (fun i => ∀ x : mV, Ev 0 19 5 [mR a, mR t, mI v, mI (nH bl hu v i), mI (i : Int), x] [] H (mI (nH bl hu v 6)) H) ?_ ?_
  · intro i hi hh
    intro x
    have hb := cn_bd (fun s => decide (0 ≤ ix bl s ∧ ix hu ((ix bl s).tdiv 4) = v)) i
    unfold nH at hh ⊢
    refine E_iload (pc' := 7) g19_5 rfl rfl ?_
    refine E_bipush (pc' := 9) g19_7 (by decide) rfl ?_
    refine E_icge (pc' := 12) (pt := 60) g19_9 rfl rfl (fun c0 => ?_) (fun c0 => ?_)
    · exact absurd c0 (by omega)
    · refine E_aload_n (pc' := 13) g19_12 rfl rfl ?_
      refine E_getR (pc' := 16) g19_13 f19_9 tg2_0 rfl (by first | assumption | exact pt_self (by first | assumption | exact pt_self (by first | assumption | exact pt_self (by assumption) | (rw [pt_ne (by omega)]; assumption)) | (rw [pt_ne (by omega)]; first | assumption | exact pt_self (by assumption) | (rw [pt_ne (by omega)]; assumption))) | (rw [pt_ne (by omega)]; first | assumption | exact pt_self (by first | assumption | exact pt_self (by assumption) | (rw [pt_ne (by omega)]; assumption)) | (rw [pt_ne (by omega)]; first | assumption | exact pt_self (by assumption) | (rw [pt_ne (by omega)]; assumption)))) rfl ?_
      refine E_iload (pc' := 18) g19_16 rfl rfl ?_
      refine E_iaload (pc' := 19) g19_18 rfl (by first | assumption | exact pt_self (by first | assumption | exact pt_self (by first | assumption | exact pt_self (by assumption) | (rw [pt_ne (by omega)]; assumption)) | (rw [pt_ne (by omega)]; first | assumption | exact pt_self (by assumption) | (rw [pt_ne (by omega)]; assumption))) | (rw [pt_ne (by omega)]; first | assumption | exact pt_self (by first | assumption | exact pt_self (by assumption) | (rw [pt_ne (by omega)]; assumption)) | (rw [pt_ne (by omega)]; first | assumption | exact pt_self (by assumption) | (rw [pt_ne (by omega)]; assumption)))) (by omega) (by omega) ?_
      refine E_iconst (pc' := 20) g19_19 (by decide) rfl ?_
      refine E_idiv (pc' := 21) g19_20 (by omega) rfl ?_
      refine E_st5 (pc' := 23) g19_21 rfl ?_
      refine E_aload_n (pc' := 24) g19_23 rfl rfl ?_
      refine E_getR (pc' := 27) g19_24 f19_9 tg2_0 rfl (by first | assumption | exact pt_self (by first | assumption | exact pt_self (by first | assumption | exact pt_self (by assumption) | (rw [pt_ne (by omega)]; assumption)) | (rw [pt_ne (by omega)]; first | assumption | exact pt_self (by assumption) | (rw [pt_ne (by omega)]; assumption))) | (rw [pt_ne (by omega)]; first | assumption | exact pt_self (by first | assumption | exact pt_self (by assumption) | (rw [pt_ne (by omega)]; assumption)) | (rw [pt_ne (by omega)]; first | assumption | exact pt_self (by assumption) | (rw [pt_ne (by omega)]; assumption)))) rfl ?_
      refine E_iload (pc' := 29) g19_27 rfl rfl ?_
      refine E_iaload (pc' := 30) g19_29 rfl (by first | assumption | exact pt_self (by first | assumption | exact pt_self (by first | assumption | exact pt_self (by assumption) | (rw [pt_ne (by omega)]; assumption)) | (rw [pt_ne (by omega)]; first | assumption | exact pt_self (by assumption) | (rw [pt_ne (by omega)]; assumption))) | (rw [pt_ne (by omega)]; first | assumption | exact pt_self (by first | assumption | exact pt_self (by assumption) | (rw [pt_ne (by omega)]; assumption)) | (rw [pt_ne (by omega)]; first | assumption | exact pt_self (by assumption) | (rw [pt_ne (by omega)]; assumption)))) (by omega) (by omega) ?_
      refine E_iflt (pc' := 33) (pt := 54) g19_30 rfl rfl (fun c1 => ?_) (fun c1 => ?_)
      · refine E_in4 (pc' := 57) g19_54 rfl (m_in_iff.mpr (by omega)) ?_
        refine E_goto (pc' := 5) g19_57 rfl ?_
        first | exact Ev_cast (hh _) (by rw [cn_t (decide_eq_true (by omega))]; rfl) rfl | exact Ev_cast (hh _) (by rw [cn_f (decide_eq_false (by omega))]; rfl) rfl
      · have q := td4 (x := ix bl i) (by omega) (by have := ob i; omega)
        refine E_iload (pc' := 35) g19_33 rfl rfl ?_
        refine E_bipush (pc' := 37) g19_35 (by decide) rfl ?_
        refine E_icge (pc' := 40) (pt := 54) g19_37 rfl rfl (fun c2 => ?_) (fun c2 => ?_)
        · exact absurd c2 (by omega)
        · refine E_aload_n (pc' := 41) g19_40 rfl rfl ?_
          refine E_getR (pc' := 44) g19_41 f19_36 tg4_8 rfl (by first | assumption | exact pt_self (by first | assumption | exact pt_self (by first | assumption | exact pt_self (by assumption) | (rw [pt_ne (by omega)]; assumption)) | (rw [pt_ne (by omega)]; first | assumption | exact pt_self (by assumption) | (rw [pt_ne (by omega)]; assumption))) | (rw [pt_ne (by omega)]; first | assumption | exact pt_self (by first | assumption | exact pt_self (by assumption) | (rw [pt_ne (by omega)]; assumption)) | (rw [pt_ne (by omega)]; first | assumption | exact pt_self (by assumption) | (rw [pt_ne (by omega)]; assumption)))) rfl ?_
          refine E_iload (pc' := 46) g19_44 rfl rfl ?_
          refine E_iaload (pc' := 47) g19_46 rfl (by first | assumption | exact pt_self (by first | assumption | exact pt_self (by first | assumption | exact pt_self (by assumption) | (rw [pt_ne (by omega)]; assumption)) | (rw [pt_ne (by omega)]; first | assumption | exact pt_self (by assumption) | (rw [pt_ne (by omega)]; assumption))) | (rw [pt_ne (by omega)]; first | assumption | exact pt_self (by first | assumption | exact pt_self (by assumption) | (rw [pt_ne (by omega)]; assumption)) | (rw [pt_ne (by omega)]; first | assumption | exact pt_self (by assumption) | (rw [pt_ne (by omega)]; assumption)))) (by omega) (by omega) ?_
          refine E_iload_n (pc' := 48) g19_47 rfl rfl ?_
          refine E_icne (pc' := 51) (pt := 54) g19_48 rfl rfl (fun c3 => ?_) (fun c3 => ?_)
          · refine E_in4 (pc' := 57) g19_54 rfl (m_in_iff.mpr (by omega)) ?_
            refine E_goto (pc' := 5) g19_57 rfl ?_
            first | exact Ev_cast (hh _) (by rw [cn_t (decide_eq_true (by omega))]; rfl) rfl | exact Ev_cast (hh _) (by rw [cn_f (decide_eq_false (by omega))]; rfl) rfl
          · refine E_in3 (pc' := 54) g19_51 rfl (m_in_iff.mpr (by omega)) ?_
            refine E_in4 (pc' := 57) g19_54 rfl (m_in_iff.mpr (by omega)) ?_
            refine E_goto (pc' := 5) g19_57 rfl ?_
            first | exact Ev_cast (hh _) (by rw [cn_t (decide_eq_true (by omega))]; rfl) rfl | exact Ev_cast (hh _) (by rw [cn_f (decide_eq_false (by omega))]; rfl) rfl
  · intro x
    refine E_iload (pc' := 7) g19_5 rfl rfl ?_
    refine E_bipush (pc' := 9) g19_7 (by decide) rfl ?_
    refine E_icge (pc' := 12) (pt := 60) g19_9 rfl rfl (fun c4 => ?_) (fun c4 => ?_)
    · refine E_iload_n (pc' := 61) g19_60 rfl rfl ?_
      exact E_iret g19_61 ro19 rfl rfl
    · exact absurd c4 (by omega)
theorem C_squares (hT : isTold H a kd wd ht rm mo sd bo ed hu sk hv) : Call 1 36 [mR a] H (mI (wd * ht)) H := by
  obtain ⟨t0, t1, t2, t3, t4, ⟨r1, r2, r3, r4, r5, r6, r7, b1, b2, b3, b4, n1, n2, n3, n4⟩⟩ := hT
  have hw := wh_bd r2.1 r2.2 r3.1 r3.2
  refine Call_of rfl ?_
  refine E_aload_n (pc' := 1) g36_0 rfl rfl ?_
  refine E_getI (pc' := 4) g36_1 f36_31 tg4_1 (by decide) rfl (by assumption) rfl ?_
  refine E_aload_n (pc' := 5) g36_4 rfl rfl ?_
  refine E_getI (pc' := 8) g36_5 f36_34 tg4_2 (by decide) rfl (by assumption) rfl ?_
  refine E_imul (pc' := 9) g36_8 (m_in_iff.mpr (by omega)) rfl ?_
  refine E_bipush (pc' := 11) g36_9 (by decide) rfl ?_
  refine E_min (pc' := 14) g36_11 k36_49 rfl (Nat.le_of_ble_eq_true rfl) ?_
  exact E_iret g36_14 ro36 (by rw [Int.min_eq_left (by omega)]) rfl
/-- an edge of a block as it is turned -/
def eo (ed : List Int) (b h : Int) : Int := if 0 ≤ b ∧ b < 24 ∧ 0 ≤ h ∧ h < 4 then ix ed (b.tdiv 4 * 4 + (h + 4 - b.tmod 4).tmod 4) else -9
theorem tm4 {x : Int} (h0 : 0 ≤ x) : 0 ≤ x.tmod 4 ∧ x.tmod 4 < 4 := by
  rw [Int.tmod_eq_emod_of_nonneg h0]
  omega
theorem C_edgeOf (hT : isTold H a kd wd ht rm mo sd bo ed hu sk hv) {b h : Int} : Call 0 37 [mR a, mI b, mI h] H (mI (eo ed b h)) H := by
  obtain ⟨t0, t1, t2, t3, t4, ⟨r1, r2, r3, r4, r5, r6, r7, b1, b2, b3, b4, n1, n2, n3, n4⟩⟩ := hT
  refine Call_of rfl ?_
  refine E_iload_n (pc' := 1) g37_0 rfl rfl ?_
  refine E_iflt (pc' := 4) (pt := 19) g37_1 rfl rfl (fun c0 => ?_) (fun c0 => ?_)
  · refine E_bipush (pc' := 21) g37_19 (by decide) rfl ?_
    exact E_iret g37_21 ro37 (by unfold eo; first | rw [if_pos (by omega)] | rw [if_neg (by omega)]) rfl
  · refine E_iload_n (pc' := 5) g37_4 rfl rfl ?_
    refine E_bipush (pc' := 7) g37_5 (by decide) rfl ?_
    refine E_icge (pc' := 10) (pt := 19) g37_7 rfl rfl (fun c1 => ?_) (fun c1 => ?_)
    · refine E_bipush (pc' := 21) g37_19 (by decide) rfl ?_
      exact E_iret g37_21 ro37 (by unfold eo; first | rw [if_pos (by omega)] | rw [if_neg (by omega)]) rfl
    · refine E_iload_n (pc' := 11) g37_10 rfl rfl ?_
      refine E_iflt (pc' := 14) (pt := 19) g37_11 rfl rfl (fun c2 => ?_) (fun c2 => ?_)
      · refine E_bipush (pc' := 21) g37_19 (by decide) rfl ?_
        exact E_iret g37_21 ro37 (by unfold eo; first | rw [if_pos (by omega)] | rw [if_neg (by omega)]) rfl
      · refine E_iload_n (pc' := 15) g37_14 rfl rfl ?_
        refine E_iconst (pc' := 16) g37_15 (by decide) rfl ?_
        refine E_iclt (pc' := 19) (pt := 22) g37_16 rfl rfl (fun c3 => ?_) (fun c3 => ?_)
        · have q1 := td4 (x := b) (by omega) (by omega)
          have q2 := tm4 (x := b) (by omega)
          refine E_iload_n (pc' := 23) g37_22 rfl rfl ?_
          refine E_iconst (pc' := 24) g37_23 (by decide) rfl ?_
          refine E_irem (pc' := 25) g37_24 (by omega) rfl ?_
          refine E_st3 (pc' := 26) g37_25 rfl ?_
          refine E_aload_n (pc' := 27) g37_26 rfl rfl ?_
          refine E_getR (pc' := 30) g37_27 f37_9 tg4_7 rfl (by assumption) rfl ?_
          refine E_iload_n (pc' := 31) g37_30 rfl rfl ?_
          refine E_iconst (pc' := 32) g37_31 (by decide) rfl ?_
          refine E_idiv (pc' := 33) g37_32 (by omega) rfl ?_
          refine E_iconst (pc' := 34) g37_33 (by decide) rfl ?_
          refine E_imul (pc' := 35) g37_34 (m_in_iff.mpr (by omega)) rfl ?_
          refine E_iload_n (pc' := 36) g37_35 rfl rfl ?_
          refine E_iconst (pc' := 37) g37_36 (by decide) rfl ?_
          refine E_iadd (pc' := 38) g37_37 (m_in_iff.mpr (by omega)) rfl ?_
          refine E_iload_n (pc' := 39) g37_38 rfl rfl ?_
          refine E_isub (pc' := 40) g37_39 (m_in_iff.mpr (by omega)) rfl ?_
          refine E_iconst (pc' := 41) g37_40 (by decide) rfl ?_
          refine E_irem (pc' := 42) g37_41 (by omega) rfl ?_
          have q3 := tm4 (x := h + 4 - b.tmod 4) (by omega)
          refine E_iadd (pc' := 43) g37_42 (m_in_iff.mpr (by omega)) rfl ?_
          refine E_iaload (pc' := 44) g37_43 rfl (by assumption) (by omega) (by omega) ?_
          exact E_iret g37_44 ro37 (by unfold eo; first | rw [if_pos (by omega)] | rw [if_neg (by omega)]) rfl
        · refine E_bipush (pc' := 21) g37_19 (by decide) rfl ?_
          exact E_iret g37_21 ro37 (by unfold eo; first | rw [if_pos (by omega)] | rw [if_neg (by omega)]) rfl
def lk (ed : List Int) (x z : Int) : Prop := ∀ h : Nat, h < 4 → eo ed x h = eo ed z h
theorem C_looksLike (hT : isTold H a kd wd ht rm mo sd bo ed hu sk hv) {x z r : Int} (hr : (lk ed x z → r = 1) ∧ (¬ lk ed x z → r = 0)) : Call 1 39 [mR a, mI x, mI z] H (mI r) H := by
  have hT0 := hT
  obtain ⟨t0, t1, t2, t3, t4, ⟨r1, r2, r3, r4, r5, r6, r7, b1, b2, b3, b4, n1, n2, n3, n4⟩⟩ := hT
  refine Call_of rfl ?_
  refine E_iconst (pc' := 1) g39_0 (by decide) rfl ?_
  refine E_st3 (pc' := 2) g39_1 rfl ?_
  refine (E_loop (n := 4) (fun i => (∀ j : Nat, j < i → eo ed x j = eo ed z j) → Ev 1 39 2 [mR a, mI x, mI z, mI (i : Int)] [] H (mI r) H) ?_ ?_ 0 (by omega)) (fun j hj => absurd hj (by omega))
  · intro i hi hh hall
    refine E_iload_n (pc' := 3) g39_2 rfl rfl ?_
    refine E_iconst (pc' := 4) g39_3 (by decide) rfl ?_
    refine E_icge (pc' := 7) (pt := 30) g39_4 rfl rfl (fun c0 => ?_) (fun c0 => ?_)
    · exact absurd c0 (by omega)
    · refine E_aload_n (pc' := 8) g39_7 rfl rfl ?_
      refine E_iload_n (pc' := 9) g39_8 rfl rfl ?_
      refine E_iload_n (pc' := 10) g39_9 rfl rfl ?_
      refine E_cV2i (pc' := 13) g39_10 k39_59 na37 rfl ow37 rfl (Nat.le_of_ble_eq_true rfl) (by assumption) (C_edgeOf hT0) (by decide) ?_
      refine E_aload_n (pc' := 14) g39_13 rfl rfl ?_
      refine E_iload_n (pc' := 15) g39_14 rfl rfl ?_
      refine E_iload_n (pc' := 16) g39_15 rfl rfl ?_
      refine E_cV2i (pc' := 19) g39_16 k39_59 na37 rfl ow37 rfl (Nat.le_of_ble_eq_true rfl) (by assumption) (C_edgeOf hT0) (by decide) ?_
      refine E_iceq (pc' := 22) (pt := 24) g39_19 rfl rfl (fun c1 => ?_) (fun c1 => ?_)
      · refine E_in3 (pc' := 27) g39_24 rfl (m_in_iff.mpr (by omega)) ?_
        refine E_goto (pc' := 2) g39_27 rfl ?_
        exact hh (fun j hj => by
          rcases Nat.lt_or_ge j i with q | q
          · exact hall j q
          · rw [show j = i by omega]; assumption)
      · refine E_iconst (pc' := 23) g39_22 (by decide) rfl ?_
        exact E_iret g39_23 (ro39 (by omega)) (by rw [hr.2 (fun q => absurd (q i hi) (by assumption))]) rfl
  · intro hall
    refine E_iload_n (pc' := 3) g39_2 rfl rfl ?_
    refine E_iconst (pc' := 4) g39_3 (by decide) rfl ?_
    refine E_icge (pc' := 7) (pt := 30) g39_4 rfl rfl (fun c0 => ?_) (fun c0 => ?_)
    · refine E_iconst (pc' := 31) g39_30 (by decide) rfl ?_
      exact E_iret g39_31 (ro39 (by omega)) (by rw [hr.1 (fun j hj => hall j hj)]) rfl
    · exact absurd c0 (by omega)
def plain (ed : List Int) (x : Int) : Prop := ∀ z : Int, x - x.tmod 4 ≤ z → z < x → ¬ lk ed z x
theorem C_isPlain (hT : isTold H a kd wd ht rm mo sd bo ed hu sk hv) {x r : Int} (hx : 0 ≤ x ∧ x < 24) (hr : (plain ed x → r = 1) ∧ (¬ plain ed x → r = 0)) : Call 2 38 [mR a, mI x] H (mI r) H := by
  have hT0 := hT
  obtain ⟨t0, t1, t2, t3, t4, ⟨r1, r2, r3, r4, r5, r6, r7, b1, b2, b3, b4, n1, n2, n3, n4⟩⟩ := hT
  have q2 := tm4 (x := x) (by omega)
  refine Call_of rfl ?_
  refine E_iload_n (pc' := 1) g38_0 rfl rfl ?_
  refine E_iload_n (pc' := 2) g38_1 rfl rfl ?_
  refine E_iconst (pc' := 3) g38_2 (by decide) rfl ?_
  refine E_irem (pc' := 4) g38_3 (by omega) rfl ?_
  refine E_isub (pc' := 5) g38_4 (m_in_iff.mpr (by omega)) rfl ?_
  refine E_st2 (pc' := 6) g38_5 rfl ?_
  obtain ⟨n, hn⟩ : ∃ n : Nat, (n : Int) = x.tmod 4 := ⟨(x.tmod 4).toNat, by omega⟩
  refine Ev_cast ((E_loop (n := n) (fun i => (∀ z : Int, x - n ≤ z → z < x - n + i → ¬ lk ed z x) → Ev 2 38 6 [mR a, mI x, mI (x - n + i)] [] H (mI r) H) ?_ ?_ 0 (by omega)) (fun z h1 h2 => absurd h2 (by omega))) (by rw [hn]; simp) rfl
  · intro i hi hh hall
    obtain ⟨lkI, hlk⟩ : ∃ v : Int, (lk ed (x - n + i) x → v = 1) ∧ (¬ lk ed (x - n + i) x → v = 0) := by
      by_cases q : lk ed (x - n + i) x
      · exact ⟨1, fun _ => rfl, fun z => absurd q z⟩
      · exact ⟨0, fun z => absurd z q, fun _ => rfl⟩
    refine E_iload_n (pc' := 7) g38_6 rfl rfl ?_
    refine E_iload_n (pc' := 8) g38_7 rfl rfl ?_
    refine E_icge (pc' := 11) (pt := 28) g38_8 rfl rfl (fun c0 => ?_) (fun c0 => ?_)
    · exact absurd c0 (by omega)
    · refine E_aload_n (pc' := 12) g38_11 rfl rfl ?_
      refine E_iload_n (pc' := 13) g38_12 rfl rfl ?_
      refine E_iload_n (pc' := 14) g38_13 rfl rfl ?_
      refine E_cV2i (pc' := 17) g38_14 k38_55 na39 rfl ow39 rfl (Nat.le_of_ble_eq_true rfl) (by assumption) (C_looksLike hT0 (r := lkI) hlk) (by decide) ?_
      refine E_ifeq (pc' := 20) (pt := 22) g38_17 rfl rfl (fun c1 => ?_) (fun c1 => ?_)
      · refine E_in2 (pc' := 25) g38_22 rfl (m_in_iff.mpr (by omega)) ?_
        refine E_goto (pc' := 6) g38_25 rfl ?_
        refine Ev_cast (hh (fun z h1 h2 => ?_)) (by simp; omega) rfl
        by_cases e : z < x - n + i
        · exact hall z h1 e
        · rw [show z = x - n + i by omega]
          intro q
          have := hlk.1 q
          omega
      · refine E_iconst (pc' := 21) g38_20 (by decide) rfl ?_
        exact E_iret g38_21 (ro38 (by omega)) (by rw [hr.2 (fun q => q (x - n + i) (by omega) (by omega) (Classical.byContradiction (fun z => by have := hlk.2 z; omega)))]) rfl
  · intro hall
    refine E_iload_n (pc' := 7) g38_6 rfl rfl ?_
    refine E_iload_n (pc' := 8) g38_7 rfl rfl ?_
    refine E_icge (pc' := 11) (pt := 28) g38_8 rfl rfl (fun c0 => ?_) (fun c0 => ?_)
    · refine E_iconst (pc' := 29) g38_28 (by decide) rfl ?_
      exact E_iret g38_29 (ro38 (by omega)) (by rw [hr.1 (fun z h1 h2 => hall z (by omega) (by omega))]) rfl
    · exact absurd c0 (by omega)
end TD
