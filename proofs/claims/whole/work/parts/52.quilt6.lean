/-! QuiltPatches: wanting, sure -/
def inV (a : Nat) : Prop := 17 ≤ a ∧ a ≤ 18 ∨ 23 ≤ a ∧ a ≤ 30 ∨ a = 37
def inZ (a : Nat) : Prop := 23 ≤ a ∧ a ≤ 30 ∨ a = 37
def wantR (Q : Int → List (List Int)) (r : Int) : Prop := (∀ t : Int, 0 ≤ t → t ≤ 9 → ¬ Q t = [] → (∀ u : Int, 0 ≤ u → u < t → Q u = []) → r = t) ∧ ((∀ t : Int, 0 ≤ t → t ≤ 9 → Q t = []) → r = -9)
section QW
variable {H : mH} {ta tb lay : Nat} {le pe un : Int} {bl sl b6 s6 : List Int} {kd wd ht rm mo sd bo : Int} {ed hu sk : List Int} {W la fq : List Int} {n : Nat} {L : Int}
theorem qts_more {k t : Int} (hsl : sl.length = 6) (hk : 0 ≤ k ∧ k < 6) (ht9 : t ≤ 9) (h : ¬ qts bl (up sl k t) ed hu kd wd ht rm mo (-9) (-9) n = []) : ¬ qts bl (up sl k 9) ed hu kd wd ht rm mo (-9) (-9) n = [] := by
  intro h2
  cases hq : qts bl (up sl k t) ed hu kd wd ht rm mo (-9) (-9) n with
  | nil => exact h hq
  | cons x xs =>
    have hx : x ∈ qts bl (up sl k t) ed hu kd wd ht rm mo (-9) (-9) n := by rw [hq]; exact List.mem_cons_self
    have : x ∈ qts bl (up sl k 9) ed hu kd wd ht rm mo (-9) (-9) n := by
      refine qs_sub (fun T s b hb => ?_) hx
      obtain ⟨a1, a2, a3, f1, f2, f3, f4⟩ := okM_t.mp hb
      refine okM_t.mpr ⟨a1, a2, a3, ?_, f2, f3, f4⟩
      have h0 : 0 ≤ (b : Int).tdiv 4 := by rw [Int.tdiv_eq_ediv_of_nonneg (by omega)]; omega
      rw [ix_up hk.1 (by omega) h0] at f1 ⊢
      split at f1
      · rename_i e; rw [if_pos e]; omega
      · rename_i e; rw [if_neg e]; omega
    rw [h2] at this
    cases this
theorem C_wanting_no (hR : isRoot H le ta tb pe un) (hT : isTold H ta kd wd ht rm mo sd bo ed hu sk (hvs ed (4 * kd).toNat)) (hta : ta = 3 ∨ ta = 8) (hLy : isLay H 13 bl sl) {k : Int} (hno : ¬ (0 ≤ k ∧ k < kd)) : Call 18 73 [mR 0, mI k] H (mI (-1)) H := by
  have q0 : H[0]? = _ := hR
  have e1 := inI_or k 0 kd
  refine Call_of rfl ?_
  refine E_aload_n (pc' := 1) g73_0 rfl rfl ?_
  refine E_iload_n (pc' := 2) g73_1 rfl rfl ?_
  refine E_cV1i (pc' := 5) g73_2 k73_99 na81 rfl ow81 rfl (Nat.le_of_ble_eq_true rfl) q0 (C_isKind hR hT hLy) (by decide) ?_
  refine E_ifne (pc' := 8) (pt := 10) g73_5 rfl rfl (fun c0 => ?_) (fun c0 => ?_)
  · first
    | (exfalso; omega)
    | (exfalso; omega)
  · first
    | (exfalso; omega)
    | (refine E_iconst (pc' := 9) g73_8 (by decide) rfl ?_
       exact E_iret g73_9 ro73 rfl rfl)
theorem up_up {k u v : Int} : up (up sl k u) k v = up sl k v := by simp [up]
theorem C_wanting (hR : isRoot H le ta tb pe un) (hT : isTold H ta kd wd ht rm mo sd bo ed hu sk (hvs ed (4 * kd).toNat)) (hta : ta = 3 ∨ ta = 8) (hLy : isLay H 13 bl sl) (hL6 : isLay H 16 b6 s6) (hFS : isFS H la) (h22 : H[22]? = some (5, [((23 : Nat) : Int)])) (h23 : H[23]? = some (8, W)) (hWl : W.length = 6) (hn : (n : Int) = wd * ht) (hB : ∀ j : Nat, j < 6 → ix bl j = -9 ∨ (0 ≤ ix bl j ∧ ix bl j < kd * 4)) {k r : Int} (hk : 0 ≤ k ∧ k < kd) (hr : wantR (fun t => qts bl (up sl k t) ed hu kd wd ht rm mo (-9) (-9) n) r) : ∃ H2 la2 b7 s7, Fr inV H H2 ∧ isFS H2 la2 ∧ isLay H2 16 b7 s7 ∧ Call 18 73 [mR 0, mI k] H (mI r) H2 := by
  have hT0 := hT
  obtain ⟨t0, t1, t2, t3, t4, ⟨r1, r2, r3, r4, r5, r6, r7, b1, b2, b3, b4, n1, n2, n3, n4⟩⟩ := hT
  have q0 : H[0]? = _ := hR
  have q16 := hL6.1
  have e1 := inI_or k 0 kd
  have hL0 := hLy
  obtain ⟨y0, y1, y2, l1, l2, ob, hsl⟩ := hLy
  have hml : ∀ t : Int, 0 ≤ t → t ≤ 9 → sml (up sl k t) := fun t h1 h2 => sml_up hsl hk.1 (by omega) (by omega)
  have q17 := hL6.2.1
  have q18 := hL6.2.2.1
  have l17 := hL6.2.2.2.1
  have l18 := hL6.2.2.2.2.1
  -- one asking of the quilts, at any time
  have ask : ∀ (Hc : mH) (lc : List Int) (t0 t : Int), Fr inV H Hc → isLay Hc 16 bl (up sl k t0) → isFS Hc lc → 0 ≤ t → t ≤ 9 → ∃ H2 l2, Fr inV H H2 ∧ isLay H2 16 bl (up sl k t) ∧ isFS H2 l2 ∧ Call 17 93 [mR 0, mR 16, mI 1] (pt Hc 18 (up sl k t)) (mI (min 1 (qts bl (up sl k t) ed hu kd wd ht rm mo (-9) (-9) n).length)) H2 := by
    intro Hc lc t0 t hF hLc hFc h0 h9
    have hF1 : Fr inV H (pt Hc 18 (up sl k t)) := Fr_and hF (by unfold inV; omega) q18 (by rw [up_len]; omega)
    have hl := lay_s (sl2 := up sl k t) hLc (by rw [up_len]; exact l2) (hml t h0 h9)
    obtain ⟨W3, w1, w2⟩ := cell_fr hF1 h23
    obtain ⟨H2, f1, f2, hc⟩ := C_quiltsOf (H := pt Hc 18 (up sl k t)) (L := 1) (root_fr hF1 hR (by unfold inV; omega)) (told_fr hF1 hT0 (by unfold inV; omega) (by unfold inV; omega) (by unfold inV; omega) (by unfold inV; omega) (by unfold inV; omega)) hta (Or.inr rfl) hl (fs_keep hFc (by omega)) (by rw [hF1.2 22 (by unfold inV; omega)]; exact h22) w1 (by omega) hn hB (by omega)
    have e := (adv_val (L := 1) (Q := qts bl (up sl k t) ed hu kd wd ht rm mo (-9) (-9) n) (f := 0) (la := lc) (by omega)).1
    rw [Int.zero_add, Int.sub_zero] at e
    rw [e] at hc
    exact ⟨H2, _, Fr_trans hF1 (Fr_up f1 (fun a h => Or.inr (Or.inl h))), lay_fr f1 hl (by unfold inQ; omega) (by unfold inQ; omega) (by unfold inQ; omega), f2, hc⟩
  have hlen : ∀ t : Int, (qts bl (up sl k t) ed hu kd wd ht rm mo (-9) (-9) n = [] ∧ min 1 ((qts bl (up sl k t) ed hu kd wd ht rm mo (-9) (-9) n).length : Int) = 0) ∨ (¬ qts bl (up sl k t) ed hu kd wd ht rm mo (-9) (-9) n = [] ∧ min 1 ((qts bl (up sl k t) ed hu kd wd ht rm mo (-9) (-9) n).length : Int) = 1) := by
    intro t
    cases hq : qts bl (up sl k t) ed hu kd wd ht rm mo (-9) (-9) n with
    | nil => exact Or.inl ⟨rfl, by simp only [List.length_nil]; omega⟩
    | cons x xs => exact Or.inr ⟨by simp, by simp only [List.length_cons]; omega⟩
  have hcb := C_become hL6 hL0 (by omega)
  have hF9 : Fr inV H (pt (pt H (16 + 1) bl) (16 + 2) sl) := Fr_and (Fr_pt (by unfold inV; omega) q17 (by omega)) (by unfold inV; omega) q18 (by omega)
  have hl9 : isLay (pt (pt H (16 + 1) bl) (16 + 2) sl) 16 bl sl := lay_s (lay_b hL6 l1 ob) l2 hsl
  have hl9' : isLay (pt (pt H (16 + 1) bl) (16 + 2) sl) 16 bl (up sl k (ix sl k)) := by
    have : up sl k (ix sl k) = sl := by
      apply ix_ext (up_len _ _ _)
      intro j h0 h1
      rw [up_len] at h1
      rw [ix_up hk.1 (by omega) h0]
      split
      · rename_i e; rw [e]
      · rfl
    rw [this]
    exact hl9
  obtain ⟨H9, l9, f9, g9, fs9, hc9⟩ := ask _ _ (ix sl k) 9 hF9 hl9' (fs_keep (fs_keep hFS (by omega)) (by omega)) (by omega) (by omega)
  have p0 : ∀ {Hc : mH}, Fr inV H Hc → Hc[0]? = _ := fun hF => root_fr hF hR (by unfold inV; omega)
  rcases hlen 9 with ⟨e9, m9⟩ | ⟨e9, m9⟩
  · -- nothing at the most
    have hr9 : r = -9 := hr.2 (fun t h0 h9 => Classical.byContradiction (fun z => qts_more l2 (by omega) h9 z e9))
    rw [m9] at hc9
    refine ⟨H9, l9, _, _, f9, fs9, g9, ?_⟩
    refine Call_of rfl ?_
    refine E_aload_n (pc' := 1) g73_0 rfl rfl ?_
    refine E_iload_n (pc' := 2) g73_1 rfl rfl ?_
    refine E_cV1i (pc' := 5) g73_2 k73_99 na81 rfl ow81 rfl (Nat.le_of_ble_eq_true rfl) q0 (C_isKind hR hT0 hL0) (by decide) ?_
    refine E_ifne (pc' := 8) (pt := 10) g73_5 rfl rfl (fun c0 => ?_) (fun c0 => ?_)
    · first
      | (exfalso; omega)
      | (refine E_aload_n (pc' := 11) g73_10 rfl rfl ?_
         refine E_getR (pc' := 14) g73_11 f73_37 tg6_6 rfl q0 rfl ?_
         refine E_aload_n (pc' := 15) g73_14 rfl rfl ?_
         refine E_getR (pc' := 18) g73_15 f73_33 tg6_5 rfl q0 rfl ?_
         refine E_cV1v (pc' := 21) g73_18 k73_151 na15 rfl ow15 rfl (Nat.le_of_ble_eq_true rfl) q16 hcb (by decide) ?_
         refine E_aload_n (pc' := 22) g73_21 rfl rfl ?_
         refine E_getR (pc' := 25) g73_22 f73_37 tg6_6 rfl (p0 hF9) rfl ?_
         refine E_getR (pc' := 28) g73_25 f73_106 tg2_1 rfl hl9.1 rfl ?_
         refine E_iload_n (pc' := 29) g73_28 rfl rfl ?_
         refine E_bipush (pc' := 31) g73_29 (by decide) rfl ?_
         refine E_iastore (pc' := 32) g73_31 rfl hl9.2.2.1 (by omega) (by omega) ?_
         refine E_aload_n (pc' := 33) g73_32 rfl rfl ?_
         refine E_aload_n (pc' := 34) g73_33 rfl rfl ?_
         refine E_getR (pc' := 37) g73_34 f73_37 tg6_6 rfl (pt_nx (by decide) (p0 hF9)) rfl ?_
         refine E_iconst (pc' := 38) g73_37 (by decide) rfl ?_
         refine E_cV2i (pc' := 41) g73_38 k73_182 na93 rfl ow93 rfl (Nat.le_of_ble_eq_true rfl) (pt_nx (by decide) (p0 hF9)) hc9 (by decide) ?_
         refine E_iconst (pc' := 42) g73_41 (by decide) rfl ?_
         refine E_icge (pc' := 45) (pt := 48) g73_42 rfl rfl (fun c1 => ?_) (fun c1 => ?_)
         · first
           | (exfalso; omega)
           | (exfalso; omega)
         · first
           | (exfalso; omega)
           | (refine E_bipush (pc' := 47) g73_45 (by decide) rfl ?_
              exact E_iret g73_47 ro73 (by rw [hr9]) rfl))
    · first
      | (exfalso; omega)
      | (exfalso; omega)
  · rw [m9] at hc9
    have loopA : ∀ i : Nat, i ≤ 9 → (∀ t : Int, 0 ≤ t → t < i → qts bl (up sl k t) ed hu kd wd ht rm mo (-9) (-9) n = []) → ∀ (Hc : mH) (lc : List Int) (t0 : Int), Fr inV H Hc → isLay Hc 16 bl (up sl k t0) → isFS Hc lc → ∃ H2 la2 b7 s7, Fr inV H H2 ∧ isFS H2 la2 ∧ isLay H2 16 b7 s7 ∧ Ev 18 73 50 [mR 0, mI k, mI (i : Int)] [] Hc (mI r) H2 := by
      refine E_loop (n := 9) _ ?_ ?_
      · intro i hi hh hall Hc lc t0 hFc hlc hsc
        obtain ⟨H2, l2', f2, g2, s2, hc2⟩ := ask Hc lc t0 i hFc hlc hsc (by omega) (by omega)
        rcases hlen i with ⟨ei, m1⟩ | ⟨ei, m1⟩
        · rw [m1] at hc2
          obtain ⟨H3, a3, b3', s3, x1, x2, x3, hev⟩ := hh (fun t h0 h1 => by
            by_cases e : t = i
            · rw [e]; exact ei
            · exact hall t h0 (by omega)) H2 l2' i f2 g2 s2
          refine ⟨H3, a3, b3', s3, x1, x2, x3, ?_⟩
          refine E_iload_n (pc' := 51) g73_50 rfl rfl ?_
          refine E_bipush (pc' := 53) g73_51 (by decide) rfl ?_
          refine E_icge (pc' := 56) (pt := 86) g73_53 rfl rfl (fun c0 => ?_) (fun c0 => ?_)
          · first
            | (exfalso; omega)
            | (exfalso; omega)
          · first
            | (exfalso; omega)
            | (refine E_aload_n (pc' := 57) g73_56 rfl rfl ?_
               refine E_getR (pc' := 60) g73_57 f73_37 tg6_6 rfl (p0 hFc) rfl ?_
               refine E_getR (pc' := 63) g73_60 f73_106 tg2_1 rfl hlc.1 rfl ?_
               refine E_iload_n (pc' := 64) g73_63 rfl rfl ?_
               refine E_iload_n (pc' := 65) g73_64 rfl rfl ?_
               refine E_iastore (pc' := 66) g73_65 rfl hlc.2.2.1 (by omega) (by rw [up_len]; omega) ?_
               rw [up_up]
               refine E_aload_n (pc' := 67) g73_66 rfl rfl ?_
               refine E_aload_n (pc' := 68) g73_67 rfl rfl ?_
               refine E_getR (pc' := 71) g73_68 f73_37 tg6_6 rfl (pt_nx (by decide) (p0 hFc)) rfl ?_
               refine E_iconst (pc' := 72) g73_71 (by decide) rfl ?_
               refine E_cV2i (pc' := 75) g73_72 k73_182 na93 rfl ow93 rfl (Nat.le_of_ble_eq_true rfl) (pt_nx (by decide) (p0 hFc)) hc2 (by decide) ?_
               refine E_ifle (pc' := 78) (pt := 80) g73_75 rfl rfl (fun c1 => ?_) (fun c1 => ?_)
               · first
                 | (exfalso; omega)
                 | (refine E_in2 (pc' := 83) g73_80 rfl (m_in_iff.mpr (by omega)) ?_
                    refine E_goto (pc' := 50) g73_83 rfl ?_
                    exact hev)
               · first
                 | (exfalso; omega)
                 | (exfalso; omega))
        · rw [m1] at hc2
          have hri : r = i := hr.1 i (by omega) (by omega) ei (fun u h0 h1 => hall u h0 (by omega))
          refine ⟨H2, l2', _, _, f2, s2, g2, ?_⟩
          refine E_iload_n (pc' := 51) g73_50 rfl rfl ?_
          refine E_bipush (pc' := 53) g73_51 (by decide) rfl ?_
          refine E_icge (pc' := 56) (pt := 86) g73_53 rfl rfl (fun c0 => ?_) (fun c0 => ?_)
          · first
            | (exfalso; omega)
            | (exfalso; omega)
          · first
            | (exfalso; omega)
            | (refine E_aload_n (pc' := 57) g73_56 rfl rfl ?_
               refine E_getR (pc' := 60) g73_57 f73_37 tg6_6 rfl (p0 hFc) rfl ?_
               refine E_getR (pc' := 63) g73_60 f73_106 tg2_1 rfl hlc.1 rfl ?_
               refine E_iload_n (pc' := 64) g73_63 rfl rfl ?_
               refine E_iload_n (pc' := 65) g73_64 rfl rfl ?_
               refine E_iastore (pc' := 66) g73_65 rfl hlc.2.2.1 (by omega) (by rw [up_len]; omega) ?_
               rw [up_up]
               refine E_aload_n (pc' := 67) g73_66 rfl rfl ?_
               refine E_aload_n (pc' := 68) g73_67 rfl rfl ?_
               refine E_getR (pc' := 71) g73_68 f73_37 tg6_6 rfl (pt_nx (by decide) (p0 hFc)) rfl ?_
               refine E_iconst (pc' := 72) g73_71 (by decide) rfl ?_
               refine E_cV2i (pc' := 75) g73_72 k73_182 na93 rfl ow93 rfl (Nat.le_of_ble_eq_true rfl) (pt_nx (by decide) (p0 hFc)) hc2 (by decide) ?_
               refine E_ifle (pc' := 78) (pt := 80) g73_75 rfl rfl (fun c1 => ?_) (fun c1 => ?_)
               · first
                 | (exfalso; omega)
                 | (exfalso; omega)
               · first
                 | (exfalso; omega)
                 | (refine E_iload_n (pc' := 79) g73_78 rfl rfl ?_
                    exact E_iret g73_79 ro73 (by rw [hri]) rfl))
      · intro hall Hc lc t0 hFc hlc hsc
        have hri : r = 9 := hr.1 9 (by omega) (by omega) e9 (fun u h0 h1 => hall u h0 (by omega))
        refine ⟨Hc, lc, _, _, hFc, hsc, hlc, ?_⟩
        refine E_iload_n (pc' := 51) g73_50 rfl rfl ?_
        refine E_bipush (pc' := 53) g73_51 (by decide) rfl ?_
        refine E_icge (pc' := 56) (pt := 86) g73_53 rfl rfl (fun c0 => ?_) (fun c0 => ?_)
        · first
          | (exfalso; omega)
          | (refine E_bipush (pc' := 88) g73_86 (by decide) rfl ?_
             exact E_iret g73_88 ro73 (by rw [hri]) rfl)
        · first
          | (exfalso; omega)
          | (exfalso; omega)
    obtain ⟨H3, a3, b3', s3, x1, x2, x3, hev⟩ := loopA 0 (by omega) (fun t h0 h1 => absurd h1 (by omega)) H9 l9 9 f9 g9 fs9
    refine ⟨H3, a3, b3', s3, x1, x2, x3, ?_⟩
    refine Call_of rfl ?_
    refine E_aload_n (pc' := 1) g73_0 rfl rfl ?_
    refine E_iload_n (pc' := 2) g73_1 rfl rfl ?_
    refine E_cV1i (pc' := 5) g73_2 k73_99 na81 rfl ow81 rfl (Nat.le_of_ble_eq_true rfl) q0 (C_isKind hR hT0 hL0) (by decide) ?_
    refine E_ifne (pc' := 8) (pt := 10) g73_5 rfl rfl (fun c0 => ?_) (fun c0 => ?_)
    · first
      | (exfalso; omega)
      | (refine E_aload_n (pc' := 11) g73_10 rfl rfl ?_
         refine E_getR (pc' := 14) g73_11 f73_37 tg6_6 rfl q0 rfl ?_
         refine E_aload_n (pc' := 15) g73_14 rfl rfl ?_
         refine E_getR (pc' := 18) g73_15 f73_33 tg6_5 rfl q0 rfl ?_
         refine E_cV1v (pc' := 21) g73_18 k73_151 na15 rfl ow15 rfl (Nat.le_of_ble_eq_true rfl) q16 hcb (by decide) ?_
         refine E_aload_n (pc' := 22) g73_21 rfl rfl ?_
         refine E_getR (pc' := 25) g73_22 f73_37 tg6_6 rfl (p0 hF9) rfl ?_
         refine E_getR (pc' := 28) g73_25 f73_106 tg2_1 rfl hl9.1 rfl ?_
         refine E_iload_n (pc' := 29) g73_28 rfl rfl ?_
         refine E_bipush (pc' := 31) g73_29 (by decide) rfl ?_
         refine E_iastore (pc' := 32) g73_31 rfl hl9.2.2.1 (by omega) (by omega) ?_
         refine E_aload_n (pc' := 33) g73_32 rfl rfl ?_
         refine E_aload_n (pc' := 34) g73_33 rfl rfl ?_
         refine E_getR (pc' := 37) g73_34 f73_37 tg6_6 rfl (pt_nx (by decide) (p0 hF9)) rfl ?_
         refine E_iconst (pc' := 38) g73_37 (by decide) rfl ?_
         refine E_cV2i (pc' := 41) g73_38 k73_182 na93 rfl ow93 rfl (Nat.le_of_ble_eq_true rfl) (pt_nx (by decide) (p0 hF9)) hc9 (by decide) ?_
         refine E_iconst (pc' := 42) g73_41 (by decide) rfl ?_
         refine E_icge (pc' := 45) (pt := 48) g73_42 rfl rfl (fun c1 => ?_) (fun c1 => ?_)
         · first
           | (exfalso; omega)
           | (refine E_iconst (pc' := 49) g73_48 (by decide) rfl ?_
              refine E_st2 (pc' := 50) g73_49 rfl ?_
              exact hev)
         · first
           | (exfalso; omega)
           | (exfalso; omega))
    · first
      | (exfalso; omega)
      | (exfalso; omega)
theorem m_of (a : Int32) : Int32.ofInt a.toInt = a := m_of_toInt a
/-- a bit taken out -/
theorem and_not {x : Int} {b : Nat} (hx : 0 ≤ x ∧ x ≤ 16777215) (hb : b < 24) : m_and x (m_xor (m_shl 1 (b : Int)) (-1)) = mset (fun c => bit x c = true ∧ ¬ c = b) := by
  obtain ⟨y, rfl⟩ : ∃ y : Nat, x = (y : Int) := ⟨x.toNat, by omega⟩
  have hle : y &&& (2 ^ b ^^^ 4294967295) ≤ y := Nat.and_le_left
  have e : m_and (y : Int) (m_xor (m_shl 1 (b : Int)) (-1)) = ((y &&& (2 ^ b ^^^ 4294967295) : Nat) : Int) := by
    rw [m_shl_nat b (by omega)]
    unfold m_and m_xor
    rw [m_of]
    refine i32_nat ?_ (by omega)
    rw [Int32.toBitVec_and, BitVec.toNat_and, of_nat_bv (by omega), Int32.toBitVec_xor, BitVec.toNat_xor, of_nat_bv (Nat.lt_of_le_of_lt (Nat.pow_le_pow_right (by decide) (show b ≤ 24 by omega)) (by decide))]
    rfl
  rw [e]
  refine mset_eq (by omega) (fun c hc => ?_)
  unfold bit
  rw [Int.toNat_natCast, Int.toNat_natCast, Int.toNat_natCast, Nat.testBit_and, Nat.testBit_xor, Nat.testBit_two_pow, show 4294967295 = 2 ^ 32 - 1 by decide, Nat.testBit_two_pow_sub_one]
  have h1 : decide (c < 32) = true := by simp; omega
  rw [h1]
  by_cases e2 : b = c
  · subst e2; simp
  · have : ¬ c = b := fun z => e2 z.symm
    simp [e2, this]
theorem ini_but (r1 : 0 ≤ kd ∧ kd ≤ 6) {s b0 : Nat} (hs : s < 6) (hb0 : b0 < 24) : up (iniL bl sl ed hu kd wd ht rm mo (-9) (-9) n) s (m_and (ix (iniL bl sl ed hu kd wd ht rm mo (-9) (-9) n) s) (m_xor (m_shl 1 (b0 : Int)) (-1))) = iniL bl sl ed hu kd wd ht rm mo s b0 n := by
  apply ix_ext (by rw [up_len, iniL_len, iniL_len])
  intro j h0 h1
  rw [up_len, iniL_len] at h1
  obtain ⟨c, rfl⟩ : ∃ c : Nat, j = (c : Int) := ⟨j.toNat, by omega⟩
  rw [ix_upn iniL_len hs, iniL_ix (s := c) (by omega), iniL_ix hs, iniL_ix (s := c) (by omega)]
  by_cases e : s = c
  · subst e
    rw [if_pos rfl, and_not (mset_in _) hb0]
    refine mset_congr (fun b hb => ?_)
    rw [mset_bit]
    constructor
    · rintro ⟨⟨-, i1, i2, i3, i4, i5⟩, hne⟩
      exact ⟨i1, i2, i3, fun z => hne (by omega), i5⟩
    · rintro ⟨i1, i2, i3, i4, i5⟩
      exact ⟨⟨hb, i1, i2, i3, by omega, i5⟩, fun z => i4 ⟨rfl, by omega⟩⟩
  · rw [if_neg e]
    refine mset_congr (fun b hb => ?_)
    constructor
    · rintro ⟨i1, i2, i3, i4, i5⟩; exact ⟨i1, i2, i3, fun z => e (by omega), i5⟩
    · rintro ⟨i1, i2, i3, i4, i5⟩; exact ⟨i1, i2, i3, by omega, i5⟩
/-- quilts without a block in a square -/
theorem qts_but (hn : n ≤ 6) (hl : bl.length = 6) {s : Nat} {b0 : Int} (ho : opn bl n s = true) (x : List Int) : x ∈ qts bl sl ed hu kd wd ht rm mo s b0 n ↔ (x ∈ qts bl sl ed hu kd wd ht rm mo (-9) (-9) n ∧ ¬ ix x s = b0) := by
  have hs := (opn_t.mp ho).1
  have := qs_but (ok := okM sl ed hu kd wd ht rm mo (-9) (-9)) (ok2 := okM sl ed hu kd wd ht rm mo s b0) (op := opn bl n) (s0 := s) (b0 := b0) (fun T j b => by
    rw [okM_t, okM_t]
    constructor
    · rintro ⟨i2, i3, i4, i5⟩; exact ⟨⟨i2, i3, by omega, i5⟩, fun z => i4 ⟨by omega, z.2⟩⟩
    · rintro ⟨⟨i2, i3, i4, i5⟩, i6⟩; exact ⟨i2, i3, fun z => i6 ⟨by omega, z.2⟩, i5⟩) ho (x := x) (f := n) (s := 0) (T := bl) hl (by omega) (by omega)
  unfold qts
  rw [this]
  exact ⟨fun q => ⟨q.1, q.2 (by omega)⟩, fun q => ⟨q.1, fun _ => q.2⟩⟩
theorem iniL_bet {bs bu : Int} : bet (iniL bl sl ed hu kd wd ht rm mo bs bu n) 0 16777215 := by
  intro j
  by_cases hj : 0 ≤ j ∧ j < 6
  · obtain ⟨c, rfl⟩ : ∃ c : Nat, j = (c : Int) := ⟨j.toNat, by omega⟩
    rw [iniL_ix (by omega)]
    exact mset_in _
  · by_cases hj2 : j < 0
    · have e : ix (iniL bl sl ed hu kd wd ht rm mo bs bu n) j = ix (iniL bl sl ed hu kd wd ht rm mo bs bu n) ((0 : Nat) : Int) := by unfold ix; rw [show j.toNat = (((0 : Nat) : Int)).toNat by omega]
      rw [e, iniL_ix (by omega)]
      exact mset_in _
    · have e : ix (iniL bl sl ed hu kd wd ht rm mo bs bu n) j = 0 := by
        unfold ix
        rw [List.getD_eq_getElem?_getD, List.getElem?_eq_none (by rw [iniL_len]; omega)]
        rfl
      omega
/-- what sameWithAnotherAt answers -/
noncomputable def swaR (Q : List (List Int)) (x0 : List Int) (same : Int) : Int := match Q with
  | [] => same
  | x :: _ => mset (fun i => bit same i = true ∧ (i < 6 → ix x i = ix x0 i))
theorem C_same (hR : isRoot H le ta tb pe un) (hT : isTold H ta kd wd ht rm mo sd bo ed hu sk (hvs ed (4 * kd).toNat)) (hta : ta = 3 ∨ ta = 8) (hLy : isLay H 13 bl sl) (hFS : isFS H la) (h22 : H[22]? = some (5, [((23 : Nat) : Int)])) (h23 : H[23]? = some (8, W)) (hWl : W.length = 6) (hn : (n : Int) = wd * ht) (hB : ∀ j : Nat, j < 6 → ix bl j = -9 ∨ (0 ≤ ix bl j ∧ ix bl j < kd * 4)) (h37 : H[37]? = some (8, fq)) (hfl : fq.length = 6) {s : Nat} {same : Int} (hs : s < n) (hb0 : 0 ≤ ix fq s ∧ ix fq s < 24) (hsm : 0 ≤ same ∧ same ≤ 16777215) : ∃ H2 la2, Fr inQ H H2 ∧ isFS H2 la2 ∧ Call 17 94 [mR 0, mI (s : Int), mI same] H (mI (swaR (qts bl sl ed hu kd wd ht rm mo s (ix fq s) n) fq same)) H2 := by
  have hT0 := hT
  obtain ⟨t0, t1, t2, t3, t4, ⟨r1, r2, r3, r4, r5, r6, r7, b1, b2, b3, b4, n1, n2, n3, n4⟩⟩ := hT
  have hw := wh_bd r2.1 r2.2 r3.1 r3.2
  obtain ⟨b0, hb⟩ : ∃ b0 : Nat, (b0 : Int) = ix fq s := ⟨(ix fq s).toNat, by omega⟩
  have hbg := C_wbegin hT0 hLy (by omega) (by omega) h22 h23 hWl hn
  have hin : ∀ j b, inW (iniL bl sl ed hu kd wd ht rm mo s b0 n) j b ↔ iniF bl sl ed hu kd wd ht rm mo s b0 n j b := fun j b => iniL_in r1 (by omega)
  obtain ⟨W2, x1, x2, hst⟩ := C_settle hT0 hLy (by omega) (by omega) h22 h23 hn (W0 := iniL bl sl ed hu kd wd ht rm mo s b0 n) iniL_len iniL_bet (fun j b h => by
    have := (hin j b).mp h
    exact ⟨this.1, this.2.1, this.2.2.1⟩)
  obtain ⟨H2, f1, f2, hfd⟩ := C_find (H := pt H 23 W2) (L := 1) (told_keep hT0 (by omega)) hta (Or.inl rfl) (lay_keep hLy (by omega)) (fs_keep hFS (by omega)) (pt_self h23) x1.1 x1.2.1 hn hB (fIn_gfam x1 x2 hin) (by omega)
  rw [hb] at hfd f2
  have q0 : H[0]? = _ := hR
  obtain ⟨sq, f0, L0, q24⟩ := hFS.1
  have hF : Fr inQ H H2 := Fr_trans (Fr_pt (A := inQ) ⟨by decide, by decide⟩ h23 (by have := x1.1; omega)) (Fr_up f1 (fun a h => ⟨by have := h.1; omega, h.2⟩))
  have p0 : H2[0]? = _ := root_fr hF hR (by unfold inQ; omega)
  have p37 : H2[37]? = some (8, fq) := by rw [hF.2 37 (by unfold inQ; omega)]; exact h37
  have hs6 : s < 6 := by omega
  have il := iniL_len (bl := bl) (sl := sl) (ed := ed) (hu := hu) (kd := kd) (wd := wd) (ht := ht) (rm := rm) (mo := mo) (n := n) (bs := -9) (bu := -9)
  refine ⟨H2, _, hF, f2, ?_⟩
  obtain ⟨⟨z1, z2, z3, p24⟩, ⟨p25, l25⟩, -⟩ := f2
  cases hQ : qts bl sl ed hu kd wd ht rm mo s (ix fq s) n with
  | nil =>
    rw [hQ, adv_nil] at hfd
    refine Call_of rfl ?_
    refine E_aload_n (pc' := 1) g94_0 rfl rfl ?_
    refine E_getR (pc' := 4) g94_1 f94_54 tg6_12 rfl q0 rfl ?_
    refine E_aload_n (pc' := 5) g94_4 rfl rfl ?_
    refine E_getR (pc' := 8) g94_5 f94_23 tg6_3 rfl q0 rfl ?_
    refine E_aload_n (pc' := 9) g94_8 rfl rfl ?_
    refine E_getR (pc' := 12) g94_9 f94_33 tg6_5 rfl q0 rfl ?_
    refine E_cV2v (pc' := 15) g94_12 k94_155 na48 rfl ow48 rfl (Nat.le_of_ble_eq_true rfl) h22 hbg (by decide) ?_
    refine E_aload_n (pc' := 16) g94_15 rfl rfl ?_
    refine E_getR (pc' := 19) g94_16 f94_54 tg6_12 rfl (pt_nx (by decide) q0) rfl ?_
    refine E_getR (pc' := 22) g94_19 f94_161 tg5_0 rfl (pt_nx (by decide) h22) rfl ?_
    refine E_iload_n (pc' := 23) g94_22 rfl rfl ?_
    refine E_dup2 (pc' := 24) g94_23 rfl ?_
    refine E_iaload (pc' := 25) g94_24 rfl (pt_self h23) (by omega) (by omega) ?_
    refine E_iconst (pc' := 26) g94_25 (by decide) rfl ?_
    refine E_aload_n (pc' := 27) g94_26 rfl rfl ?_
    refine E_getR (pc' := 30) g94_27 f94_72 tg6_15 rfl (pt_nx (by decide) q0) rfl ?_
    refine E_iload_n (pc' := 31) g94_30 rfl rfl ?_
    refine E_iaload (pc' := 32) g94_31 rfl (pt_nx (by decide) h37) (by omega) (by omega) ?_
    refine E_ishl (pc' := 33) g94_32 rfl ?_
    refine E_iconst (pc' := 34) g94_33 (by decide) rfl ?_
    refine E_ixor (pc' := 35) g94_34 rfl ?_
    refine E_iand (pc' := 36) g94_35 rfl ?_
    refine E_iastore (pc' := 37) g94_36 rfl (pt_self h23) (by omega) (by omega) ?_
    rw [← hb, pt_pt, ini_but r1 hs6 (by omega)]
    refine E_aload_n (pc' := 38) g94_37 rfl rfl ?_
    refine E_getR (pc' := 41) g94_38 f94_54 tg6_12 rfl (pt_nx (by decide) q0) rfl ?_
    refine E_aload_n (pc' := 42) g94_41 rfl rfl ?_
    refine E_getR (pc' := 45) g94_42 f94_23 tg6_3 rfl (pt_nx (by decide) q0) rfl ?_
    refine E_aload_n (pc' := 46) g94_45 rfl rfl ?_
    refine E_getR (pc' := 49) g94_46 f94_33 tg6_5 rfl (pt_nx (by decide) q0) rfl ?_
    refine E_cV2v (pc' := 52) g94_49 k94_158 na49 rfl ow49 rfl (Nat.le_of_ble_eq_true rfl) (pt_nx (by decide) h22) hst (by decide) ?_
    refine E_aload_n (pc' := 53) g94_52 rfl rfl ?_
    refine E_getR (pc' := 56) g94_53 f94_61 tg6_13 rfl (pt_nx (by decide) q0) rfl ?_
    refine E_aload_n (pc' := 57) g94_56 rfl rfl ?_
    refine E_getR (pc' := 60) g94_57 f94_23 tg6_3 rfl (pt_nx (by decide) q0) rfl ?_
    refine E_aload_n (pc' := 61) g94_60 rfl rfl ?_
    refine E_getR (pc' := 64) g94_61 f94_33 tg6_5 rfl (pt_nx (by decide) q0) rfl ?_
    refine E_aload_n (pc' := 65) g94_64 rfl rfl ?_
    refine E_getR (pc' := 68) g94_65 f94_54 tg6_12 rfl (pt_nx (by decide) q0) rfl ?_
    refine E_getR (pc' := 71) g94_68 f94_161 tg5_0 rfl (pt_nx (by decide) h22) rfl ?_
    refine E_iconst (pc' := 72) g94_71 (by decide) rfl ?_
    refine E_cV4i (pc' := 75) g94_72 k94_270 na8 rfl ow8 rfl (Nat.le_of_ble_eq_true rfl) (pt_nx (by decide) q24) hfd (by decide) ?_
    refine E_iconst (pc' := 76) g94_75 (by decide) rfl ?_
    refine E_icge (pc' := 79) (pt := 81) g94_76 rfl rfl (fun c0 => ?_) (fun c0 => ?_)
    · first
      | (exfalso; omega)
      | (exfalso; omega)
    · first
      | (exfalso; omega)
      | (refine E_iload_n (pc' := 80) g94_79 rfl rfl ?_
         exact E_iret g94_80 ro94 rfl rfl)
  | cons x xs =>
    rw [hQ] at hfd p25 l25
    have ha : adv 1 (0, la) (x :: xs) = (1, x) := by
      simp only [adv, List.foldl_cons]
      rw [if_pos (by omega)]
      exact adv_full (q := (0 + 1, x)) (by simp) xs
    rw [ha] at hfd p25 l25
    simp only at hfd p25 l25
    refine Call_of rfl ?_
    refine E_aload_n (pc' := 1) g94_0 rfl rfl ?_
    refine E_getR (pc' := 4) g94_1 f94_54 tg6_12 rfl q0 rfl ?_
    refine E_aload_n (pc' := 5) g94_4 rfl rfl ?_
    refine E_getR (pc' := 8) g94_5 f94_23 tg6_3 rfl q0 rfl ?_
    refine E_aload_n (pc' := 9) g94_8 rfl rfl ?_
    refine E_getR (pc' := 12) g94_9 f94_33 tg6_5 rfl q0 rfl ?_
    refine E_cV2v (pc' := 15) g94_12 k94_155 na48 rfl ow48 rfl (Nat.le_of_ble_eq_true rfl) h22 hbg (by decide) ?_
    refine E_aload_n (pc' := 16) g94_15 rfl rfl ?_
    refine E_getR (pc' := 19) g94_16 f94_54 tg6_12 rfl (pt_nx (by decide) q0) rfl ?_
    refine E_getR (pc' := 22) g94_19 f94_161 tg5_0 rfl (pt_nx (by decide) h22) rfl ?_
    refine E_iload_n (pc' := 23) g94_22 rfl rfl ?_
    refine E_dup2 (pc' := 24) g94_23 rfl ?_
    refine E_iaload (pc' := 25) g94_24 rfl (pt_self h23) (by omega) (by omega) ?_
    refine E_iconst (pc' := 26) g94_25 (by decide) rfl ?_
    refine E_aload_n (pc' := 27) g94_26 rfl rfl ?_
    refine E_getR (pc' := 30) g94_27 f94_72 tg6_15 rfl (pt_nx (by decide) q0) rfl ?_
    refine E_iload_n (pc' := 31) g94_30 rfl rfl ?_
    refine E_iaload (pc' := 32) g94_31 rfl (pt_nx (by decide) h37) (by omega) (by omega) ?_
    refine E_ishl (pc' := 33) g94_32 rfl ?_
    refine E_iconst (pc' := 34) g94_33 (by decide) rfl ?_
    refine E_ixor (pc' := 35) g94_34 rfl ?_
    refine E_iand (pc' := 36) g94_35 rfl ?_
    refine E_iastore (pc' := 37) g94_36 rfl (pt_self h23) (by omega) (by omega) ?_
    rw [← hb, pt_pt, ini_but r1 hs6 (by omega)]
    refine E_aload_n (pc' := 38) g94_37 rfl rfl ?_
    refine E_getR (pc' := 41) g94_38 f94_54 tg6_12 rfl (pt_nx (by decide) q0) rfl ?_
    refine E_aload_n (pc' := 42) g94_41 rfl rfl ?_
    refine E_getR (pc' := 45) g94_42 f94_23 tg6_3 rfl (pt_nx (by decide) q0) rfl ?_
    refine E_aload_n (pc' := 46) g94_45 rfl rfl ?_
    refine E_getR (pc' := 49) g94_46 f94_33 tg6_5 rfl (pt_nx (by decide) q0) rfl ?_
    refine E_cV2v (pc' := 52) g94_49 k94_158 na49 rfl ow49 rfl (Nat.le_of_ble_eq_true rfl) (pt_nx (by decide) h22) hst (by decide) ?_
    refine E_aload_n (pc' := 53) g94_52 rfl rfl ?_
    refine E_getR (pc' := 56) g94_53 f94_61 tg6_13 rfl (pt_nx (by decide) q0) rfl ?_
    refine E_aload_n (pc' := 57) g94_56 rfl rfl ?_
    refine E_getR (pc' := 60) g94_57 f94_23 tg6_3 rfl (pt_nx (by decide) q0) rfl ?_
    refine E_aload_n (pc' := 61) g94_60 rfl rfl ?_
    refine E_getR (pc' := 64) g94_61 f94_33 tg6_5 rfl (pt_nx (by decide) q0) rfl ?_
    refine E_aload_n (pc' := 65) g94_64 rfl rfl ?_
    refine E_getR (pc' := 68) g94_65 f94_54 tg6_12 rfl (pt_nx (by decide) q0) rfl ?_
    refine E_getR (pc' := 71) g94_68 f94_161 tg5_0 rfl (pt_nx (by decide) h22) rfl ?_
    refine E_iconst (pc' := 72) g94_71 (by decide) rfl ?_
    refine E_cV4i (pc' := 75) g94_72 k94_270 na8 rfl ow8 rfl (Nat.le_of_ble_eq_true rfl) (pt_nx (by decide) q24) hfd (by decide) ?_
    refine E_iconst (pc' := 76) g94_75 (by decide) rfl ?_
    refine E_icge (pc' := 79) (pt := 81) g94_76 rfl rfl (fun c0 => ?_) (fun c0 => ?_)
    · first
      | (exfalso; omega)
      | (refine E_iload_n (pc' := 82) g94_81 rfl rfl ?_
         refine E_st3 (pc' := 83) g94_82 rfl ?_
         refine E_iconst (pc' := 84) g94_83 (by decide) rfl ?_
         refine E_st4 (pc' := 86) g94_84 rfl ?_
         refine Ev_cast (ls := [mR 0, mI (s : Int), mI same, mI (mset (fun j => bit same j = true ∧ (j < 0 → ix x j = ix fq j))), mI ((0 : Nat) : Int)]) ?_ (by rw [← mset_eq (x := same) hsm (fun b hb => ⟨fun q => ⟨q, fun z => absurd z (by omega)⟩, fun q => q.1⟩)]; rfl) rfl
         refine E_loop (n := 6) (fun i => Ev 17 94 86 [mR 0, mI (s : Int), mI same, mI (mset (fun j => bit same j = true ∧ (j < i → ix x j = ix fq j))), mI (i : Int)] [] H2 (mI (swaR (x :: xs) fq same)) H2) ?_ ?_ 0 (by omega)
         · intro i hi hh
           refine E_iload (pc' := 88) g94_86 rfl rfl ?_
           refine E_bipush (pc' := 90) g94_88 (by decide) rfl ?_
           refine E_icge (pc' := 93) (pt := 128) g94_90 rfl rfl (fun c0 => ?_) (fun c0 => ?_)
           · exact absurd c0 (by omega)
           · refine E_aload_n (pc' := 94) g94_93 rfl rfl ?_
             refine E_getR (pc' := 97) g94_94 f94_61 tg6_13 rfl p0 rfl ?_
             refine E_getR (pc' := 100) g94_97 f94_186 tg1_0 rfl p24 rfl ?_
             refine E_iload (pc' := 102) g94_100 rfl rfl ?_
             refine E_iaload (pc' := 103) g94_102 rfl p25 (by omega) (by omega) ?_
             refine E_aload_n (pc' := 104) g94_103 rfl rfl ?_
             refine E_getR (pc' := 107) g94_104 f94_72 tg6_15 rfl p0 rfl ?_
             refine E_iload (pc' := 109) g94_107 rfl rfl ?_
             refine E_iaload (pc' := 110) g94_109 rfl p37 (by omega) (by omega) ?_
             refine E_iceq (pc' := 113) (pt := 122) g94_110 rfl rfl (fun c1 => ?_) (fun c1 => ?_)
             · refine E_in4 (pc' := 125) g94_122 rfl (m_in_iff.mpr (by omega)) ?_
               refine E_goto (pc' := 86) g94_125 rfl ?_
               first
               | (have e : mset (fun j => bit same j = true ∧ (j < i → ix x j = ix fq j)) = mset (fun j => bit same j = true ∧ (j < i + 1 → ix x j = ix fq j)) := by
                    refine mset_congr (fun j _ => ⟨fun q => ⟨q.1, fun z => ?_⟩, fun q => ⟨q.1, fun z => q.2 (by omega)⟩⟩)
                    rcases Nat.lt_or_ge j i with y | y
                    · exact q.2 y
                    · rw [show j = i by omega]; assumption
                  exact Ev_cast hh (by rw [e]; rfl) rfl)
               | (have e : m_and (mset (fun j => bit same j = true ∧ (j < i → ix x j = ix fq j))) (m_xor (m_shl 1 (i : Int)) (-1)) = mset (fun j => bit same j = true ∧ (j < i + 1 → ix x j = ix fq j)) := by
                    rw [and_not (mset_in _) (by omega)]
                    refine mset_congr (fun j hj => ?_)
                    rw [mset_bit]
                    constructor
                    · rintro ⟨⟨-, q1, q2⟩, q3⟩
                      exact ⟨q1, fun z => q2 (by omega)⟩
                    · rintro ⟨q1, q2⟩
                      refine ⟨⟨hj, q1, fun z => q2 (by omega)⟩, ?_⟩
                      rintro rfl
                      exact absurd (q2 (by omega)) (by assumption)
                  exact Ev_cast hh (by rw [e]; rfl) rfl)
             · refine E_iload_n (pc' := 114) g94_113 rfl rfl ?_
               refine E_iconst (pc' := 115) g94_114 (by decide) rfl ?_
               refine E_iload (pc' := 117) g94_115 rfl rfl ?_
               refine E_ishl (pc' := 118) g94_117 rfl ?_
               refine E_iconst (pc' := 119) g94_118 (by decide) rfl ?_
               refine E_ixor (pc' := 120) g94_119 rfl ?_
               refine E_iand (pc' := 121) g94_120 rfl ?_
               refine E_st3 (pc' := 122) g94_121 rfl ?_
               refine E_in4 (pc' := 125) g94_122 rfl (m_in_iff.mpr (by omega)) ?_
               refine E_goto (pc' := 86) g94_125 rfl ?_
               first
               | (have e : mset (fun j => bit same j = true ∧ (j < i → ix x j = ix fq j)) = mset (fun j => bit same j = true ∧ (j < i + 1 → ix x j = ix fq j)) := by
                    refine mset_congr (fun j _ => ⟨fun q => ⟨q.1, fun z => ?_⟩, fun q => ⟨q.1, fun z => q.2 (by omega)⟩⟩)
                    rcases Nat.lt_or_ge j i with y | y
                    · exact q.2 y
                    · rw [show j = i by omega]; assumption
                  exact Ev_cast hh (by rw [e]; rfl) rfl)
               | (have e : m_and (mset (fun j => bit same j = true ∧ (j < i → ix x j = ix fq j))) (m_xor (m_shl 1 (i : Int)) (-1)) = mset (fun j => bit same j = true ∧ (j < i + 1 → ix x j = ix fq j)) := by
                    rw [and_not (mset_in _) (by omega)]
                    refine mset_congr (fun j hj => ?_)
                    rw [mset_bit]
                    constructor
                    · rintro ⟨⟨-, q1, q2⟩, q3⟩
                      exact ⟨q1, fun z => q2 (by omega)⟩
                    · rintro ⟨q1, q2⟩
                      refine ⟨⟨hj, q1, fun z => q2 (by omega)⟩, ?_⟩
                      rintro rfl
                      exact absurd (q2 (by omega)) (by assumption)
                  exact Ev_cast hh (by rw [e]; rfl) rfl)
         · refine E_iload (pc' := 88) g94_86 rfl rfl ?_
           refine E_bipush (pc' := 90) g94_88 (by decide) rfl ?_
           refine E_icge (pc' := 93) (pt := 128) g94_90 rfl rfl (fun c0 => ?_) (fun c0 => ?_)
           · refine E_iload_n (pc' := 129) g94_128 rfl rfl ?_
             exact E_iret g94_129 ro94 rfl rfl
           · exact absurd c0 (by omega))
    · first
      | (exfalso; omega)
      | (exfalso; omega)
/-- the squares that are the same in all quilts -/
noncomputable def surR (bl : List Int) (n : Nat) (Q : List (List Int)) : Int := match Q with
  | [] => 0
  | x0 :: _ => mset (fun s => opn bl n s = true ∧ ∀ x ∈ Q, ix x s = ix x0 s)
theorem C_sure (hR : isRoot H le ta tb pe un) (hT : isTold H ta kd wd ht rm mo sd bo ed hu sk (hvs ed (4 * kd).toNat)) (hta : ta = 3 ∨ ta = 8) (hLy : isLay H 13 bl sl) (hFS : isFS H la) (h22 : H[22]? = some (5, [((23 : Nat) : Int)])) (h23 : H[23]? = some (8, W)) (hWl : W.length = 6) (hn : (n : Int) = wd * ht) (hB : ∀ j : Nat, j < 6 → ix bl j = -9 ∨ (0 ≤ ix bl j ∧ ix bl j < kd * 4)) (h37 : H[37]? = some (8, fq)) (hfl : fq.length = 6) : ∃ H2 la2, Fr inZ H H2 ∧ isFS H2 la2 ∧ Call 18 71 [mR 0] H (mI (surR bl n (qts bl sl ed hu kd wd ht rm mo (-9) (-9) n))) H2 := by
  have hT0 := hT
  obtain ⟨t0, t1, t2, t3, t4, ⟨r1, r2, r3, r4, r5, r6, r7, b1, b2, b3, b4, n1, n2, n3, n4⟩⟩ := hT
  have hw := wh_bd r2.1 r2.2 r3.1 r3.2
  have q0 : H[0]? = _ := hR
  obtain ⟨H2, f1, f2, hc3⟩ := C_quiltsOf hR hT0 hta (Or.inl rfl) hLy hFS h22 h23 hWl hn hB (L := 1) (by omega)
  have f1V : Fr inZ H H2 := Fr_up f1 (fun a h => Or.inl h)
  cases hQ : (qts bl sl ed hu kd wd ht rm mo (-9) (-9) n) with
  | nil =>
    rw [hQ, adv_nil] at hc3 f2
    refine ⟨H2, _, f1V, f2, ?_⟩
    refine Call_of rfl ?_
    refine E_aload_n (pc' := 1) g71_0 rfl rfl ?_
    refine E_aload_n (pc' := 2) g71_1 rfl rfl ?_
    refine E_getR (pc' := 5) g71_2 f71_33 tg6_5 rfl q0 rfl ?_
    refine E_iconst (pc' := 6) g71_5 (by decide) rfl ?_
    refine E_cV2i (pc' := 9) g71_6 k71_182 na93 rfl ow93 rfl (Nat.le_of_ble_eq_true rfl) q0 hc3 (by decide) ?_
    refine E_iconst (pc' := 10) g71_9 (by decide) rfl ?_
    refine E_icge (pc' := 13) (pt := 15) g71_10 rfl rfl (fun c0 => ?_) (fun c0 => ?_)
    · first
      | (exfalso; omega)
      | (exfalso; omega)
    · first
      | (exfalso; omega)
      | (refine E_iconst (pc' := 14) g71_13 (by decide) rfl ?_
         exact E_iret g71_14 ro71 rfl rfl)
  | cons x0 xs =>
    have hmem : ∀ x, x ∈ x0 :: xs → x ∈ (qts bl sl ed hu kd wd ht rm mo (-9) (-9) n) := fun x hx => by rw [hQ]; exact hx
    have ha : adv 1 (0, la) (x0 :: xs) = (1, x0) := by
      simp only [adv, List.foldl_cons]
      rw [if_pos (by omega)]
      exact adv_full (q := (0 + 1, x0)) (by simp) xs
    rw [hQ, ha] at hc3 f2
    simp only at hc3 f2
    have p0 : H2[0]? = _ := root_fr f1 hR (by unfold inQ; omega)
    have p37 : H2[37]? = some (8, fq) := by rw [f1.2 37 (by unfold inQ; omega)]; exact h37
    obtain ⟨⟨z1, z2, z3, p24⟩, ⟨p25, l25⟩, -⟩ := id f2
    have hl1 := hLy.2.2.2.1
    have hJ := leaf_J (x := x0) r2 r3 hn (by omega) (JJ_0 hl1) (hmem x0 List.mem_cons_self)
    have hx0 : ∀ s : Nat, opn bl n s = true → 0 ≤ ix x0 s ∧ ix x0 s < 24 := fun s ho => by
      have := (hJ.2.2.2.1 s (opn_t.mp ho).1 ho).1
      omega
    -- from here on the first quilt stands in its cell
    have hF3 : Fr inZ H (pt H2 37 x0) := Fr_and f1V (by unfold inZ; omega) h37 (by omega)
    have loopB : ∀ i : Nat, i ≤ 6 → ∀ (S : Nat → Prop) (Hc : mH) (lc : List Int), (∀ j, S j → opn bl n j = true) → (∀ j, opn bl n j = true → ¬ S j → ∃ x, x ∈ x0 :: xs ∧ ¬ ix x j = ix x0 j) → (∀ j, j < i → S j → ∀ x ∈ x0 :: xs, ix x j = ix x0 j) → Fr inZ H Hc → Hc[37]? = some (8, x0) → isFS Hc lc → ∃ H4 l4, Fr inZ H H4 ∧ isFS H4 l4 ∧ Ev 18 71 73 [mR 0, mI (mset S), mI (i : Int)] [] Hc (mI (surR bl n (x0 :: xs))) H4 := by
      refine E_loop (n := 6) _ ?_ ?_
      · intro i hi hh S Hc lc s1 s2 s3 hFc hc37 hfc
        have hask := bit_ask (mset_in S) (b := (i : Int)) (by omega) (by omega)
        by_cases hSi : S i
        · rw [if_pos (mset_bit.mpr ⟨by omega, hSi⟩)] at hask
          have ho := s1 i hSi
          have hin := (opn_t.mp ho).1
          obtain ⟨W3, w1, w2⟩ := cell_fr hFc h23
          obtain ⟨H4, l4, g1, g2, hcs⟩ := C_same (H := Hc) (same := mset S) (s := i) (root_fr hFc hR (by unfold inZ; omega)) (told_fr hFc hT0 (by unfold inZ; omega) (by unfold inZ; omega) (by unfold inZ; omega) (by unfold inZ; omega) (by unfold inZ; omega)) hta (lay_fr hFc hLy (by unfold inZ; omega) (by unfold inZ; omega) (by unfold inZ; omega)) hfc (by rw [hFc.2 22 (by unfold inZ; omega)]; exact h22) w1 (by omega) hn hB hc37 l25 hin (hx0 i ho) (mset_in S)
          have g1V : Fr inZ H H4 := Fr_trans hFc (Fr_up g1 (fun a h => Or.inl h))
          have p37' : H4[37]? = some (8, x0) := by rw [g1.2 37 (by unfold inQ; omega)]; exact hc37
          have cz0 : Hc[0]? = _ := root_fr hFc hR (by unfold inZ; omega)
          cases hQi : qts bl sl ed hu kd wd ht rm mo i (ix x0 i) n with
          | nil =>
            rw [hQi] at hcs
            have hcs' : Call 17 94 [mR 0, mI (i : Int), mI (mset S)] Hc (mI (mset S)) H4 := hcs
            obtain ⟨H5, l5, k1, k2, hev⟩ := hh S H4 l4 s1 s2 (fun j hj hSj x hx => by
              rcases Nat.lt_or_ge j i with z | z
              · exact s3 j z hSj x hx
              · rw [show j = i by omega]
                refine Classical.byContradiction (fun y => ?_)
                have := (qts_but (by omega) hl1 ho x).mpr ⟨hmem x hx, y⟩
                rw [hQi] at this
                cases this) g1V p37' g2
            refine ⟨H5, l5, k1, k2, ?_⟩
            refine E_iload_n (pc' := 74) g71_73 rfl rfl ?_
            refine E_bipush (pc' := 76) g71_74 (by decide) rfl ?_
            refine E_icge (pc' := 79) (pt := 101) g71_76 rfl rfl (fun c0 => ?_) (fun c0 => ?_)
            · first
              | (exfalso; omega)
              | (exfalso; omega)
            · first
              | (exfalso; omega)
              | (refine E_iload_n (pc' := 80) g71_79 rfl rfl ?_
                 refine E_iload_n (pc' := 81) g71_80 rfl rfl ?_
                 refine E_ishr (pc' := 82) g71_81 rfl ?_
                 refine E_iconst (pc' := 83) g71_82 (by decide) rfl ?_
                 refine E_iand (pc' := 84) g71_83 rfl ?_
                 refine E_iconst (pc' := 85) g71_84 (by decide) rfl ?_
                 refine E_icne (pc' := 88) (pt := 95) g71_85 rfl rfl (fun c1 => ?_) (fun c1 => ?_)
                 · first
                   | (exfalso; omega)
                   | (refine E_in2 (pc' := 98) g71_95 rfl (m_in_iff.mpr (by omega)) ?_
                      refine E_goto (pc' := 73) g71_98 rfl ?_
                      exact hev)
                 · first
                   | (exfalso; omega)
                   | (refine E_aload_n (pc' := 89) g71_88 rfl rfl ?_
                      refine E_iload_n (pc' := 90) g71_89 rfl rfl ?_
                      refine E_iload_n (pc' := 91) g71_90 rfl rfl ?_
                      refine E_cV2i (pc' := 94) g71_91 k71_195 na94 rfl ow94 rfl (Nat.le_of_ble_eq_true rfl) cz0 hcs' (by decide) ?_
                      refine E_st1 (pc' := 95) g71_94 rfl ?_
                      refine E_in2 (pc' := 98) g71_95 rfl (m_in_iff.mpr (by omega)) ?_
                      refine E_goto (pc' := 73) g71_98 rfl ?_
                      exact hev))
          | cons y ys =>
            rw [hQi] at hcs
            have hy := (qts_but (by omega) hl1 ho y).mp (by rw [hQi]; exact List.mem_cons_self)
            have hcs' : Call 17 94 [mR 0, mI (i : Int), mI (mset S)] Hc (mI (mset (fun j => S j ∧ (j < 6 → ix y j = ix x0 j)))) H4 := by
              have e : swaR (y :: ys) x0 (mset S) = mset (fun j => S j ∧ (j < 6 → ix y j = ix x0 j)) := by
                refine mset_congr (fun j hj => ?_)
                rw [mset_bit]
                exact ⟨fun q => ⟨q.1.2, q.2⟩, fun q => ⟨⟨hj, q.1⟩, q.2⟩⟩
              rw [← e]
              exact hcs
            have hyQ : y ∈ x0 :: xs := by rw [← hQ]; exact hy.1
            obtain ⟨H5, l5, k1, k2, hev⟩ := hh (fun j => S j ∧ (j < 6 → ix y j = ix x0 j)) H4 l4 (fun j q => s1 j q.1) (fun j q1 q2 => by
              by_cases e : S j
              · refine ⟨y, hyQ, fun z => q2 ⟨e, fun _ => z⟩⟩
              · exact s2 j q1 e) (fun j hj q x hx => by
              rcases Nat.lt_or_ge j i with z | z
              · exact s3 j z q.1 x hx
              · rw [show j = i by omega] at q
                exact absurd (q.2 hi) hy.2) g1V p37' g2
            refine ⟨H5, l5, k1, k2, ?_⟩
            refine E_iload_n (pc' := 74) g71_73 rfl rfl ?_
            refine E_bipush (pc' := 76) g71_74 (by decide) rfl ?_
            refine E_icge (pc' := 79) (pt := 101) g71_76 rfl rfl (fun c0 => ?_) (fun c0 => ?_)
            · first
              | (exfalso; omega)
              | (exfalso; omega)
            · first
              | (exfalso; omega)
              | (refine E_iload_n (pc' := 80) g71_79 rfl rfl ?_
                 refine E_iload_n (pc' := 81) g71_80 rfl rfl ?_
                 refine E_ishr (pc' := 82) g71_81 rfl ?_
                 refine E_iconst (pc' := 83) g71_82 (by decide) rfl ?_
                 refine E_iand (pc' := 84) g71_83 rfl ?_
                 refine E_iconst (pc' := 85) g71_84 (by decide) rfl ?_
                 refine E_icne (pc' := 88) (pt := 95) g71_85 rfl rfl (fun c1 => ?_) (fun c1 => ?_)
                 · first
                   | (exfalso; omega)
                   | (refine E_in2 (pc' := 98) g71_95 rfl (m_in_iff.mpr (by omega)) ?_
                      refine E_goto (pc' := 73) g71_98 rfl ?_
                      exact hev)
                 · first
                   | (exfalso; omega)
                   | (refine E_aload_n (pc' := 89) g71_88 rfl rfl ?_
                      refine E_iload_n (pc' := 90) g71_89 rfl rfl ?_
                      refine E_iload_n (pc' := 91) g71_90 rfl rfl ?_
                      refine E_cV2i (pc' := 94) g71_91 k71_195 na94 rfl ow94 rfl (Nat.le_of_ble_eq_true rfl) cz0 hcs' (by decide) ?_
                      refine E_st1 (pc' := 95) g71_94 rfl ?_
                      refine E_in2 (pc' := 98) g71_95 rfl (m_in_iff.mpr (by omega)) ?_
                      refine E_goto (pc' := 73) g71_98 rfl ?_
                      exact hev))
        · rw [if_neg (fun z => hSi (mset_bit.mp z).2)] at hask
          obtain ⟨H5, l5, k1, k2, hev⟩ := hh S Hc lc s1 s2 (fun j hj hSj x hx => by
            rcases Nat.lt_or_ge j i with z | z
            · exact s3 j z hSj x hx
            · rw [show j = i by omega] at hSj
              exact absurd hSj hSi) hFc hc37 hfc
          refine ⟨H5, l5, k1, k2, ?_⟩
          refine E_iload_n (pc' := 74) g71_73 rfl rfl ?_
          refine E_bipush (pc' := 76) g71_74 (by decide) rfl ?_
          refine E_icge (pc' := 79) (pt := 101) g71_76 rfl rfl (fun c0 => ?_) (fun c0 => ?_)
          · first
            | (exfalso; omega)
            | (exfalso; omega)
          · first
            | (exfalso; omega)
            | (refine E_iload_n (pc' := 80) g71_79 rfl rfl ?_
               refine E_iload_n (pc' := 81) g71_80 rfl rfl ?_
               refine E_ishr (pc' := 82) g71_81 rfl ?_
               refine E_iconst (pc' := 83) g71_82 (by decide) rfl ?_
               refine E_iand (pc' := 84) g71_83 rfl ?_
               refine E_iconst (pc' := 85) g71_84 (by decide) rfl ?_
               refine E_icne (pc' := 88) (pt := 95) g71_85 rfl rfl (fun c1 => ?_) (fun c1 => ?_)
               · first
                 | (exfalso; omega)
                 | (refine E_in2 (pc' := 98) g71_95 rfl (m_in_iff.mpr (by omega)) ?_
                    refine E_goto (pc' := 73) g71_98 rfl ?_
                    exact hev)
               · first
                 | (exfalso; omega)
                 | (exfalso; omega))
      · intro S Hc lc s1 s2 s3 hFc hc37 hfc
        refine ⟨Hc, lc, hFc, hfc, ?_⟩
        have e : surR bl n (x0 :: xs) = mset S := by
          refine mset_congr (fun j hj => ⟨fun q => ?_, fun q => ⟨s1 j q, s3 j (by have := (opn_t.mp (s1 j q)).1; omega) q⟩⟩)
          refine Classical.byContradiction (fun z => ?_)
          obtain ⟨x, h1, h2⟩ := s2 j q.1 z
          exact h2 (q.2 x h1)
        rw [e]
        refine E_iload_n (pc' := 74) g71_73 rfl rfl ?_
        refine E_bipush (pc' := 76) g71_74 (by decide) rfl ?_
        refine E_icge (pc' := 79) (pt := 101) g71_76 rfl rfl (fun c0 => ?_) (fun c0 => ?_)
        · first
          | (exfalso; omega)
          | (refine E_iload_n (pc' := 102) g71_101 rfl rfl ?_
             exact E_iret g71_102 ro71 rfl rfl)
        · first
          | (exfalso; omega)
          | (exfalso; omega)
    obtain ⟨H4, l4, k1, k2, hev⟩ := loopB 0 (by omega) (fun j => opn bl n j = true) (pt H2 37 x0) x0 (fun j h => h) (fun j h1 h2 => absurd h1 h2) (fun j hj => absurd hj (by omega)) hF3 (pt_self p37) (fs_keep f2 (by omega))
    refine ⟨H4, l4, k1, k2, ?_⟩
    have hT3 := told_fr hF3 hT0 (by unfold inZ; omega) (by unfold inZ; omega) (by unfold inZ; omega) (by unfold inZ; omega) (by unfold inZ; omega)
    have hL3 := lay_fr hF3 hLy (by unfold inZ; omega) (by unfold inZ; omega) (by unfold inZ; omega)
    have cz0 : (pt H2 37 x0)[0]? = _ := root_fr hF3 hR (by unfold inZ; omega)
    refine Call_of rfl ?_
    refine E_aload_n (pc' := 1) g71_0 rfl rfl ?_
    refine E_aload_n (pc' := 2) g71_1 rfl rfl ?_
    refine E_getR (pc' := 5) g71_2 f71_33 tg6_5 rfl q0 rfl ?_
    refine E_iconst (pc' := 6) g71_5 (by decide) rfl ?_
    refine E_cV2i (pc' := 9) g71_6 k71_182 na93 rfl ow93 rfl (Nat.le_of_ble_eq_true rfl) q0 hc3 (by decide) ?_
    refine E_iconst (pc' := 10) g71_9 (by decide) rfl ?_
    refine E_icge (pc' := 13) (pt := 15) g71_10 rfl rfl (fun c0 => ?_) (fun c0 => ?_)
    · first
      | (exfalso; omega)
      | (refine E_aload_n (pc' := 16) g71_15 rfl rfl ?_
         refine E_getR (pc' := 19) g71_16 f71_61 tg6_13 rfl p0 rfl ?_
         refine E_getR (pc' := 22) g71_19 f71_186 tg1_0 rfl p24 rfl ?_
         refine E_iconst (pc' := 23) g71_22 (by decide) rfl ?_
         refine E_aload_n (pc' := 24) g71_23 rfl rfl ?_
         refine E_getR (pc' := 27) g71_24 f71_72 tg6_15 rfl p0 rfl ?_
         refine E_iconst (pc' := 28) g71_27 (by decide) rfl ?_
         refine E_bipush (pc' := 30) g71_28 (by decide) rfl ?_
         refine E_copy (pc' := 33) g71_30 k71_189 rfl (Nat.le_of_ble_eq_true rfl) p25 p37 (by omega) (by omega) ?_
         refine E_iconst (pc' := 34) g71_33 (by decide) rfl ?_
         refine E_st1 (pc' := 35) g71_34 rfl ?_
         refine E_iconst (pc' := 36) g71_35 (by decide) rfl ?_
         refine E_st2 (pc' := 37) g71_36 rfl ?_
         refine Ev_cast (ls := [mR 0, mI (mset (fun j => j < 0 ∧ opn bl n j = true)), mI ((0 : Nat) : Int)]) ?_ (by rw [mset_0 (fun b hb z => absurd z.1 (by omega))]; rfl) rfl
         refine E_loop (n := n) (fun i => Ev 18 71 37 [mR 0, mI (mset (fun j => j < i ∧ opn bl n j = true)), mI (i : Int)] [] (pt H2 37 x0) (mI (surR bl n (x0 :: xs))) H4) ?_ ?_ 0 (by omega)
         · intro i hi hh
           have e3 := isO_or bl i
           refine E_iload_n (pc' := 38) g71_37 rfl rfl ?_
           refine E_aload_n (pc' := 39) g71_38 rfl rfl ?_
           refine E_getR (pc' := 42) g71_39 f71_23 tg6_3 rfl cz0 rfl ?_
           refine E_cV0i (pc' := 45) g71_42 k71_142 na36 rfl ow36 rfl (Nat.le_of_ble_eq_true rfl) hT3.1 (C_squares hT3) (by decide) ?_
           refine E_icge (pc' := 48) (pt := 71) g71_45 rfl rfl (fun c0 => ?_) (fun c0 => ?_)
           · exact absurd c0 (by omega)
           · refine E_aload_n (pc' := 49) g71_48 rfl rfl ?_
             refine E_getR (pc' := 52) g71_49 f71_33 tg6_5 rfl cz0 rfl ?_
             refine E_iload_n (pc' := 53) g71_52 rfl rfl ?_
             refine E_cV1i (pc' := 56) g71_53 k71_126 na17 rfl ow17 rfl (Nat.le_of_ble_eq_true rfl) hL3.1 (C_isOpen hL3) (by decide) ?_
             refine E_ifeq (pc' := 59) (pt := 65) g71_56 rfl rfl (fun c1 => ?_) (fun c1 => ?_)
             · refine E_in2 (pc' := 68) g71_65 rfl (m_in_iff.mpr (by omega)) ?_
               refine E_goto (pc' := 37) g71_68 rfl ?_
               first
               | (have e : m_or (mset (fun j => j < i ∧ opn bl n j = true)) (m_shl 1 (i : Int)) = mset (fun j => j < i + 1 ∧ opn bl n j = true) := by
                    refine or_eq (mset_in _) (m_shl_in (by omega) (by omega)) (fun j hj => ?_)
                    rw [mset_bit, bit_shl (by omega) (by omega) (by omega), decide_eq_true_iff]
                    constructor
                    · rintro (q | q)
                      · exact ⟨by have := q.2.1; omega, q.2.2⟩
                      · rw [show j = i by omega]
                        exact ⟨by omega, opn_t.mpr ⟨hi, by omega⟩⟩
                    · rintro ⟨q1, q2⟩
                      by_cases e : j = i
                      · exact Or.inr (by omega)
                      · exact Or.inl ⟨hj, by omega, q2⟩
                  exact Ev_cast hh (by rw [e]; rfl) rfl)
               | (have e : mset (fun j => j < i ∧ opn bl n j = true) = mset (fun j => j < i + 1 ∧ opn bl n j = true) := by
                    refine mset_congr (fun j hj => ⟨fun q => ⟨by have := q.1; omega, q.2⟩, fun q => ⟨?_, q.2⟩⟩)
                    rcases Nat.lt_or_ge j i with y | y
                    · exact y
                    · have q1 := q.1
                      have q2 := (opn_t.mp q.2).2
                      rw [show j = i by omega] at q2
                      exfalso; omega
                  exact Ev_cast hh (by rw [e]; rfl) rfl)
             · refine E_iload_n (pc' := 60) g71_59 rfl rfl ?_
               refine E_iconst (pc' := 61) g71_60 (by decide) rfl ?_
               refine E_iload_n (pc' := 62) g71_61 rfl rfl ?_
               refine E_ishl (pc' := 63) g71_62 rfl ?_
               refine E_ior (pc' := 64) g71_63 rfl ?_
               refine E_st1 (pc' := 65) g71_64 rfl ?_
               refine E_in2 (pc' := 68) g71_65 rfl (m_in_iff.mpr (by omega)) ?_
               refine E_goto (pc' := 37) g71_68 rfl ?_
               first
               | (have e : m_or (mset (fun j => j < i ∧ opn bl n j = true)) (m_shl 1 (i : Int)) = mset (fun j => j < i + 1 ∧ opn bl n j = true) := by
                    refine or_eq (mset_in _) (m_shl_in (by omega) (by omega)) (fun j hj => ?_)
                    rw [mset_bit, bit_shl (by omega) (by omega) (by omega), decide_eq_true_iff]
                    constructor
                    · rintro (q | q)
                      · exact ⟨by have := q.2.1; omega, q.2.2⟩
                      · rw [show j = i by omega]
                        exact ⟨by omega, opn_t.mpr ⟨hi, by omega⟩⟩
                    · rintro ⟨q1, q2⟩
                      by_cases e : j = i
                      · exact Or.inr (by omega)
                      · exact Or.inl ⟨hj, by omega, q2⟩
                  exact Ev_cast hh (by rw [e]; rfl) rfl)
               | (have e : mset (fun j => j < i ∧ opn bl n j = true) = mset (fun j => j < i + 1 ∧ opn bl n j = true) := by
                    refine mset_congr (fun j hj => ⟨fun q => ⟨by have := q.1; omega, q.2⟩, fun q => ⟨?_, q.2⟩⟩)
                    rcases Nat.lt_or_ge j i with y | y
                    · exact y
                    · have q1 := q.1
                      have q2 := (opn_t.mp q.2).2
                      rw [show j = i by omega] at q2
                      exfalso; omega
                  exact Ev_cast hh (by rw [e]; rfl) rfl)
         · refine E_iload_n (pc' := 38) g71_37 rfl rfl ?_
           refine E_aload_n (pc' := 39) g71_38 rfl rfl ?_
           refine E_getR (pc' := 42) g71_39 f71_23 tg6_3 rfl cz0 rfl ?_
           refine E_cV0i (pc' := 45) g71_42 k71_142 na36 rfl ow36 rfl (Nat.le_of_ble_eq_true rfl) hT3.1 (C_squares hT3) (by decide) ?_
           refine E_icge (pc' := 48) (pt := 71) g71_45 rfl rfl (fun c0 => ?_) (fun c0 => ?_)
           · refine E_iconst (pc' := 72) g71_71 (by decide) rfl ?_
             refine E_st2 (pc' := 73) g71_72 rfl ?_
             exact Ev_cast hev (by rw [mset_congr (P := fun j => j < n ∧ opn bl n j = true) (Q := fun j => opn bl n j = true) (fun j hj => ⟨fun q => q.2, fun q => ⟨(opn_t.mp q).1, q⟩⟩)]; rfl) rfl
           · exact absurd c0 (by omega))
    · first
      | (exfalso; omega)
      | (exfalso; omega)
end QW
