/-! rows of ints, counting, and the class Layout -/
def cn (p : Nat → Bool) : Nat → Int
  | 0 => 0
  | n + 1 => cn p n + (if p n = true then 1 else 0)
theorem cn_t {p : Nat → Bool} {n : Nat} (h : p n = true) : cn p (n + 1) = cn p n + 1 := by simp [cn, h]
theorem cn_f {p : Nat → Bool} {n : Nat} (h : p n = false) : cn p (n + 1) = cn p n := by simp [cn, h]
theorem cn_bd (p : Nat → Bool) : ∀ n : Nat, 0 ≤ cn p n ∧ cn p n ≤ n
  | 0 => by simp [cn]
  | n + 1 => by
    have := cn_bd p n
    simp only [cn]
    split <;> omega
theorem td4 {x : Int} (h0 : 0 ≤ x) (h : x < 24) : 0 ≤ x.tdiv 4 ∧ x.tdiv 4 < 6 := by
  rw [Int.tdiv_eq_ediv_of_nonneg h0]
  omega
theorem ix_up {fs : List Int} {i j v : Int} (hi : 0 ≤ i) (hl : i < fs.length) (hj : 0 ≤ j) : ix (up fs i v) j = if i = j then v else ix fs j := by
  unfold ix up
  simp only [List.getD_eq_getElem?_getD]
  by_cases e : i = j
  · subst e
    rw [List.getElem?_set_self (by omega)]
    simp
  · rw [List.getElem?_set_ne (by omega), if_neg e]
theorem up_len (fs : List Int) (i v : Int) : (up fs i v).length = fs.length := by simp [up]
theorem ix_ext {f g : List Int} (hl : f.length = g.length) (h : ∀ i : Int, 0 ≤ i → i < f.length → ix f i = ix g i) : f = g := by
  apply List.ext_getElem?
  intro k
  by_cases hk : k < f.length
  · have := h k (by omega) (by omega)
    unfold ix at this
    simp only [List.getD_eq_getElem?_getD, Int.toNat_natCast] at this
    rw [List.getElem?_eq_getElem hk, List.getElem?_eq_getElem (by omega)] at this ⊢
    simpa using this
  · rw [List.getElem?_eq_none (by omega), List.getElem?_eq_none (by omega)]
theorem ix_rep {n : Nat} {v i : Int} (h0 : 0 ≤ i) (h : i < n) : ix (List.replicate n v) i = v := by
  unfold ix
  rw [List.getD_eq_getElem?_getD, List.getElem?_replicate, if_pos (by omega)]
  rfl
theorem fl_step {fs : List Int} {v j : Int} {i : Nat} (hj0 : 0 ≤ j) (hi : i < fs.length) : (if (i : Int) = j then v else ix (List.replicate i v ++ fs.drop i) j) = ix (List.replicate (i + 1) v ++ fs.drop (i + 1)) j := by
  unfold ix
  simp only [List.getD_eq_getElem?_getD]
  by_cases h1 : (i : Int) = j
  · rw [if_pos h1, List.getElem?_append_left (by simp; omega), List.getElem?_replicate, if_pos (by omega)]
    rfl
  · rw [if_neg h1]
    by_cases h2 : j < i
    · rw [List.getElem?_append_left (by simp; omega), List.getElem?_append_left (by simp; omega), List.getElem?_replicate, List.getElem?_replicate, if_pos (by omega), if_pos (by omega)]
    · rw [List.getElem?_append_right (by simp; omega), List.getElem?_append_right (by simp; omega), List.getElem?_drop, List.getElem?_drop]
      simp only [List.length_replicate]
      congr 2
      omega
/-- squares' blocks: none, or a block -/
def okB (bl : List Int) : Prop := ∀ i : Int, ix bl i = -9 ∨ (0 ≤ ix bl i ∧ ix bl i < 24)
def sml (l : List Int) : Prop := ∀ i : Int, -1000 ≤ ix l i ∧ ix l i ≤ 1000
def isLay (H : mH) (a : Nat) (bl sk : List Int) : Prop := H[a]? = some (2, [((a + 1 : Nat) : Int), ((a + 2 : Nat) : Int)]) ∧ H[a + 1]? = some (8, bl) ∧ H[a + 2]? = some (8, sk) ∧ bl.length = 6 ∧ sk.length = 6 ∧ okB bl ∧ sml sk
/-- how many squares have a kind; a hue -/
def nK (bl : List Int) (k : Int) : Nat → Int := cn (fun s => decide (0 ≤ ix bl s ∧ (ix bl s).tdiv 4 = k))
def nH (bl hu : List Int) (w : Int) : Nat → Int := cn (fun s => decide (0 ≤ ix bl s ∧ ix hu ((ix bl s).tdiv 4) = w))
theorem C_fill {H : mH} {a : Nat} {fs : List Int} {v : Int} (ha : H[a]? = some (8, fs)) (hl : fs.length ≤ 100000) : Call 0 161 [mR a, mI v] H none (pt H a (List.replicate fs.length v)) := by
  refine Call_of rfl ?_
  refine E_iconst (pc' := 1) g161_0 (by decide) rfl ?_
  refine E_st2 (pc' := 2) g161_1 rfl ?_
  refine E_aload_n (pc' := 3) g161_2 rfl rfl ?_
  refine E_alen (pc' := 4) g161_3 rfl (by assumption) (by decide) (m_in_iff.mpr (by omega)) ?_
  refine E_st3 (pc' := 5) g161_4 rfl ?_
  refine Ev_cast (H := pt H a (List.replicate 0 v ++ fs.drop 0)) ?_ rfl (by simp [pt_same ha])
  refine E_loop (n := fs.length) (fun i => Ev 0 161 5 [mR a, mI v, mI (i : Int), mI (fs.length : Int)] [] (pt H a (List.replicate i v ++ fs.drop i)) none (pt H a (List.replicate fs.length v))) ?_ ?_ 0 (by omega)
  · intro i hi hh
    refine E_iload_n (pc' := 6) g161_5 rfl rfl ?_
    refine E_iload_n (pc' := 7) g161_6 rfl rfl ?_
    refine E_icge (pc' := 10) (pt := 20) g161_7 rfl rfl (fun c0 => ?_) (fun c0 => ?_)
    · exact absurd c0 (by omega)
    · refine E_aload_n (pc' := 11) g161_10 rfl rfl ?_
      refine E_iload_n (pc' := 12) g161_11 rfl rfl ?_
      refine E_iload_n (pc' := 13) g161_12 rfl rfl ?_
      refine E_iastore (pc' := 14) g161_13 rfl (pt_self ha) (by omega) (by simp; omega) ?_
      refine E_in2 (pc' := 17) g161_14 rfl (m_in_iff.mpr (by omega)) ?_
      refine E_goto (pc' := 5) g161_17 rfl ?_
      refine Ev_cast hh rfl ?_
      rw [pt_pt]
      congr 1
      apply ix_ext (by simp [up_len]; omega)
      intro j hj0 hj1
      rw [up_len] at hj1
      have hlen : ((List.replicate i v ++ fs.drop i).length : Int) = fs.length := by simp; omega
      rw [ix_up (by omega) (by omega) hj0]
      rw [hlen] at hj1
      exact fl_step hj0 hi
  · refine E_iload_n (pc' := 6) g161_5 rfl rfl ?_
    refine E_iload_n (pc' := 7) g161_6 rfl rfl ?_
    refine E_icge (pc' := 10) (pt := 20) g161_7 rfl rfl (fun c1 => ?_) (fun c1 => ?_)
    · exact E_ret g161_20 rt161 rfl (by simp)
    · exact absurd c1 (by omega)
/-- whether a square is open -/
def isO (bl : List Int) (s : Int) : Int := if 0 ≤ s ∧ s < 6 ∧ ix bl s = -9 then 1 else 0
theorem C_isOpen {H : mH} {a : Nat} {bl sk : List Int} {s : Int} (hL : isLay H a bl sk) : Call 0 17 [mR a, mI s] H (mI (isO bl s)) H := by
  obtain ⟨h0, h1, h2, l1, l2, ob, ok⟩ := hL
  refine Call_of rfl ?_
  refine E_iload_n (pc' := 1) g17_0 rfl rfl ?_
  refine E_iflt (pc' := 4) (pt := 25) g17_1 rfl rfl (fun c0 => ?_) (fun c0 => ?_)
  · refine E_iconst (pc' := 26) g17_25 (by decide) rfl ?_
    exact E_iret g17_26 (ro17 (by omega)) (by unfold isO; first | rw [if_pos (by omega)] | rw [if_neg (by omega)]) rfl
  · refine E_iload_n (pc' := 5) g17_4 rfl rfl ?_
    refine E_bipush (pc' := 7) g17_5 (by decide) rfl ?_
    refine E_icge (pc' := 10) (pt := 25) g17_7 rfl rfl (fun c1 => ?_) (fun c1 => ?_)
    · refine E_iconst (pc' := 26) g17_25 (by decide) rfl ?_
      exact E_iret g17_26 (ro17 (by omega)) (by unfold isO; first | rw [if_pos (by omega)] | rw [if_neg (by omega)]) rfl
    · refine E_aload_n (pc' := 11) g17_10 rfl rfl ?_
      refine E_getR (pc' := 14) g17_11 f17_9 tg2_0 rfl (by assumption) rfl ?_
      refine E_iload_n (pc' := 15) g17_14 rfl rfl ?_
      refine E_iaload (pc' := 16) g17_15 rfl (by assumption) (by omega) (by omega) ?_
      refine E_bipush (pc' := 18) g17_16 (by decide) rfl ?_
      refine E_icne (pc' := 21) (pt := 25) g17_18 rfl rfl (fun c2 => ?_) (fun c2 => ?_)
      · refine E_iconst (pc' := 26) g17_25 (by decide) rfl ?_
        exact E_iret g17_26 (ro17 (by omega)) (by unfold isO; first | rw [if_pos (by omega)] | rw [if_neg (by omega)]) rfl
      · refine E_iconst (pc' := 22) g17_21 (by decide) rfl ?_
        refine E_goto (pc' := 26) g17_22 rfl ?_
        exact E_iret g17_26 (ro17 (by omega)) (by unfold isO; first | rw [if_pos (by omega)] | rw [if_neg (by omega)]) rfl
theorem C_leftOf {H : mH} {a : Nat} {bl sk : List Int} {k : Int} (hL : isLay H a bl sk) (hk : 0 ≤ k ∧ k < 6) : Call 0 18 [mR a, mI k] H (mI (ix sk k - nK bl k 6)) H := by
  obtain ⟨h0, h1, h2, l1, l2, ob, ok⟩ := hL
  have okk := ok k
  refine Call_of rfl ?_
  refine E_iload_n (pc' := 1) g18_0 rfl rfl ?_
  refine E_iflt (pc' := 4) (pt := 10) g18_1 rfl rfl (fun c0 => ?_) (fun c0 => ?_)
  · exact absurd c0 (by omega)
  · refine E_iload_n (pc' := 5) g18_4 rfl rfl ?_
    refine E_bipush (pc' := 7) g18_5 (by decide) rfl ?_
    refine E_iclt (pc' := 10) (pt := 12) g18_7 rfl rfl (fun c1 => ?_) (fun c1 => ?_)
    · refine E_iconst (pc' := 13) g18_12 (by decide) rfl ?_
      refine E_st2 (pc' := 14) g18_13 rfl ?_
      refine E_iconst (pc' := 15) g18_14 (by decide) rfl ?_
      refine E_st3 (pc' := 16) g18_15 rfl ?_
      refine E_loop (n := 6) (fun i => Ev 0 18 16 [mR a, mI k, mI (nK bl k i), mI (i : Int)] [] H (mI (ix sk k - nK bl k 6)) H) ?_ ?_ 0 (by omega)
      · intro i hi hh
        have hb := cn_bd (fun s => decide (0 ≤ ix bl s ∧ (ix bl s).tdiv 4 = k)) i
        unfold nK at hh ⊢
        refine E_iload_n (pc' := 17) g18_16 rfl rfl ?_
        refine E_bipush (pc' := 19) g18_17 (by decide) rfl ?_
        refine E_icge (pc' := 22) (pt := 52) g18_19 rfl rfl (fun c0 => ?_) (fun c0 => ?_)
        · exact absurd c0 (by omega)
        · refine E_aload_n (pc' := 23) g18_22 rfl rfl ?_
          refine E_getR (pc' := 26) g18_23 f18_9 tg2_0 rfl (by assumption) rfl ?_
          refine E_iload_n (pc' := 27) g18_26 rfl rfl ?_
          refine E_iaload (pc' := 28) g18_27 rfl (by assumption) (by omega) (by omega) ?_
          refine E_iflt (pc' := 31) (pt := 46) g18_28 rfl rfl (fun c1 => ?_) (fun c1 => ?_)
          · refine E_in3 (pc' := 49) g18_46 rfl (m_in_iff.mpr (by omega)) ?_
            refine E_goto (pc' := 16) g18_49 rfl ?_
            first | exact Ev_cast hh (by rw [cn_t (decide_eq_true (by omega))]; rfl) rfl | exact Ev_cast hh (by rw [cn_f (decide_eq_false (by omega))]; rfl) rfl
          · refine E_aload_n (pc' := 32) g18_31 rfl rfl ?_
            refine E_getR (pc' := 35) g18_32 f18_9 tg2_0 rfl (by assumption) rfl ?_
            refine E_iload_n (pc' := 36) g18_35 rfl rfl ?_
            refine E_iaload (pc' := 37) g18_36 rfl (by assumption) (by omega) (by omega) ?_
            refine E_iconst (pc' := 38) g18_37 (by decide) rfl ?_
            refine E_idiv (pc' := 39) g18_38 (by omega) rfl ?_
            refine E_iload_n (pc' := 40) g18_39 rfl rfl ?_
            refine E_icne (pc' := 43) (pt := 46) g18_40 rfl rfl (fun c2 => ?_) (fun c2 => ?_)
            · refine E_in3 (pc' := 49) g18_46 rfl (m_in_iff.mpr (by omega)) ?_
              refine E_goto (pc' := 16) g18_49 rfl ?_
              first | exact Ev_cast hh (by rw [cn_t (decide_eq_true (by omega))]; rfl) rfl | exact Ev_cast hh (by rw [cn_f (decide_eq_false (by omega))]; rfl) rfl
            · refine E_in2 (pc' := 46) g18_43 rfl (m_in_iff.mpr (by omega)) ?_
              refine E_in3 (pc' := 49) g18_46 rfl (m_in_iff.mpr (by omega)) ?_
              refine E_goto (pc' := 16) g18_49 rfl ?_
              first | exact Ev_cast hh (by rw [cn_t (decide_eq_true (by omega))]; rfl) rfl | exact Ev_cast hh (by rw [cn_f (decide_eq_false (by omega))]; rfl) rfl
      · have hb := cn_bd (fun s => decide (0 ≤ ix bl s ∧ (ix bl s).tdiv 4 = k)) 6
        unfold nK
        refine E_iload_n (pc' := 17) g18_16 rfl rfl ?_
        refine E_bipush (pc' := 19) g18_17 (by decide) rfl ?_
        refine E_icge (pc' := 22) (pt := 52) g18_19 rfl rfl (fun c3 => ?_) (fun c3 => ?_)
        · refine E_aload_n (pc' := 53) g18_52 rfl rfl ?_
          refine E_getR (pc' := 56) g18_53 f18_15 tg2_1 rfl (by assumption) rfl ?_
          refine E_iload_n (pc' := 57) g18_56 rfl rfl ?_
          refine E_iaload (pc' := 58) g18_57 rfl (by assumption) (by omega) (by omega) ?_
          refine E_iload_n (pc' := 59) g18_58 rfl rfl ?_
          refine E_isub (pc' := 60) g18_59 (m_in_iff.mpr (by omega)) rfl ?_
          exact E_iret g18_60 ro18 rfl rfl
        · exact absurd c3 (by omega)
    · exact absurd c1 (by omega)
