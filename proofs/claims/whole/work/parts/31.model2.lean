/-! the model: beside, why, the past, what is done -/
theorem E_iald {d y pc pc' a : Nat} {ls st : List mV} {H : mH} {r : mV} {H1 : mH} {fs : List Int} {i v : Int} (hg : m_get y pc = some (.iaload, 1)) (hp : pc + 1 = pc') (hH : H[a]? = some (8, fs)) (h0 : 0 ≤ i) (hi : i < fs.length) (hv : ix fs i = v) (h : Ev d y pc' ls (mI v :: st) H r H1) : Ev d y pc ls (mI i :: mR a :: st) H r H1 := by
  subst hv
  exact E_iaload hg hp hH h0 hi h
/-- places off .. off + n - 1 anew -/
def fil (A : List Int) (off : Int) (f : Nat → Int) : Nat → List Int
  | 0 => A
  | i + 1 => up (fil A off f i) (off + i) (f i)
theorem fil_len (A : List Int) (off : Int) (f : Nat → Int) : ∀ n, (fil A off f n).length = A.length
  | 0 => rfl
  | n + 1 => by simp only [fil, up_len]; exact fil_len A off f n
theorem fil_ix {A : List Int} {off : Int} {f : Nat → Int} (h0 : 0 ≤ off) : ∀ {n : Nat}, off + n ≤ A.length → ∀ {j : Int}, 0 ≤ j → ix (fil A off f n) j = if off ≤ j ∧ j < off + n then f (j - off).toNat else ix A j
  | 0, _, j, hj => by rw [if_neg (by omega)]; rfl
  | n + 1, hl, j, hj => by
    simp only [fil]
    rw [ix_up (by omega) (by rw [fil_len]; omega) hj, fil_ix h0 (by omega) hj]
    by_cases e : off + n = j
    · rw [if_pos e, if_pos (by omega), show (j - off).toNat = n by omega]
    · rw [if_neg e]
      by_cases e2 : off ≤ j ∧ j < off + n
      · rw [if_pos e2, if_pos (by omega)]
      · rw [if_neg e2, if_neg (by omega)]
theorem fil_all {A B : List Int} {n : Nat} (hA : A.length = n) (hB : B.length = n) : fil A 0 (fun k => ix B k) n = B := by
  apply ix_ext (by rw [fil_len, hA, hB])
  intro j h0 h1
  rw [fil_len] at h1
  rw [fil_ix (by omega) (by omega) h0, if_pos (by omega)]
  rw [show (((j - 0).toNat : Nat) : Int) = j by omega]
def bsM (wd ht s h : Int) : Int := if h = 1 then (if 0 ≤ s.tmod wd + 1 ∧ s.tmod wd + 1 ≤ wd - 1 ∧ 0 ≤ s.tdiv wd + 0 ∧ s.tdiv wd + 0 ≤ ht - 1 then wd * (s.tdiv wd + 0) + (s.tmod wd + 1) else -9) else if h = 3 then (if 0 ≤ s.tmod wd + -1 ∧ s.tmod wd + -1 ≤ wd - 1 ∧ 0 ≤ s.tdiv wd + 0 ∧ s.tdiv wd + 0 ≤ ht - 1 then wd * (s.tdiv wd + 0) + (s.tmod wd + -1) else -9) else if h = 0 then (if 0 ≤ s.tmod wd + 0 ∧ s.tmod wd + 0 ≤ wd - 1 ∧ 0 ≤ s.tdiv wd + -1 ∧ s.tdiv wd + -1 ≤ ht - 1 then wd * (s.tdiv wd + -1) + (s.tmod wd + 0) else -9) else if h = 2 then (if 0 ≤ s.tmod wd + 0 ∧ s.tmod wd + 0 ≤ wd - 1 ∧ 0 ≤ s.tdiv wd + 1 ∧ s.tdiv wd + 1 ≤ ht - 1 then wd * (s.tdiv wd + 1) + (s.tmod wd + 0) else -9) else (if 0 ≤ s.tmod wd + 0 ∧ s.tmod wd + 0 ≤ wd - 1 ∧ 0 ≤ s.tdiv wd + 0 ∧ s.tdiv wd + 0 ≤ ht - 1 then wd * (s.tdiv wd + 0) + (s.tmod wd + 0) else -9)
theorem bsM_all : (List.range 3).all (fun w => (List.range 2).all (fun h => (List.range ((w + 1) * (h + 1))).all (fun s => (List.range 4).all (fun k => decide (bsM ((w + 1 : Nat) : Int) ((h + 1 : Nat) : Int) (s : Int) (k : Int) = bsd ((w + 1 : Nat) : Int) ((h + 1 : Nat) : Int) (s : Int) (k : Int)) && (decide (bsd ((w + 1 : Nat) : Int) ((h + 1 : Nat) : Int) (s : Int) (k : Int) = -9) || (decide (0 ≤ bsd ((w + 1 : Nat) : Int) ((h + 1 : Nat) : Int) (s : Int) (k : Int)) && decide (bsd ((w + 1 : Nat) : Int) ((h + 1 : Nat) : Int) (s : Int) (k : Int) < ((w + 1 : Nat) : Int) * ((h + 1 : Nat) : Int)))))))) = true := by decide +kernel
theorem bs_at {wd ht s h : Int} (h1 : 1 ≤ wd ∧ wd ≤ 3) (h2 : 1 ≤ ht ∧ ht ≤ 2) (hs : 0 ≤ s ∧ s < wd * ht) (hh : 0 ≤ h ∧ h < 4) : bsM wd ht s h = bsd wd ht s h ∧ (bsd wd ht s h = -9 ∨ (0 ≤ bsd wd ht s h ∧ bsd wd ht s h < wd * ht)) := by
  obtain ⟨w, rfl⟩ : ∃ w : Nat, wd = ((w + 1 : Nat) : Int) := ⟨(wd - 1).toNat, by omega⟩
  obtain ⟨g, rfl⟩ : ∃ g : Nat, ht = ((g + 1 : Nat) : Int) := ⟨(ht - 1).toNat, by omega⟩
  obtain ⟨n, rfl⟩ : ∃ n : Nat, s = (n : Int) := ⟨s.toNat, by omega⟩
  obtain ⟨k, rfl⟩ : ∃ k : Nat, h = (k : Int) := ⟨h.toNat, by omega⟩
  have hn : n < (w + 1) * (g + 1) := by
    have := hs.2
    rw [← Int.natCast_mul] at this
    omega
  have h3 := List.all_eq_true.mp (List.all_eq_true.mp (List.all_eq_true.mp (List.all_eq_true.mp bsM_all w (List.mem_range.mpr (by omega))) g (List.mem_range.mpr (by omega))) n (List.mem_range.mpr hn)) k (List.mem_range.mpr (by omega))
  simp only [Bool.and_eq_true, Bool.or_eq_true, decide_eq_true_eq] at h3
  exact h3
theorem mulbd {a b x : Int} (h1 : 1 ≤ a) (h2 : a ≤ 3) (h3 : 0 ≤ b) (h4 : b ≤ 1) (h5 : -10 ≤ x ∧ x ≤ 10) : (-2147483648 ≤ a * b ∧ a * b ≤ 2147483647) ∧ (-2147483648 ≤ a * b + x ∧ a * b + x ≤ 2147483647) := by
  have : b = 0 ∨ b = 1 := by omega
  rcases this with rfl | rfl <;> omega
section MP
variable {H : mH} {kd un nk le ap nu me op de fo bs bu wd ht rm mo sd bo : Int} {ed hu bl sl td tt ss : List Int} {ps kt ik : List Int}
theorem tmw {s wd : Int} (h0 : 0 ≤ s) (h : s < 6) (h1 : 1 ≤ wd) (h2 : wd ≤ 3) : 0 ≤ s.tmod wd ∧ s.tmod wd < wd ∧ 0 ≤ s.tdiv wd ∧ s.tdiv wd ≤ 5 := by
  rw [Int.tmod_eq_emod_of_nonneg h0, Int.tdiv_eq_ediv_of_nonneg h0]
  have : wd = 1 ∨ wd = 2 ∨ wd = 3 := by omega
  rcases this with rfl | rfl | rfl <;> omega
theorem M_beside (hM : H[74]? = some (7, mdL kd un nk le ap nu me op de fo bs bu)) (hD : okD kd wd ht rm mo sd bo ed hu) (hz : H[75]? = some (8, [wd, ht, rm, mo, sd, bo])) {s h : Int} (hs : 0 ≤ s ∧ s < wd * ht) (hh : 0 ≤ h ∧ h < 4) : Call 1 119 [mR 74, mI s, mI h] H (mI (bsd wd ht s h)) H := by
  rw [← (bs_at hD.2.1 hD.2.2.1 hs hh).1]
  obtain ⟨r1, r2, r3, r4, r5, r6, r7, b1, b2⟩ := hD
  have hw := wh_bd r2.1 r2.2 r3.1 r3.2
  have tm := tmw hs.1 (by omega) r2.1 r2.2
  have ex0 := inC_or (s.tmod wd + 1) 0 (wd - 1)
  have ex1 := inC_or (s.tmod wd + -1) 0 (wd - 1)
  have ex2 := inC_or (s.tmod wd + 0) 0 (wd - 1)
  have ey0 := inC_or (s.tdiv wd + -1) 0 (ht - 1)
  have ey1 := inC_or (s.tdiv wd + 1) 0 (ht - 1)
  have ey2 := inC_or (s.tdiv wd + 0) 0 (ht - 1)
  refine Call_of rfl ?_
  refine E_iload_n (pc' := 1) g119_0 rfl rfl ?_
  refine E_aload_n (pc' := 2) g119_1 rfl rfl ?_
  refine E_getR (pc' := 5) g119_2 f119_7 tg7_1 rfl (by assumption) rfl ?_
  refine E_iconst (pc' := 6) g119_5 (by decide) rfl ?_
  refine E_iald (pc' := 7) (v := wd) g119_6 rfl (by assumption) (by decide) (by simp) rfl ?_
  refine E_irem (pc' := 8) g119_7 (by omega) rfl ?_
  refine E_iload_n (pc' := 9) g119_8 rfl rfl ?_
  refine E_iconst (pc' := 10) g119_9 (by decide) rfl ?_
  refine E_icne (pc' := 13) (pt := 17) g119_10 rfl rfl (fun c0 => ?_) (fun c0 => ?_)
  · first
    | (exfalso; omega)
    | (refine E_iload_n (pc' := 18) g119_17 rfl rfl ?_
       refine E_iconst (pc' := 19) g119_18 (by decide) rfl ?_
       refine E_icne (pc' := 22) (pt := 26) g119_19 rfl rfl (fun c1 => ?_) (fun c1 => ?_)
       · first
         | (exfalso; omega)
         | (refine E_iconst (pc' := 27) g119_26 (by decide) rfl ?_
            refine E_iadd (pc' := 28) g119_27 (m_in_iff.mpr (by omega)) rfl ?_
            refine E_st3 (pc' := 29) g119_28 rfl ?_
            refine E_iload_n (pc' := 30) g119_29 rfl rfl ?_
            refine E_aload_n (pc' := 31) g119_30 rfl rfl ?_
            refine E_getR (pc' := 34) g119_31 f119_7 tg7_1 rfl (by assumption) rfl ?_
            refine E_iconst (pc' := 35) g119_34 (by decide) rfl ?_
            refine E_iald (pc' := 36) (v := wd) g119_35 rfl (by assumption) (by decide) (by simp) rfl ?_
            refine E_idiv (pc' := 37) g119_36 (by omega) rfl ?_
            refine E_iload_n (pc' := 38) g119_37 rfl rfl ?_
            refine E_ifne (pc' := 41) (pt := 45) g119_38 rfl rfl (fun c2 => ?_) (fun c2 => ?_)
            · first
              | (exfalso; omega)
              | (refine E_iload_n (pc' := 46) g119_45 rfl rfl ?_
                 refine E_iconst (pc' := 47) g119_46 (by decide) rfl ?_
                 refine E_icne (pc' := 50) (pt := 54) g119_47 rfl rfl (fun c3 => ?_) (fun c3 => ?_)
                 · first
                   | (exfalso; omega)
                   | (refine E_iconst (pc' := 55) g119_54 (by decide) rfl ?_
                      refine E_iadd (pc' := 56) g119_55 (m_in_iff.mpr (by omega)) rfl ?_
                      refine E_st4 (pc' := 58) g119_56 rfl ?_
                      refine E_iload_n (pc' := 59) g119_58 rfl rfl ?_
                      refine E_iconst (pc' := 60) g119_59 (by decide) rfl ?_
                      refine E_aload_n (pc' := 61) g119_60 rfl rfl ?_
                      refine E_getR (pc' := 64) g119_61 f119_7 tg7_1 rfl (by assumption) rfl ?_
                      refine E_iconst (pc' := 65) g119_64 (by decide) rfl ?_
                      refine E_iald (pc' := 66) (v := wd) g119_65 rfl (by assumption) (by decide) (by simp) rfl ?_
                      refine E_iconst (pc' := 67) g119_66 (by decide) rfl ?_
                      refine E_isub (pc' := 68) g119_67 (m_in_iff.mpr (by omega)) rfl ?_
                      refine E_cS3i (pc' := 71) g119_68 k119_81 na97 rfl rfl (Nat.le_of_ble_eq_true rfl) M_in (by decide) ?_
                      refine E_ifeq (pc' := 74) (pt := 105) g119_71 rfl rfl (fun c4 => ?_) (fun c4 => ?_)
                      · first
                        | (exfalso; omega)
                        | (refine E_bipush (pc' := 107) g119_105 (by decide) rfl ?_
                           exact E_iret g119_107 ro119 (by unfold bsM; (repeat' split); all_goals (first | rfl | (exfalso; omega))) rfl)
                      · first
                        | (exfalso; omega)
                        | (refine E_iload (pc' := 76) g119_74 rfl rfl ?_
                           refine E_iconst (pc' := 77) g119_76 (by decide) rfl ?_
                           refine E_aload_n (pc' := 78) g119_77 rfl rfl ?_
                           refine E_getR (pc' := 81) g119_78 f119_7 tg7_1 rfl (by assumption) rfl ?_
                           refine E_iconst (pc' := 82) g119_81 (by decide) rfl ?_
                           refine E_iald (pc' := 83) (v := ht) g119_82 rfl (by assumption) (by decide) (by simp) rfl ?_
                           refine E_iconst (pc' := 84) g119_83 (by decide) rfl ?_
                           refine E_isub (pc' := 85) g119_84 (m_in_iff.mpr (by omega)) rfl ?_
                           refine E_cS3i (pc' := 88) g119_85 k119_81 na97 rfl rfl (Nat.le_of_ble_eq_true rfl) M_in (by decide) ?_
                           refine E_ifeq (pc' := 91) (pt := 105) g119_88 rfl rfl (fun c5 => ?_) (fun c5 => ?_)
                           · first
                             | (exfalso; omega)
                             | (refine E_bipush (pc' := 107) g119_105 (by decide) rfl ?_
                                exact E_iret g119_107 ro119 (by unfold bsM; (repeat' split); all_goals (first | rfl | (exfalso; omega))) rfl)
                           · first
                             | (exfalso; omega)
                             | (refine E_aload_n (pc' := 92) g119_91 rfl rfl ?_
                                refine E_getR (pc' := 95) g119_92 f119_7 tg7_1 rfl (by assumption) rfl ?_
                                refine E_iconst (pc' := 96) g119_95 (by decide) rfl ?_
                                refine E_iald (pc' := 97) (v := wd) g119_96 rfl (by assumption) (by decide) (by simp) rfl ?_
                                refine E_iload (pc' := 99) g119_97 rfl rfl ?_
                                refine E_imul (pc' := 100) g119_99 (m_in_iff.mpr (mulbd (x := 0) (by omega) (by omega) (by omega) (by omega) (by omega)).1) rfl ?_
                                refine E_iload_n (pc' := 101) g119_100 rfl rfl ?_
                                refine E_iadd (pc' := 102) g119_101 (m_in_iff.mpr (mulbd (by omega) (by omega) (by omega) (by omega) (by omega)).2) rfl ?_
                                refine E_goto (pc' := 107) g119_102 rfl ?_
                                exact E_iret g119_107 ro119 (by unfold bsM; (repeat' split); all_goals (first | rfl | (exfalso; omega))) rfl)))
                 · first
                   | (exfalso; omega)
                   | (refine E_iconst (pc' := 51) g119_50 (by decide) rfl ?_
                      refine E_goto (pc' := 55) g119_51 rfl ?_
                      refine E_iadd (pc' := 56) g119_55 (m_in_iff.mpr (by omega)) rfl ?_
                      refine E_st4 (pc' := 58) g119_56 rfl ?_
                      refine E_iload_n (pc' := 59) g119_58 rfl rfl ?_
                      refine E_iconst (pc' := 60) g119_59 (by decide) rfl ?_
                      refine E_aload_n (pc' := 61) g119_60 rfl rfl ?_
                      refine E_getR (pc' := 64) g119_61 f119_7 tg7_1 rfl (by assumption) rfl ?_
                      refine E_iconst (pc' := 65) g119_64 (by decide) rfl ?_
                      refine E_iald (pc' := 66) (v := wd) g119_65 rfl (by assumption) (by decide) (by simp) rfl ?_
                      refine E_iconst (pc' := 67) g119_66 (by decide) rfl ?_
                      refine E_isub (pc' := 68) g119_67 (m_in_iff.mpr (by omega)) rfl ?_
                      refine E_cS3i (pc' := 71) g119_68 k119_81 na97 rfl rfl (Nat.le_of_ble_eq_true rfl) M_in (by decide) ?_
                      refine E_ifeq (pc' := 74) (pt := 105) g119_71 rfl rfl (fun c6 => ?_) (fun c6 => ?_)
                      · first
                        | (exfalso; omega)
                        | (refine E_bipush (pc' := 107) g119_105 (by decide) rfl ?_
                           exact E_iret g119_107 ro119 (by unfold bsM; (repeat' split); all_goals (first | rfl | (exfalso; omega))) rfl)
                      · first
                        | (exfalso; omega)
                        | (refine E_iload (pc' := 76) g119_74 rfl rfl ?_
                           refine E_iconst (pc' := 77) g119_76 (by decide) rfl ?_
                           refine E_aload_n (pc' := 78) g119_77 rfl rfl ?_
                           refine E_getR (pc' := 81) g119_78 f119_7 tg7_1 rfl (by assumption) rfl ?_
                           refine E_iconst (pc' := 82) g119_81 (by decide) rfl ?_
                           refine E_iald (pc' := 83) (v := ht) g119_82 rfl (by assumption) (by decide) (by simp) rfl ?_
                           refine E_iconst (pc' := 84) g119_83 (by decide) rfl ?_
                           refine E_isub (pc' := 85) g119_84 (m_in_iff.mpr (by omega)) rfl ?_
                           refine E_cS3i (pc' := 88) g119_85 k119_81 na97 rfl rfl (Nat.le_of_ble_eq_true rfl) M_in (by decide) ?_
                           refine E_ifeq (pc' := 91) (pt := 105) g119_88 rfl rfl (fun c7 => ?_) (fun c7 => ?_)
                           · first
                             | (exfalso; omega)
                             | (refine E_bipush (pc' := 107) g119_105 (by decide) rfl ?_
                                exact E_iret g119_107 ro119 (by unfold bsM; (repeat' split); all_goals (first | rfl | (exfalso; omega))) rfl)
                           · first
                             | (exfalso; omega)
                             | (refine E_aload_n (pc' := 92) g119_91 rfl rfl ?_
                                refine E_getR (pc' := 95) g119_92 f119_7 tg7_1 rfl (by assumption) rfl ?_
                                refine E_iconst (pc' := 96) g119_95 (by decide) rfl ?_
                                refine E_iald (pc' := 97) (v := wd) g119_96 rfl (by assumption) (by decide) (by simp) rfl ?_
                                refine E_iload (pc' := 99) g119_97 rfl rfl ?_
                                refine E_imul (pc' := 100) g119_99 (m_in_iff.mpr (mulbd (x := 0) (by omega) (by omega) (by omega) (by omega) (by omega)).1) rfl ?_
                                refine E_iload_n (pc' := 101) g119_100 rfl rfl ?_
                                refine E_iadd (pc' := 102) g119_101 (m_in_iff.mpr (mulbd (by omega) (by omega) (by omega) (by omega) (by omega)).2) rfl ?_
                                refine E_goto (pc' := 107) g119_102 rfl ?_
                                exact E_iret g119_107 ro119 (by unfold bsM; (repeat' split); all_goals (first | rfl | (exfalso; omega))) rfl))))
            · first
              | (exfalso; omega)
              | (refine E_iconst (pc' := 42) g119_41 (by decide) rfl ?_
                 refine E_goto (pc' := 55) g119_42 rfl ?_
                 refine E_iadd (pc' := 56) g119_55 (m_in_iff.mpr (by omega)) rfl ?_
                 refine E_st4 (pc' := 58) g119_56 rfl ?_
                 refine E_iload_n (pc' := 59) g119_58 rfl rfl ?_
                 refine E_iconst (pc' := 60) g119_59 (by decide) rfl ?_
                 refine E_aload_n (pc' := 61) g119_60 rfl rfl ?_
                 refine E_getR (pc' := 64) g119_61 f119_7 tg7_1 rfl (by assumption) rfl ?_
                 refine E_iconst (pc' := 65) g119_64 (by decide) rfl ?_
                 refine E_iald (pc' := 66) (v := wd) g119_65 rfl (by assumption) (by decide) (by simp) rfl ?_
                 refine E_iconst (pc' := 67) g119_66 (by decide) rfl ?_
                 refine E_isub (pc' := 68) g119_67 (m_in_iff.mpr (by omega)) rfl ?_
                 refine E_cS3i (pc' := 71) g119_68 k119_81 na97 rfl rfl (Nat.le_of_ble_eq_true rfl) M_in (by decide) ?_
                 refine E_ifeq (pc' := 74) (pt := 105) g119_71 rfl rfl (fun c8 => ?_) (fun c8 => ?_)
                 · first
                   | (exfalso; omega)
                   | (refine E_bipush (pc' := 107) g119_105 (by decide) rfl ?_
                      exact E_iret g119_107 ro119 (by unfold bsM; (repeat' split); all_goals (first | rfl | (exfalso; omega))) rfl)
                 · first
                   | (exfalso; omega)
                   | (refine E_iload (pc' := 76) g119_74 rfl rfl ?_
                      refine E_iconst (pc' := 77) g119_76 (by decide) rfl ?_
                      refine E_aload_n (pc' := 78) g119_77 rfl rfl ?_
                      refine E_getR (pc' := 81) g119_78 f119_7 tg7_1 rfl (by assumption) rfl ?_
                      refine E_iconst (pc' := 82) g119_81 (by decide) rfl ?_
                      refine E_iald (pc' := 83) (v := ht) g119_82 rfl (by assumption) (by decide) (by simp) rfl ?_
                      refine E_iconst (pc' := 84) g119_83 (by decide) rfl ?_
                      refine E_isub (pc' := 85) g119_84 (m_in_iff.mpr (by omega)) rfl ?_
                      refine E_cS3i (pc' := 88) g119_85 k119_81 na97 rfl rfl (Nat.le_of_ble_eq_true rfl) M_in (by decide) ?_
                      refine E_ifeq (pc' := 91) (pt := 105) g119_88 rfl rfl (fun c9 => ?_) (fun c9 => ?_)
                      · first
                        | (exfalso; omega)
                        | (refine E_bipush (pc' := 107) g119_105 (by decide) rfl ?_
                           exact E_iret g119_107 ro119 (by unfold bsM; (repeat' split); all_goals (first | rfl | (exfalso; omega))) rfl)
                      · first
                        | (exfalso; omega)
                        | (refine E_aload_n (pc' := 92) g119_91 rfl rfl ?_
                           refine E_getR (pc' := 95) g119_92 f119_7 tg7_1 rfl (by assumption) rfl ?_
                           refine E_iconst (pc' := 96) g119_95 (by decide) rfl ?_
                           refine E_iald (pc' := 97) (v := wd) g119_96 rfl (by assumption) (by decide) (by simp) rfl ?_
                           refine E_iload (pc' := 99) g119_97 rfl rfl ?_
                           refine E_imul (pc' := 100) g119_99 (m_in_iff.mpr (mulbd (x := 0) (by omega) (by omega) (by omega) (by omega) (by omega)).1) rfl ?_
                           refine E_iload_n (pc' := 101) g119_100 rfl rfl ?_
                           refine E_iadd (pc' := 102) g119_101 (m_in_iff.mpr (mulbd (by omega) (by omega) (by omega) (by omega) (by omega)).2) rfl ?_
                           refine E_goto (pc' := 107) g119_102 rfl ?_
                           exact E_iret g119_107 ro119 (by unfold bsM; (repeat' split); all_goals (first | rfl | (exfalso; omega))) rfl))))
       · first
         | (exfalso; omega)
         | (refine E_iconst (pc' := 23) g119_22 (by decide) rfl ?_
            refine E_goto (pc' := 27) g119_23 rfl ?_
            refine E_iadd (pc' := 28) g119_27 (m_in_iff.mpr (by omega)) rfl ?_
            refine E_st3 (pc' := 29) g119_28 rfl ?_
            refine E_iload_n (pc' := 30) g119_29 rfl rfl ?_
            refine E_aload_n (pc' := 31) g119_30 rfl rfl ?_
            refine E_getR (pc' := 34) g119_31 f119_7 tg7_1 rfl (by assumption) rfl ?_
            refine E_iconst (pc' := 35) g119_34 (by decide) rfl ?_
            refine E_iald (pc' := 36) (v := wd) g119_35 rfl (by assumption) (by decide) (by simp) rfl ?_
            refine E_idiv (pc' := 37) g119_36 (by omega) rfl ?_
            refine E_iload_n (pc' := 38) g119_37 rfl rfl ?_
            refine E_ifne (pc' := 41) (pt := 45) g119_38 rfl rfl (fun c10 => ?_) (fun c10 => ?_)
            · first
              | (exfalso; omega)
              | (refine E_iload_n (pc' := 46) g119_45 rfl rfl ?_
                 refine E_iconst (pc' := 47) g119_46 (by decide) rfl ?_
                 refine E_icne (pc' := 50) (pt := 54) g119_47 rfl rfl (fun c11 => ?_) (fun c11 => ?_)
                 · first
                   | (exfalso; omega)
                   | (refine E_iconst (pc' := 55) g119_54 (by decide) rfl ?_
                      refine E_iadd (pc' := 56) g119_55 (m_in_iff.mpr (by omega)) rfl ?_
                      refine E_st4 (pc' := 58) g119_56 rfl ?_
                      refine E_iload_n (pc' := 59) g119_58 rfl rfl ?_
                      refine E_iconst (pc' := 60) g119_59 (by decide) rfl ?_
                      refine E_aload_n (pc' := 61) g119_60 rfl rfl ?_
                      refine E_getR (pc' := 64) g119_61 f119_7 tg7_1 rfl (by assumption) rfl ?_
                      refine E_iconst (pc' := 65) g119_64 (by decide) rfl ?_
                      refine E_iald (pc' := 66) (v := wd) g119_65 rfl (by assumption) (by decide) (by simp) rfl ?_
                      refine E_iconst (pc' := 67) g119_66 (by decide) rfl ?_
                      refine E_isub (pc' := 68) g119_67 (m_in_iff.mpr (by omega)) rfl ?_
                      refine E_cS3i (pc' := 71) g119_68 k119_81 na97 rfl rfl (Nat.le_of_ble_eq_true rfl) M_in (by decide) ?_
                      refine E_ifeq (pc' := 74) (pt := 105) g119_71 rfl rfl (fun c12 => ?_) (fun c12 => ?_)
                      · first
                        | (exfalso; omega)
                        | (refine E_bipush (pc' := 107) g119_105 (by decide) rfl ?_
                           exact E_iret g119_107 ro119 (by unfold bsM; (repeat' split); all_goals (first | rfl | (exfalso; omega))) rfl)
                      · first
                        | (exfalso; omega)
                        | (refine E_iload (pc' := 76) g119_74 rfl rfl ?_
                           refine E_iconst (pc' := 77) g119_76 (by decide) rfl ?_
                           refine E_aload_n (pc' := 78) g119_77 rfl rfl ?_
                           refine E_getR (pc' := 81) g119_78 f119_7 tg7_1 rfl (by assumption) rfl ?_
                           refine E_iconst (pc' := 82) g119_81 (by decide) rfl ?_
                           refine E_iald (pc' := 83) (v := ht) g119_82 rfl (by assumption) (by decide) (by simp) rfl ?_
                           refine E_iconst (pc' := 84) g119_83 (by decide) rfl ?_
                           refine E_isub (pc' := 85) g119_84 (m_in_iff.mpr (by omega)) rfl ?_
                           refine E_cS3i (pc' := 88) g119_85 k119_81 na97 rfl rfl (Nat.le_of_ble_eq_true rfl) M_in (by decide) ?_
                           refine E_ifeq (pc' := 91) (pt := 105) g119_88 rfl rfl (fun c13 => ?_) (fun c13 => ?_)
                           · first
                             | (exfalso; omega)
                             | (refine E_bipush (pc' := 107) g119_105 (by decide) rfl ?_
                                exact E_iret g119_107 ro119 (by unfold bsM; (repeat' split); all_goals (first | rfl | (exfalso; omega))) rfl)
                           · first
                             | (exfalso; omega)
                             | (refine E_aload_n (pc' := 92) g119_91 rfl rfl ?_
                                refine E_getR (pc' := 95) g119_92 f119_7 tg7_1 rfl (by assumption) rfl ?_
                                refine E_iconst (pc' := 96) g119_95 (by decide) rfl ?_
                                refine E_iald (pc' := 97) (v := wd) g119_96 rfl (by assumption) (by decide) (by simp) rfl ?_
                                refine E_iload (pc' := 99) g119_97 rfl rfl ?_
                                refine E_imul (pc' := 100) g119_99 (m_in_iff.mpr (mulbd (x := 0) (by omega) (by omega) (by omega) (by omega) (by omega)).1) rfl ?_
                                refine E_iload_n (pc' := 101) g119_100 rfl rfl ?_
                                refine E_iadd (pc' := 102) g119_101 (m_in_iff.mpr (mulbd (by omega) (by omega) (by omega) (by omega) (by omega)).2) rfl ?_
                                refine E_goto (pc' := 107) g119_102 rfl ?_
                                exact E_iret g119_107 ro119 (by unfold bsM; (repeat' split); all_goals (first | rfl | (exfalso; omega))) rfl)))
                 · first
                   | (exfalso; omega)
                   | (refine E_iconst (pc' := 51) g119_50 (by decide) rfl ?_
                      refine E_goto (pc' := 55) g119_51 rfl ?_
                      refine E_iadd (pc' := 56) g119_55 (m_in_iff.mpr (by omega)) rfl ?_
                      refine E_st4 (pc' := 58) g119_56 rfl ?_
                      refine E_iload_n (pc' := 59) g119_58 rfl rfl ?_
                      refine E_iconst (pc' := 60) g119_59 (by decide) rfl ?_
                      refine E_aload_n (pc' := 61) g119_60 rfl rfl ?_
                      refine E_getR (pc' := 64) g119_61 f119_7 tg7_1 rfl (by assumption) rfl ?_
                      refine E_iconst (pc' := 65) g119_64 (by decide) rfl ?_
                      refine E_iald (pc' := 66) (v := wd) g119_65 rfl (by assumption) (by decide) (by simp) rfl ?_
                      refine E_iconst (pc' := 67) g119_66 (by decide) rfl ?_
                      refine E_isub (pc' := 68) g119_67 (m_in_iff.mpr (by omega)) rfl ?_
                      refine E_cS3i (pc' := 71) g119_68 k119_81 na97 rfl rfl (Nat.le_of_ble_eq_true rfl) M_in (by decide) ?_
                      refine E_ifeq (pc' := 74) (pt := 105) g119_71 rfl rfl (fun c14 => ?_) (fun c14 => ?_)
                      · first
                        | (exfalso; omega)
                        | (refine E_bipush (pc' := 107) g119_105 (by decide) rfl ?_
                           exact E_iret g119_107 ro119 (by unfold bsM; (repeat' split); all_goals (first | rfl | (exfalso; omega))) rfl)
                      · first
                        | (exfalso; omega)
                        | (refine E_iload (pc' := 76) g119_74 rfl rfl ?_
                           refine E_iconst (pc' := 77) g119_76 (by decide) rfl ?_
                           refine E_aload_n (pc' := 78) g119_77 rfl rfl ?_
                           refine E_getR (pc' := 81) g119_78 f119_7 tg7_1 rfl (by assumption) rfl ?_
                           refine E_iconst (pc' := 82) g119_81 (by decide) rfl ?_
                           refine E_iald (pc' := 83) (v := ht) g119_82 rfl (by assumption) (by decide) (by simp) rfl ?_
                           refine E_iconst (pc' := 84) g119_83 (by decide) rfl ?_
                           refine E_isub (pc' := 85) g119_84 (m_in_iff.mpr (by omega)) rfl ?_
                           refine E_cS3i (pc' := 88) g119_85 k119_81 na97 rfl rfl (Nat.le_of_ble_eq_true rfl) M_in (by decide) ?_
                           refine E_ifeq (pc' := 91) (pt := 105) g119_88 rfl rfl (fun c15 => ?_) (fun c15 => ?_)
                           · first
                             | (exfalso; omega)
                             | (refine E_bipush (pc' := 107) g119_105 (by decide) rfl ?_
                                exact E_iret g119_107 ro119 (by unfold bsM; (repeat' split); all_goals (first | rfl | (exfalso; omega))) rfl)
                           · first
                             | (exfalso; omega)
                             | (refine E_aload_n (pc' := 92) g119_91 rfl rfl ?_
                                refine E_getR (pc' := 95) g119_92 f119_7 tg7_1 rfl (by assumption) rfl ?_
                                refine E_iconst (pc' := 96) g119_95 (by decide) rfl ?_
                                refine E_iald (pc' := 97) (v := wd) g119_96 rfl (by assumption) (by decide) (by simp) rfl ?_
                                refine E_iload (pc' := 99) g119_97 rfl rfl ?_
                                refine E_imul (pc' := 100) g119_99 (m_in_iff.mpr (mulbd (x := 0) (by omega) (by omega) (by omega) (by omega) (by omega)).1) rfl ?_
                                refine E_iload_n (pc' := 101) g119_100 rfl rfl ?_
                                refine E_iadd (pc' := 102) g119_101 (m_in_iff.mpr (mulbd (by omega) (by omega) (by omega) (by omega) (by omega)).2) rfl ?_
                                refine E_goto (pc' := 107) g119_102 rfl ?_
                                exact E_iret g119_107 ro119 (by unfold bsM; (repeat' split); all_goals (first | rfl | (exfalso; omega))) rfl))))
            · first
              | (exfalso; omega)
              | (refine E_iconst (pc' := 42) g119_41 (by decide) rfl ?_
                 refine E_goto (pc' := 55) g119_42 rfl ?_
                 refine E_iadd (pc' := 56) g119_55 (m_in_iff.mpr (by omega)) rfl ?_
                 refine E_st4 (pc' := 58) g119_56 rfl ?_
                 refine E_iload_n (pc' := 59) g119_58 rfl rfl ?_
                 refine E_iconst (pc' := 60) g119_59 (by decide) rfl ?_
                 refine E_aload_n (pc' := 61) g119_60 rfl rfl ?_
                 refine E_getR (pc' := 64) g119_61 f119_7 tg7_1 rfl (by assumption) rfl ?_
                 refine E_iconst (pc' := 65) g119_64 (by decide) rfl ?_
                 refine E_iald (pc' := 66) (v := wd) g119_65 rfl (by assumption) (by decide) (by simp) rfl ?_
                 refine E_iconst (pc' := 67) g119_66 (by decide) rfl ?_
                 refine E_isub (pc' := 68) g119_67 (m_in_iff.mpr (by omega)) rfl ?_
                 refine E_cS3i (pc' := 71) g119_68 k119_81 na97 rfl rfl (Nat.le_of_ble_eq_true rfl) M_in (by decide) ?_
                 refine E_ifeq (pc' := 74) (pt := 105) g119_71 rfl rfl (fun c16 => ?_) (fun c16 => ?_)
                 · first
                   | (exfalso; omega)
                   | (refine E_bipush (pc' := 107) g119_105 (by decide) rfl ?_
                      exact E_iret g119_107 ro119 (by unfold bsM; (repeat' split); all_goals (first | rfl | (exfalso; omega))) rfl)
                 · first
                   | (exfalso; omega)
                   | (refine E_iload (pc' := 76) g119_74 rfl rfl ?_
                      refine E_iconst (pc' := 77) g119_76 (by decide) rfl ?_
                      refine E_aload_n (pc' := 78) g119_77 rfl rfl ?_
                      refine E_getR (pc' := 81) g119_78 f119_7 tg7_1 rfl (by assumption) rfl ?_
                      refine E_iconst (pc' := 82) g119_81 (by decide) rfl ?_
                      refine E_iald (pc' := 83) (v := ht) g119_82 rfl (by assumption) (by decide) (by simp) rfl ?_
                      refine E_iconst (pc' := 84) g119_83 (by decide) rfl ?_
                      refine E_isub (pc' := 85) g119_84 (m_in_iff.mpr (by omega)) rfl ?_
                      refine E_cS3i (pc' := 88) g119_85 k119_81 na97 rfl rfl (Nat.le_of_ble_eq_true rfl) M_in (by decide) ?_
                      refine E_ifeq (pc' := 91) (pt := 105) g119_88 rfl rfl (fun c17 => ?_) (fun c17 => ?_)
                      · first
                        | (exfalso; omega)
                        | (refine E_bipush (pc' := 107) g119_105 (by decide) rfl ?_
                           exact E_iret g119_107 ro119 (by unfold bsM; (repeat' split); all_goals (first | rfl | (exfalso; omega))) rfl)
                      · first
                        | (exfalso; omega)
                        | (refine E_aload_n (pc' := 92) g119_91 rfl rfl ?_
                           refine E_getR (pc' := 95) g119_92 f119_7 tg7_1 rfl (by assumption) rfl ?_
                           refine E_iconst (pc' := 96) g119_95 (by decide) rfl ?_
                           refine E_iald (pc' := 97) (v := wd) g119_96 rfl (by assumption) (by decide) (by simp) rfl ?_
                           refine E_iload (pc' := 99) g119_97 rfl rfl ?_
                           refine E_imul (pc' := 100) g119_99 (m_in_iff.mpr (mulbd (x := 0) (by omega) (by omega) (by omega) (by omega) (by omega)).1) rfl ?_
                           refine E_iload_n (pc' := 101) g119_100 rfl rfl ?_
                           refine E_iadd (pc' := 102) g119_101 (m_in_iff.mpr (mulbd (by omega) (by omega) (by omega) (by omega) (by omega)).2) rfl ?_
                           refine E_goto (pc' := 107) g119_102 rfl ?_
                           exact E_iret g119_107 ro119 (by unfold bsM; (repeat' split); all_goals (first | rfl | (exfalso; omega))) rfl)))))
  · first
    | (exfalso; omega)
    | (refine E_iconst (pc' := 14) g119_13 (by decide) rfl ?_
       refine E_goto (pc' := 27) g119_14 rfl ?_
       refine E_iadd (pc' := 28) g119_27 (m_in_iff.mpr (by omega)) rfl ?_
       refine E_st3 (pc' := 29) g119_28 rfl ?_
       refine E_iload_n (pc' := 30) g119_29 rfl rfl ?_
       refine E_aload_n (pc' := 31) g119_30 rfl rfl ?_
       refine E_getR (pc' := 34) g119_31 f119_7 tg7_1 rfl (by assumption) rfl ?_
       refine E_iconst (pc' := 35) g119_34 (by decide) rfl ?_
       refine E_iald (pc' := 36) (v := wd) g119_35 rfl (by assumption) (by decide) (by simp) rfl ?_
       refine E_idiv (pc' := 37) g119_36 (by omega) rfl ?_
       refine E_iload_n (pc' := 38) g119_37 rfl rfl ?_
       refine E_ifne (pc' := 41) (pt := 45) g119_38 rfl rfl (fun c18 => ?_) (fun c18 => ?_)
       · first
         | (exfalso; omega)
         | (refine E_iload_n (pc' := 46) g119_45 rfl rfl ?_
            refine E_iconst (pc' := 47) g119_46 (by decide) rfl ?_
            refine E_icne (pc' := 50) (pt := 54) g119_47 rfl rfl (fun c19 => ?_) (fun c19 => ?_)
            · first
              | (exfalso; omega)
              | (refine E_iconst (pc' := 55) g119_54 (by decide) rfl ?_
                 refine E_iadd (pc' := 56) g119_55 (m_in_iff.mpr (by omega)) rfl ?_
                 refine E_st4 (pc' := 58) g119_56 rfl ?_
                 refine E_iload_n (pc' := 59) g119_58 rfl rfl ?_
                 refine E_iconst (pc' := 60) g119_59 (by decide) rfl ?_
                 refine E_aload_n (pc' := 61) g119_60 rfl rfl ?_
                 refine E_getR (pc' := 64) g119_61 f119_7 tg7_1 rfl (by assumption) rfl ?_
                 refine E_iconst (pc' := 65) g119_64 (by decide) rfl ?_
                 refine E_iald (pc' := 66) (v := wd) g119_65 rfl (by assumption) (by decide) (by simp) rfl ?_
                 refine E_iconst (pc' := 67) g119_66 (by decide) rfl ?_
                 refine E_isub (pc' := 68) g119_67 (m_in_iff.mpr (by omega)) rfl ?_
                 refine E_cS3i (pc' := 71) g119_68 k119_81 na97 rfl rfl (Nat.le_of_ble_eq_true rfl) M_in (by decide) ?_
                 refine E_ifeq (pc' := 74) (pt := 105) g119_71 rfl rfl (fun c20 => ?_) (fun c20 => ?_)
                 · first
                   | (exfalso; omega)
                   | (refine E_bipush (pc' := 107) g119_105 (by decide) rfl ?_
                      exact E_iret g119_107 ro119 (by unfold bsM; (repeat' split); all_goals (first | rfl | (exfalso; omega))) rfl)
                 · first
                   | (exfalso; omega)
                   | (refine E_iload (pc' := 76) g119_74 rfl rfl ?_
                      refine E_iconst (pc' := 77) g119_76 (by decide) rfl ?_
                      refine E_aload_n (pc' := 78) g119_77 rfl rfl ?_
                      refine E_getR (pc' := 81) g119_78 f119_7 tg7_1 rfl (by assumption) rfl ?_
                      refine E_iconst (pc' := 82) g119_81 (by decide) rfl ?_
                      refine E_iald (pc' := 83) (v := ht) g119_82 rfl (by assumption) (by decide) (by simp) rfl ?_
                      refine E_iconst (pc' := 84) g119_83 (by decide) rfl ?_
                      refine E_isub (pc' := 85) g119_84 (m_in_iff.mpr (by omega)) rfl ?_
                      refine E_cS3i (pc' := 88) g119_85 k119_81 na97 rfl rfl (Nat.le_of_ble_eq_true rfl) M_in (by decide) ?_
                      refine E_ifeq (pc' := 91) (pt := 105) g119_88 rfl rfl (fun c21 => ?_) (fun c21 => ?_)
                      · first
                        | (exfalso; omega)
                        | (refine E_bipush (pc' := 107) g119_105 (by decide) rfl ?_
                           exact E_iret g119_107 ro119 (by unfold bsM; (repeat' split); all_goals (first | rfl | (exfalso; omega))) rfl)
                      · first
                        | (exfalso; omega)
                        | (refine E_aload_n (pc' := 92) g119_91 rfl rfl ?_
                           refine E_getR (pc' := 95) g119_92 f119_7 tg7_1 rfl (by assumption) rfl ?_
                           refine E_iconst (pc' := 96) g119_95 (by decide) rfl ?_
                           refine E_iald (pc' := 97) (v := wd) g119_96 rfl (by assumption) (by decide) (by simp) rfl ?_
                           refine E_iload (pc' := 99) g119_97 rfl rfl ?_
                           refine E_imul (pc' := 100) g119_99 (m_in_iff.mpr (mulbd (x := 0) (by omega) (by omega) (by omega) (by omega) (by omega)).1) rfl ?_
                           refine E_iload_n (pc' := 101) g119_100 rfl rfl ?_
                           refine E_iadd (pc' := 102) g119_101 (m_in_iff.mpr (mulbd (by omega) (by omega) (by omega) (by omega) (by omega)).2) rfl ?_
                           refine E_goto (pc' := 107) g119_102 rfl ?_
                           exact E_iret g119_107 ro119 (by unfold bsM; (repeat' split); all_goals (first | rfl | (exfalso; omega))) rfl)))
            · first
              | (exfalso; omega)
              | (refine E_iconst (pc' := 51) g119_50 (by decide) rfl ?_
                 refine E_goto (pc' := 55) g119_51 rfl ?_
                 refine E_iadd (pc' := 56) g119_55 (m_in_iff.mpr (by omega)) rfl ?_
                 refine E_st4 (pc' := 58) g119_56 rfl ?_
                 refine E_iload_n (pc' := 59) g119_58 rfl rfl ?_
                 refine E_iconst (pc' := 60) g119_59 (by decide) rfl ?_
                 refine E_aload_n (pc' := 61) g119_60 rfl rfl ?_
                 refine E_getR (pc' := 64) g119_61 f119_7 tg7_1 rfl (by assumption) rfl ?_
                 refine E_iconst (pc' := 65) g119_64 (by decide) rfl ?_
                 refine E_iald (pc' := 66) (v := wd) g119_65 rfl (by assumption) (by decide) (by simp) rfl ?_
                 refine E_iconst (pc' := 67) g119_66 (by decide) rfl ?_
                 refine E_isub (pc' := 68) g119_67 (m_in_iff.mpr (by omega)) rfl ?_
                 refine E_cS3i (pc' := 71) g119_68 k119_81 na97 rfl rfl (Nat.le_of_ble_eq_true rfl) M_in (by decide) ?_
                 refine E_ifeq (pc' := 74) (pt := 105) g119_71 rfl rfl (fun c22 => ?_) (fun c22 => ?_)
                 · first
                   | (exfalso; omega)
                   | (refine E_bipush (pc' := 107) g119_105 (by decide) rfl ?_
                      exact E_iret g119_107 ro119 (by unfold bsM; (repeat' split); all_goals (first | rfl | (exfalso; omega))) rfl)
                 · first
                   | (exfalso; omega)
                   | (refine E_iload (pc' := 76) g119_74 rfl rfl ?_
                      refine E_iconst (pc' := 77) g119_76 (by decide) rfl ?_
                      refine E_aload_n (pc' := 78) g119_77 rfl rfl ?_
                      refine E_getR (pc' := 81) g119_78 f119_7 tg7_1 rfl (by assumption) rfl ?_
                      refine E_iconst (pc' := 82) g119_81 (by decide) rfl ?_
                      refine E_iald (pc' := 83) (v := ht) g119_82 rfl (by assumption) (by decide) (by simp) rfl ?_
                      refine E_iconst (pc' := 84) g119_83 (by decide) rfl ?_
                      refine E_isub (pc' := 85) g119_84 (m_in_iff.mpr (by omega)) rfl ?_
                      refine E_cS3i (pc' := 88) g119_85 k119_81 na97 rfl rfl (Nat.le_of_ble_eq_true rfl) M_in (by decide) ?_
                      refine E_ifeq (pc' := 91) (pt := 105) g119_88 rfl rfl (fun c23 => ?_) (fun c23 => ?_)
                      · first
                        | (exfalso; omega)
                        | (refine E_bipush (pc' := 107) g119_105 (by decide) rfl ?_
                           exact E_iret g119_107 ro119 (by unfold bsM; (repeat' split); all_goals (first | rfl | (exfalso; omega))) rfl)
                      · first
                        | (exfalso; omega)
                        | (refine E_aload_n (pc' := 92) g119_91 rfl rfl ?_
                           refine E_getR (pc' := 95) g119_92 f119_7 tg7_1 rfl (by assumption) rfl ?_
                           refine E_iconst (pc' := 96) g119_95 (by decide) rfl ?_
                           refine E_iald (pc' := 97) (v := wd) g119_96 rfl (by assumption) (by decide) (by simp) rfl ?_
                           refine E_iload (pc' := 99) g119_97 rfl rfl ?_
                           refine E_imul (pc' := 100) g119_99 (m_in_iff.mpr (mulbd (x := 0) (by omega) (by omega) (by omega) (by omega) (by omega)).1) rfl ?_
                           refine E_iload_n (pc' := 101) g119_100 rfl rfl ?_
                           refine E_iadd (pc' := 102) g119_101 (m_in_iff.mpr (mulbd (by omega) (by omega) (by omega) (by omega) (by omega)).2) rfl ?_
                           refine E_goto (pc' := 107) g119_102 rfl ?_
                           exact E_iret g119_107 ro119 (by unfold bsM; (repeat' split); all_goals (first | rfl | (exfalso; omega))) rfl))))
       · first
         | (exfalso; omega)
         | (refine E_iconst (pc' := 42) g119_41 (by decide) rfl ?_
            refine E_goto (pc' := 55) g119_42 rfl ?_
            refine E_iadd (pc' := 56) g119_55 (m_in_iff.mpr (by omega)) rfl ?_
            refine E_st4 (pc' := 58) g119_56 rfl ?_
            refine E_iload_n (pc' := 59) g119_58 rfl rfl ?_
            refine E_iconst (pc' := 60) g119_59 (by decide) rfl ?_
            refine E_aload_n (pc' := 61) g119_60 rfl rfl ?_
            refine E_getR (pc' := 64) g119_61 f119_7 tg7_1 rfl (by assumption) rfl ?_
            refine E_iconst (pc' := 65) g119_64 (by decide) rfl ?_
            refine E_iald (pc' := 66) (v := wd) g119_65 rfl (by assumption) (by decide) (by simp) rfl ?_
            refine E_iconst (pc' := 67) g119_66 (by decide) rfl ?_
            refine E_isub (pc' := 68) g119_67 (m_in_iff.mpr (by omega)) rfl ?_
            refine E_cS3i (pc' := 71) g119_68 k119_81 na97 rfl rfl (Nat.le_of_ble_eq_true rfl) M_in (by decide) ?_
            refine E_ifeq (pc' := 74) (pt := 105) g119_71 rfl rfl (fun c24 => ?_) (fun c24 => ?_)
            · first
              | (exfalso; omega)
              | (refine E_bipush (pc' := 107) g119_105 (by decide) rfl ?_
                 exact E_iret g119_107 ro119 (by unfold bsM; (repeat' split); all_goals (first | rfl | (exfalso; omega))) rfl)
            · first
              | (exfalso; omega)
              | (refine E_iload (pc' := 76) g119_74 rfl rfl ?_
                 refine E_iconst (pc' := 77) g119_76 (by decide) rfl ?_
                 refine E_aload_n (pc' := 78) g119_77 rfl rfl ?_
                 refine E_getR (pc' := 81) g119_78 f119_7 tg7_1 rfl (by assumption) rfl ?_
                 refine E_iconst (pc' := 82) g119_81 (by decide) rfl ?_
                 refine E_iald (pc' := 83) (v := ht) g119_82 rfl (by assumption) (by decide) (by simp) rfl ?_
                 refine E_iconst (pc' := 84) g119_83 (by decide) rfl ?_
                 refine E_isub (pc' := 85) g119_84 (m_in_iff.mpr (by omega)) rfl ?_
                 refine E_cS3i (pc' := 88) g119_85 k119_81 na97 rfl rfl (Nat.le_of_ble_eq_true rfl) M_in (by decide) ?_
                 refine E_ifeq (pc' := 91) (pt := 105) g119_88 rfl rfl (fun c25 => ?_) (fun c25 => ?_)
                 · first
                   | (exfalso; omega)
                   | (refine E_bipush (pc' := 107) g119_105 (by decide) rfl ?_
                      exact E_iret g119_107 ro119 (by unfold bsM; (repeat' split); all_goals (first | rfl | (exfalso; omega))) rfl)
                 · first
                   | (exfalso; omega)
                   | (refine E_aload_n (pc' := 92) g119_91 rfl rfl ?_
                      refine E_getR (pc' := 95) g119_92 f119_7 tg7_1 rfl (by assumption) rfl ?_
                      refine E_iconst (pc' := 96) g119_95 (by decide) rfl ?_
                      refine E_iald (pc' := 97) (v := wd) g119_96 rfl (by assumption) (by decide) (by simp) rfl ?_
                      refine E_iload (pc' := 99) g119_97 rfl rfl ?_
                      refine E_imul (pc' := 100) g119_99 (m_in_iff.mpr (mulbd (x := 0) (by omega) (by omega) (by omega) (by omega) (by omega)).1) rfl ?_
                      refine E_iload_n (pc' := 101) g119_100 rfl rfl ?_
                      refine E_iadd (pc' := 102) g119_101 (m_in_iff.mpr (mulbd (by omega) (by omega) (by omega) (by omega) (by omega)).2) rfl ?_
                      refine E_goto (pc' := 107) g119_102 rfl ?_
                      exact E_iret g119_107 ro119 (by unfold bsM; (repeat' split); all_goals (first | rfl | (exfalso; omega))) rfl))))
def rmP (ed : List Int) (wd ht rm s b : Int) (h : Nat) : Bool := decide (¬ bsd wd ht s h = -9 ∨ rm = -9 ∨ eo ed b h = rm)
theorem kr_iff {s b : Int} (h1 : 1 ≤ wd ∧ wd ≤ 3) (h2 : 1 ≤ ht ∧ ht ≤ 2) (hs : 0 ≤ s ∧ s < wd * ht) : al (rmP ed wd ht rm s b) 4 = true ↔ kr ed wd ht rm s b := by
  rw [al_iff]
  unfold kr
  constructor
  · intro h
    by_cases e : rm = -9
    · exact Or.inl e
    · refine Or.inr (fun k hk => ?_)
      have h3 := of_decide_eq_true (h k hk)
      have h4 := (bs_at h1 h2 hs (h := k) (by omega)).2
      unfold krP
      omega
  · intro h k hk
    have h4 := (bs_at h1 h2 hs (h := k) (by omega)).2
    refine decide_eq_true ?_
    rcases h with h | h
    · exact Or.inr (Or.inl h)
    · have := h k hk
      unfold krP at this
      omega
theorem M_whyNot (hM : H[74]? = some (7, mdL kd un nk le ap nu me op de fo bs bu)) (hD : okD kd wd ht rm mo sd bo ed hu) (hz : H[75]? = some (8, [wd, ht, rm, mo, sd, bo])) (htd : H[76]? = some (8, td)) (hrT : relT td ed hu kd) (htt : H[85]? = some (8, tt)) (hrS : relS tt bl sl kd) {s b r : Int} (hs : 0 ≤ s ∧ s < wd * ht) (hb : 0 ≤ b ∧ b < kd * 4) (hr : why bl sl ed hu wd ht rm mo s b r) : Call 2 120 [mR 74, mI s, mI b] H (mI r) H := by
  have hD0 := hD
  have hrT0 := hrT
  have hrS0 := hrS
  obtain ⟨r1, r2, r3, r4, r5, r6, r7, b1, b2⟩ := hD
  obtain ⟨nt, q1, q2, q3, q4, q5⟩ := hrS
  have hw := wh_bd r2.1 r2.2 r3.1 r3.2
  have p1 := td4k hb.1 hb.2
  have hkr := kr_iff (ed := ed) (rm := rm) (b := b) r2 r3 hs
  refine Call_of rfl ?_
  refine E_aload_n (pc' := 1) g120_0 rfl rfl ?_
  refine E_iload_n (pc' := 2) g120_1 rfl rfl ?_
  refine E_iconst (pc' := 3) g120_2 (by decide) rfl ?_
  refine E_idiv (pc' := 4) g120_3 (by omega) rfl ?_
  refine E_cV1i (pc' := 7) g120_4 k120_127 na117 rfl ow117 rfl (Nat.le_of_ble_eq_true rfl) (by assumption) (M_leftOf hM hD0 htt hrS0 p1) (by decide) ?_
  refine E_ifgt (pc' := 10) (pt := 12) g120_7 rfl rfl (fun c0 => ?_) (fun c0 => ?_)
  · have hA := hr.2 c0
    refine E_iconst (pc' := 13) g120_12 (by decide) rfl ?_
    refine E_st3 (pc' := 14) g120_13 rfl ?_
    refine E_iconst (pc' := 15) g120_14 (by decide) rfl ?_
    refine E_st4 (pc' := 17) g120_15 rfl ?_
    refine (E_loop (n := 4) (fun i => (∀ j : Nat, j < i → mtP bl ed wd ht s b j) → ∀ u : mV, Ev 2 120 17 [mR 74, mI s, mI b, mI (b01 (al (rmP ed wd ht rm s b) i)), mI (i : Int), u] [] H (mI r) H) ?_ ?_ 0 (by omega)) (fun j hj => absurd hj (by omega)) none
    · intro i hi hh hall u
      have hbs := (bs_at r2 r3 hs (h := i) (by omega)).2
      have e3 := isO_or bl (bsd wd ht s i)
      have g1 := q1 (bsd wd ht s i)
      have g4 := q4 (bsd wd ht s i)
      refine E_iload (pc' := 19) g120_17 rfl rfl ?_
      refine E_iconst (pc' := 20) g120_19 (by decide) rfl ?_
      refine E_icge (pc' := 23) (pt := 130) g120_20 rfl rfl (fun c0 => ?_) (fun c0 => ?_)
      · exact absurd c0 (by omega)
      · refine E_aload_n (pc' := 24) g120_23 rfl rfl ?_
        refine E_iload_n (pc' := 25) g120_24 rfl rfl ?_
        refine E_iload (pc' := 27) g120_25 rfl rfl ?_
        refine E_cV2i (pc' := 30) g120_27 k120_130 na119 rfl ow119 rfl (Nat.le_of_ble_eq_true rfl) (by assumption) (M_beside hM hD0 hz hs (by omega)) (by decide) ?_
        refine E_st5 (pc' := 32) g120_30 rfl ?_
        refine E_iload (pc' := 34) g120_32 rfl rfl ?_
        refine E_bipush (pc' := 36) g120_34 (by decide) rfl ?_
        refine E_iceq (pc' := 39) (pt := 80) g120_36 rfl rfl (fun c1 => ?_) (fun c1 => ?_)
        · refine E_iload_n (pc' := 81) g120_80 rfl rfl ?_
          refine E_ifeq (pc' := 84) (pt := 122) g120_81 rfl rfl (fun c2 => ?_) (fun c2 => ?_)
          · refine E_iconst (pc' := 123) g120_122 (by decide) rfl ?_
            refine E_st3 (pc' := 124) g120_123 rfl ?_
            refine E_in4 (pc' := 127) g120_124 rfl (m_in_iff.mpr (by omega)) ?_
            refine E_goto (pc' := 17) g120_127 rfl ?_
            have hall2 : ∀ j : Nat, j < i + 1 → mtP bl ed wd ht s b j := by
              intro j hj
              rcases Nat.lt_or_ge j i with q | q
              · exact hall j q
              · rw [show j = i by omega]; unfold mtP; omega
            first | exact Ev_cast (hh (hall2) _) (by rw [al_c2 (by assumption) (decide_eq_true (by omega))]; first | done | rfl) rfl | exact Ev_cast (hh (hall2) _) (by rw [al_c1 (by assumption)]; first | done | rfl) rfl | exact Ev_cast (hh (hall2) _) (by rw [al_c3 (p := rmP ed wd ht rm s b) (decide_eq_false (by omega))]; first | done | rfl) rfl
          · refine E_iload (pc' := 86) g120_84 rfl rfl ?_
            refine E_bipush (pc' := 88) g120_86 (by decide) rfl ?_
            refine E_icne (pc' := 91) (pt := 118) g120_88 rfl rfl (fun c3 => ?_) (fun c3 => ?_)
            · refine E_iconst (pc' := 119) g120_118 (by decide) rfl ?_
              refine E_goto (pc' := 123) g120_119 rfl ?_
              refine E_st3 (pc' := 124) g120_123 rfl ?_
              refine E_in4 (pc' := 127) g120_124 rfl (m_in_iff.mpr (by omega)) ?_
              refine E_goto (pc' := 17) g120_127 rfl ?_
              have hall2 : ∀ j : Nat, j < i + 1 → mtP bl ed wd ht s b j := by
                intro j hj
                rcases Nat.lt_or_ge j i with q | q
                · exact hall j q
                · rw [show j = i by omega]; unfold mtP; omega
              first | exact Ev_cast (hh (hall2) _) (by rw [al_c2 (by assumption) (decide_eq_true (by omega))]; first | done | rfl) rfl | exact Ev_cast (hh (hall2) _) (by rw [al_c1 (by assumption)]; first | done | rfl) rfl | exact Ev_cast (hh (hall2) _) (by rw [al_c3 (p := rmP ed wd ht rm s b) (decide_eq_false (by omega))]; first | done | rfl) rfl
            · refine E_aload_n (pc' := 92) g120_91 rfl rfl ?_
              refine E_getR (pc' := 95) g120_92 f120_7 tg7_1 rfl (by assumption) rfl ?_
              refine E_iconst (pc' := 96) g120_95 (by decide) rfl ?_
              refine E_iald (pc' := 97) (v := rm) g120_96 rfl (by assumption) (by decide) (by simp) rfl ?_
              refine E_bipush (pc' := 99) g120_97 (by decide) rfl ?_
              refine E_iceq (pc' := 102) (pt := 118) g120_99 rfl rfl (fun c4 => ?_) (fun c4 => ?_)
              · refine E_iconst (pc' := 119) g120_118 (by decide) rfl ?_
                refine E_goto (pc' := 123) g120_119 rfl ?_
                refine E_st3 (pc' := 124) g120_123 rfl ?_
                refine E_in4 (pc' := 127) g120_124 rfl (m_in_iff.mpr (by omega)) ?_
                refine E_goto (pc' := 17) g120_127 rfl ?_
                have hall2 : ∀ j : Nat, j < i + 1 → mtP bl ed wd ht s b j := by
                  intro j hj
                  rcases Nat.lt_or_ge j i with q | q
                  · exact hall j q
                  · rw [show j = i by omega]; unfold mtP; omega
                first | exact Ev_cast (hh (hall2) _) (by rw [al_c2 (by assumption) (decide_eq_true (by omega))]; first | done | rfl) rfl | exact Ev_cast (hh (hall2) _) (by rw [al_c1 (by assumption)]; first | done | rfl) rfl | exact Ev_cast (hh (hall2) _) (by rw [al_c3 (p := rmP ed wd ht rm s b) (decide_eq_false (by omega))]; first | done | rfl) rfl
              · refine E_aload_n (pc' := 103) g120_102 rfl rfl ?_
                refine E_iload_n (pc' := 104) g120_103 rfl rfl ?_
                refine E_iload (pc' := 106) g120_104 rfl rfl ?_
                refine E_cV2i (pc' := 109) g120_106 k120_119 na113 rfl ow113 rfl (Nat.le_of_ble_eq_true rfl) (by assumption) (M_edge hM hD0 htd hrT0 (by omega) (by omega)) (by decide) ?_
                refine E_aload_n (pc' := 110) g120_109 rfl rfl ?_
                refine E_getR (pc' := 113) g120_110 f120_7 tg7_1 rfl (by assumption) rfl ?_
                refine E_iconst (pc' := 114) g120_113 (by decide) rfl ?_
                refine E_iald (pc' := 115) (v := rm) g120_114 rfl (by assumption) (by decide) (by simp) rfl ?_
                refine E_icne (pc' := 118) (pt := 122) g120_115 rfl rfl (fun c5 => ?_) (fun c5 => ?_)
                · refine E_iconst (pc' := 123) g120_122 (by decide) rfl ?_
                  refine E_st3 (pc' := 124) g120_123 rfl ?_
                  refine E_in4 (pc' := 127) g120_124 rfl (m_in_iff.mpr (by omega)) ?_
                  refine E_goto (pc' := 17) g120_127 rfl ?_
                  have hall2 : ∀ j : Nat, j < i + 1 → mtP bl ed wd ht s b j := by
                    intro j hj
                    rcases Nat.lt_or_ge j i with q | q
                    · exact hall j q
                    · rw [show j = i by omega]; unfold mtP; omega
                  first | exact Ev_cast (hh (hall2) _) (by rw [al_c2 (by assumption) (decide_eq_true (by omega))]; first | done | rfl) rfl | exact Ev_cast (hh (hall2) _) (by rw [al_c1 (by assumption)]; first | done | rfl) rfl | exact Ev_cast (hh (hall2) _) (by rw [al_c3 (p := rmP ed wd ht rm s b) (decide_eq_false (by omega))]; first | done | rfl) rfl
                · refine E_iconst (pc' := 119) g120_118 (by decide) rfl ?_
                  refine E_goto (pc' := 123) g120_119 rfl ?_
                  refine E_st3 (pc' := 124) g120_123 rfl ?_
                  refine E_in4 (pc' := 127) g120_124 rfl (m_in_iff.mpr (by omega)) ?_
                  refine E_goto (pc' := 17) g120_127 rfl ?_
                  have hall2 : ∀ j : Nat, j < i + 1 → mtP bl ed wd ht s b j := by
                    intro j hj
                    rcases Nat.lt_or_ge j i with q | q
                    · exact hall j q
                    · rw [show j = i by omega]; unfold mtP; omega
                  first | exact Ev_cast (hh (hall2) _) (by rw [al_c2 (by assumption) (decide_eq_true (by omega))]; first | done | rfl) rfl | exact Ev_cast (hh (hall2) _) (by rw [al_c1 (by assumption)]; first | done | rfl) rfl | exact Ev_cast (hh (hall2) _) (by rw [al_c3 (p := rmP ed wd ht rm s b) (decide_eq_false (by omega))]; first | done | rfl) rfl
        · refine E_aload_n (pc' := 40) g120_39 rfl rfl ?_
          refine E_getR (pc' := 43) g120_40 f120_41 tg7_17 rfl (by assumption) rfl ?_
          refine E_iload (pc' := 45) g120_43 rfl rfl ?_
          refine E_iald (pc' := 46) (v := ix bl (bsd wd ht s i)) g120_45 rfl (by assumption) (by omega) (by omega) (q1 _ (by omega) (by omega)) ?_
          refine E_bipush (pc' := 48) g120_46 (by decide) rfl ?_
          refine E_iceq (pc' := 51) (pt := 80) g120_48 rfl rfl (fun c6 => ?_) (fun c6 => ?_)
          · refine E_iload_n (pc' := 81) g120_80 rfl rfl ?_
            refine E_ifeq (pc' := 84) (pt := 122) g120_81 rfl rfl (fun c7 => ?_) (fun c7 => ?_)
            · refine E_iconst (pc' := 123) g120_122 (by decide) rfl ?_
              refine E_st3 (pc' := 124) g120_123 rfl ?_
              refine E_in4 (pc' := 127) g120_124 rfl (m_in_iff.mpr (by omega)) ?_
              refine E_goto (pc' := 17) g120_127 rfl ?_
              have hall2 : ∀ j : Nat, j < i + 1 → mtP bl ed wd ht s b j := by
                intro j hj
                rcases Nat.lt_or_ge j i with q | q
                · exact hall j q
                · rw [show j = i by omega]; unfold mtP; omega
              first | exact Ev_cast (hh (hall2) _) (by rw [al_c2 (by assumption) (decide_eq_true (by omega))]; first | done | rfl) rfl | exact Ev_cast (hh (hall2) _) (by rw [al_c1 (by assumption)]; first | done | rfl) rfl | exact Ev_cast (hh (hall2) _) (by rw [al_c3 (p := rmP ed wd ht rm s b) (decide_eq_false (by omega))]; first | done | rfl) rfl
            · refine E_iload (pc' := 86) g120_84 rfl rfl ?_
              refine E_bipush (pc' := 88) g120_86 (by decide) rfl ?_
              refine E_icne (pc' := 91) (pt := 118) g120_88 rfl rfl (fun c8 => ?_) (fun c8 => ?_)
              · refine E_iconst (pc' := 119) g120_118 (by decide) rfl ?_
                refine E_goto (pc' := 123) g120_119 rfl ?_
                refine E_st3 (pc' := 124) g120_123 rfl ?_
                refine E_in4 (pc' := 127) g120_124 rfl (m_in_iff.mpr (by omega)) ?_
                refine E_goto (pc' := 17) g120_127 rfl ?_
                have hall2 : ∀ j : Nat, j < i + 1 → mtP bl ed wd ht s b j := by
                  intro j hj
                  rcases Nat.lt_or_ge j i with q | q
                  · exact hall j q
                  · rw [show j = i by omega]; unfold mtP; omega
                first | exact Ev_cast (hh (hall2) _) (by rw [al_c2 (by assumption) (decide_eq_true (by omega))]; first | done | rfl) rfl | exact Ev_cast (hh (hall2) _) (by rw [al_c1 (by assumption)]; first | done | rfl) rfl | exact Ev_cast (hh (hall2) _) (by rw [al_c3 (p := rmP ed wd ht rm s b) (decide_eq_false (by omega))]; first | done | rfl) rfl
              · refine E_aload_n (pc' := 92) g120_91 rfl rfl ?_
                refine E_getR (pc' := 95) g120_92 f120_7 tg7_1 rfl (by assumption) rfl ?_
                refine E_iconst (pc' := 96) g120_95 (by decide) rfl ?_
                refine E_iald (pc' := 97) (v := rm) g120_96 rfl (by assumption) (by decide) (by simp) rfl ?_
                refine E_bipush (pc' := 99) g120_97 (by decide) rfl ?_
                refine E_iceq (pc' := 102) (pt := 118) g120_99 rfl rfl (fun c9 => ?_) (fun c9 => ?_)
                · refine E_iconst (pc' := 119) g120_118 (by decide) rfl ?_
                  refine E_goto (pc' := 123) g120_119 rfl ?_
                  refine E_st3 (pc' := 124) g120_123 rfl ?_
                  refine E_in4 (pc' := 127) g120_124 rfl (m_in_iff.mpr (by omega)) ?_
                  refine E_goto (pc' := 17) g120_127 rfl ?_
                  have hall2 : ∀ j : Nat, j < i + 1 → mtP bl ed wd ht s b j := by
                    intro j hj
                    rcases Nat.lt_or_ge j i with q | q
                    · exact hall j q
                    · rw [show j = i by omega]; unfold mtP; omega
                  first | exact Ev_cast (hh (hall2) _) (by rw [al_c2 (by assumption) (decide_eq_true (by omega))]; first | done | rfl) rfl | exact Ev_cast (hh (hall2) _) (by rw [al_c1 (by assumption)]; first | done | rfl) rfl | exact Ev_cast (hh (hall2) _) (by rw [al_c3 (p := rmP ed wd ht rm s b) (decide_eq_false (by omega))]; first | done | rfl) rfl
                · refine E_aload_n (pc' := 103) g120_102 rfl rfl ?_
                  refine E_iload_n (pc' := 104) g120_103 rfl rfl ?_
                  refine E_iload (pc' := 106) g120_104 rfl rfl ?_
                  refine E_cV2i (pc' := 109) g120_106 k120_119 na113 rfl ow113 rfl (Nat.le_of_ble_eq_true rfl) (by assumption) (M_edge hM hD0 htd hrT0 (by omega) (by omega)) (by decide) ?_
                  refine E_aload_n (pc' := 110) g120_109 rfl rfl ?_
                  refine E_getR (pc' := 113) g120_110 f120_7 tg7_1 rfl (by assumption) rfl ?_
                  refine E_iconst (pc' := 114) g120_113 (by decide) rfl ?_
                  refine E_iald (pc' := 115) (v := rm) g120_114 rfl (by assumption) (by decide) (by simp) rfl ?_
                  refine E_icne (pc' := 118) (pt := 122) g120_115 rfl rfl (fun c10 => ?_) (fun c10 => ?_)
                  · refine E_iconst (pc' := 123) g120_122 (by decide) rfl ?_
                    refine E_st3 (pc' := 124) g120_123 rfl ?_
                    refine E_in4 (pc' := 127) g120_124 rfl (m_in_iff.mpr (by omega)) ?_
                    refine E_goto (pc' := 17) g120_127 rfl ?_
                    have hall2 : ∀ j : Nat, j < i + 1 → mtP bl ed wd ht s b j := by
                      intro j hj
                      rcases Nat.lt_or_ge j i with q | q
                      · exact hall j q
                      · rw [show j = i by omega]; unfold mtP; omega
                    first | exact Ev_cast (hh (hall2) _) (by rw [al_c2 (by assumption) (decide_eq_true (by omega))]; first | done | rfl) rfl | exact Ev_cast (hh (hall2) _) (by rw [al_c1 (by assumption)]; first | done | rfl) rfl | exact Ev_cast (hh (hall2) _) (by rw [al_c3 (p := rmP ed wd ht rm s b) (decide_eq_false (by omega))]; first | done | rfl) rfl
                  · refine E_iconst (pc' := 119) g120_118 (by decide) rfl ?_
                    refine E_goto (pc' := 123) g120_119 rfl ?_
                    refine E_st3 (pc' := 124) g120_123 rfl ?_
                    refine E_in4 (pc' := 127) g120_124 rfl (m_in_iff.mpr (by omega)) ?_
                    refine E_goto (pc' := 17) g120_127 rfl ?_
                    have hall2 : ∀ j : Nat, j < i + 1 → mtP bl ed wd ht s b j := by
                      intro j hj
                      rcases Nat.lt_or_ge j i with q | q
                      · exact hall j q
                      · rw [show j = i by omega]; unfold mtP; omega
                    first | exact Ev_cast (hh (hall2) _) (by rw [al_c2 (by assumption) (decide_eq_true (by omega))]; first | done | rfl) rfl | exact Ev_cast (hh (hall2) _) (by rw [al_c1 (by assumption)]; first | done | rfl) rfl | exact Ev_cast (hh (hall2) _) (by rw [al_c3 (p := rmP ed wd ht rm s b) (decide_eq_false (by omega))]; first | done | rfl) rfl
          · refine E_aload_n (pc' := 52) g120_51 rfl rfl ?_
            refine E_aload_n (pc' := 53) g120_52 rfl rfl ?_
            refine E_getR (pc' := 56) g120_53 f120_41 tg7_17 rfl (by assumption) rfl ?_
            refine E_iload (pc' := 58) g120_56 rfl rfl ?_
            refine E_iald (pc' := 59) (v := ix bl (bsd wd ht s i)) g120_58 rfl (by assumption) (by omega) (by omega) (q1 _ (by omega) (by omega)) ?_
            refine E_iload (pc' := 61) g120_59 rfl rfl ?_
            refine E_iconst (pc' := 62) g120_61 (by decide) rfl ?_
            refine E_iadd (pc' := 63) g120_62 (m_in_iff.mpr (by omega)) rfl ?_
            refine E_iconst (pc' := 64) g120_63 (by decide) rfl ?_
            refine E_irem (pc' := 65) g120_64 (by omega) rfl ?_
            have tm2 := tm4 (x := (i : Int) + 2) (by omega)
            refine E_cV2i (pc' := 68) g120_65 k120_119 na113 rfl ow113 rfl (Nat.le_of_ble_eq_true rfl) (by assumption) (M_edge hM hD0 htd hrT0 (by omega) (by omega)) (by decide) ?_
            refine E_aload_n (pc' := 69) g120_68 rfl rfl ?_
            refine E_iload_n (pc' := 70) g120_69 rfl rfl ?_
            refine E_iload (pc' := 72) g120_70 rfl rfl ?_
            refine E_cV2i (pc' := 75) g120_72 k120_119 na113 rfl ow113 rfl (Nat.le_of_ble_eq_true rfl) (by assumption) (M_edge hM hD0 htd hrT0 (by omega) (by omega)) (by decide) ?_
            refine E_iceq (pc' := 78) (pt := 80) g120_75 rfl rfl (fun c11 => ?_) (fun c11 => ?_)
            · refine E_iload_n (pc' := 81) g120_80 rfl rfl ?_
              refine E_ifeq (pc' := 84) (pt := 122) g120_81 rfl rfl (fun c12 => ?_) (fun c12 => ?_)
              · refine E_iconst (pc' := 123) g120_122 (by decide) rfl ?_
                refine E_st3 (pc' := 124) g120_123 rfl ?_
                refine E_in4 (pc' := 127) g120_124 rfl (m_in_iff.mpr (by omega)) ?_
                refine E_goto (pc' := 17) g120_127 rfl ?_
                have hall2 : ∀ j : Nat, j < i + 1 → mtP bl ed wd ht s b j := by
                  intro j hj
                  rcases Nat.lt_or_ge j i with q | q
                  · exact hall j q
                  · rw [show j = i by omega]; unfold mtP; omega
                first | exact Ev_cast (hh (hall2) _) (by rw [al_c2 (by assumption) (decide_eq_true (by omega))]; first | done | rfl) rfl | exact Ev_cast (hh (hall2) _) (by rw [al_c1 (by assumption)]; first | done | rfl) rfl | exact Ev_cast (hh (hall2) _) (by rw [al_c3 (p := rmP ed wd ht rm s b) (decide_eq_false (by omega))]; first | done | rfl) rfl
              · refine E_iload (pc' := 86) g120_84 rfl rfl ?_
                refine E_bipush (pc' := 88) g120_86 (by decide) rfl ?_
                refine E_icne (pc' := 91) (pt := 118) g120_88 rfl rfl (fun c13 => ?_) (fun c13 => ?_)
                · refine E_iconst (pc' := 119) g120_118 (by decide) rfl ?_
                  refine E_goto (pc' := 123) g120_119 rfl ?_
                  refine E_st3 (pc' := 124) g120_123 rfl ?_
                  refine E_in4 (pc' := 127) g120_124 rfl (m_in_iff.mpr (by omega)) ?_
                  refine E_goto (pc' := 17) g120_127 rfl ?_
                  have hall2 : ∀ j : Nat, j < i + 1 → mtP bl ed wd ht s b j := by
                    intro j hj
                    rcases Nat.lt_or_ge j i with q | q
                    · exact hall j q
                    · rw [show j = i by omega]; unfold mtP; omega
                  first | exact Ev_cast (hh (hall2) _) (by rw [al_c2 (by assumption) (decide_eq_true (by omega))]; first | done | rfl) rfl | exact Ev_cast (hh (hall2) _) (by rw [al_c1 (by assumption)]; first | done | rfl) rfl | exact Ev_cast (hh (hall2) _) (by rw [al_c3 (p := rmP ed wd ht rm s b) (decide_eq_false (by omega))]; first | done | rfl) rfl
                · refine E_aload_n (pc' := 92) g120_91 rfl rfl ?_
                  refine E_getR (pc' := 95) g120_92 f120_7 tg7_1 rfl (by assumption) rfl ?_
                  refine E_iconst (pc' := 96) g120_95 (by decide) rfl ?_
                  refine E_iald (pc' := 97) (v := rm) g120_96 rfl (by assumption) (by decide) (by simp) rfl ?_
                  refine E_bipush (pc' := 99) g120_97 (by decide) rfl ?_
                  refine E_iceq (pc' := 102) (pt := 118) g120_99 rfl rfl (fun c14 => ?_) (fun c14 => ?_)
                  · refine E_iconst (pc' := 119) g120_118 (by decide) rfl ?_
                    refine E_goto (pc' := 123) g120_119 rfl ?_
                    refine E_st3 (pc' := 124) g120_123 rfl ?_
                    refine E_in4 (pc' := 127) g120_124 rfl (m_in_iff.mpr (by omega)) ?_
                    refine E_goto (pc' := 17) g120_127 rfl ?_
                    have hall2 : ∀ j : Nat, j < i + 1 → mtP bl ed wd ht s b j := by
                      intro j hj
                      rcases Nat.lt_or_ge j i with q | q
                      · exact hall j q
                      · rw [show j = i by omega]; unfold mtP; omega
                    first | exact Ev_cast (hh (hall2) _) (by rw [al_c2 (by assumption) (decide_eq_true (by omega))]; first | done | rfl) rfl | exact Ev_cast (hh (hall2) _) (by rw [al_c1 (by assumption)]; first | done | rfl) rfl | exact Ev_cast (hh (hall2) _) (by rw [al_c3 (p := rmP ed wd ht rm s b) (decide_eq_false (by omega))]; first | done | rfl) rfl
                  · refine E_aload_n (pc' := 103) g120_102 rfl rfl ?_
                    refine E_iload_n (pc' := 104) g120_103 rfl rfl ?_
                    refine E_iload (pc' := 106) g120_104 rfl rfl ?_
                    refine E_cV2i (pc' := 109) g120_106 k120_119 na113 rfl ow113 rfl (Nat.le_of_ble_eq_true rfl) (by assumption) (M_edge hM hD0 htd hrT0 (by omega) (by omega)) (by decide) ?_
                    refine E_aload_n (pc' := 110) g120_109 rfl rfl ?_
                    refine E_getR (pc' := 113) g120_110 f120_7 tg7_1 rfl (by assumption) rfl ?_
                    refine E_iconst (pc' := 114) g120_113 (by decide) rfl ?_
                    refine E_iald (pc' := 115) (v := rm) g120_114 rfl (by assumption) (by decide) (by simp) rfl ?_
                    refine E_icne (pc' := 118) (pt := 122) g120_115 rfl rfl (fun c15 => ?_) (fun c15 => ?_)
                    · refine E_iconst (pc' := 123) g120_122 (by decide) rfl ?_
                      refine E_st3 (pc' := 124) g120_123 rfl ?_
                      refine E_in4 (pc' := 127) g120_124 rfl (m_in_iff.mpr (by omega)) ?_
                      refine E_goto (pc' := 17) g120_127 rfl ?_
                      have hall2 : ∀ j : Nat, j < i + 1 → mtP bl ed wd ht s b j := by
                        intro j hj
                        rcases Nat.lt_or_ge j i with q | q
                        · exact hall j q
                        · rw [show j = i by omega]; unfold mtP; omega
                      first | exact Ev_cast (hh (hall2) _) (by rw [al_c2 (by assumption) (decide_eq_true (by omega))]; first | done | rfl) rfl | exact Ev_cast (hh (hall2) _) (by rw [al_c1 (by assumption)]; first | done | rfl) rfl | exact Ev_cast (hh (hall2) _) (by rw [al_c3 (p := rmP ed wd ht rm s b) (decide_eq_false (by omega))]; first | done | rfl) rfl
                    · refine E_iconst (pc' := 119) g120_118 (by decide) rfl ?_
                      refine E_goto (pc' := 123) g120_119 rfl ?_
                      refine E_st3 (pc' := 124) g120_123 rfl ?_
                      refine E_in4 (pc' := 127) g120_124 rfl (m_in_iff.mpr (by omega)) ?_
                      refine E_goto (pc' := 17) g120_127 rfl ?_
                      have hall2 : ∀ j : Nat, j < i + 1 → mtP bl ed wd ht s b j := by
                        intro j hj
                        rcases Nat.lt_or_ge j i with q | q
                        · exact hall j q
                        · rw [show j = i by omega]; unfold mtP; omega
                      first | exact Ev_cast (hh (hall2) _) (by rw [al_c2 (by assumption) (decide_eq_true (by omega))]; first | done | rfl) rfl | exact Ev_cast (hh (hall2) _) (by rw [al_c1 (by assumption)]; first | done | rfl) rfl | exact Ev_cast (hh (hall2) _) (by rw [al_c3 (p := rmP ed wd ht rm s b) (decide_eq_false (by omega))]; first | done | rfl) rfl
            · refine E_iconst (pc' := 79) g120_78 (by decide) rfl ?_
              exact E_iret g120_79 ro120 (by rw [(hA.1 (fun q => absurd (q i hi) (by unfold mtP; omega)))]) rfl
    · intro hall u
      have hB := hA.2 (fun j hj => hall j hj)
      refine E_iload (pc' := 19) g120_17 rfl rfl ?_
      refine E_iconst (pc' := 20) g120_19 (by decide) rfl ?_
      refine E_icge (pc' := 23) (pt := 130) g120_20 rfl rfl (fun c0 => ?_) (fun c0 => ?_)
      · refine E_iload_n (pc' := 131) g120_130 rfl rfl ?_
        refine E_ifne (pc' := 134) (pt := 138) g120_131 rfl rfl (fun c1 => ?_) (fun c1 => ?_)
        · have hC := hB.2 (hkr.mp (b01_one (by assumption)))
          refine E_aload_n (pc' := 139) g120_138 rfl rfl ?_
          refine E_aload_n (pc' := 140) g120_139 rfl rfl ?_
          refine E_iload_n (pc' := 141) g120_140 rfl rfl ?_
          refine E_iconst (pc' := 142) g120_141 (by decide) rfl ?_
          refine E_idiv (pc' := 143) g120_142 (by omega) rfl ?_
          refine E_cV1i (pc' := 146) g120_143 k120_123 na115 rfl ow115 rfl (Nat.le_of_ble_eq_true rfl) (by assumption) (M_hueOf hM hD0 htd hrT0 p1) (by decide) ?_
          refine E_cV1i (pc' := 149) g120_146 k120_133 na118 rfl ow118 rfl (Nat.le_of_ble_eq_true rfl) (by assumption) (M_ofHue hM hD0 htd hrT0 htt hrS0) (by decide) ?_
          refine E_aload_n (pc' := 150) g120_149 rfl rfl ?_
          refine E_getR (pc' := 153) g120_150 f120_7 tg7_1 rfl (by assumption) rfl ?_
          refine E_iconst (pc' := 154) g120_153 (by decide) rfl ?_
          refine E_iald (pc' := 155) (v := mo) g120_154 rfl (by assumption) (by decide) (by simp) rfl ?_
          refine E_iclt (pc' := 158) (pt := 162) g120_155 rfl rfl (fun c2 => ?_) (fun c2 => ?_)
          · refine E_iconst (pc' := 163) g120_162 (by decide) rfl ?_
            exact E_iret g120_163 ro120 (by first | rw [hC.1 (by assumption)] | rw [hC.2 (by assumption)] | rw [hC]) rfl
          · refine E_iconst (pc' := 159) g120_158 (by decide) rfl ?_
            refine E_goto (pc' := 163) g120_159 rfl ?_
            exact E_iret g120_163 ro120 (by first | rw [hC.1 (by assumption)] | rw [hC.2 (by assumption)] | rw [hC]) rfl
        · have hC := hB.1 (fun z => by rw [hkr.mpr z] at c1; simp [b01] at c1)
          refine E_iconst (pc' := 135) g120_134 (by decide) rfl ?_
          refine E_goto (pc' := 163) g120_135 rfl ?_
          exact E_iret g120_163 ro120 (by first | rw [hC.1 (by assumption)] | rw [hC.2 (by assumption)] | rw [hC]) rfl
      · exact absurd c0 (by omega)
  · have hA := hr.1 c0
    refine E_iconst (pc' := 11) g120_10 (by decide) rfl ?_
    exact E_iret g120_11 ro120 (by rw [hA]) rfl
end MP
