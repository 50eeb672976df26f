/-! texts, purely -/
def skF (tx : List Int) (n : Nat) : Nat → Nat → Nat
  | 0, p => p
  | k + 1, p => if p < n ∧ ix tx p = 32 then skF tx n k (p + 1) else p
/-- the place behind blanks -/
def skq (tx : List Int) (n p : Nat) : Nat := skF tx n (n - p) p
def isD (c : Int) : Prop := 48 ≤ c ∧ c ≤ 57
def dgF (tx : List Int) (n : Nat) : Nat → Nat → Nat
  | 0, p => p
  | k + 1, p => if p < n ∧ 48 ≤ ix tx p ∧ ix tx p ≤ 57 then dgF tx n k (p + 1) else p
/-- the place behind figures -/
def dgq (tx : List Int) (n p : Nat) : Nat := dgF tx n (n - p) p
def cvF (tx : List Int) (n : Nat) : Nat → Nat → Int → Int
  | 0, _, v => v
  | k + 1, p, v => if p < n ∧ 48 ≤ ix tx p ∧ ix tx p ≤ 57 then cvF tx n k (p + 1) (min (v * 10 + ix tx p - 48) 100) else v
def cvq (tx : List Int) (n p : Nat) (v : Int) : Int := cvF tx n (n - p) p v
def mvF (tx : List Int) (n : Nat) : Nat → Nat → Int → Int
  | 0, _, v => v
  | k + 1, p, v => if p < n ∧ 48 ≤ ix tx p ∧ ix tx p ≤ 57 then mvF tx n k (p + 1) (if 99 < v then v else 10 * v + ix tx p - 48) else v
def mvq (tx : List Int) (n p : Nat) (v : Int) : Int := mvF tx n (n - p) p v
section TXT
variable {tx : List Int} {n p : Nat} {v w : Int}
theorem skq_t (h : p < n) (h2 : ix tx p = 32) : skq tx n p = skq tx n (p + 1) := by
  unfold skq
  rw [show n - p = (n - (p + 1)) + 1 by omega]
  simp only [skF]
  rw [if_pos ⟨h, h2⟩]
theorem skq_f (h : ¬ (p < n ∧ ix tx p = 32)) : skq tx n p = p := by
  unfold skq
  cases n - p with
  | zero => rfl
  | succ k => simp only [skF]; rw [if_neg h]
theorem skF_bd : ∀ {k p : Nat}, p + k ≤ n → p ≤ skF tx n k p ∧ skF tx n k p ≤ n
  | 0, p, h => by simp only [skF]; omega
  | k + 1, p, h => by
    simp only [skF]
    split
    · have := skF_bd (k := k) (p := p + 1) (by omega)
      omega
    · omega
theorem skq_bd (h : p ≤ n) : p ≤ skq tx n p ∧ skq tx n p ≤ n := skF_bd (by omega)
theorem skF_end : ∀ {k p : Nat}, n ≤ p + k → ¬ (skF tx n k p < n ∧ ix tx (skF tx n k p) = 32)
  | 0, p, h => by simp only [skF]; omega
  | k + 1, p, h => by
    simp only [skF]
    split
    · exact skF_end (k := k) (p := p + 1) (by omega)
    · rename_i h1; exact h1
theorem skq_end : ¬ (skq tx n p < n ∧ ix tx (skq tx n p) = 32) := skF_end (by omega)
theorem skq_id : skq tx n (skq tx n p) = skq tx n p := skq_f skq_end
theorem dgq_t (h : p < n) (h2 : 48 ≤ ix tx p ∧ ix tx p ≤ 57) : dgq tx n p = dgq tx n (p + 1) := by
  unfold dgq
  rw [show n - p = (n - (p + 1)) + 1 by omega]
  simp only [dgF]
  rw [if_pos ⟨h, h2⟩]
theorem dgq_f (h : ¬ (p < n ∧ 48 ≤ ix tx p ∧ ix tx p ≤ 57)) : dgq tx n p = p := by
  unfold dgq
  cases n - p with
  | zero => rfl
  | succ k => simp only [dgF]; rw [if_neg h]
theorem dgF_bd : ∀ {k p : Nat}, p + k ≤ n → p ≤ dgF tx n k p ∧ dgF tx n k p ≤ n
  | 0, p, h => by simp only [dgF]; omega
  | k + 1, p, h => by
    simp only [dgF]
    split
    · have := dgF_bd (k := k) (p := p + 1) (by omega)
      omega
    · omega
theorem dgq_bd (h : p ≤ n) : p ≤ dgq tx n p ∧ dgq tx n p ≤ n := dgF_bd (by omega)
theorem cvq_t (h : p < n) (h2 : 48 ≤ ix tx p ∧ ix tx p ≤ 57) : cvq tx n p v = cvq tx n (p + 1) (min (v * 10 + ix tx p - 48) 100) := by
  unfold cvq
  rw [show n - p = (n - (p + 1)) + 1 by omega]
  simp only [cvF]
  rw [if_pos ⟨h, h2⟩]
theorem cvq_f (h : ¬ (p < n ∧ 48 ≤ ix tx p ∧ ix tx p ≤ 57)) : cvq tx n p v = v := by
  unfold cvq
  cases n - p with
  | zero => rfl
  | succ k => simp only [cvF]; rw [if_neg h]
theorem mvq_t (h : p < n) (h2 : 48 ≤ ix tx p ∧ ix tx p ≤ 57) : mvq tx n p v = mvq tx n (p + 1) (if 99 < v then v else 10 * v + ix tx p - 48) := by
  unfold mvq
  rw [show n - p = (n - (p + 1)) + 1 by omega]
  simp only [mvF]
  rw [if_pos ⟨h, h2⟩]
theorem mvq_f (h : ¬ (p < n ∧ 48 ≤ ix tx p ∧ ix tx p ≤ 57)) : mvq tx n p v = v := by
  unfold mvq
  cases n - p with
  | zero => rfl
  | succ k => simp only [mvF]; rw [if_neg h]
theorem cmF : ∀ {k p : Nat} {v w : Int}, ((v = w ∧ 0 ≤ w ∧ w ≤ 99) ∨ (v = 100 ∧ 99 < w ∧ w ≤ 999)) → ((cvF tx n k p v = mvF tx n k p w ∧ 0 ≤ mvF tx n k p w ∧ mvF tx n k p w ≤ 99) ∨ (cvF tx n k p v = 100 ∧ 99 < mvF tx n k p w ∧ mvF tx n k p w ≤ 999))
  | 0, p, v, w, h => h
  | k + 1, p, v, w, h => by
    simp only [cvF, mvF]
    by_cases hd : p < n ∧ 48 ≤ ix tx p ∧ ix tx p ≤ 57
    · rw [if_pos hd, if_pos hd]
      apply cmF
      by_cases e : 99 < w
      · rw [if_pos e]; omega
      · rw [if_neg e]; omega
    · rw [if_neg hd, if_neg hd]; exact h
theorem cmq : (cvq tx n p 0 = mvq tx n p 0 ∧ 0 ≤ mvq tx n p 0 ∧ mvq tx n p 0 ≤ 99) ∨ (cvq tx n p 0 = 100 ∧ 99 < mvq tx n p 0 ∧ mvq tx n p 0 ≤ 999) := cmF (Or.inl ⟨rfl, by omega, by omega⟩)
end TXT
/-- the token behind a place: which, where the next one begins, the number -/
def isSg (c : Int) : Prop := c = 107 ∨ c = 119 ∨ c = 101 ∨ c = 109 ∨ c = 115 ∨ c = 59
noncomputable def numT (tx : List Int) (n q : Nat) : Int := if 99 < cvq tx n q 0 ∨ (q + 1 < dgq tx n q ∧ ix tx q = 48) then -3 else -2
noncomputable def tkT (tx : List Int) (n p : Nat) : Int := if n ≤ skq tx n p then -1 else if 48 ≤ ix tx (skq tx n p) ∧ ix tx (skq tx n p) ≤ 57 then numT tx n (skq tx n p) else @ite Int (isSg (ix tx (skq tx n p))) (Classical.propDecidable _) (ix tx (skq tx n p)) (-3)
def tkP (tx : List Int) (n p : Nat) : Nat := if n ≤ skq tx n p then skq tx n p else if 48 ≤ ix tx (skq tx n p) ∧ ix tx (skq tx n p) ≤ 57 then dgq tx n (skq tx n p) else skq tx n p + 1
def tkN (tx : List Int) (n p : Nat) (nu : Int) : Int := if n ≤ skq tx n p then nu else if 48 ≤ ix tx (skq tx n p) ∧ ix tx (skq tx n p) ≤ 57 then cvq tx n (skq tx n p) 0 else nu
/-- a number that may stand here -/
def nOk (tx : List Int) (n : Nat) (lo hi : Int) (p : Nat) : Prop := tkT tx n p = -2 ∧ lo ≤ cvq tx n (skq tx n p) 0 ∧ cvq tx n (skq tx n p) 0 ≤ hi
def nV (tx : List Int) (n p : Nat) : Int := cvq tx n (skq tx n p) 0
def rdL (p tp tk nu f1 f2 f3 f4 : Int) : List Int := [p, tp, tk, nu, f1, f2, f3, f4]
section TOK
variable {H : mH} {tx T2 : List Int} {n p q : Nat} {tp tk nu f1 f2 f3 f4 : Int}
theorem tkT_num (h : tkT tx n p = -2) : skq tx n p < n ∧ (48 ≤ ix tx (skq tx n p) ∧ ix tx (skq tx n p) ≤ 57) ∧ numT tx n (skq tx n p) = -2 := by
  unfold tkT at h
  by_cases h1 : n ≤ skq tx n p
  · rw [if_pos h1] at h; omega
  · rw [if_neg h1] at h
    by_cases h2 : 48 ≤ ix tx (skq tx n p) ∧ ix tx (skq tx n p) ≤ 57
    · rw [if_pos h2] at h; exact ⟨by omega, h2, h⟩
    · rw [if_neg h2] at h
      by_cases h3 : isSg (ix tx (skq tx n p))
      · rw [if_pos h3] at h; unfold isSg at h3; omega
      · rw [if_neg h3] at h; omega
theorem numT_2 : numT tx n q = -2 ↔ (cvq tx n q 0 ≤ 99 ∧ ¬ (q + 1 < dgq tx n q ∧ ix tx q = 48)) := by
  unfold numT
  split
  · rename_i h; constructor
    · intro z; omega
    · intro z; exfalso; rcases h with h | h
      · omega
      · exact z.2 h
  · rename_i h; exact ⟨fun _ => ⟨by omega, fun z => h (Or.inr z)⟩, fun _ => rfl⟩
theorem nOk_facts {lo hi : Int} (h : nOk tx n lo hi p) : tkP tx n p = dgq tx n (skq tx n p) ∧ (∀ nu, tkN tx n p nu = nV tx n p) ∧ lo ≤ nV tx n p ∧ nV tx n p ≤ hi := by
  obtain ⟨h1, h2, h3⟩ := h
  obtain ⟨a1, a2, a3⟩ := tkT_num h1
  refine ⟨?_, fun nu => ?_, h2, h3⟩
  · unfold tkP; rw [if_neg (by omega), if_pos a2]
  · unfold tkN nV; rw [if_neg (by omega), if_pos a2]
theorem tkP_bd (h : p ≤ n) : p ≤ tkP tx n p ∧ tkP tx n p ≤ n := by
  have h1 := skq_bd (tx := tx) h
  unfold tkP
  split
  · omega
  · split
    · have := dgq_bd (tx := tx) (n := n) (p := skq tx n p) (by omega)
      omega
    · omega
theorem C_isFig {c : Int} : Call 0 32 [mI c] H (mI (if 48 ≤ c ∧ c ≤ 57 then 1 else 0)) H := by
  refine Call_of rfl ?_
  refine E_iload_n (pc' := 1) g32_0 rfl rfl ?_
  refine E_bipush (pc' := 3) g32_1 (by decide) rfl ?_
  refine E_iclt (pc' := 6) (pt := 16) g32_3 rfl rfl (fun c0 => ?_) (fun c0 => ?_)
  · refine E_iconst (pc' := 17) g32_16 (by decide) rfl ?_
    exact E_iret g32_17 (ro32 (by omega)) (by first | rw [if_pos (by omega)] | rw [if_neg (by omega)]) rfl
  · refine E_iload_n (pc' := 7) g32_6 rfl rfl ?_
    refine E_bipush (pc' := 9) g32_7 (by decide) rfl ?_
    refine E_icgt (pc' := 12) (pt := 16) g32_9 rfl rfl (fun c1 => ?_) (fun c1 => ?_)
    · refine E_iconst (pc' := 17) g32_16 (by decide) rfl ?_
      exact E_iret g32_17 (ro32 (by omega)) (by first | rw [if_pos (by omega)] | rw [if_neg (by omega)]) rfl
    · refine E_iconst (pc' := 13) g32_12 (by decide) rfl ?_
      refine E_goto (pc' := 17) g32_13 rfl ?_
      exact E_iret g32_17 (ro32 (by omega)) (by first | rw [if_pos (by omega)] | rw [if_neg (by omega)]) rfl
theorem C_isSign {c r : Int} (hr : (isSg c → r = 1) ∧ (¬ isSg c → r = 0)) : Call 0 33 [mI c] H (mI r) H := by
  refine Call_of rfl ?_
  refine E_iload_n (pc' := 1) g33_0 rfl rfl ?_
  refine E_bipush (pc' := 3) g33_1 (by decide) rfl ?_
  refine E_iceq (pc' := 6) (pt := 36) g33_3 rfl rfl (fun c0 => ?_) (fun c0 => ?_)
  · refine E_iconst (pc' := 37) g33_36 (by decide) rfl ?_
    refine E_goto (pc' := 41) g33_37 rfl ?_
    exact E_iret g33_41 (ro33 (by omega)) (congrArg mI (by first | exact hr.1 (by unfold isSg; omega) | exact hr.2 (by unfold isSg; omega))) rfl
  · refine E_iload_n (pc' := 7) g33_6 rfl rfl ?_
    refine E_bipush (pc' := 9) g33_7 (by decide) rfl ?_
    refine E_iceq (pc' := 12) (pt := 36) g33_9 rfl rfl (fun c1 => ?_) (fun c1 => ?_)
    · refine E_iconst (pc' := 37) g33_36 (by decide) rfl ?_
      refine E_goto (pc' := 41) g33_37 rfl ?_
      exact E_iret g33_41 (ro33 (by omega)) (congrArg mI (by first | exact hr.1 (by unfold isSg; omega) | exact hr.2 (by unfold isSg; omega))) rfl
    · refine E_iload_n (pc' := 13) g33_12 rfl rfl ?_
      refine E_bipush (pc' := 15) g33_13 (by decide) rfl ?_
      refine E_iceq (pc' := 18) (pt := 36) g33_15 rfl rfl (fun c2 => ?_) (fun c2 => ?_)
      · refine E_iconst (pc' := 37) g33_36 (by decide) rfl ?_
        refine E_goto (pc' := 41) g33_37 rfl ?_
        exact E_iret g33_41 (ro33 (by omega)) (congrArg mI (by first | exact hr.1 (by unfold isSg; omega) | exact hr.2 (by unfold isSg; omega))) rfl
      · refine E_iload_n (pc' := 19) g33_18 rfl rfl ?_
        refine E_bipush (pc' := 21) g33_19 (by decide) rfl ?_
        refine E_iceq (pc' := 24) (pt := 36) g33_21 rfl rfl (fun c3 => ?_) (fun c3 => ?_)
        · refine E_iconst (pc' := 37) g33_36 (by decide) rfl ?_
          refine E_goto (pc' := 41) g33_37 rfl ?_
          exact E_iret g33_41 (ro33 (by omega)) (congrArg mI (by first | exact hr.1 (by unfold isSg; omega) | exact hr.2 (by unfold isSg; omega))) rfl
        · refine E_iload_n (pc' := 25) g33_24 rfl rfl ?_
          refine E_bipush (pc' := 27) g33_25 (by decide) rfl ?_
          refine E_iceq (pc' := 30) (pt := 36) g33_27 rfl rfl (fun c4 => ?_) (fun c4 => ?_)
          · refine E_iconst (pc' := 37) g33_36 (by decide) rfl ?_
            refine E_goto (pc' := 41) g33_37 rfl ?_
            exact E_iret g33_41 (ro33 (by omega)) (congrArg mI (by first | exact hr.1 (by unfold isSg; omega) | exact hr.2 (by unfold isSg; omega))) rfl
          · refine E_iload_n (pc' := 31) g33_30 rfl rfl ?_
            refine E_bipush (pc' := 33) g33_31 (by decide) rfl ?_
            refine E_icne (pc' := 36) (pt := 40) g33_33 rfl rfl (fun c5 => ?_) (fun c5 => ?_)
            · refine E_iconst (pc' := 41) g33_40 (by decide) rfl ?_
              exact E_iret g33_41 (ro33 (by omega)) (congrArg mI (by first | exact hr.1 (by unfold isSg; omega) | exact hr.2 (by unfold isSg; omega))) rfl
            · refine E_iconst (pc' := 37) g33_36 (by decide) rfl ?_
              refine E_goto (pc' := 41) g33_37 rfl ?_
              exact E_iret g33_41 (ro33 (by omega)) (congrArg mI (by first | exact hr.1 (by unfold isSg; omega) | exact hr.2 (by unfold isSg; omega))) rfl
theorem C_skip (h2 : H[2]? = some (3, T2)) (h1 : H[1]? = some (8, tx)) (hl : tx.length = 120) (hn : n ≤ 120) {r : mV} {H1 : mH} {d : Nat} {u : mV} : ∀ (k p : Nat), n - p = k → p ≤ n → Ev d 30 32 [mR 2, mR 1, mI (n : Int), u] [] (pt H 2 (rdL ((skq tx n p : Nat) : Int) tp tk nu f1 f2 f3 f4)) r H1 → Ev d 30 0 [mR 2, mR 1, mI (n : Int), u] [] (pt H 2 (rdL (p : Int) tp tk nu f1 f2 f3 f4)) r H1 := by
  intro k
  induction k with
  | zero =>
    intro p hk hp h
    rw [skq_f (by omega)] at h
    refine E_aload_n (pc' := 1) g30_0 rfl rfl ?_
    refine E_getI (pc' := 4) g30_1 f30_40 tg3_0 (by decide) rfl (pt_self h2) rfl ?_
    refine E_iload_n (pc' := 5) g30_4 rfl rfl ?_
    refine E_icge (pc' := 8) (pt := 32) g30_5 rfl rfl (fun c0 => ?_) (fun c0 => ?_)
    · first
      | (exfalso; omega)
      | (exact h)
    · first
      | (exfalso; omega)
      | (exfalso; omega)
  | succ k ih =>
    intro p hk hp h
    by_cases e : ix tx p = 32
    · rw [skq_t (by omega) e] at h
      have h' := ih (p + 1) (by omega) (by omega) h
      refine E_aload_n (pc' := 1) g30_0 rfl rfl ?_
      refine E_getI (pc' := 4) g30_1 f30_40 tg3_0 (by decide) rfl (pt_self h2) rfl ?_
      refine E_iload_n (pc' := 5) g30_4 rfl rfl ?_
      refine E_icge (pc' := 8) (pt := 32) g30_5 rfl rfl (fun c0 => ?_) (fun c0 => ?_)
      · first
        | (exfalso; omega)
        | (exfalso; omega)
      · first
        | (exfalso; omega)
        | (refine E_aload_n (pc' := 9) g30_8 rfl rfl ?_
           refine E_aload_n (pc' := 10) g30_9 rfl rfl ?_
           refine E_getI (pc' := 13) g30_10 f30_40 tg3_0 (by decide) rfl (pt_self h2) rfl ?_
           refine E_iald (pc' := 14) (v := 32) g30_13 rfl (pt_nx (by decide) h1) (by omega) (by omega) e ?_
           refine E_bipush (pc' := 16) g30_14 (by decide) rfl ?_
           refine E_icne (pc' := 19) (pt := 32) g30_16 rfl rfl (fun c1 => ?_) (fun c1 => ?_)
           · first
             | (exfalso; omega)
             | (exfalso; omega)
           · first
             | (exfalso; omega)
             | (refine E_aload_n (pc' := 20) g30_19 rfl rfl ?_
                refine E_dup (pc' := 21) g30_20 rfl ?_
                refine E_getI (pc' := 24) g30_21 f30_40 tg3_0 (by decide) rfl (pt_self h2) rfl ?_
                refine E_iconst (pc' := 25) g30_24 (by decide) rfl ?_
                refine E_iadd (pc' := 26) g30_25 (m_in_iff.mpr (by omega)) rfl ?_
                refine E_putf (pc' := 29) g30_26 f30_40 tg3_0 fn3_0 rfl rfl (pt_self h2) (Nat.le_of_ble_eq_true rfl) ?_
                rw [pt_pt]
                refine E_goto (pc' := 0) g30_29 rfl ?_
                exact h'))
    · rw [skq_f (fun z => e z.2)] at h
      refine E_aload_n (pc' := 1) g30_0 rfl rfl ?_
      refine E_getI (pc' := 4) g30_1 f30_40 tg3_0 (by decide) rfl (pt_self h2) rfl ?_
      refine E_iload_n (pc' := 5) g30_4 rfl rfl ?_
      refine E_icge (pc' := 8) (pt := 32) g30_5 rfl rfl (fun c0 => ?_) (fun c0 => ?_)
      · first
        | (exfalso; omega)
        | (exact h)
      · first
        | (exfalso; omega)
        | (refine E_aload_n (pc' := 9) g30_8 rfl rfl ?_
           refine E_aload_n (pc' := 10) g30_9 rfl rfl ?_
           refine E_getI (pc' := 13) g30_10 f30_40 tg3_0 (by decide) rfl (pt_self h2) rfl ?_
           refine E_iaload (pc' := 14) g30_13 rfl (pt_nx (by decide) h1) (by omega) (by omega) ?_
           refine E_bipush (pc' := 16) g30_14 (by decide) rfl ?_
           refine E_icne (pc' := 19) (pt := 32) g30_16 rfl rfl (fun c1 => ?_) (fun c1 => ?_)
           · first
             | (exfalso; omega)
             | (exact h)
           · first
             | (exfalso; omega)
             | (exfalso; omega))
theorem C_digits (h2 : H[2]? = some (3, T2)) (h1 : H[1]? = some (8, tx)) (hl : tx.length = 120) (hn : n ≤ 120) {r : mV} {H1 : mH} {u : mV} : ∀ (k p : Nat) (v : Int), n - p = k → p ≤ n → 0 ≤ v → v ≤ 100 → Ev 1 31 64 [mR 2, mR 1, mI (n : Int), u] [] (pt H 2 (rdL ((dgq tx n p : Nat) : Int) tp tk (cvq tx n p v) f1 f2 f3 f4)) r H1 → Ev 1 31 5 [mR 2, mR 1, mI (n : Int), u] [] (pt H 2 (rdL (p : Int) tp tk v f1 f2 f3 f4)) r H1 := by
  intro k
  induction k with
  | zero =>
    intro p v hk hp v0 v1 h
    rw [dgq_f (by omega), cvq_f (by omega)] at h
    refine E_aload_n (pc' := 6) g31_5 rfl rfl ?_
    refine E_getI (pc' := 9) g31_6 f31_40 tg3_0 (by decide) rfl (pt_self h2) rfl ?_
    refine E_iload_n (pc' := 10) g31_9 rfl rfl ?_
    refine E_icge (pc' := 13) (pt := 64) g31_10 rfl rfl (fun c0 => ?_) (fun c0 => ?_)
    · first
      | (exfalso; omega)
      | (exact h)
    · first
      | (exfalso; omega)
      | (exfalso; omega)
  | succ k ih =>
    intro p v hk hp v0 v1 h
    by_cases e : 48 ≤ ix tx p ∧ ix tx p ≤ 57
    · rw [dgq_t (by omega) e, cvq_t (by omega) e] at h
      have h' := ih (p + 1) (min (v * 10 + ix tx p - 48) 100) (by omega) (by omega) (by omega) (by omega) h
      have hf : Call 0 32 [mI (ix tx p)] (pt H 2 (rdL (p : Int) tp tk v f1 f2 f3 f4)) (mI 1) (pt H 2 (rdL (p : Int) tp tk v f1 f2 f3 f4)) := by
        have := C_isFig (H := (pt H 2 (rdL (p : Int) tp tk v f1 f2 f3 f4))) (c := ix tx p)
        rw [if_pos e] at this
        exact this
      refine E_aload_n (pc' := 6) g31_5 rfl rfl ?_
      refine E_getI (pc' := 9) g31_6 f31_40 tg3_0 (by decide) rfl (pt_self h2) rfl ?_
      refine E_iload_n (pc' := 10) g31_9 rfl rfl ?_
      refine E_icge (pc' := 13) (pt := 64) g31_10 rfl rfl (fun c0 => ?_) (fun c0 => ?_)
      · first
        | (exfalso; omega)
        | (exfalso; omega)
      · first
        | (exfalso; omega)
        | (refine E_aload_n (pc' := 14) g31_13 rfl rfl ?_
           refine E_aload_n (pc' := 15) g31_14 rfl rfl ?_
           refine E_getI (pc' := 18) g31_15 f31_40 tg3_0 (by decide) rfl (pt_self h2) rfl ?_
           refine E_iaload (pc' := 19) g31_18 rfl (pt_nx (by decide) h1) (by omega) (by omega) ?_
           refine E_cS1i (pc' := 22) g31_19 k31_115 na32 rfl rfl (Nat.le_of_ble_eq_true rfl) hf (by decide) ?_
           refine E_ifeq (pc' := 25) (pt := 64) g31_22 rfl rfl (fun c1 => ?_) (fun c1 => ?_)
           · first
             | (exfalso; omega)
             | (exfalso; omega)
           · first
             | (exfalso; omega)
             | (refine E_aload_n (pc' := 26) g31_25 rfl rfl ?_
                refine E_aload_n (pc' := 27) g31_26 rfl rfl ?_
                refine E_getI (pc' := 30) g31_27 f31_67 tg3_3 (by decide) rfl (pt_self h2) rfl ?_
                refine E_bipush (pc' := 32) g31_30 (by decide) rfl ?_
                refine E_imul (pc' := 33) g31_32 (m_in_iff.mpr (by omega)) rfl ?_
                refine E_aload_n (pc' := 34) g31_33 rfl rfl ?_
                refine E_aload_n (pc' := 35) g31_34 rfl rfl ?_
                refine E_getI (pc' := 38) g31_35 f31_40 tg3_0 (by decide) rfl (pt_self h2) rfl ?_
                refine E_iaload (pc' := 39) g31_38 rfl (pt_nx (by decide) h1) (by omega) (by omega) ?_
                refine E_iadd (pc' := 40) g31_39 (m_in_iff.mpr (by omega)) rfl ?_
                refine E_bipush (pc' := 42) g31_40 (by decide) rfl ?_
                refine E_isub (pc' := 43) g31_42 (m_in_iff.mpr (by omega)) rfl ?_
                refine E_bipush (pc' := 45) g31_43 (by decide) rfl ?_
                refine E_min (pc' := 48) g31_45 k31_15 rfl (Nat.le_of_ble_eq_true rfl) ?_
                refine E_putf (pc' := 51) g31_48 f31_67 tg3_3 fn3_3 rfl rfl (pt_self h2) (Nat.le_of_ble_eq_true rfl) ?_
                rw [pt_pt]
                refine Ev_cast (H := (pt H 2 (rdL (p : Int) tp tk (min (v * 10 + ix tx p - 48) 100) f1 f2 f3 f4))) ?_ rfl rfl
                refine E_aload_n (pc' := 52) g31_51 rfl rfl ?_
                refine E_dup (pc' := 53) g31_52 rfl ?_
                refine E_getI (pc' := 56) g31_53 f31_40 tg3_0 (by decide) rfl (pt_self h2) rfl ?_
                refine E_iconst (pc' := 57) g31_56 (by decide) rfl ?_
                refine E_iadd (pc' := 58) g31_57 (m_in_iff.mpr (by omega)) rfl ?_
                refine E_putf (pc' := 61) g31_58 f31_40 tg3_0 fn3_0 rfl rfl (pt_self h2) (Nat.le_of_ble_eq_true rfl) ?_
                rw [pt_pt]
                refine E_goto (pc' := 5) g31_61 rfl ?_
                exact h'))
    · rw [dgq_f (fun z => e z.2), cvq_f (fun z => e z.2)] at h
      have hf : Call 0 32 [mI (ix tx p)] (pt H 2 (rdL (p : Int) tp tk v f1 f2 f3 f4)) (mI 0) (pt H 2 (rdL (p : Int) tp tk v f1 f2 f3 f4)) := by
        have := C_isFig (H := (pt H 2 (rdL (p : Int) tp tk v f1 f2 f3 f4))) (c := ix tx p)
        rw [if_neg e] at this
        exact this
      refine E_aload_n (pc' := 6) g31_5 rfl rfl ?_
      refine E_getI (pc' := 9) g31_6 f31_40 tg3_0 (by decide) rfl (pt_self h2) rfl ?_
      refine E_iload_n (pc' := 10) g31_9 rfl rfl ?_
      refine E_icge (pc' := 13) (pt := 64) g31_10 rfl rfl (fun c0 => ?_) (fun c0 => ?_)
      · first
        | (exfalso; omega)
        | (exact h)
      · first
        | (exfalso; omega)
        | (refine E_aload_n (pc' := 14) g31_13 rfl rfl ?_
           refine E_aload_n (pc' := 15) g31_14 rfl rfl ?_
           refine E_getI (pc' := 18) g31_15 f31_40 tg3_0 (by decide) rfl (pt_self h2) rfl ?_
           refine E_iaload (pc' := 19) g31_18 rfl (pt_nx (by decide) h1) (by omega) (by omega) ?_
           refine E_cS1i (pc' := 22) g31_19 k31_115 na32 rfl rfl (Nat.le_of_ble_eq_true rfl) hf (by decide) ?_
           refine E_ifeq (pc' := 25) (pt := 64) g31_22 rfl rfl (fun c1 => ?_) (fun c1 => ?_)
           · first
             | (exfalso; omega)
             | (exact h)
           · first
             | (exfalso; omega)
             | (exfalso; omega))
theorem C_readNumber (h2 : H[2]? = some (3, T2)) (h1 : H[1]? = some (8, tx)) (hl : tx.length = 120) (hn : n ≤ 120) (hq : q < n) : Call 1 31 [mR 2, mR 1, mI (n : Int)] (pt H 2 (rdL (q : Int) (q : Int) tk nu f1 f2 f3 f4)) none (pt H 2 (rdL ((dgq tx n q : Nat) : Int) (q : Int) (numT tx n q) (cvq tx n q 0) f1 f2 f3 f4)) := by
  have hd := dgq_bd (tx := tx) (n := n) (p := q) (by omega)
  have hcm := cmq (tx := tx) (n := n) (p := q)
  have hT : ∀ T : Int, (T = -3 → (99 < cvq tx n q 0 ∨ (q + 1 < dgq tx n q ∧ ix tx q = 48))) → (T = -2 → ¬ (99 < cvq tx n q 0 ∨ (q + 1 < dgq tx n q ∧ ix tx q = 48))) → (T = -3 ∨ T = -2) → pt H 2 (rdL ((dgq tx n q : Nat) : Int) (q : Int) (numT tx n q) (cvq tx n q 0) f1 f2 f3 f4) = pt H 2 (rdL ((dgq tx n q : Nat) : Int) (q : Int) T (cvq tx n q 0) f1 f2 f3 f4) := by
    intro T a1 a2 a3
    have : numT tx n q = T := by
      unfold numT
      rcases a3 with rfl | rfl
      · rw [if_pos (a1 rfl)]
      · rw [if_neg (a2 rfl)]
    rw [this]
  refine Call_of rfl ?_
  refine E_aload_n (pc' := 1) g31_0 rfl rfl ?_
  refine E_iconst (pc' := 2) g31_1 (by decide) rfl ?_
  refine E_putf (pc' := 5) g31_2 f31_67 tg3_3 fn3_3 rfl rfl (pt_self h2) (Nat.le_of_ble_eq_true rfl) ?_
  rw [pt_pt]
  refine Ev_cast (H := (pt H 2 (rdL (q : Int) (q : Int) tk 0 f1 f2 f3 f4))) ?_ rfl rfl
  refine C_digits h2 h1 hl hn (n - q) q 0 rfl (by omega) (by omega) (by omega) ?_
  refine E_aload_n (pc' := 65) g31_64 rfl rfl ?_
  refine E_getI (pc' := 68) g31_65 f31_40 tg3_0 (by decide) rfl (pt_self h2) rfl ?_
  refine E_aload_n (pc' := 69) g31_68 rfl rfl ?_
  refine E_getI (pc' := 72) g31_69 f31_33 tg3_1 (by decide) rfl (pt_self h2) rfl ?_
  refine E_isub (pc' := 73) g31_72 (m_in_iff.mpr (by omega)) rfl ?_
  refine E_iconst (pc' := 74) g31_73 (by decide) rfl ?_
  refine E_icle (pc' := 77) (pt := 92) g31_74 rfl rfl (fun c0 => ?_) (fun c0 => ?_)
  · first
    | (exfalso; omega)
    | (refine E_iconst (pc' := 93) g31_92 (by decide) rfl ?_
       refine E_st3 (pc' := 94) g31_93 rfl ?_
       refine E_aload_n (pc' := 95) g31_94 rfl rfl ?_
       refine E_aload_n (pc' := 96) g31_95 rfl rfl ?_
       refine E_getI (pc' := 99) g31_96 f31_67 tg3_3 (by decide) rfl (pt_self h2) rfl ?_
       refine E_bipush (pc' := 101) g31_99 (by decide) rfl ?_
       refine E_icgt (pc' := 104) (pt := 108) g31_101 rfl rfl (fun c1 => ?_) (fun c1 => ?_)
       · first
         | (exfalso; omega)
         | (refine E_bipush (pc' := 110) g31_108 (by decide) rfl ?_
            refine E_goto (pc' := 115) g31_110 rfl ?_
            refine E_putf (pc' := 118) g31_115 f31_25 tg3_2 fn3_2 rfl rfl (pt_self h2) (Nat.le_of_ble_eq_true rfl) ?_
            exact E_ret g31_118 rt31 rfl (by rw [pt_pt]; exact hT _ (by omega) (by omega) (by omega)))
       · first
         | (exfalso; omega)
         | (refine E_iload_n (pc' := 105) g31_104 rfl rfl ?_
            refine E_ifeq (pc' := 108) (pt := 113) g31_105 rfl rfl (fun c2 => ?_) (fun c2 => ?_)
            · first
              | (exfalso; omega)
              | (refine E_bipush (pc' := 115) g31_113 (by decide) rfl ?_
                 refine E_putf (pc' := 118) g31_115 f31_25 tg3_2 fn3_2 rfl rfl (pt_self h2) (Nat.le_of_ble_eq_true rfl) ?_
                 exact E_ret g31_118 rt31 rfl (by rw [pt_pt]; exact hT _ (by omega) (by omega) (by omega)))
            · first
              | (exfalso; omega)
              | (refine E_bipush (pc' := 110) g31_108 (by decide) rfl ?_
                 refine E_goto (pc' := 115) g31_110 rfl ?_
                 refine E_putf (pc' := 118) g31_115 f31_25 tg3_2 fn3_2 rfl rfl (pt_self h2) (Nat.le_of_ble_eq_true rfl) ?_
                 exact E_ret g31_118 rt31 rfl (by rw [pt_pt]; exact hT _ (by omega) (by omega) (by omega)))))
  · first
    | (exfalso; omega)
    | (refine E_aload_n (pc' := 78) g31_77 rfl rfl ?_
       refine E_aload_n (pc' := 79) g31_78 rfl rfl ?_
       refine E_getI (pc' := 82) g31_79 f31_33 tg3_1 (by decide) rfl (pt_self h2) rfl ?_
       refine E_iaload (pc' := 83) g31_82 rfl (pt_nx (by decide) h1) (by omega) (by omega) ?_
       refine E_bipush (pc' := 85) g31_83 (by decide) rfl ?_
       refine E_icne (pc' := 88) (pt := 92) g31_85 rfl rfl (fun c3 => ?_) (fun c3 => ?_)
       · first
         | (exfalso; omega)
         | (refine E_iconst (pc' := 93) g31_92 (by decide) rfl ?_
            refine E_st3 (pc' := 94) g31_93 rfl ?_
            refine E_aload_n (pc' := 95) g31_94 rfl rfl ?_
            refine E_aload_n (pc' := 96) g31_95 rfl rfl ?_
            refine E_getI (pc' := 99) g31_96 f31_67 tg3_3 (by decide) rfl (pt_self h2) rfl ?_
            refine E_bipush (pc' := 101) g31_99 (by decide) rfl ?_
            refine E_icgt (pc' := 104) (pt := 108) g31_101 rfl rfl (fun c4 => ?_) (fun c4 => ?_)
            · first
              | (exfalso; omega)
              | (refine E_bipush (pc' := 110) g31_108 (by decide) rfl ?_
                 refine E_goto (pc' := 115) g31_110 rfl ?_
                 refine E_putf (pc' := 118) g31_115 f31_25 tg3_2 fn3_2 rfl rfl (pt_self h2) (Nat.le_of_ble_eq_true rfl) ?_
                 exact E_ret g31_118 rt31 rfl (by rw [pt_pt]; exact hT _ (by omega) (by omega) (by omega)))
            · first
              | (exfalso; omega)
              | (refine E_iload_n (pc' := 105) g31_104 rfl rfl ?_
                 refine E_ifeq (pc' := 108) (pt := 113) g31_105 rfl rfl (fun c5 => ?_) (fun c5 => ?_)
                 · first
                   | (exfalso; omega)
                   | (refine E_bipush (pc' := 115) g31_113 (by decide) rfl ?_
                      refine E_putf (pc' := 118) g31_115 f31_25 tg3_2 fn3_2 rfl rfl (pt_self h2) (Nat.le_of_ble_eq_true rfl) ?_
                      exact E_ret g31_118 rt31 rfl (by rw [pt_pt]; exact hT _ (by omega) (by omega) (by omega)))
                 · first
                   | (exfalso; omega)
                   | (refine E_bipush (pc' := 110) g31_108 (by decide) rfl ?_
                      refine E_goto (pc' := 115) g31_110 rfl ?_
                      refine E_putf (pc' := 118) g31_115 f31_25 tg3_2 fn3_2 rfl rfl (pt_self h2) (Nat.le_of_ble_eq_true rfl) ?_
                      exact E_ret g31_118 rt31 rfl (by rw [pt_pt]; exact hT _ (by omega) (by omega) (by omega)))))
       · first
         | (exfalso; omega)
         | (refine E_iconst (pc' := 89) g31_88 (by decide) rfl ?_
            refine E_goto (pc' := 93) g31_89 rfl ?_
            refine E_st3 (pc' := 94) g31_93 rfl ?_
            refine E_aload_n (pc' := 95) g31_94 rfl rfl ?_
            refine E_aload_n (pc' := 96) g31_95 rfl rfl ?_
            refine E_getI (pc' := 99) g31_96 f31_67 tg3_3 (by decide) rfl (pt_self h2) rfl ?_
            refine E_bipush (pc' := 101) g31_99 (by decide) rfl ?_
            refine E_icgt (pc' := 104) (pt := 108) g31_101 rfl rfl (fun c6 => ?_) (fun c6 => ?_)
            · first
              | (exfalso; omega)
              | (refine E_bipush (pc' := 110) g31_108 (by decide) rfl ?_
                 refine E_goto (pc' := 115) g31_110 rfl ?_
                 refine E_putf (pc' := 118) g31_115 f31_25 tg3_2 fn3_2 rfl rfl (pt_self h2) (Nat.le_of_ble_eq_true rfl) ?_
                 exact E_ret g31_118 rt31 rfl (by rw [pt_pt]; exact hT _ (by omega) (by omega) (by omega)))
            · first
              | (exfalso; omega)
              | (refine E_iload_n (pc' := 105) g31_104 rfl rfl ?_
                 refine E_ifeq (pc' := 108) (pt := 113) g31_105 rfl rfl (fun c7 => ?_) (fun c7 => ?_)
                 · first
                   | (exfalso; omega)
                   | (refine E_bipush (pc' := 115) g31_113 (by decide) rfl ?_
                      refine E_putf (pc' := 118) g31_115 f31_25 tg3_2 fn3_2 rfl rfl (pt_self h2) (Nat.le_of_ble_eq_true rfl) ?_
                      exact E_ret g31_118 rt31 rfl (by rw [pt_pt]; exact hT _ (by omega) (by omega) (by omega)))
                 · first
                   | (exfalso; omega)
                   | (refine E_bipush (pc' := 110) g31_108 (by decide) rfl ?_
                      refine E_goto (pc' := 115) g31_110 rfl ?_
                      refine E_putf (pc' := 118) g31_115 f31_25 tg3_2 fn3_2 rfl rfl (pt_self h2) (Nat.le_of_ble_eq_true rfl) ?_
                      exact E_ret g31_118 rt31 rfl (by rw [pt_pt]; exact hT _ (by omega) (by omega) (by omega))))))
theorem C_readToken (h2 : H[2]? = some (3, rdL (p : Int) tp tk nu f1 f2 f3 f4)) (h1 : H[1]? = some (8, tx)) (hl : tx.length = 120) (hn : n ≤ 120) (hp : p ≤ n) : Call 2 30 [mR 2, mR 1, mI (n : Int)] H none (pt H 2 (rdL ((tkP tx n p : Nat) : Int) ((skq tx n p : Nat) : Int) (tkT tx n p) (tkN tx n p nu) f1 f2 f3 f4)) := by
  have hs := skq_bd (tx := tx) hp
  refine Call_of rfl ?_
  refine Ev_cast (H := (pt H 2 (rdL (p : Int) tp tk nu f1 f2 f3 f4))) ?_ rfl (pt_same h2).symm
  refine C_skip h2 h1 hl hn (n - p) p rfl hp ?_
  generalize hq : skq tx n p = q at hs
  have tp1 := hq
  by_cases e1 : n ≤ q
  · have eP : tkP tx n p = q := by unfold tkP; rw [hq, if_pos e1]
    have eT : tkT tx n p = -1 := by unfold tkT; rw [hq, if_pos e1]
    have eN : tkN tx n p nu = nu := by unfold tkN; rw [hq, if_pos e1]
    rw [eP, eT, eN]
    refine E_aload_n (pc' := 33) g30_32 rfl rfl ?_
    refine E_aload_n (pc' := 34) g30_33 rfl rfl ?_
    refine E_getI (pc' := 37) g30_34 f30_40 tg3_0 (by decide) rfl (pt_self h2) rfl ?_
    refine E_putf (pc' := 40) g30_37 f30_33 tg3_1 fn3_1 rfl rfl (pt_self h2) (Nat.le_of_ble_eq_true rfl) ?_
    rw [pt_pt]
    refine Ev_cast (H := (pt H 2 (rdL (q : Int) (q : Int) tk nu f1 f2 f3 f4))) ?_ rfl rfl
    refine E_aload_n (pc' := 41) g30_40 rfl rfl ?_
    refine E_getI (pc' := 44) g30_41 f30_40 tg3_0 (by decide) rfl (pt_self h2) rfl ?_
    refine E_iload_n (pc' := 45) g30_44 rfl rfl ?_
    refine E_iclt (pc' := 48) (pt := 54) g30_45 rfl rfl (fun c0 => ?_) (fun c0 => ?_)
    · first
      | (exfalso; omega)
      | (exfalso; omega)
    · first
      | (exfalso; omega)
      | (refine E_aload_n (pc' := 49) g30_48 rfl rfl ?_
         refine E_iconst (pc' := 50) g30_49 (by decide) rfl ?_
         refine E_putf (pc' := 53) g30_50 f30_25 tg3_2 fn3_2 rfl rfl (pt_self h2) (Nat.le_of_ble_eq_true rfl) ?_
         exact E_ret g30_53 rt30 rfl (by rw [pt_pt]; rfl))
  by_cases e2 : 48 ≤ ix tx q ∧ ix tx q ≤ 57
  · have eP : tkP tx n p = dgq tx n q := by unfold tkP; rw [hq, if_neg e1, if_pos e2]
    have eT : tkT tx n p = numT tx n q := by unfold tkT; rw [hq, if_neg e1, if_pos e2]
    have eN : tkN tx n p nu = cvq tx n q 0 := by unfold tkN; rw [hq, if_neg e1, if_pos e2]
    rw [eP, eT, eN]
    have hf : Call 0 32 [mI (ix tx q)] (pt H 2 (rdL (q : Int) (q : Int) tk nu f1 f2 f3 f4)) (mI 1) (pt H 2 (rdL (q : Int) (q : Int) tk nu f1 f2 f3 f4)) := by
      have := C_isFig (H := (pt H 2 (rdL (q : Int) (q : Int) tk nu f1 f2 f3 f4))) (c := ix tx q)
      rw [if_pos e2] at this
      exact this
    have hrn := C_readNumber (q := q) (tk := tk) (nu := nu) (f1 := f1) (f2 := f2) (f3 := f3) (f4 := f4) h2 h1 hl hn (by omega)
    refine E_aload_n (pc' := 33) g30_32 rfl rfl ?_
    refine E_aload_n (pc' := 34) g30_33 rfl rfl ?_
    refine E_getI (pc' := 37) g30_34 f30_40 tg3_0 (by decide) rfl (pt_self h2) rfl ?_
    refine E_putf (pc' := 40) g30_37 f30_33 tg3_1 fn3_1 rfl rfl (pt_self h2) (Nat.le_of_ble_eq_true rfl) ?_
    rw [pt_pt]
    refine Ev_cast (H := (pt H 2 (rdL (q : Int) (q : Int) tk nu f1 f2 f3 f4))) ?_ rfl rfl
    refine E_aload_n (pc' := 41) g30_40 rfl rfl ?_
    refine E_getI (pc' := 44) g30_41 f30_40 tg3_0 (by decide) rfl (pt_self h2) rfl ?_
    refine E_iload_n (pc' := 45) g30_44 rfl rfl ?_
    refine E_iclt (pc' := 48) (pt := 54) g30_45 rfl rfl (fun c0 => ?_) (fun c0 => ?_)
    · first
      | (exfalso; omega)
      | (refine E_aload_n (pc' := 55) g30_54 rfl rfl ?_
         refine E_aload_n (pc' := 56) g30_55 rfl rfl ?_
         refine E_getI (pc' := 59) g30_56 f30_40 tg3_0 (by decide) rfl (pt_self h2) rfl ?_
         refine E_iaload (pc' := 60) g30_59 rfl (pt_nx (by decide) h1) (by omega) (by omega) ?_
         refine E_st3 (pc' := 61) g30_60 rfl ?_
         refine E_iload_n (pc' := 62) g30_61 rfl rfl ?_
         refine E_cS1i (pc' := 65) g30_62 k30_115 na32 rfl rfl (Nat.le_of_ble_eq_true rfl) hf (by decide) ?_
         refine E_ifeq (pc' := 68) (pt := 75) g30_65 rfl rfl (fun c1 => ?_) (fun c1 => ?_)
         · first
           | (exfalso; omega)
           | (exfalso; omega)
         · first
           | (exfalso; omega)
           | (refine E_aload_n (pc' := 69) g30_68 rfl rfl ?_
              refine E_aload_n (pc' := 70) g30_69 rfl rfl ?_
              refine E_iload_n (pc' := 71) g30_70 rfl rfl ?_
              refine E_cV2v (pc' := 74) g30_71 k30_119 na31 rfl ow31 rfl (Nat.le_of_ble_eq_true rfl) (pt_self h2) hrn (by decide) ?_
              exact E_ret g30_74 rt30 rfl rfl))
    · first
      | (exfalso; omega)
      | (exfalso; omega)
  · have eP : tkP tx n p = q + 1 := by unfold tkP; rw [hq, if_neg e1, if_neg e2]
    have eN : tkN tx n p nu = nu := by unfold tkN; rw [hq, if_neg e1, if_neg e2]
    have hf : Call 0 32 [mI (ix tx q)] (pt H 2 (rdL (q : Int) (q : Int) tk nu f1 f2 f3 f4)) (mI 0) (pt H 2 (rdL (q : Int) (q : Int) tk nu f1 f2 f3 f4)) := by
      have := C_isFig (H := (pt H 2 (rdL (q : Int) (q : Int) tk nu f1 f2 f3 f4))) (c := ix tx q)
      rw [if_neg e2] at this
      exact this
    by_cases e3 : isSg (ix tx q)
    · have eT : tkT tx n p = ix tx q := by unfold tkT; rw [hq, if_neg e1, if_neg e2, if_pos e3]
      rw [eP, eT, eN]
      refine E_aload_n (pc' := 33) g30_32 rfl rfl ?_
      refine E_aload_n (pc' := 34) g30_33 rfl rfl ?_
      refine E_getI (pc' := 37) g30_34 f30_40 tg3_0 (by decide) rfl (pt_self h2) rfl ?_
      refine E_putf (pc' := 40) g30_37 f30_33 tg3_1 fn3_1 rfl rfl (pt_self h2) (Nat.le_of_ble_eq_true rfl) ?_
      rw [pt_pt]
      refine Ev_cast (H := (pt H 2 (rdL (q : Int) (q : Int) tk nu f1 f2 f3 f4))) ?_ rfl rfl
      refine E_aload_n (pc' := 41) g30_40 rfl rfl ?_
      refine E_getI (pc' := 44) g30_41 f30_40 tg3_0 (by decide) rfl (pt_self h2) rfl ?_
      refine E_iload_n (pc' := 45) g30_44 rfl rfl ?_
      refine E_iclt (pc' := 48) (pt := 54) g30_45 rfl rfl (fun c0 => ?_) (fun c0 => ?_)
      · first
        | (exfalso; omega)
        | (refine E_aload_n (pc' := 55) g30_54 rfl rfl ?_
           refine E_aload_n (pc' := 56) g30_55 rfl rfl ?_
           refine E_getI (pc' := 59) g30_56 f30_40 tg3_0 (by decide) rfl (pt_self h2) rfl ?_
           refine E_iaload (pc' := 60) g30_59 rfl (pt_nx (by decide) h1) (by omega) (by omega) ?_
           refine E_st3 (pc' := 61) g30_60 rfl ?_
           refine E_iload_n (pc' := 62) g30_61 rfl rfl ?_
           refine E_cS1i (pc' := 65) g30_62 k30_115 na32 rfl rfl (Nat.le_of_ble_eq_true rfl) hf (by decide) ?_
           refine E_ifeq (pc' := 68) (pt := 75) g30_65 rfl rfl (fun c1 => ?_) (fun c1 => ?_)
           · first
             | (exfalso; omega)
             | (refine E_aload_n (pc' := 76) g30_75 rfl rfl ?_
                refine E_dup (pc' := 77) g30_76 rfl ?_
                refine E_getI (pc' := 80) g30_77 f30_40 tg3_0 (by decide) rfl (pt_self h2) rfl ?_
                refine E_iconst (pc' := 81) g30_80 (by decide) rfl ?_
                refine E_iadd (pc' := 82) g30_81 (m_in_iff.mpr (by omega)) rfl ?_
                refine E_putf (pc' := 85) g30_82 f30_40 tg3_0 fn3_0 rfl rfl (pt_self h2) (Nat.le_of_ble_eq_true rfl) ?_
                rw [pt_pt]
                refine Ev_cast (H := (pt H 2 (rdL ((q : Int) + 1) (q : Int) tk nu f1 f2 f3 f4))) ?_ rfl rfl
                refine E_aload_n (pc' := 86) g30_85 rfl rfl ?_
                refine E_iload_n (pc' := 87) g30_86 rfl rfl ?_
                refine E_cS1i (pc' := 90) g30_87 k30_122 na33 rfl rfl (Nat.le_of_ble_eq_true rfl) (C_isSign (r := 1) ⟨fun _ => rfl, fun z => absurd e3 z⟩) (by decide) ?_
                refine E_ifeq (pc' := 93) (pt := 97) g30_90 rfl rfl (fun c2 => ?_) (fun c2 => ?_)
                · first
                  | (exfalso; omega)
                  | (exfalso; omega)
                · first
                  | (exfalso; omega)
                  | (refine E_iload_n (pc' := 94) g30_93 rfl rfl ?_
                     refine E_goto (pc' := 99) g30_94 rfl ?_
                     refine E_putf (pc' := 102) g30_99 f30_25 tg3_2 fn3_2 rfl rfl (pt_self h2) (Nat.le_of_ble_eq_true rfl) ?_
                     exact E_ret g30_102 rt30 rfl (by rw [pt_pt]; rfl)))
           · first
             | (exfalso; omega)
             | (exfalso; omega))
      · first
        | (exfalso; omega)
        | (exfalso; omega)
    · have eT : tkT tx n p = -3 := by unfold tkT; rw [hq, if_neg e1, if_neg e2, if_neg e3]
      rw [eP, eT, eN]
      refine E_aload_n (pc' := 33) g30_32 rfl rfl ?_
      refine E_aload_n (pc' := 34) g30_33 rfl rfl ?_
      refine E_getI (pc' := 37) g30_34 f30_40 tg3_0 (by decide) rfl (pt_self h2) rfl ?_
      refine E_putf (pc' := 40) g30_37 f30_33 tg3_1 fn3_1 rfl rfl (pt_self h2) (Nat.le_of_ble_eq_true rfl) ?_
      rw [pt_pt]
      refine Ev_cast (H := (pt H 2 (rdL (q : Int) (q : Int) tk nu f1 f2 f3 f4))) ?_ rfl rfl
      refine E_aload_n (pc' := 41) g30_40 rfl rfl ?_
      refine E_getI (pc' := 44) g30_41 f30_40 tg3_0 (by decide) rfl (pt_self h2) rfl ?_
      refine E_iload_n (pc' := 45) g30_44 rfl rfl ?_
      refine E_iclt (pc' := 48) (pt := 54) g30_45 rfl rfl (fun c0 => ?_) (fun c0 => ?_)
      · first
        | (exfalso; omega)
        | (refine E_aload_n (pc' := 55) g30_54 rfl rfl ?_
           refine E_aload_n (pc' := 56) g30_55 rfl rfl ?_
           refine E_getI (pc' := 59) g30_56 f30_40 tg3_0 (by decide) rfl (pt_self h2) rfl ?_
           refine E_iaload (pc' := 60) g30_59 rfl (pt_nx (by decide) h1) (by omega) (by omega) ?_
           refine E_st3 (pc' := 61) g30_60 rfl ?_
           refine E_iload_n (pc' := 62) g30_61 rfl rfl ?_
           refine E_cS1i (pc' := 65) g30_62 k30_115 na32 rfl rfl (Nat.le_of_ble_eq_true rfl) hf (by decide) ?_
           refine E_ifeq (pc' := 68) (pt := 75) g30_65 rfl rfl (fun c1 => ?_) (fun c1 => ?_)
           · first
             | (exfalso; omega)
             | (refine E_aload_n (pc' := 76) g30_75 rfl rfl ?_
                refine E_dup (pc' := 77) g30_76 rfl ?_
                refine E_getI (pc' := 80) g30_77 f30_40 tg3_0 (by decide) rfl (pt_self h2) rfl ?_
                refine E_iconst (pc' := 81) g30_80 (by decide) rfl ?_
                refine E_iadd (pc' := 82) g30_81 (m_in_iff.mpr (by omega)) rfl ?_
                refine E_putf (pc' := 85) g30_82 f30_40 tg3_0 fn3_0 rfl rfl (pt_self h2) (Nat.le_of_ble_eq_true rfl) ?_
                rw [pt_pt]
                refine Ev_cast (H := (pt H 2 (rdL ((q : Int) + 1) (q : Int) tk nu f1 f2 f3 f4))) ?_ rfl rfl
                refine E_aload_n (pc' := 86) g30_85 rfl rfl ?_
                refine E_iload_n (pc' := 87) g30_86 rfl rfl ?_
                refine E_cS1i (pc' := 90) g30_87 k30_122 na33 rfl rfl (Nat.le_of_ble_eq_true rfl) (C_isSign (r := 0) ⟨fun z => absurd z e3, fun _ => rfl⟩) (by decide) ?_
                refine E_ifeq (pc' := 93) (pt := 97) g30_90 rfl rfl (fun c2 => ?_) (fun c2 => ?_)
                · first
                  | (exfalso; omega)
                  | (refine E_bipush (pc' := 99) g30_97 (by decide) rfl ?_
                     refine E_putf (pc' := 102) g30_99 f30_25 tg3_2 fn3_2 rfl rfl (pt_self h2) (Nat.le_of_ble_eq_true rfl) ?_
                     exact E_ret g30_102 rt30 rfl (by rw [pt_pt]; rfl))
                · first
                  | (exfalso; omega)
                  | (exfalso; omega))
           · first
             | (exfalso; omega)
             | (exfalso; omega))
      · first
        | (exfalso; omega)
        | (exfalso; omega)
end TOK
/-- the letter behind blanks -/
def hrc (tx : List Int) (n p : Nat) : Int := if skq tx n p < n then ix tx (skq tx n p) else -1
section MTK
variable {H : mH} {kd un nk nu me op de fo bs bu : Int} {tx m : List Int} {n p : Nat}
theorem M_skip (hM : H[74]? = some (7, m)) (htx : H[84]? = some (8, tx)) (hl : tx.length = 120) (hn : n ≤ 120) {r : mV} {H1 : mH} {d : Nat} : ∀ (k p : Nat), n - p = k → p ≤ n → Ev d 103 38 [mR 74] [] (pt H 74 (mdL kd un nk (n : Int) ((skq tx n p : Nat) : Int) nu me op de fo bs bu)) r H1 → Ev d 103 0 [mR 74] [] (pt H 74 (mdL kd un nk (n : Int) (p : Int) nu me op de fo bs bu)) r H1 := by
  intro k
  induction k with
  | zero =>
    intro p hk hp h
    rw [skq_f (by omega)] at h
    refine E_aload_n (pc' := 1) g103_0 rfl rfl ?_
    refine E_getI (pc' := 4) g103_1 f103_88 tg7_14 (by decide) rfl (pt_self hM) rfl ?_
    refine E_aload_n (pc' := 5) g103_4 rfl rfl ?_
    refine E_getI (pc' := 8) g103_5 f103_85 tg7_12 (by decide) rfl (pt_self hM) rfl ?_
    refine E_icge (pc' := 11) (pt := 38) g103_8 rfl rfl (fun c0 => ?_) (fun c0 => ?_)
    · first
      | (exfalso; omega)
      | (exact h)
    · first
      | (exfalso; omega)
      | (exfalso; omega)
  | succ k ih =>
    intro p hk hp h
    by_cases e : ix tx p = 32
    · rw [skq_t (by omega) e] at h
      have h' := ih (p + 1) (by omega) (by omega) h
      refine E_aload_n (pc' := 1) g103_0 rfl rfl ?_
      refine E_getI (pc' := 4) g103_1 f103_88 tg7_14 (by decide) rfl (pt_self hM) rfl ?_
      refine E_aload_n (pc' := 5) g103_4 rfl rfl ?_
      refine E_getI (pc' := 8) g103_5 f103_85 tg7_12 (by decide) rfl (pt_self hM) rfl ?_
      refine E_icge (pc' := 11) (pt := 38) g103_8 rfl rfl (fun c0 => ?_) (fun c0 => ?_)
      · first
        | (exfalso; omega)
        | (exfalso; omega)
      · first
        | (exfalso; omega)
        | (refine E_aload_n (pc' := 12) g103_11 rfl rfl ?_
           refine E_getR (pc' := 15) g103_12 f103_38 tg7_13 rfl (pt_self hM) rfl ?_
           refine E_aload_n (pc' := 16) g103_15 rfl rfl ?_
           refine E_getI (pc' := 19) g103_16 f103_88 tg7_14 (by decide) rfl (pt_self hM) rfl ?_
           refine E_iald (pc' := 20) (v := 32) g103_19 rfl (pt_nx (by decide) htx) (by omega) (by omega) e ?_
           refine E_bipush (pc' := 22) g103_20 (by decide) rfl ?_
           refine E_icne (pc' := 25) (pt := 38) g103_22 rfl rfl (fun c1 => ?_) (fun c1 => ?_)
           · first
             | (exfalso; omega)
             | (exfalso; omega)
           · first
             | (exfalso; omega)
             | (refine E_aload_n (pc' := 26) g103_25 rfl rfl ?_
                refine E_dup (pc' := 27) g103_26 rfl ?_
                refine E_getI (pc' := 30) g103_27 f103_88 tg7_14 (by decide) rfl (pt_self hM) rfl ?_
                refine E_iconst (pc' := 31) g103_30 (by decide) rfl ?_
                refine E_iadd (pc' := 32) g103_31 (m_in_iff.mpr (by omega)) rfl ?_
                refine E_putf (pc' := 35) g103_32 f103_88 tg7_14 fn7_14 rfl rfl (pt_self hM) (Nat.le_of_ble_eq_true rfl) ?_
                rw [pt_pt]
                refine E_goto (pc' := 0) g103_35 rfl ?_
                exact h'))
    · rw [skq_f (fun z => e z.2)] at h
      refine E_aload_n (pc' := 1) g103_0 rfl rfl ?_
      refine E_getI (pc' := 4) g103_1 f103_88 tg7_14 (by decide) rfl (pt_self hM) rfl ?_
      refine E_aload_n (pc' := 5) g103_4 rfl rfl ?_
      refine E_getI (pc' := 8) g103_5 f103_85 tg7_12 (by decide) rfl (pt_self hM) rfl ?_
      refine E_icge (pc' := 11) (pt := 38) g103_8 rfl rfl (fun c0 => ?_) (fun c0 => ?_)
      · first
        | (exfalso; omega)
        | (exact h)
      · first
        | (exfalso; omega)
        | (refine E_aload_n (pc' := 12) g103_11 rfl rfl ?_
           refine E_getR (pc' := 15) g103_12 f103_38 tg7_13 rfl (pt_self hM) rfl ?_
           refine E_aload_n (pc' := 16) g103_15 rfl rfl ?_
           refine E_getI (pc' := 19) g103_16 f103_88 tg7_14 (by decide) rfl (pt_self hM) rfl ?_
           refine E_iaload (pc' := 20) g103_19 rfl (pt_nx (by decide) htx) (by omega) (by omega) ?_
           refine E_bipush (pc' := 22) g103_20 (by decide) rfl ?_
           refine E_icne (pc' := 25) (pt := 38) g103_22 rfl rfl (fun c1 => ?_) (fun c1 => ?_)
           · first
             | (exfalso; omega)
             | (exact h)
           · first
             | (exfalso; omega)
             | (exfalso; omega))
theorem M_here (hM : H[74]? = some (7, mdL kd un nk (n : Int) (p : Int) nu me op de fo bs bu)) (htx : H[84]? = some (8, tx)) (hl : tx.length = 120) (hn : n ≤ 120) (hp : p ≤ n) : Call 0 103 [mR 74] H (mI (hrc tx n p)) (pt H 74 (mdL kd un nk (n : Int) ((skq tx n p : Nat) : Int) nu me op de fo bs bu)) := by
  have hs := skq_bd (tx := tx) hp
  refine Call_of rfl ?_
  refine Ev_cast (H := (pt H 74 (mdL kd un nk (n : Int) (p : Int) nu me op de fo bs bu))) ?_ rfl (pt_same hM).symm
  refine M_skip hM htx hl hn (n - p) p rfl hp ?_
  by_cases e : skq tx n p < n
  · have er : hrc tx n p = ix tx (skq tx n p) := by unfold hrc; rw [if_pos e]
    rw [er]
    refine E_aload_n (pc' := 39) g103_38 rfl rfl ?_
    refine E_getI (pc' := 42) g103_39 f103_88 tg7_14 (by decide) rfl (pt_self hM) rfl ?_
    refine E_aload_n (pc' := 43) g103_42 rfl rfl ?_
    refine E_getI (pc' := 46) g103_43 f103_85 tg7_12 (by decide) rfl (pt_self hM) rfl ?_
    refine E_icge (pc' := 49) (pt := 61) g103_46 rfl rfl (fun c0 => ?_) (fun c0 => ?_)
    · first
      | (exfalso; omega)
      | (exfalso; omega)
    · first
      | (exfalso; omega)
      | (refine E_aload_n (pc' := 50) g103_49 rfl rfl ?_
         refine E_getR (pc' := 53) g103_50 f103_38 tg7_13 rfl (pt_self hM) rfl ?_
         refine E_aload_n (pc' := 54) g103_53 rfl rfl ?_
         refine E_getI (pc' := 57) g103_54 f103_88 tg7_14 (by decide) rfl (pt_self hM) rfl ?_
         refine E_iaload (pc' := 58) g103_57 rfl (pt_nx (by decide) htx) (by omega) (by omega) ?_
         refine E_goto (pc' := 62) g103_58 rfl ?_
         exact E_iret g103_62 ro103 rfl rfl)
  · have er : hrc tx n p = -1 := by unfold hrc; rw [if_neg e]
    rw [er]
    refine E_aload_n (pc' := 39) g103_38 rfl rfl ?_
    refine E_getI (pc' := 42) g103_39 f103_88 tg7_14 (by decide) rfl (pt_self hM) rfl ?_
    refine E_aload_n (pc' := 43) g103_42 rfl rfl ?_
    refine E_getI (pc' := 46) g103_43 f103_85 tg7_12 (by decide) rfl (pt_self hM) rfl ?_
    refine E_icge (pc' := 49) (pt := 61) g103_46 rfl rfl (fun c0 => ?_) (fun c0 => ?_)
    · first
      | (exfalso; omega)
      | (refine E_iconst (pc' := 62) g103_61 (by decide) rfl ?_
         exact E_iret g103_62 ro103 rfl rfl)
    · first
      | (exfalso; omega)
      | (exfalso; omega)
theorem M_digits (hM : H[74]? = some (7, m)) (htx : H[84]? = some (8, tx)) (hl : tx.length = 120) (hn : n ≤ 120) {q : Nat} {lo hi c : Int} {r : mV} {H1 : mH} {u : mV} : ∀ (k p : Nat) (v : Int), n - p = k → p ≤ n → 0 ≤ v → v ≤ 999 → Ev 1 104 76 [mR 74, mI lo, mI hi, mI c, mI ((dgq tx n p : Nat) : Int), mI (mvq tx n p v), u] [] (pt H 74 (mdL kd un nk (n : Int) (q : Int) nu me op de fo bs bu)) r H1 → Ev 1 104 14 [mR 74, mI lo, mI hi, mI c, mI (p : Int), mI v, u] [] (pt H 74 (mdL kd un nk (n : Int) (q : Int) nu me op de fo bs bu)) r H1 := by
  intro k
  induction k with
  | zero =>
    intro p v hk hp v0 v1 h
    rw [dgq_f (by omega), mvq_f (by omega)] at h
    refine E_iload (pc' := 16) g104_14 rfl rfl ?_
    refine E_aload_n (pc' := 17) g104_16 rfl rfl ?_
    refine E_getI (pc' := 20) g104_17 f104_85 tg7_12 (by decide) rfl (pt_self hM) rfl ?_
    refine E_icge (pc' := 23) (pt := 76) g104_20 rfl rfl (fun c0 => ?_) (fun c0 => ?_)
    · first
      | (exfalso; omega)
      | (exact h)
    · first
      | (exfalso; omega)
      | (exfalso; omega)
  | succ k ih =>
    intro p v hk hp v0 v1 h
    have e1 := inC_or (ix tx p) 48 57
    by_cases e : 48 ≤ ix tx p ∧ ix tx p ≤ 57
    · rw [dgq_t (by omega) e, mvq_t (by omega) e] at h
      by_cases e99 : 99 < v
      · rw [if_pos e99] at h
        have h' := ih (p + 1) v (by omega) (by omega) (by omega) (by omega) h
        refine E_iload (pc' := 16) g104_14 rfl rfl ?_
        refine E_aload_n (pc' := 17) g104_16 rfl rfl ?_
        refine E_getI (pc' := 20) g104_17 f104_85 tg7_12 (by decide) rfl (pt_self hM) rfl ?_
        refine E_icge (pc' := 23) (pt := 76) g104_20 rfl rfl (fun c0 => ?_) (fun c0 => ?_)
        · first
          | (exfalso; omega)
          | (exfalso; omega)
        · first
          | (exfalso; omega)
          | (refine E_aload_n (pc' := 24) g104_23 rfl rfl ?_
             refine E_getR (pc' := 27) g104_24 f104_38 tg7_13 rfl (pt_self hM) rfl ?_
             refine E_iload (pc' := 29) g104_27 rfl rfl ?_
             refine E_iaload (pc' := 30) g104_29 rfl (pt_nx (by decide) htx) (by omega) (by omega) ?_
             refine E_bipush (pc' := 32) g104_30 (by decide) rfl ?_
             refine E_bipush (pc' := 34) g104_32 (by decide) rfl ?_
             refine E_cS3i (pc' := 37) g104_34 k104_81 na97 rfl rfl (Nat.le_of_ble_eq_true rfl) M_in (by decide) ?_
             refine E_ifeq (pc' := 40) (pt := 76) g104_37 rfl rfl (fun c1 => ?_) (fun c1 => ?_)
             · first
               | (exfalso; omega)
               | (exfalso; omega)
             · first
               | (exfalso; omega)
               | (refine E_iload (pc' := 42) g104_40 rfl rfl ?_
                  refine E_bipush (pc' := 44) g104_42 (by decide) rfl ?_
                  refine E_icle (pc' := 47) (pt := 52) g104_44 rfl rfl (fun c2 => ?_) (fun c2 => ?_)
                  · first
                    | (exfalso; omega)
                    | (exfalso; omega)
                  · first
                    | (exfalso; omega)
                    | (refine E_iload (pc' := 49) g104_47 rfl rfl ?_
                       refine E_goto (pc' := 68) g104_49 rfl ?_
                       refine E_st5 (pc' := 70) g104_68 rfl ?_
                       refine E_in4 (pc' := 73) g104_70 rfl (m_in_iff.mpr (by omega)) ?_
                       refine E_goto (pc' := 14) g104_73 rfl ?_
                       exact h')))
      · rw [if_neg e99] at h
        have h' := ih (p + 1) (10 * v + ix tx p - 48) (by omega) (by omega) (by omega) (by omega) h
        refine E_iload (pc' := 16) g104_14 rfl rfl ?_
        refine E_aload_n (pc' := 17) g104_16 rfl rfl ?_
        refine E_getI (pc' := 20) g104_17 f104_85 tg7_12 (by decide) rfl (pt_self hM) rfl ?_
        refine E_icge (pc' := 23) (pt := 76) g104_20 rfl rfl (fun c0 => ?_) (fun c0 => ?_)
        · first
          | (exfalso; omega)
          | (exfalso; omega)
        · first
          | (exfalso; omega)
          | (refine E_aload_n (pc' := 24) g104_23 rfl rfl ?_
             refine E_getR (pc' := 27) g104_24 f104_38 tg7_13 rfl (pt_self hM) rfl ?_
             refine E_iload (pc' := 29) g104_27 rfl rfl ?_
             refine E_iaload (pc' := 30) g104_29 rfl (pt_nx (by decide) htx) (by omega) (by omega) ?_
             refine E_bipush (pc' := 32) g104_30 (by decide) rfl ?_
             refine E_bipush (pc' := 34) g104_32 (by decide) rfl ?_
             refine E_cS3i (pc' := 37) g104_34 k104_81 na97 rfl rfl (Nat.le_of_ble_eq_true rfl) M_in (by decide) ?_
             refine E_ifeq (pc' := 40) (pt := 76) g104_37 rfl rfl (fun c1 => ?_) (fun c1 => ?_)
             · first
               | (exfalso; omega)
               | (exfalso; omega)
             · first
               | (exfalso; omega)
               | (refine E_iload (pc' := 42) g104_40 rfl rfl ?_
                  refine E_bipush (pc' := 44) g104_42 (by decide) rfl ?_
                  refine E_icle (pc' := 47) (pt := 52) g104_44 rfl rfl (fun c2 => ?_) (fun c2 => ?_)
                  · first
                    | (exfalso; omega)
                    | (refine E_bipush (pc' := 54) g104_52 (by decide) rfl ?_
                       refine E_iload (pc' := 56) g104_54 rfl rfl ?_
                       refine E_imul (pc' := 57) g104_56 (m_in_iff.mpr (by omega)) rfl ?_
                       refine E_aload_n (pc' := 58) g104_57 rfl rfl ?_
                       refine E_getR (pc' := 61) g104_58 f104_38 tg7_13 rfl (pt_self hM) rfl ?_
                       refine E_iload (pc' := 63) g104_61 rfl rfl ?_
                       refine E_iaload (pc' := 64) g104_63 rfl (pt_nx (by decide) htx) (by omega) (by omega) ?_
                       refine E_iadd (pc' := 65) g104_64 (m_in_iff.mpr (by omega)) rfl ?_
                       refine E_bipush (pc' := 67) g104_65 (by decide) rfl ?_
                       refine E_isub (pc' := 68) g104_67 (m_in_iff.mpr (by omega)) rfl ?_
                       refine E_st5 (pc' := 70) g104_68 rfl ?_
                       refine E_in4 (pc' := 73) g104_70 rfl (m_in_iff.mpr (by omega)) ?_
                       refine E_goto (pc' := 14) g104_73 rfl ?_
                       exact h')
                  · first
                    | (exfalso; omega)
                    | (exfalso; omega)))
    · rw [dgq_f (fun z => e z.2), mvq_f (fun z => e z.2)] at h
      refine E_iload (pc' := 16) g104_14 rfl rfl ?_
      refine E_aload_n (pc' := 17) g104_16 rfl rfl ?_
      refine E_getI (pc' := 20) g104_17 f104_85 tg7_12 (by decide) rfl (pt_self hM) rfl ?_
      refine E_icge (pc' := 23) (pt := 76) g104_20 rfl rfl (fun c0 => ?_) (fun c0 => ?_)
      · first
        | (exfalso; omega)
        | (exact h)
      · first
        | (exfalso; omega)
        | (refine E_aload_n (pc' := 24) g104_23 rfl rfl ?_
           refine E_getR (pc' := 27) g104_24 f104_38 tg7_13 rfl (pt_self hM) rfl ?_
           refine E_iload (pc' := 29) g104_27 rfl rfl ?_
           refine E_iaload (pc' := 30) g104_29 rfl (pt_nx (by decide) htx) (by omega) (by omega) ?_
           refine E_bipush (pc' := 32) g104_30 (by decide) rfl ?_
           refine E_bipush (pc' := 34) g104_32 (by decide) rfl ?_
           refine E_cS3i (pc' := 37) g104_34 k104_81 na97 rfl rfl (Nat.le_of_ble_eq_true rfl) M_in (by decide) ?_
           refine E_ifeq (pc' := 40) (pt := 76) g104_37 rfl rfl (fun c1 => ?_) (fun c1 => ?_)
           · first
             | (exfalso; omega)
             | (exact h)
           · first
             | (exfalso; omega)
             | (exfalso; omega))
theorem M_reads (hM : H[74]? = some (7, mdL kd un nk (n : Int) (p : Int) nu me op de fo bs bu)) (htx : H[84]? = some (8, tx)) (hl : tx.length = 120) (hn : n ≤ 120) (hp : p ≤ n) {lo hi : Int} (hlh : 0 ≤ lo ∧ hi ≤ 99) : (nOk tx n lo hi p → Call 1 104 [mR 74, mI lo, mI hi] H (mI 1) (pt H 74 (mdL kd un nk (n : Int) ((tkP tx n p : Nat) : Int) (nV tx n p) me op de fo bs bu))) ∧ (¬ nOk tx n lo hi p → ∃ nu2, Call 1 104 [mR 74, mI lo, mI hi] H (mI 0) (pt H 74 (mdL kd un nk (n : Int) ((skq tx n p : Nat) : Int) nu2 me op de fo bs bu))) := by
  have hs := skq_bd (tx := tx) hp
  have hh := M_here hM htx hl hn hp
  have hcm := cmq (tx := tx) (n := n) (p := skq tx n p)
  have hd := dgq_bd (tx := tx) (n := n) (p := skq tx n p) (by omega)
  have hdf : ¬ (skq tx n p < n ∧ 48 ≤ ix tx (skq tx n p) ∧ ix tx (skq tx n p) ≤ 57) → dgq tx n (skq tx n p) = skq tx n p := dgq_f
  have hdt : skq tx n p < n → 48 ≤ ix tx (skq tx n p) ∧ ix tx (skq tx n p) ≤ 57 → skq tx n p + 1 ≤ dgq tx n (skq tx n p) := by
    intro a1 a2
    rw [dgq_t a1 a2]
    exact (dgq_bd (by omega)).1
  have hc : (skq tx n p < n ∧ hrc tx n p = ix tx (skq tx n p)) ∨ (n ≤ skq tx n p ∧ hrc tx n p = -1) := by
    unfold hrc
    split
    · rename_i z; exact Or.inl ⟨z, rfl⟩
    · rename_i z; exact Or.inr ⟨by omega, rfl⟩
  have e2 := inC_or (mvq tx n (skq tx n p) 0) lo hi
  have hiff : nOk tx n lo hi p ↔ (skq tx n p < dgq tx n (skq tx n p) ∧ (¬ hrc tx n p = 48 ∨ dgq tx n (skq tx n p) = skq tx n p + 1) ∧ lo ≤ mvq tx n (skq tx n p) 0 ∧ mvq tx n (skq tx n p) 0 ≤ hi) := by
    constructor
    · rintro ⟨h1, h2, h3⟩
      obtain ⟨a1, a2, a3⟩ := tkT_num h1
      have a4 := numT_2.mp a3
      have := hdt a1 a2
      omega
    · rintro ⟨h1, h2, h3⟩
      have a1 : skq tx n p < n ∧ 48 ≤ ix tx (skq tx n p) ∧ ix tx (skq tx n p) ≤ 57 := by
        refine Classical.byContradiction (fun z => ?_)
        have := hdf z
        omega
      have a3 : numT tx n (skq tx n p) = -2 := numT_2.mpr (by omega)
      refine ⟨?_, by omega, by omega⟩
      unfold tkT
      rw [if_neg (by omega), if_pos a1.2, a3]
  have hkey : ∀ {r : mV} {H1 : mH}, Ev 1 104 76 [mR 74, mI lo, mI hi, mI (hrc tx n p), mI ((dgq tx n (skq tx n p) : Nat) : Int), mI (mvq tx n (skq tx n p) 0), none] [] (pt H 74 (mdL kd un nk (n : Int) ((skq tx n p : Nat) : Int) nu me op de fo bs bu)) r H1 → Call 1 104 [mR 74, mI lo, mI hi] H r H1 := by
    intro r H1 hev
    have hev' := M_digits (kd := kd) (un := un) (nk := nk) (nu := nu) (me := me) (op := op) (de := de) (fo := fo) (bs := bs) (bu := bu) hM htx hl hn (q := skq tx n p) (lo := lo) (hi := hi) (c := hrc tx n p) (n - skq tx n p) (skq tx n p) 0 rfl (by omega) (by omega) (by omega) hev
    refine Call_of rfl ?_
    refine E_aload_n (pc' := 1) g104_0 rfl rfl ?_
    refine E_cV0i (pc' := 4) g104_1 k104_91 na103 rfl ow103 rfl (Nat.le_of_ble_eq_true rfl) hM hh (by decide) ?_
    refine E_st3 (pc' := 5) g104_4 rfl ?_
    refine E_aload_n (pc' := 6) g104_5 rfl rfl ?_
    refine E_getI (pc' := 9) g104_6 f104_88 tg7_14 (by decide) rfl (pt_self hM) rfl ?_
    refine E_st4 (pc' := 11) g104_9 rfl ?_
    refine E_iconst (pc' := 12) g104_11 (by decide) rfl ?_
    refine E_st5 (pc' := 14) g104_12 rfl ?_
    exact hev'
  refine ⟨fun hok => hkey ?_, fun hno => ⟨mvq tx n (skq tx n p) 0, hkey ?_⟩⟩
  · have hok' := hiff.mp hok
    obtain ⟨f1, f2, f3, f4⟩ := nOk_facts hok
    have f5 : nV tx n p = mvq tx n (skq tx n p) 0 := by unfold nV at f3 f4 ⊢; omega
    rw [f1, f5]
    refine E_iload (pc' := 78) g104_76 rfl rfl ?_
    refine E_aload_n (pc' := 79) g104_78 rfl rfl ?_
    refine E_getI (pc' := 82) g104_79 f104_88 tg7_14 (by decide) rfl (pt_self hM) rfl ?_
    refine E_icle (pc' := 85) (pt := 116) g104_82 rfl rfl (fun c0 => ?_) (fun c0 => ?_)
    · first
      | (exfalso; omega)
      | (exfalso; omega)
    · first
      | (exfalso; omega)
      | (refine E_iload_n (pc' := 86) g104_85 rfl rfl ?_
         refine E_bipush (pc' := 88) g104_86 (by decide) rfl ?_
         refine E_icne (pc' := 91) (pt := 102) g104_88 rfl rfl (fun c1 => ?_) (fun c1 => ?_)
         · first
           | (exfalso; omega)
           | (refine E_iload (pc' := 104) g104_102 rfl rfl ?_
              refine E_iload_n (pc' := 105) g104_104 rfl rfl ?_
              refine E_iload_n (pc' := 106) g104_105 rfl rfl ?_
              refine E_cS3i (pc' := 109) g104_106 k104_81 na97 rfl rfl (Nat.le_of_ble_eq_true rfl) M_in (by decide) ?_
              refine E_ifeq (pc' := 112) (pt := 116) g104_109 rfl rfl (fun c2 => ?_) (fun c2 => ?_)
              · first
                | (exfalso; omega)
                | (exfalso; omega)
              · first
                | (exfalso; omega)
                | (refine E_iconst (pc' := 113) g104_112 (by decide) rfl ?_
                   refine E_goto (pc' := 117) g104_113 rfl ?_
                   refine E_st6 (pc' := 119) g104_117 rfl ?_
                   refine E_aload_n (pc' := 120) g104_119 rfl rfl ?_
                   refine E_iload (pc' := 122) g104_120 rfl rfl ?_
                   refine E_ifeq (pc' := 125) (pt := 130) g104_122 rfl rfl (fun c3 => ?_) (fun c3 => ?_)
                   · first
                     | (exfalso; omega)
                     | (exfalso; omega)
                   · first
                     | (exfalso; omega)
                     | (refine E_iload (pc' := 127) g104_125 rfl rfl ?_
                        refine E_goto (pc' := 134) g104_127 rfl ?_
                        refine E_putf (pc' := 137) g104_134 f104_88 tg7_14 fn7_14 rfl rfl (pt_self hM) (Nat.le_of_ble_eq_true rfl) ?_
                        rw [pt_pt]
                        refine E_aload_n (pc' := 138) g104_137 rfl rfl ?_
                        refine E_iload (pc' := 140) g104_138 rfl rfl ?_
                        refine E_putf (pc' := 143) g104_140 f104_95 tg7_15 fn7_15 rfl rfl (pt_self hM) (Nat.le_of_ble_eq_true rfl) ?_
                        refine E_iload (pc' := 145) g104_143 rfl rfl ?_
                        exact E_iret g104_145 (ro104 (by omega)) rfl (by rw [pt_pt]; rfl))))
         · first
           | (exfalso; omega)
           | (refine E_iload (pc' := 93) g104_91 rfl rfl ?_
              refine E_aload_n (pc' := 94) g104_93 rfl rfl ?_
              refine E_getI (pc' := 97) g104_94 f104_88 tg7_14 (by decide) rfl (pt_self hM) rfl ?_
              refine E_iconst (pc' := 98) g104_97 (by decide) rfl ?_
              refine E_iadd (pc' := 99) g104_98 (m_in_iff.mpr (by omega)) rfl ?_
              refine E_icne (pc' := 102) (pt := 116) g104_99 rfl rfl (fun c4 => ?_) (fun c4 => ?_)
              · first
                | (exfalso; omega)
                | (exfalso; omega)
              · first
                | (exfalso; omega)
                | (refine E_iload (pc' := 104) g104_102 rfl rfl ?_
                   refine E_iload_n (pc' := 105) g104_104 rfl rfl ?_
                   refine E_iload_n (pc' := 106) g104_105 rfl rfl ?_
                   refine E_cS3i (pc' := 109) g104_106 k104_81 na97 rfl rfl (Nat.le_of_ble_eq_true rfl) M_in (by decide) ?_
                   refine E_ifeq (pc' := 112) (pt := 116) g104_109 rfl rfl (fun c5 => ?_) (fun c5 => ?_)
                   · first
                     | (exfalso; omega)
                     | (exfalso; omega)
                   · first
                     | (exfalso; omega)
                     | (refine E_iconst (pc' := 113) g104_112 (by decide) rfl ?_
                        refine E_goto (pc' := 117) g104_113 rfl ?_
                        refine E_st6 (pc' := 119) g104_117 rfl ?_
                        refine E_aload_n (pc' := 120) g104_119 rfl rfl ?_
                        refine E_iload (pc' := 122) g104_120 rfl rfl ?_
                        refine E_ifeq (pc' := 125) (pt := 130) g104_122 rfl rfl (fun c6 => ?_) (fun c6 => ?_)
                        · first
                          | (exfalso; omega)
                          | (exfalso; omega)
                        · first
                          | (exfalso; omega)
                          | (refine E_iload (pc' := 127) g104_125 rfl rfl ?_
                             refine E_goto (pc' := 134) g104_127 rfl ?_
                             refine E_putf (pc' := 137) g104_134 f104_88 tg7_14 fn7_14 rfl rfl (pt_self hM) (Nat.le_of_ble_eq_true rfl) ?_
                             rw [pt_pt]
                             refine E_aload_n (pc' := 138) g104_137 rfl rfl ?_
                             refine E_iload (pc' := 140) g104_138 rfl rfl ?_
                             refine E_putf (pc' := 143) g104_140 f104_95 tg7_15 fn7_15 rfl rfl (pt_self hM) (Nat.le_of_ble_eq_true rfl) ?_
                             refine E_iload (pc' := 145) g104_143 rfl rfl ?_
                             exact E_iret g104_145 (ro104 (by omega)) rfl (by rw [pt_pt]; rfl))))))
  · have hno' : ¬ _ := fun z => hno (hiff.mpr z)
    refine E_iload (pc' := 78) g104_76 rfl rfl ?_
    refine E_aload_n (pc' := 79) g104_78 rfl rfl ?_
    refine E_getI (pc' := 82) g104_79 f104_88 tg7_14 (by decide) rfl (pt_self hM) rfl ?_
    refine E_icle (pc' := 85) (pt := 116) g104_82 rfl rfl (fun c0 => ?_) (fun c0 => ?_)
    · first
      | (exfalso; omega)
      | (refine E_iconst (pc' := 117) g104_116 (by decide) rfl ?_
         refine E_st6 (pc' := 119) g104_117 rfl ?_
         refine E_aload_n (pc' := 120) g104_119 rfl rfl ?_
         refine E_iload (pc' := 122) g104_120 rfl rfl ?_
         refine E_ifeq (pc' := 125) (pt := 130) g104_122 rfl rfl (fun c1 => ?_) (fun c1 => ?_)
         · first
           | (exfalso; omega)
           | (refine E_aload_n (pc' := 131) g104_130 rfl rfl ?_
              refine E_getI (pc' := 134) g104_131 f104_88 tg7_14 (by decide) rfl (pt_self hM) rfl ?_
              refine E_putf (pc' := 137) g104_134 f104_88 tg7_14 fn7_14 rfl rfl (pt_self hM) (Nat.le_of_ble_eq_true rfl) ?_
              rw [pt_pt]
              refine E_aload_n (pc' := 138) g104_137 rfl rfl ?_
              refine E_iload (pc' := 140) g104_138 rfl rfl ?_
              refine E_putf (pc' := 143) g104_140 f104_95 tg7_15 fn7_15 rfl rfl (pt_self hM) (Nat.le_of_ble_eq_true rfl) ?_
              refine E_iload (pc' := 145) g104_143 rfl rfl ?_
              exact E_iret g104_145 (ro104 (by omega)) rfl (by rw [pt_pt]; rfl))
         · first
           | (exfalso; omega)
           | (exfalso; omega))
    · first
      | (exfalso; omega)
      | (refine E_iload_n (pc' := 86) g104_85 rfl rfl ?_
         refine E_bipush (pc' := 88) g104_86 (by decide) rfl ?_
         refine E_icne (pc' := 91) (pt := 102) g104_88 rfl rfl (fun c2 => ?_) (fun c2 => ?_)
         · first
           | (exfalso; omega)
           | (refine E_iload (pc' := 104) g104_102 rfl rfl ?_
              refine E_iload_n (pc' := 105) g104_104 rfl rfl ?_
              refine E_iload_n (pc' := 106) g104_105 rfl rfl ?_
              refine E_cS3i (pc' := 109) g104_106 k104_81 na97 rfl rfl (Nat.le_of_ble_eq_true rfl) M_in (by decide) ?_
              refine E_ifeq (pc' := 112) (pt := 116) g104_109 rfl rfl (fun c3 => ?_) (fun c3 => ?_)
              · first
                | (exfalso; omega)
                | (refine E_iconst (pc' := 117) g104_116 (by decide) rfl ?_
                   refine E_st6 (pc' := 119) g104_117 rfl ?_
                   refine E_aload_n (pc' := 120) g104_119 rfl rfl ?_
                   refine E_iload (pc' := 122) g104_120 rfl rfl ?_
                   refine E_ifeq (pc' := 125) (pt := 130) g104_122 rfl rfl (fun c4 => ?_) (fun c4 => ?_)
                   · first
                     | (exfalso; omega)
                     | (refine E_aload_n (pc' := 131) g104_130 rfl rfl ?_
                        refine E_getI (pc' := 134) g104_131 f104_88 tg7_14 (by decide) rfl (pt_self hM) rfl ?_
                        refine E_putf (pc' := 137) g104_134 f104_88 tg7_14 fn7_14 rfl rfl (pt_self hM) (Nat.le_of_ble_eq_true rfl) ?_
                        rw [pt_pt]
                        refine E_aload_n (pc' := 138) g104_137 rfl rfl ?_
                        refine E_iload (pc' := 140) g104_138 rfl rfl ?_
                        refine E_putf (pc' := 143) g104_140 f104_95 tg7_15 fn7_15 rfl rfl (pt_self hM) (Nat.le_of_ble_eq_true rfl) ?_
                        refine E_iload (pc' := 145) g104_143 rfl rfl ?_
                        exact E_iret g104_145 (ro104 (by omega)) rfl (by rw [pt_pt]; rfl))
                   · first
                     | (exfalso; omega)
                     | (exfalso; omega))
              · first
                | (exfalso; omega)
                | (exfalso; omega))
         · first
           | (exfalso; omega)
           | (refine E_iload (pc' := 93) g104_91 rfl rfl ?_
              refine E_aload_n (pc' := 94) g104_93 rfl rfl ?_
              refine E_getI (pc' := 97) g104_94 f104_88 tg7_14 (by decide) rfl (pt_self hM) rfl ?_
              refine E_iconst (pc' := 98) g104_97 (by decide) rfl ?_
              refine E_iadd (pc' := 99) g104_98 (m_in_iff.mpr (by omega)) rfl ?_
              refine E_icne (pc' := 102) (pt := 116) g104_99 rfl rfl (fun c5 => ?_) (fun c5 => ?_)
              · first
                | (exfalso; omega)
                | (refine E_iconst (pc' := 117) g104_116 (by decide) rfl ?_
                   refine E_st6 (pc' := 119) g104_117 rfl ?_
                   refine E_aload_n (pc' := 120) g104_119 rfl rfl ?_
                   refine E_iload (pc' := 122) g104_120 rfl rfl ?_
                   refine E_ifeq (pc' := 125) (pt := 130) g104_122 rfl rfl (fun c6 => ?_) (fun c6 => ?_)
                   · first
                     | (exfalso; omega)
                     | (refine E_aload_n (pc' := 131) g104_130 rfl rfl ?_
                        refine E_getI (pc' := 134) g104_131 f104_88 tg7_14 (by decide) rfl (pt_self hM) rfl ?_
                        refine E_putf (pc' := 137) g104_134 f104_88 tg7_14 fn7_14 rfl rfl (pt_self hM) (Nat.le_of_ble_eq_true rfl) ?_
                        rw [pt_pt]
                        refine E_aload_n (pc' := 138) g104_137 rfl rfl ?_
                        refine E_iload (pc' := 140) g104_138 rfl rfl ?_
                        refine E_putf (pc' := 143) g104_140 f104_95 tg7_15 fn7_15 rfl rfl (pt_self hM) (Nat.le_of_ble_eq_true rfl) ?_
                        refine E_iload (pc' := 145) g104_143 rfl rfl ?_
                        exact E_iret g104_145 (ro104 (by omega)) rfl (by rw [pt_pt]; rfl))
                   · first
                     | (exfalso; omega)
                     | (exfalso; omega))
              · first
                | (exfalso; omega)
                | (refine E_iload (pc' := 104) g104_102 rfl rfl ?_
                   refine E_iload_n (pc' := 105) g104_104 rfl rfl ?_
                   refine E_iload_n (pc' := 106) g104_105 rfl rfl ?_
                   refine E_cS3i (pc' := 109) g104_106 k104_81 na97 rfl rfl (Nat.le_of_ble_eq_true rfl) M_in (by decide) ?_
                   refine E_ifeq (pc' := 112) (pt := 116) g104_109 rfl rfl (fun c7 => ?_) (fun c7 => ?_)
                   · first
                     | (exfalso; omega)
                     | (refine E_iconst (pc' := 117) g104_116 (by decide) rfl ?_
                        refine E_st6 (pc' := 119) g104_117 rfl ?_
                        refine E_aload_n (pc' := 120) g104_119 rfl rfl ?_
                        refine E_iload (pc' := 122) g104_120 rfl rfl ?_
                        refine E_ifeq (pc' := 125) (pt := 130) g104_122 rfl rfl (fun c8 => ?_) (fun c8 => ?_)
                        · first
                          | (exfalso; omega)
                          | (refine E_aload_n (pc' := 131) g104_130 rfl rfl ?_
                             refine E_getI (pc' := 134) g104_131 f104_88 tg7_14 (by decide) rfl (pt_self hM) rfl ?_
                             refine E_putf (pc' := 137) g104_134 f104_88 tg7_14 fn7_14 rfl rfl (pt_self hM) (Nat.le_of_ble_eq_true rfl) ?_
                             rw [pt_pt]
                             refine E_aload_n (pc' := 138) g104_137 rfl rfl ?_
                             refine E_iload (pc' := 140) g104_138 rfl rfl ?_
                             refine E_putf (pc' := 143) g104_140 f104_95 tg7_15 fn7_15 rfl rfl (pt_self hM) (Nat.le_of_ble_eq_true rfl) ?_
                             refine E_iload (pc' := 145) g104_143 rfl rfl ?_
                             exact E_iret g104_145 (ro104 (by omega)) rfl (by rw [pt_pt]; rfl))
                        · first
                          | (exfalso; omega)
                          | (exfalso; omega))
                   · first
                     | (exfalso; omega)
                     | (exfalso; omega))))
end MTK
