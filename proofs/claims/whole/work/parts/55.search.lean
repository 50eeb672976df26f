/-! the model's search, purely: what is still to come -/
def PP (bl : List Int) (n : Nat) (tr : List Int) : Nat → List Int
  | 0 => bl
  | s + 1 => if opn bl n s = true then up (PP bl n tr s) s (ix tr (cn (opn bl n) s)) else PP bl n tr s
def gg (ok : List Int → Nat → Nat → Bool) (bl : List Int) (n : Nat) (T : List Int) (s b : Nat) : List (List Int) := if ok T s b = true then qs ok (opn bl n) (n - (s + 1)) (s + 1) (up T s b) else []
def rmn (ok : List Int → Nat → Nat → Bool) (bl : List Int) (n : Nat) (tr : List Int) : Nat → List (List Int)
  | 0 => []
  | s + 1 => if opn bl n s = true then gtl (gg ok bl n (PP bl n tr s) s) (24 - (ix tr (cn (opn bl n) s) + 1).toNat) ++ rmn ok bl n tr s else rmn ok bl n tr s
def mu (tr : List Int) : Nat → Nat
  | 0 => 0
  | d + 1 => mu tr d + (24 - ix tr d).toNat * 32 ^ (8 - d)
section SE
variable {ok : List Int → Nat → Nat → Bool} {bl tr tr2 T : List Int} {n : Nat}
theorem PP_congr : ∀ {s : Nat}, (∀ j : Nat, (j : Int) < cn (opn bl n) s → ix tr j = ix tr2 j) → PP bl n tr s = PP bl n tr2 s
  | 0, _ => rfl
  | s + 1, h => by
    simp only [PP]
    have hb := cn_bd (opn bl n) s
    by_cases e : opn bl n s = true
    · rw [cn_t e] at h
      obtain ⟨c, hc⟩ : ∃ c : Nat, (c : Int) = cn (opn bl n) s := ⟨(cn (opn bl n) s).toNat, by omega⟩
      rw [if_pos e, if_pos e, PP_congr (fun j hj => h j (by omega)), ← hc, h c (by omega)]
    · rw [if_neg e, if_neg e]
      exact PP_congr (fun j hj => h j (by rw [cn_f (by simpa using e)]; exact hj))
theorem rmn_congr : ∀ {s : Nat}, (∀ j : Nat, (j : Int) < cn (opn bl n) s → ix tr j = ix tr2 j) → rmn ok bl n tr s = rmn ok bl n tr2 s
  | 0, _ => rfl
  | s + 1, h => by
    simp only [rmn]
    have hb := cn_bd (opn bl n) s
    by_cases e : opn bl n s = true
    · rw [cn_t e] at h
      obtain ⟨c, hc⟩ : ∃ c : Nat, (c : Int) = cn (opn bl n) s := ⟨(cn (opn bl n) s).toNat, by omega⟩
      rw [if_pos e, if_pos e, rmn_congr (fun j hj => h j (by omega)), PP_congr (fun j hj => h j (by omega)), ← hc, h c (by omega)]
    · rw [if_neg e, if_neg e]
      exact rmn_congr (fun j hj => h j (by rw [cn_f (by simpa using e)]; exact hj))
theorem skip_all {s : Nat} : ∀ {k : Nat}, (∀ j, s ≤ j → j < s + k → opn bl n j = false) → rmn ok bl n tr (s + k) = rmn ok bl n tr s ∧ PP bl n tr (s + k) = PP bl n tr s ∧ cn (opn bl n) (s + k) = cn (opn bl n) s
  | 0, _ => ⟨rfl, rfl, rfl⟩
  | k + 1, h => by
    have ih := skip_all (k := k) (fun j h1 h2 => h j h1 (by omega))
    have e := h (s + k) (by omega) (by omega)
    rw [show s + (k + 1) = (s + k) + 1 by omega]
    simp only [rmn, PP, cn, e]
    exact ⟨ih.1, ih.2.1, by simp [ih.2.2]⟩
theorem qs_skip {s : Nat} : ∀ {k : Nat}, s + k ≤ n → (∀ j, s ≤ j → j < s + k → opn bl n j = false) → qs ok (opn bl n) (n - s) s T = qs ok (opn bl n) (n - (s + k)) (s + k) T
  | 0, _, _ => rfl
  | k + 1, hk, h => by
    rw [qs_skip (k := k) (by omega) (fun j h1 h2 => h j h1 (by omega)), show n - (s + k) = (n - (s + (k + 1))) + 1 by omega, qs_shut (h (s + k) (by omega) (by omega))]
    rfl
theorem PP_len (hl : bl.length = 6) : ∀ s : Nat, (PP bl n tr s).length = 6
  | 0 => hl
  | s + 1 => by
    simp only [PP]
    split
    · rw [up_len]; exact PP_len hl s
    · exact PP_len hl s
theorem PP_hi (hl : bl.length = 6) (hn : n ≤ 6) {j : Nat} : ∀ {s : Nat}, s ≤ j → ix (PP bl n tr s) j = ix bl j
  | 0, _ => rfl
  | s + 1, h => by
    simp only [PP]
    split
    · rename_i e
      rw [ix_upn (PP_len hl s) (by have := (opn_t.mp e).1; omega), if_neg (by omega)]
      exact PP_hi hl hn (by omega)
    · exact PP_hi hl hn (by omega)
theorem gtl_jump {g : Nat → List (List Int)} {c : Nat} : ∀ {k : Nat}, c + k ≤ 24 → (∀ x, c ≤ x → x < c + k → g x = []) → gtl g (24 - c) = gtl g (24 - (c + k))
  | 0, _, _ => rfl
  | k + 1, hk, h => by
    rw [gtl_jump (k := k) (by omega) (fun x h1 h2 => h x h1 (by omega)), show 24 - (c + k) = (24 - (c + (k + 1))) + 1 by omega]
    simp only [gtl]
    rw [show 23 - (24 - (c + (k + 1))) = c + k by omega, h (c + k) (by omega) (by omega), List.nil_append]
theorem gtl_at {g : Nat → List (List Int)} {b : Nat} (hb : b < 24) : gtl g (24 - b) = g b ++ gtl g (24 - (b + 1)) := by
  rw [show 24 - b = (24 - (b + 1)) + 1 by omega]
  simp only [gtl]
  rw [show 23 - (24 - (b + 1)) = b by omega]
theorem gg_all {s : Nat} (ho : opn bl n s = true) : gtl (gg ok bl n T s) 24 = qs ok (opn bl n) (n - s) s T := by
  have hs := (opn_t.mp ho).1
  rw [show n - s = (n - (s + 1)) + 1 by omega]
  simp only [qs, if_pos ho]
  rfl
theorem mu_congr : ∀ {d : Nat}, (∀ j : Nat, j < d → ix tr j = ix tr2 j) → mu tr d = mu tr2 d
  | 0, _ => rfl
  | d + 1, h => by
    simp only [mu]
    rw [mu_congr (fun j hj => h j (by omega)), h d (by omega)]
/-- the next open square -/
theorem next_open : ∀ {k s : Nat}, s + k = n → ((∀ j, s ≤ j → j < n → opn bl n j = false) ∨ ∃ q, s ≤ q ∧ q < n ∧ opn bl n q = true ∧ ∀ j, s ≤ j → j < q → opn bl n j = false)
  | 0, s, h => Or.inl (fun j h1 h2 => absurd h2 (by omega))
  | k + 1, s, h => by
    cases e : opn bl n s with
    | true => exact Or.inr ⟨s, Nat.le_refl _, by omega, e, fun j h1 h2 => absurd h2 (by omega)⟩
    | false =>
      rcases next_open (k := k) (s := s + 1) (by omega) with z | ⟨q, q1, q2, q3, q4⟩
      · refine Or.inl (fun j h1 h2 => ?_)
        by_cases e2 : j = s
        · rw [e2]; exact e
        · exact z j (by omega) h2
      · refine Or.inr ⟨q, by omega, q2, q3, fun j h1 h2 => ?_⟩
        by_cases e2 : j = s
        · rw [e2]; exact e
        · exact q4 j (by omega) h2
/-- the open square before -/
theorem prev_open : ∀ {s : Nat}, s ≤ n → ((∀ j, j < s → opn bl n j = false) ∨ ∃ q, q < s ∧ opn bl n q = true ∧ ∀ j, q < j → j < s → opn bl n j = false)
  | 0, _ => Or.inl (fun j h => absurd h (by omega))
  | s + 1, h => by
    cases e : opn bl n s with
    | true => exact Or.inr ⟨s, by omega, e, fun j h1 h2 => absurd h2 (by omega)⟩
    | false =>
      rcases prev_open (s := s) (by omega) with z | ⟨q, q1, q3, q4⟩
      · refine Or.inl (fun j h2 => ?_)
        by_cases e2 : j = s
        · rw [e2]; exact e
        · exact z j (by omega)
      · refine Or.inr ⟨q, by omega, q3, fun j h1 h2 => ?_⟩
        by_cases e2 : j = s
        · rw [e2]; exact e
        · exact q4 j h1 (by omega)
/-- back from a square -/
theorem pop_rem {s : Nat} (hs : s ≤ n) : ((∀ j, j < s → opn bl n j = false) ∧ cn (opn bl n) s = 0 ∧ rmn ok bl n tr s = []) ∨ ∃ q, q < s ∧ opn bl n q = true ∧ cn (opn bl n) q + 1 = cn (opn bl n) s ∧ rmn ok bl n tr s = rmn ok bl n tr (q + 1) ∧ PP bl n tr s = PP bl n tr (q + 1) := by
  rcases prev_open (bl := bl) hs with z | ⟨q, q1, q3, q4⟩
  · have := skip_all (ok := ok) (tr := tr) (s := 0) (k := s) (fun j _ h2 => z j (by omega))
    rw [Nat.zero_add] at this
    exact Or.inl ⟨z, this.2.2, this.1⟩
  · have := skip_all (ok := ok) (tr := tr) (s := q + 1) (k := s - (q + 1)) (fun j h1 h2 => q4 j (by omega) (by omega))
    rw [show q + 1 + (s - (q + 1)) = s by omega] at this
    refine Or.inr ⟨q, q1, q3, ?_, this.1, this.2.1⟩
    rw [this.2.2, cn_t q3]
end SE
