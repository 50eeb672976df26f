/-! trees of trials: pure -/
/-- what hangs at blocks 24 - m .. 23 -/
def gtl (g : Nat → List (List Int)) : Nat → List (List Int)
  | 0 => []
  | m + 1 => g (23 - m) ++ gtl g m
def qs (ok : List Int → Nat → Nat → Bool) (op : Nat → Bool) : Nat → Nat → List Int → List (List Int)
  | 0, _, T => [T]
  | f + 1, s, T => if op s = true then gtl (fun b => if ok T s b = true then qs ok op f (s + 1) (up T s b) else []) 24 else qs ok op f (s + 1) T
theorem gtl_mem {g : Nat → List (List Int)} {x : List Int} : ∀ {m : Nat}, m ≤ 24 → (x ∈ gtl g m ↔ ∃ b, 24 - m ≤ b ∧ b < 24 ∧ x ∈ g b)
  | 0, _ => by
    simp only [gtl, List.not_mem_nil, false_iff]
    rintro ⟨b, h1, h2, -⟩
    omega
  | m + 1, hm => by
    simp only [gtl, List.mem_append]
    rw [gtl_mem (by omega)]
    constructor
    · rintro (h | ⟨b, h1, h2, h3⟩)
      · exact ⟨23 - m, by omega, by omega, h⟩
      · exact ⟨b, by omega, h2, h3⟩
    · rintro ⟨b, h1, h2, h3⟩
      by_cases e : b = 23 - m
      · exact Or.inl (e ▸ h3)
      · exact Or.inr ⟨b, by omega, h2, h3⟩
theorem gtl_congr {g g' : Nat → List (List Int)} : ∀ {m : Nat}, m ≤ 24 → (∀ b, b < 24 → g b = g' b) → gtl g m = gtl g' m
  | 0, _, _ => rfl
  | m + 1, hm, h => by
    simp only [gtl]
    rw [h (23 - m) (by omega), gtl_congr (by omega) h]
theorem qs_open {ok : List Int → Nat → Nat → Bool} {op : Nat → Bool} {f s : Nat} {T x : List Int} (ho : op s = true) : x ∈ qs ok op (f + 1) s T ↔ ∃ b, b < 24 ∧ ok T s b = true ∧ x ∈ qs ok op f (s + 1) (up T s b) := by
  simp only [qs, if_pos ho]
  rw [gtl_mem (by omega)]
  constructor
  · rintro ⟨b, -, h2, h3⟩
    by_cases e : ok T s b = true
    · rw [if_pos e] at h3
      exact ⟨b, h2, e, h3⟩
    · rw [if_neg e] at h3
      exact absurd h3 (List.not_mem_nil)
  · rintro ⟨b, h1, h2, h3⟩
    exact ⟨b, by omega, h1, by rw [if_pos h2]; exact h3⟩
theorem qs_shut {ok : List Int → Nat → Nat → Bool} {op : Nat → Bool} {f s : Nat} {T : List Int} (ho : op s = false) : qs ok op (f + 1) s T = qs ok op f (s + 1) T := by
  simp only [qs, ho]
  rfl
theorem qs_sub {ok ok2 : List Int → Nat → Nat → Bool} {op : Nat → Bool} (h : ∀ T s b, ok T s b = true → ok2 T s b = true) {x : List Int} : ∀ {f s : Nat} {T : List Int}, x ∈ qs ok op f s T → x ∈ qs ok2 op f s T
  | 0, s, T, hx => hx
  | f + 1, s, T, hx => by
    cases ho : op s with
    | false => rw [qs_shut ho] at hx ⊢; exact qs_sub h hx
    | true =>
      rw [qs_open ho] at hx ⊢
      obtain ⟨b, h1, h2, h3⟩ := hx
      exact ⟨b, h1, h _ _ _ h2, qs_sub h h3⟩
theorem ix_upn {T : List Int} {s j : Nat} {b : Int} (hl : T.length = 6) (hs : s < 6) : ix (up T s b) j = if s = j then b else ix T j := by
  rw [ix_up (by omega) (by omega) (by omega)]
  by_cases e : s = j
  · rw [if_pos e, if_pos (by omega)]
  · rw [if_neg e, if_neg (by omega)]
/-- places that a tree leaves as they are -/
theorem qs_keep {ok : List Int → Nat → Nat → Bool} {op : Nat → Bool} {x : List Int} {j : Nat} : ∀ {f s : Nat} {T : List Int}, T.length = 6 → s + f ≤ 6 → x ∈ qs ok op f s T → (j < s ∨ op j = false) → ix x j = ix T j
  | 0, s, T, _, _, hx, _ => by
    simp only [qs, List.mem_singleton] at hx
    rw [hx]
  | f + 1, s, T, hl, hs, hx, hj => by
    cases ho : op s with
    | false => rw [qs_shut ho] at hx; exact qs_keep hl (by omega) hx (hj.imp (by omega) id)
    | true =>
      rw [qs_open ho] at hx
      obtain ⟨b, h1, h2, h3⟩ := hx
      have := qs_keep (by rw [up_len]; exact hl) (by omega) h3 (hj.imp (by omega) id)
      rw [this, ix_upn hl (by omega), if_neg]
      rintro rfl
      rcases hj with hj | hj
      · omega
      · rw [ho] at hj; cases hj
theorem qs_len {ok : List Int → Nat → Nat → Bool} {op : Nat → Bool} {x : List Int} : ∀ {f s : Nat} {T : List Int}, T.length = 6 → x ∈ qs ok op f s T → x.length = 6
  | 0, s, T, hl, hx => by
    simp only [qs, List.mem_singleton] at hx
    rw [hx, hl]
  | f + 1, s, T, hl, hx => by
    cases ho : op s with
    | false => rw [qs_shut ho] at hx; exact qs_len hl hx
    | true =>
      rw [qs_open ho] at hx
      obtain ⟨b, h1, h2, h3⟩ := hx
      exact qs_len (by rw [up_len]; exact hl) h3
/-- one block in one square left out -/
theorem qs_but {ok ok2 : List Int → Nat → Nat → Bool} {op : Nat → Bool} {s0 : Nat} {b0 : Int} (h : ∀ T s b, ok2 T s b = true ↔ (ok T s b = true ∧ ¬ (s = s0 ∧ (b : Int) = b0))) (ho0 : op s0 = true) {x : List Int} : ∀ {f s : Nat} {T : List Int}, T.length = 6 → s + f ≤ 6 → (s0 < s + f) → (x ∈ qs ok2 op f s T ↔ (x ∈ qs ok op f s T ∧ (s ≤ s0 → ¬ ix x s0 = b0)))
  | 0, s, T, hl, hs, h0 => by
    simp only [qs, List.mem_singleton]
    exact ⟨fun q => ⟨q, fun z => absurd z (by omega)⟩, fun q => q.1⟩
  | f + 1, s, T, hl, hs, h0 => by
    cases ho : op s with
    | false =>
      rw [qs_shut ho, qs_shut ho, qs_but h ho0 hl (by omega) (by omega)]
      have hne : s ≠ s0 := by rintro rfl; rw [ho] at ho0; cases ho0
      exact ⟨fun q => ⟨q.1, fun z => q.2 (by omega)⟩, fun q => ⟨q.1, fun z => q.2 (by omega)⟩⟩
    | true =>
      rw [qs_open ho, qs_open ho]
      constructor
      · rintro ⟨b, h1, h2, h3⟩
        rw [h] at h2
        rw [qs_but h ho0 (by rw [up_len]; exact hl) (by omega) (by omega)] at h3
        refine ⟨⟨b, h1, h2.1, h3.1⟩, fun z => ?_⟩
        by_cases e : s = s0
        · have := qs_keep (j := s0) (by rw [up_len]; exact hl) (by omega) h3.1 (Or.inl (by omega))
          rw [this, ix_upn hl (by omega), if_pos e]
          exact fun q => h2.2 ⟨e, q⟩
        · exact h3.2 (by omega)
      · rintro ⟨⟨b, h1, h2, h3⟩, h4⟩
        refine ⟨b, h1, (h _ _ _).mpr ⟨h2, ?_⟩, ?_⟩
        · rintro ⟨e, q⟩
          have := qs_keep (j := s0) (by rw [up_len]; exact hl) (by omega) h3 (Or.inl (by omega))
          rw [ix_upn hl (by omega), if_pos e] at this
          exact h4 (by omega) (by rw [this, q])
        · rw [qs_but h ho0 (by rw [up_len]; exact hl) (by omega) (by omega)]
          exact ⟨h3, fun z => h4 (by omega)⟩
/-- two trees with the same leaves, one of them cut back -/
theorem qs_eq {ok ok2 : List Int → Nat → Nat → Bool} {op : Nat → Bool} {n : Nat} (J : Nat → List Int → Prop) (hst : ∀ s T b, s < n → b < 24 → J s T → op s = true → ok2 T s b = true → J (s + 1) (up T s b)) (hsk : ∀ s T, s < n → J s T → op s = false → J (s + 1) T)
    (h12 : ∀ s T b, s < n → b < 24 → J s T → op s = true → ok T s b = true → ok2 T s b = true) (h21 : ∀ s T b x, s < n → b < 24 → J s T → op s = true → ok2 T s b = true → x ∈ qs ok2 op (n - (s + 1)) (s + 1) (up T s b) → ok T s b = true) : ∀ {f s : Nat} {T : List Int}, s + f = n → J s T → qs ok op f s T = qs ok2 op f s T
  | 0, s, T, _, _ => rfl
  | f + 1, s, T, hf, hJ => by
    cases ho : op s with
    | false => rw [qs_shut ho, qs_shut ho]; exact qs_eq J hst hsk h12 h21 (by omega) (hsk s T (by omega) hJ ho)
    | true =>
      simp only [qs, if_pos ho]
      refine gtl_congr (by omega) (fun b hb => ?_)
      by_cases e2 : ok2 T s b = true
      · rw [if_pos e2]
        have hJ2 := hst s T b (by omega) hb hJ ho e2
        have ih := qs_eq J hst hsk h12 h21 (f := f) (s := s + 1) (T := up T s b) (by omega) hJ2
        by_cases e1 : ok T s b = true
        · rw [if_pos e1, ih]
        · rw [if_neg e1]
          cases hq : qs ok2 op f (s + 1) (up T s b) with
          | nil => rfl
          | cons x xs => exact absurd (h21 s T b x (by omega) hb hJ ho e2 (by rw [show n - (s + 1) = f by omega, hq]; exact List.mem_cons_self)) e1
      · rw [if_neg e2, if_neg (fun e1 => e2 (h12 s T b (by omega) hb hJ ho e1))]
/-- counting and one place anew -/
theorem cn_upd {Q : Int → Bool} {T : List Int} {s : Nat} {b : Int} (hl : T.length = 6) (hs : s < 6) (h9 : Q (ix T s) = false) : ∀ n : Nat, cn (fun j => Q (ix (up T s b) j)) n = cn (fun j => Q (ix T j)) n + (if s < n ∧ Q b = true then 1 else 0)
  | 0 => by simp [cn]
  | n + 1 => by
    have e0 := ix_upn (j := n) (b := b) hl hs
    simp only [cn]
    rw [cn_upd hl hs h9 n]
    by_cases e : s = n
    · subst e
      rw [if_pos rfl] at e0
      simp only [e0, h9]
      cases Q b <;> simp
    · rw [if_neg e] at e0
      simp only [e0]
      by_cases e2 : s < n
      · have : s < n + 1 := by omega
        simp only [e2, this, true_and]
        omega
      · have : ¬ s < n + 1 := by omega
        simp [e2, this]
def bsC (w g s h : Nat) : Bool := (decide (bsd ((w + 1 : Nat) : Int) ((g + 1 : Nat) : Int) (s : Int) (h : Int) = -9)) || (decide (bsd ((w + 1 : Nat) : Int) ((g + 1 : Nat) : Int) (bsd ((w + 1 : Nat) : Int) ((g + 1 : Nat) : Int) (s : Int) (h : Int)) (((h + 2) % 4 : Nat) : Int) = (s : Int)) && decide (¬ bsd ((w + 1 : Nat) : Int) ((g + 1 : Nat) : Int) (s : Int) (h : Int) = (s : Int)) && (decide (h = 1 ∨ h = 2) || decide (bsd ((w + 1 : Nat) : Int) ((g + 1 : Nat) : Int) (s : Int) (h : Int) < (s : Int))) && (decide (h = 0 ∨ h = 3) || decide ((s : Int) < bsd ((w + 1 : Nat) : Int) ((g + 1 : Nat) : Int) (s : Int) (h : Int))))
theorem bsC_all : (List.range 3).all (fun w => (List.range 2).all (fun g => (List.range ((w + 1) * (g + 1))).all (fun s => (List.range 4).all (fun h => bsC w g s h)))) = true := by decide +kernel
theorem bs_sym {wd ht : Int} {s h : Nat} (h1 : 1 ≤ wd ∧ wd ≤ 3) (h2 : 1 ≤ ht ∧ ht ≤ 2) (hs : (s : Int) < wd * ht) (hh : h < 4) (h0 : ¬ bsd wd ht s h = -9) : bsd wd ht (bsd wd ht s h) (((h + 2) % 4 : Nat) : Int) = s ∧ ¬ bsd wd ht s h = s ∧ (¬ (h = 1 ∨ h = 2) → bsd wd ht s h < s) ∧ (¬ (h = 0 ∨ h = 3) → (s : Int) < bsd wd ht s h) := by
  obtain ⟨w, rfl⟩ : ∃ w : Nat, wd = ((w + 1 : Nat) : Int) := ⟨(wd - 1).toNat, by omega⟩
  obtain ⟨g, rfl⟩ : ∃ g : Nat, ht = ((g + 1 : Nat) : Int) := ⟨(ht - 1).toNat, by omega⟩
  have hn : s < (w + 1) * (g + 1) := by
    rw [← Int.natCast_mul] at hs
    omega
  have h3 := List.all_eq_true.mp (List.all_eq_true.mp (List.all_eq_true.mp (List.all_eq_true.mp bsC_all w (List.mem_range.mpr (by omega))) g (List.mem_range.mpr (by omega))) s (List.mem_range.mpr hn)) h (List.mem_range.mpr hh)
  simp only [bsC, Bool.and_eq_true, Bool.or_eq_true, decide_eq_true_eq] at h3
  rcases h3 with h3 | ⟨⟨⟨a1, a2⟩, a3⟩, a4⟩
  · exact absurd h3 h0
  · exact ⟨a1, a2, fun z => a3.resolve_left z, fun z => a4.resolve_left z⟩
theorem tm2 {h : Nat} (hh : h < 4) : ((h : Int) + 2).tmod 4 = (((h + 2) % 4 : Nat) : Int) := by
  have : h = 0 ∨ h = 1 ∨ h = 2 ∨ h = 3 := by omega
  rcases this with rfl | rfl | rfl | rfl <;> rfl
theorem tm22 {h : Nat} (hh : h < 4) : ((((h + 2) % 4 : Nat) : Int) + 2).tmod 4 = (h : Int) := by
  have : h = 0 ∨ h = 1 ∨ h = 2 ∨ h = 3 := by omega
  rcases this with rfl | rfl | rfl | rfl <;> rfl
