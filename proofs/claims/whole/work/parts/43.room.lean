/-! the room in all -/
def sm (f : Nat → Int) : Nat → Int
  | 0 => 0
  | n + 1 => sm f n + f n
theorem sm_le {f g : Nat → Int} : ∀ {n : Nat}, (∀ k, k < n → f k ≤ g k) → sm f n ≤ sm g n
  | 0, _ => Int.le_refl _
  | n + 1, h => by
    have h1 := sm_le (n := n) (fun k hk => h k (by omega))
    have h2 := h n (by omega)
    simp only [sm]
    omega
theorem sm_add {f g : Nat → Int} : ∀ {n : Nat}, sm (fun k => f k + g k) n = sm f n + sm g n
  | 0 => rfl
  | n + 1 => by
    simp only [sm]
    rw [sm_add (n := n)]
    omega
theorem sm_sub {f g : Nat → Int} : ∀ {n : Nat}, sm (fun k => f k - g k) n = sm f n - sm g n
  | 0 => rfl
  | n + 1 => by
    simp only [sm]
    rw [sm_sub (n := n)]
    omega
theorem sm_congr {f g : Nat → Int} : ∀ {n : Nat}, (∀ k, k < n → f k = g k) → sm f n = sm g n
  | 0, _ => rfl
  | n + 1, h => by
    simp only [sm]
    rw [sm_congr (fun k hk => h k (by omega)), h n (by omega)]
theorem sm_zero {f : Nat → Int} : ∀ {n : Nat}, (∀ k, k < n → f k = 0) → sm f n = 0
  | 0, _ => rfl
  | n + 1, h => by
    simp only [sm]
    rw [sm_zero (fun k hk => h k (by omega)), h n (by omega)]
    rfl
theorem sm_one {v : Int} {c : Int} : ∀ {n : Nat}, 0 ≤ v → sm (fun k => if v = (k : Int) then c else 0) n = if v < n then c else 0
  | 0, hv => by rw [if_neg (by omega)]; rfl
  | n + 1, hv => by
    simp only [sm]
    rw [sm_one hv]
    by_cases e : v = (n : Int)
    · rw [if_neg (by omega), if_pos e, if_pos (by omega)]; omega
    · rw [if_neg e]
      by_cases e2 : v < n
      · rw [if_pos e2, if_pos (by omega)]; omega
      · rw [if_neg e2, if_neg (by omega)]; omega
/-- counted kind by kind -/
theorem sm_cn {p : Nat → Bool} {f : Nat → Int} {g : Int → Bool} {m : Nat} : ∀ {n : Nat}, (∀ s, s < n → p s = true → 0 ≤ f s ∧ f s < m) → sm (fun k => if g k = true then cn (fun s => p s && decide (f s = (k : Int))) n else 0) m = cn (fun s => p s && g (f s)) n
  | 0, _ => sm_zero (fun k _ => by simp only [cn]; split <;> rfl)
  | n + 1, h => by
    have ih := sm_cn (p := p) (f := f) (g := g) (m := m) (n := n) (fun s hs => h s (by omega))
    simp only [cn]
    rw [← ih]
    have e : ∀ k : Nat, (if g k = true then cn (fun s => p s && decide (f s = (k : Int))) n + (if (p n && decide (f n = (k : Int))) = true then 1 else 0) else 0) = (if g k = true then cn (fun s => p s && decide (f s = (k : Int))) n else 0) + (if f n = (k : Int) then (if (p n && g (f n)) = true then 1 else 0) else 0) := by
      intro k
      by_cases e : f n = (k : Int)
      · rw [if_pos e, e]
        cases g k <;> cases p n <;> simp
      · rw [if_neg e]
        cases g k <;> simp [e]
    rw [sm_congr (fun k _ => e k), sm_add]
    congr 1
    by_cases hp : p n = true
    · have hf := h n (by omega) hp
      rw [sm_one hf.1, if_pos hf.2]
    · rw [sm_zero (fun k _ => by simp [hp])]
      simp [hp]
theorem cn_sum {p q r : Nat → Bool} : ∀ {n : Nat}, (∀ j, j < n → (if p j = true then (1 : Int) else 0) = (if q j = true then 1 else 0) + (if r j = true then 1 else 0)) → cn p n = cn q n + cn r n
  | 0, _ => rfl
  | n + 1, h => by
    simp only [cn]
    rw [cn_sum (fun j hj => h j (by omega)), h n (by omega)]
    omega
/-- room for a hue; in all -/
def hroom (bl sl hu : List Int) (mo : Int) (n : Nat) (h : Nat) : Int := max (min (sm (fun k => if ix hu k = (h : Int) then max (ix sl k - nK bl k 6) 0 else 0) n) (mo - nH bl hu h 6)) 0
section RO
variable {bl sl ed hu x : List Int} {kd wd ht rm mo bs bu : Int} {n : Nat}
theorem nH_sum {T : List Int} (hT : ∀ j : Nat, j < 6 → 0 ≤ ix T j → ix T j < kd * 4) (hk : 0 ≤ kd) (w : Int) : nH T hu w 6 = sm (fun k => if ix hu k = w then nK T k 6 else 0) kd.toNat := by
  have := sm_cn (p := fun s => decide (0 ≤ ix T s)) (f := fun s => (ix T s).tdiv 4) (g := fun v => decide (ix hu v = w)) (m := kd.toNat) (n := 6) (fun s hs hp => by
    have hp := of_decide_eq_true hp
    have := td4k hp (hT s hs hp)
    omega)
  have e1 : nH T hu w 6 = cn (fun s => decide (0 ≤ ix T s) && decide (ix hu ((ix T s).tdiv 4) = w)) 6 := cn_congr (fun i _ => by simp)
  rw [e1, ← this]
  refine sm_congr (fun k _ => ?_)
  have e2 : nK T k 6 = cn (fun s => decide (0 ≤ ix T s) && decide ((ix T s).tdiv 4 = (k : Int))) 6 := cn_congr (fun i _ => by simp)
  rw [e2]
  by_cases e : ix hu k = w
  · rw [if_pos e, if_pos (decide_eq_true e)]
  · rw [if_neg e, if_neg (by simpa using e)]
theorem nH_all {T : List Int} (hb : bet hu 0 5) : sm (fun h => nH T hu h 6) 6 = cn (fun s => decide (0 ≤ ix T s)) 6 := by
  have := sm_cn (p := fun s => decide (0 ≤ ix T s)) (f := fun s => ix hu ((ix T s).tdiv 4)) (g := fun _ => true) (m := 6) (n := 6) (fun s hs hp => by
    have := hb ((ix T s).tdiv 4)
    omega)
  simp only [Bool.and_true] at this
  rw [← this]
  refine sm_congr (fun k _ => ?_)
  rw [if_pos trivial]
  exact cn_congr (fun i _ => by simp)
theorem room_ok (hw : 1 ≤ wd ∧ wd ≤ 3) (hh : 1 ≤ ht ∧ ht ≤ 2) (hn : (n : Int) = wd * ht) (hl : bl.length = 6) (hk : 0 ≤ kd) (hb : bet hu 0 5) (hB : ∀ j : Nat, j < 6 → ix bl j = -9 ∨ (0 ≤ ix bl j ∧ ix bl j < kd * 4)) (hx : x ∈ qts bl sl ed hu kd wd ht rm mo bs bu n) : cn (opn bl n) 6 ≤ sm (hroom bl sl hu mo kd.toNat) 6 := by
  have hJ := leaf_J hw hh hn (by omega) (JJ_0 hl) hx
  obtain ⟨j1, j2, j3, j4, j5, j6, j7⟩ := hJ
  have hX : ∀ j : Nat, j < 6 → 0 ≤ ix x j → ix x j < kd * 4 := by
    intro j hj h0
    cases ho : opn bl n j with
    | true => exact (j4 j (opn_t.mp ho).1 ho).1.2
    | false =>
      by_cases e : ix bl j = -9
      · have : n ≤ j := by
          rcases Nat.lt_or_ge j n with q | q
          · rw [opn_t.mpr ⟨q, e⟩] at ho; cases ho
          · exact q
        have := j2 j this hj
        omega
      · rw [j3 j hj e]; have := hB j hj; omega
  have e1 : cn (fun s => decide (0 ≤ ix x s)) 6 = cn (fun s => decide (0 ≤ ix bl s)) 6 + cn (opn bl n) 6 := by
    refine cn_sum (fun j hj => ?_)
    cases ho : opn bl n j with
    | true =>
      have h1 := (j4 j (opn_t.mp ho).1 ho).1.1
      have h2 := (opn_t.mp ho).2
      simp [h1, h2]
    | false =>
      have : ix x j = ix bl j := by
        by_cases e : ix bl j = -9
        · have : n ≤ j := by
            rcases Nat.lt_or_ge j n with q | q
            · rw [opn_t.mpr ⟨q, e⟩] at ho; cases ho
            · exact q
          exact j2 j this hj
        · exact j3 j hj e
      simp [this]
  have e2 : cn (opn bl n) 6 = sm (fun h => nH x hu h 6 - nH bl hu h 6) 6 := by
    rw [sm_sub, nH_all hb, nH_all hb, e1]
    omega
  rw [e2]
  refine sm_le (fun h _ => ?_)
  have h7 := j7 h
  have h8 : nH x hu h 6 - nH bl hu h 6 ≤ sm (fun k => if ix hu k = (h : Int) then max (ix sl k - nK bl k 6) 0 else 0) kd.toNat := by
    rw [nH_sum hX hk, nH_sum (fun j hj h0 => by have := hB j hj; omega) hk, ← sm_sub]
    refine sm_le (fun k _ => ?_)
    have h6 := j6 k
    by_cases e : ix hu k = (h : Int)
    · rw [if_pos e, if_pos e, if_pos e]; omega
    · rw [if_neg e, if_neg e, if_neg e]; omega
  unfold hroom
  omega
end RO
