/-! cloth, purely: tables of rectangles -/
abbrev cV : Type := Int × Int × Int × Int × Int
/-- a cut tried -/
def cst (v : cV) (how : Int) (p q : cV) : cV := if v.1 < p.1 + q.1 then (p.1 + q.1, how, p.2.2.1 + q.2.2.1, p.2.2.2.1 + q.2.2.2.1, p.2.2.2.2 + q.2.2.2.2) else v
/-- what a rectangle begins with: w is the piece that it is -/
def cini (w a b : Int) : cV := if w = -9 then (0, 0, 0, 0, 0) else (a * b, 1 + w, if w = 0 then 1 else 0, if w = 1 then 1 else 0, if w = 2 then 1 else 0)
def csX (t : Int → cV) (a b : Int) (v : cV) : Nat → cV
  | 0 => v
  | i + 1 => cst (csX t a b v i) (100 + ((i : Int) + 1)) (t (25 * ((i : Int) + 1) + b)) (t (25 * (a - ((i : Int) + 1)) + b))
def csY (t : Int → cV) (a b : Int) (v : cV) : Nat → cV
  | 0 => v
  | i + 1 => cst (csY t a b v i) (200 + ((i : Int) + 1)) (t (25 * a + ((i : Int) + 1))) (t (25 * a + (b - ((i : Int) + 1))))
def cval (t : Int → cV) (w a b : Int) (m1 m2 : Nat) : cV := if w = -9 then csY t a b (csX t a b (cini w a b) m1) m2 else cini w a b
def vb (v : cV) (A : Int) : Prop := (0 ≤ v.1 ∧ v.1 ≤ A) ∧ (0 ≤ v.2.2.1 ∧ v.2.2.1 ≤ A) ∧ (0 ≤ v.2.2.2.1 ∧ v.2.2.2.1 ≤ A) ∧ (0 ≤ v.2.2.2.2 ∧ v.2.2.2.2 ≤ A)
/-- the rectangles before one -/
def lex (A B a b : Int) : Prop := a < A ∨ (a = A ∧ b < B)
def okt (w : Int → Int → Int) (t : Int → cV) (A B : Int) : Prop := ∀ a b : Nat, 1 ≤ a → a ≤ 24 → 1 ≤ b → b ≤ 24 → lex A B a b → t (25 * (a : Int) + b) = cval t (w a b) a b (a - 1) (b - 1)
section CP
variable {t t2 : Int → cV} {a b : Nat} {v p q : cV} {w : Int → Int → Int} {how : Int}
theorem cst_1 : v.1 ≤ (cst v how p q).1 ∧ p.1 + q.1 ≤ (cst v how p q).1 := by
  unfold cst
  split
  · exact ⟨by omega, Int.le_refl _⟩
  · exact ⟨Int.le_refl _, by omega⟩
theorem cst_no (h : p.1 + q.1 ≤ v.1) : cst v how p q = v := by
  unfold cst
  rw [if_neg (by omega)]
theorem csX_max : ∀ {i : Nat}, v.1 ≤ (csX t a b v i).1 ∧ ∀ x : Nat, 1 ≤ x → x ≤ i → (t (25 * (x : Int) + b)).1 + (t (25 * ((a : Int) - x) + b)).1 ≤ (csX t a b v i).1
  | 0 => ⟨Int.le_refl _, fun x h1 h2 => absurd h2 (by omega)⟩
  | i + 1 => by
    obtain ⟨h1, h2⟩ := csX_max (i := i)
    have hc := cst_1 (v := csX t a b v i) (how := 100 + ((i : Int) + 1)) (p := t (25 * ((i : Int) + 1) + b)) (q := t (25 * ((a : Int) - ((i : Int) + 1)) + b))
    simp only [csX]
    refine ⟨by omega, fun x h3 h4 => ?_⟩
    by_cases e : x = i + 1
    · rw [e]
      exact hc.2
    · have := h2 x h3 (by omega)
      omega
theorem csY_max : ∀ {i : Nat}, v.1 ≤ (csY t a b v i).1 ∧ ∀ x : Nat, 1 ≤ x → x ≤ i → (t (25 * (a : Int) + x)).1 + (t (25 * (a : Int) + ((b : Int) - x))).1 ≤ (csY t a b v i).1
  | 0 => ⟨Int.le_refl _, fun x h1 h2 => absurd h2 (by omega)⟩
  | i + 1 => by
    obtain ⟨h1, h2⟩ := csY_max (i := i)
    have hc := cst_1 (v := csY t a b v i) (how := 200 + ((i : Int) + 1)) (p := t (25 * (a : Int) + ((i : Int) + 1))) (q := t (25 * (a : Int) + ((b : Int) - ((i : Int) + 1))))
    simp only [csY]
    refine ⟨by omega, fun x h3 h4 => ?_⟩
    by_cases e : x = i + 1
    · rw [e]
      exact hc.2
    · have := h2 x h3 (by omega)
      omega
/-- beyond the half there is nothing new -/
theorem csX_half (ha : 1 ≤ a) : ∀ {k : Nat}, a / 2 + k ≤ a - 1 → csX t a b v (a / 2 + k) = csX t a b v (a / 2)
  | 0, _ => rfl
  | k + 1, h => by
    have ih := csX_half ha (k := k) (by omega)
    rw [← ih, show a / 2 + (k + 1) = (a / 2 + k) + 1 by omega]
    simp only [csX]
    apply cst_no
    have hm := (csX_max (t := t) (a := a) (b := b) (v := v) (i := a / 2 + k)).2 (a - (a / 2 + k + 1)) (by omega) (by omega)
    rw [show ((a - (a / 2 + k + 1) : Nat) : Int) = (a : Int) - (((a / 2 + k : Nat) : Int) + 1) by omega, show (a : Int) - ((a : Int) - (((a / 2 + k : Nat) : Int) + 1)) = ((a / 2 + k : Nat) : Int) + 1 by omega] at hm
    omega
theorem csY_half (hb : 1 ≤ b) : ∀ {k : Nat}, b / 2 + k ≤ b - 1 → csY t a b v (b / 2 + k) = csY t a b v (b / 2)
  | 0, _ => rfl
  | k + 1, h => by
    have ih := csY_half hb (k := k) (by omega)
    rw [← ih, show b / 2 + (k + 1) = (b / 2 + k) + 1 by omega]
    simp only [csY]
    apply cst_no
    have hm := (csY_max (t := t) (a := a) (b := b) (v := v) (i := b / 2 + k)).2 (b - (b / 2 + k + 1)) (by omega) (by omega)
    rw [show ((b - (b / 2 + k + 1) : Nat) : Int) = (b : Int) - (((b / 2 + k : Nat) : Int) + 1) by omega, show (b : Int) - ((b : Int) - (((b / 2 + k : Nat) : Int) + 1)) = ((b / 2 + k : Nat) : Int) + 1 by omega] at hm
    omega
theorem cval_half {wv : Int} (ha : 1 ≤ a) (hb : 1 ≤ b) : cval t wv a b (a / 2) (b / 2) = cval t wv a b (a - 1) (b - 1) := by
  unfold cval
  split
  · by_cases e1 : a = 1
    · subst e1
      by_cases e2 : b = 1
      · subst e2; rfl
      · have h2 := csY_half (t := t) (a := 1) (v := csX t ((1 : Nat) : Int) b (cini wv ((1 : Nat) : Int) b) (1 - 1)) hb (k := b - 1 - b / 2) (by omega)
        rw [show b / 2 + (b - 1 - b / 2) = b - 1 by omega] at h2
        exact h2.symm
    · have h1 := csX_half (t := t) (b := b) (v := cini wv a b) ha (k := a - 1 - a / 2) (by omega)
      rw [show a / 2 + (a - 1 - a / 2) = a - 1 by omega] at h1
      rw [h1]
      by_cases e2 : b = 1
      · subst e2; rfl
      · have h2 := csY_half (t := t) (a := a) (v := csX t a b (cini wv a b) (a / 2)) hb (k := b - 1 - b / 2) (by omega)
        rw [show b / 2 + (b - 1 - b / 2) = b - 1 by omega] at h2
        exact h2.symm
  · rfl
theorem csX_congr (h : ∀ x : Nat, 1 ≤ x → x < a → t (25 * (x : Int) + b) = t2 (25 * (x : Int) + b)) : ∀ {i : Nat}, i ≤ a - 1 → csX t a b v i = csX t2 a b v i
  | 0, _ => rfl
  | i + 1, hi => by
    simp only [csX]
    have h1 := h (i + 1) (by omega) (by omega)
    have h2 := h (a - (i + 1)) (by omega) (by omega)
    rw [show ((a - (i + 1) : Nat) : Int) = (a : Int) - ((i : Int) + 1) by omega] at h2
    rw [show ((i + 1 : Nat) : Int) = (i : Int) + 1 from rfl] at h1
    rw [csX_congr h (by omega), h1, h2]
theorem csY_congr (h : ∀ x : Nat, 1 ≤ x → x < b → t (25 * (a : Int) + x) = t2 (25 * (a : Int) + x)) : ∀ {i : Nat}, i ≤ b - 1 → csY t a b v i = csY t2 a b v i
  | 0, _ => rfl
  | i + 1, hi => by
    simp only [csY]
    have h1 := h (i + 1) (by omega) (by omega)
    have h2 := h (b - (i + 1)) (by omega) (by omega)
    rw [show ((b - (i + 1) : Nat) : Int) = (b : Int) - ((i : Int) + 1) by omega] at h2
    rw [show ((i + 1 : Nat) : Int) = (i : Int) + 1 from rfl] at h1
    rw [csY_congr h (by omega), h1, h2]
theorem cval_congr {wv : Int} (h1 : ∀ x : Nat, 1 ≤ x → x < a → t (25 * (x : Int) + b) = t2 (25 * (x : Int) + b)) (h2 : ∀ x : Nat, 1 ≤ x → x < b → t (25 * (a : Int) + x) = t2 (25 * (a : Int) + x)) : cval t wv a b (a - 1) (b - 1) = cval t2 wv a b (a - 1) (b - 1) := by
  unfold cval
  split
  · rw [csX_congr h1 (Nat.le_refl _), csY_congr h2 (Nat.le_refl _)]
  · rfl
theorem okt_one (h1 : okt w t 25 1) (h2 : okt w t2 25 1) : ∀ (m a b : Nat), a + b ≤ m → 1 ≤ a → a ≤ 24 → 1 ≤ b → b ≤ 24 → t (25 * (a : Int) + b) = t2 (25 * (a : Int) + b)
  | 0, a, b, hm, ha, _, hb, _ => absurd hm (by omega)
  | m + 1, a, b, hm, ha, ha2, hb, hb2 => by
    rw [h1 a b ha ha2 hb hb2 (Or.inl (by omega)), h2 a b ha ha2 hb hb2 (Or.inl (by omega))]
    exact cval_congr (fun x h3 h4 => okt_one h1 h2 m x b (by omega) h3 (by omega) hb hb2) (fun x h3 h4 => okt_one h1 h2 m a x (by omega) ha ha2 h3 (by omega))
theorem vb_cst {A : Int} (hv : vb v A) {P Q : Int} (hp : vb p P) (hq : vb q Q) (hA : P + Q = A) : vb (cst v how p q) A := by
  unfold cst
  split
  · obtain ⟨⟨a1, a2⟩, ⟨a3, a4⟩, ⟨a5, a6⟩, a7, a8⟩ := hp
    obtain ⟨⟨b1, b2⟩, ⟨b3, b4⟩, ⟨b5, b6⟩, b7, b8⟩ := hq
    exact ⟨⟨by show 0 ≤ p.1 + q.1; omega, by show p.1 + q.1 ≤ A; omega⟩, ⟨by show 0 ≤ p.2.2.1 + q.2.2.1; omega, by show p.2.2.1 + q.2.2.1 ≤ A; omega⟩, ⟨by show 0 ≤ p.2.2.2.1 + q.2.2.2.1; omega, by show p.2.2.2.1 + q.2.2.2.1 ≤ A; omega⟩, by show 0 ≤ p.2.2.2.2 + q.2.2.2.2; omega, by show p.2.2.2.2 + q.2.2.2.2 ≤ A; omega⟩
  · exact hv
theorem vb_csX {A : Int} (hA : A = (a : Int) * b) (hv : vb v A) (h : ∀ x : Nat, 1 ≤ x → x < a → vb (t (25 * (x : Int) + b)) ((x : Int) * b)) : ∀ {i : Nat}, i ≤ a - 1 → vb (csX t a b v i) A
  | 0, _ => hv
  | i + 1, hi => by
    simp only [csX]
    have h1 := h (i + 1) (by omega) (by omega)
    have h2 := h (a - (i + 1)) (by omega) (by omega)
    rw [show ((a - (i + 1) : Nat) : Int) = (a : Int) - ((i : Int) + 1) by omega] at h2
    rw [show ((i + 1 : Nat) : Int) = (i : Int) + 1 from rfl] at h1
    exact vb_cst (vb_csX hA hv h (by omega)) h1 h2 (by rw [← Int.add_mul, hA]; congr 1; omega)
theorem vb_csY {A : Int} (hA : A = (a : Int) * b) (hv : vb v A) (h : ∀ x : Nat, 1 ≤ x → x < b → vb (t (25 * (a : Int) + x)) ((a : Int) * x)) : ∀ {i : Nat}, i ≤ b - 1 → vb (csY t a b v i) A
  | 0, _ => hv
  | i + 1, hi => by
    simp only [csY]
    have h1 := h (i + 1) (by omega) (by omega)
    have h2 := h (b - (i + 1)) (by omega) (by omega)
    rw [show ((b - (i + 1) : Nat) : Int) = (b : Int) - ((i : Int) + 1) by omega] at h2
    rw [show ((i + 1 : Nat) : Int) = (i : Int) + 1 from rfl] at h1
    exact vb_cst (vb_csY hA hv h (by omega)) h1 h2 (by rw [← Int.mul_add, hA]; congr 1; omega)
theorem area_bd (ha : 1 ≤ a) (ha2 : a ≤ 24) (hb : 1 ≤ b) (hb2 : b ≤ 24) : 1 ≤ (a : Int) * b ∧ (a : Int) * b ≤ 576 := by
  have h1 : 1 * 1 ≤ a * b := Nat.mul_le_mul ha hb
  have h2 : a * b ≤ 24 * 24 := Nat.mul_le_mul ha2 hb2
  rw [← Int.natCast_mul]
  omega
theorem cini_vb {wv : Int} (h : 1 ≤ (a : Int) * b) : vb (cini wv a b) ((a : Int) * b) := by
  unfold cini
  split
  · exact ⟨⟨Int.le_refl 0, by show (0 : Int) ≤ _; omega⟩, ⟨Int.le_refl 0, by show (0 : Int) ≤ _; omega⟩, ⟨Int.le_refl 0, by show (0 : Int) ≤ _; omega⟩, Int.le_refl 0, by show (0 : Int) ≤ _; omega⟩
  · refine ⟨⟨by show 0 ≤ (a : Int) * b; omega, Int.le_refl _⟩, ⟨?_, ?_⟩, ⟨?_, ?_⟩, ?_, ?_⟩ <;> (simp only; split <;> omega)
theorem okt_vb {A B : Int} (h1 : okt w t A B) : ∀ (m a b : Nat), a + b ≤ m → 1 ≤ a → a ≤ 24 → 1 ≤ b → b ≤ 24 → lex A B a b → vb (t (25 * (a : Int) + b)) ((a : Int) * b)
  | 0, a, b, hm, ha, _, hb, _, _ => absurd hm (by omega)
  | m + 1, a, b, hm, ha, ha2, hb, hb2, hl => by
    have har := area_bd ha ha2 hb hb2
    rw [h1 a b ha ha2 hb hb2 hl]
    unfold cval
    split
    · refine vb_csY rfl (vb_csX rfl (cini_vb har.1) (fun x h3 h4 => okt_vb h1 m x b (by omega) h3 (by omega) hb hb2 ?_) (Nat.le_refl _)) (fun x h3 h4 => okt_vb h1 m a x (by omega) ha ha2 h3 (by omega) ?_) (Nat.le_refl _)
      · unfold lex at hl ⊢; omega
      · unfold lex at hl ⊢; omega
    · exact cini_vb har.1
/-- one more rectangle is right -/
theorem okt_step {A B : Nat} (hA : 1 ≤ A ∧ A ≤ 24) (hB : 1 ≤ B ∧ B ≤ 24) (h : okt w t A B) (h2 : ∀ c : Int, 0 ≤ c → c < 625 → t2 c = if c = 25 * (A : Int) + B then cval t (w A B) A B (A - 1) (B - 1) else t c) : okt w t2 A ((B : Int) + 1) := by
  intro a b ha ha2 hb hb2 hl
  have hc : ∀ x y : Nat, 1 ≤ x → x ≤ 24 → 1 ≤ y → y ≤ 24 → lex A B x y → t2 (25 * (x : Int) + y) = t (25 * (x : Int) + y) := by
    intro x y h3 h4 h5 h6 h7
    rw [h2 _ (by omega) (by omega), if_neg (by unfold lex at h7; omega)]
  by_cases e : a = A ∧ b = B
  · obtain ⟨rfl, rfl⟩ := e
    rw [h2 _ (by omega) (by omega), if_pos rfl]
    refine (cval_congr (fun x h3 h4 => hc x b h3 (by omega) hb hb2 (by unfold lex; omega)) (fun x h3 h4 => hc a x ha ha2 h3 (by omega) (by unfold lex; omega))).symm
  · have hl2 : lex A B a b := by unfold lex at hl ⊢; omega
    rw [hc a b ha ha2 hb hb2 hl2, h a b ha ha2 hb hb2 hl2]
    refine (cval_congr (fun x h3 h4 => hc x b h3 (by omega) hb hb2 (by unfold lex at hl2 ⊢; omega)) (fun x h3 h4 => hc a x ha ha2 h3 (by omega) (by unfold lex at hl2 ⊢; omega))).symm
theorem okt_row {A : Nat} (h : okt w t A 25) : okt w t ((A : Int) + 1) 1 := by
  intro a b ha ha2 hb hb2 hl
  exact h a b ha ha2 hb hb2 (by unfold lex at hl ⊢; omega)
theorem okt_0 : okt w t 1 1 := by
  intro a b ha ha2 hb hb2 hl
  unfold lex at hl
  exfalso; omega
end CP
/-- the piece that a rectangle is -/
def pcF (ls gr : List Int) (a b : Int) : Int := if ix ls 0 = min a b ∧ ix gr 0 = max a b then 0 else if ix ls 1 = min a b ∧ ix gr 1 = max a b then 1 else if ix ls 2 = min a b ∧ ix gr 2 = max a b then 2 else -9
theorem pcF_ok (ls gr : List Int) (a b : Int) : pcR ls gr a b (pcF ls gr a b) := by
  have k0 : pcQ ls gr a b 0 ↔ (ix ls 0 = min a b ∧ ix gr 0 = max a b) := Iff.rfl
  have k1 : pcQ ls gr a b 1 ↔ (ix ls 1 = min a b ∧ ix gr 1 = max a b) := Iff.rfl
  have k2 : pcQ ls gr a b 2 ↔ (ix ls 2 = min a b ∧ ix gr 2 = max a b) := Iff.rfl
  unfold pcF pcR
  refine ⟨fun p hp hq hj => ?_, fun h => ?_⟩
  · by_cases e0 : p = 0
    · subst e0; rw [if_pos (k0.mp hq)]; rfl
    · rw [if_neg (fun z => hj 0 (by omega) (k0.mpr z))]
      by_cases e1 : p = 1
      · subst e1; rw [if_pos (k1.mp hq)]; rfl
      · rw [if_neg (fun z => hj 1 (by omega) (k1.mpr z))]
        have e2 : p = 2 := by omega
        subst e2; rw [if_pos (k2.mp hq)]; rfl
  · rw [if_neg (fun z => h 0 (by omega) (k0.mpr z)), if_neg (fun z => h 1 (by omega) (k1.mpr z)), if_neg (fun z => h 2 (by omega) (k2.mpr z))]
theorem pcF_in (ls gr : List Int) (a b : Int) : pcF ls gr a b = -9 ∨ pcF ls gr a b = 0 ∨ pcF ls gr a b = 1 ∨ pcF ls gr a b = 2 := by
  unfold pcF
  split
  · omega
  · split
    · omega
    · split <;> omega
