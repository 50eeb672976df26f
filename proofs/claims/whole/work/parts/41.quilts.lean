/-! quilts: what a trial keeps, what its leaves have -/
def fit (T sl ed hu : List Int) (wd ht rm mo s b : Int) : Prop := 0 < ix sl (b.tdiv 4) - nK T (b.tdiv 4) 6 ∧ mt T ed wd ht s b ∧ kr ed wd ht rm s b ∧ nH T hu (ix hu (b.tdiv 4)) 6 < mo
theorem why_0 {T sl ed hu : List Int} {wd ht rm mo s b : Int} : why T sl ed hu wd ht rm mo s b 0 ↔ fit T sl ed hu wd ht rm mo s b := by
  constructor
  · rintro ⟨h1, h2⟩
    have a1 : 0 < ix sl (b.tdiv 4) - nK T (b.tdiv 4) 6 := by
      rcases Int.lt_or_le 0 (ix sl (b.tdiv 4) - nK T (b.tdiv 4) 6) with q | q
      · exact q
      · have := h1 q; omega
    obtain ⟨h3, h4⟩ := h2 a1
    have a2 : mt T ed wd ht s b := Classical.byContradiction (fun z => by have := h3 z; omega)
    obtain ⟨h5, h6⟩ := h4 a2
    have a3 : kr ed wd ht rm s b := Classical.byContradiction (fun z => by have := h5 z; omega)
    obtain ⟨h7, h8⟩ := h6 a3
    refine ⟨a1, a2, a3, ?_⟩
    rcases Int.lt_or_le (nH T hu (ix hu (b.tdiv 4)) 6) mo with q | q
    · exact q
    · have := h7 q; omega
  · rintro ⟨a1, a2, a3, a4⟩
    exact ⟨fun z => absurd z (by omega), fun _ => ⟨fun z => absurd a2 z, fun _ => ⟨fun z => absurd a3 z, fun _ => ⟨fun z => absurd z (by omega), fun _ => rfl⟩⟩⟩⟩
def opn (bl : List Int) (n j : Nat) : Bool := decide (j < n ∧ ix bl j = -9)
theorem opn_t {bl : List Int} {n j : Nat} : opn bl n j = true ↔ (j < n ∧ ix bl j = -9) := by simp [opn]
noncomputable def okM (sl ed hu : List Int) (kd wd ht rm mo bs bu : Int) (T : List Int) (s b : Nat) : Bool := @decide ((b : Int) < kd * 4 ∧ plB ed b = true ∧ ¬ ((s : Int) = bs ∧ (b : Int) = bu) ∧ fit T sl ed hu wd ht rm mo s b) (Classical.propDecidable _)
theorem okM_t {sl ed hu : List Int} {kd wd ht rm mo bs bu : Int} {T : List Int} {s b : Nat} : okM sl ed hu kd wd ht rm mo bs bu T s b = true ↔ ((b : Int) < kd * 4 ∧ plB ed b = true ∧ ¬ ((s : Int) = bs ∧ (b : Int) = bu) ∧ fit T sl ed hu wd ht rm mo s b) := by
  unfold okM
  exact @decide_eq_true_iff _ (Classical.propDecidable _)
/-- all quilts, in order -/
noncomputable def qts (bl sl ed hu : List Int) (kd wd ht rm mo bs bu : Int) (n : Nat) : List (List Int) := qs (okM sl ed hu kd wd ht rm mo bs bu) (opn bl n) n 0 bl
def JJ (bl sl ed hu : List Int) (kd wd ht rm mo bs bu : Int) (n s : Nat) (T : List Int) : Prop :=
  T.length = 6 ∧ (∀ j : Nat, s ≤ j → j < 6 → ix T j = ix bl j) ∧ (∀ j : Nat, j < 6 → ¬ ix bl j = -9 → ix T j = ix bl j) ∧
  (∀ j : Nat, j < s → opn bl n j = true → (0 ≤ ix T j ∧ ix T j < kd * 4) ∧ plB ed (ix T j) = true ∧ ¬ ((j : Int) = bs ∧ ix T j = bu) ∧ kr ed wd ht rm j (ix T j)) ∧
  (∀ j : Nat, j < s → opn bl n j = true → ∀ h : Nat, h < 4 → ¬ bsd wd ht j h = -9 → ¬ ix T (bsd wd ht j h) = -9 → eo ed (ix T (bsd wd ht j h)) (((h : Int) + 2).tmod 4) = eo ed (ix T j) h) ∧
  (∀ k : Int, nK bl k 6 ≤ nK T k 6 ∧ (nK T k 6 = nK bl k 6 ∨ nK T k 6 ≤ ix sl k)) ∧
  (∀ w : Int, nH bl hu w 6 ≤ nH T hu w 6 ∧ (nH T hu w 6 = nH bl hu w 6 ∨ nH T hu w 6 ≤ mo))
section QT
variable {bl sl ed hu T x : List Int} {kd wd ht rm mo bs bu : Int} {n s : Nat}
theorem nK_up {b : Nat} (hl : T.length = 6) (hs : s < 6) (h9 : ix T s = -9) (k : Int) : nK (up T s b) k 6 = nK T k 6 + (if ((b : Int).tdiv 4) = k then 1 else 0) := by
  have := cn_upd (Q := fun v => decide (0 ≤ v ∧ v.tdiv 4 = k)) (T := T) (s := s) (b := b) hl hs (by rw [h9]; rfl) 6
  unfold nK
  rw [this]
  congr 1
  by_cases e : ((b : Int).tdiv 4) = k
  · rw [if_pos e, if_pos ⟨hs, decide_eq_true ⟨by omega, e⟩⟩]
  · rw [if_neg e, if_neg (fun q => e (of_decide_eq_true q.2).2)]
theorem nH_up {b : Nat} (hl : T.length = 6) (hs : s < 6) (h9 : ix T s = -9) (w : Int) : nH (up T s b) hu w 6 = nH T hu w 6 + (if ix hu ((b : Int).tdiv 4) = w then 1 else 0) := by
  have := cn_upd (Q := fun v => decide (0 ≤ v ∧ ix hu (v.tdiv 4) = w)) (T := T) (s := s) (b := b) hl hs (by rw [h9]; rfl) 6
  unfold nH
  rw [this]
  congr 1
  by_cases e : ix hu ((b : Int).tdiv 4) = w
  · rw [if_pos e, if_pos ⟨hs, decide_eq_true ⟨by omega, e⟩⟩]
  · rw [if_neg e, if_neg (fun q => e (of_decide_eq_true q.2).2)]
theorem JJ_0 (hl : bl.length = 6) : JJ bl sl ed hu kd wd ht rm mo bs bu n 0 bl :=
  ⟨hl, fun _ _ _ => rfl, fun _ _ _ => rfl, fun j hj => absurd hj (by omega), fun j hj => absurd hj (by omega), fun _ => ⟨Int.le_refl _, Or.inl rfl⟩, fun _ => ⟨Int.le_refl _, Or.inl rfl⟩⟩
theorem JJ_skip (hJ : JJ bl sl ed hu kd wd ht rm mo bs bu n s T) (ho : opn bl n s = false) : JJ bl sl ed hu kd wd ht rm mo bs bu n (s + 1) T := by
  obtain ⟨j1, j2, j3, j4, j5, j6, j7⟩ := hJ
  have hne : ∀ j : Nat, j < s + 1 → opn bl n j = true → j < s := by
    intro j h1 h2
    rcases Nat.lt_or_ge j s with q | q
    · exact q
    · rw [show j = s by omega, ho] at h2; cases h2
  exact ⟨j1, fun j h1 h2 => j2 j (by omega) h2, j3, fun j h1 h2 => j4 j (hne j h1 h2) h2, fun j h1 h2 => j5 j (hne j h1 h2) h2, j6, j7⟩
theorem JJ_step (hw : 1 ≤ wd ∧ wd ≤ 3) (hh : 1 ≤ ht ∧ ht ≤ 2) (hn : (n : Int) = wd * ht) (hJ : JJ bl sl ed hu kd wd ht rm mo bs bu n s T) (ho : opn bl n s = true) {b : Nat} (hb : okM sl ed hu kd wd ht rm mo bs bu T s b = true) : JJ bl sl ed hu kd wd ht rm mo bs bu n (s + 1) (up T s b) := by
  have hw6 := wh_bd hw.1 hw.2 hh.1 hh.2
  obtain ⟨j1, j2, j3, j4, j5, j6, j7⟩ := hJ
  obtain ⟨ho1, ho2⟩ := opn_t.mp ho
  obtain ⟨b1, b2, b3, f1, f2, f3, f4⟩ := okM_t.mp hb
  have hs6 : s < 6 := by omega
  have h9 : ix T s = -9 := by rw [j2 s (by omega) hs6, ho2]
  refine ⟨by rw [up_len]; exact j1, fun j h1 h2 => ?_, fun j h1 h2 => ?_, fun j h1 h2 => ?_, fun j h1 h2 h h3 h4 h5 => ?_, fun k => ?_, fun w => ?_⟩
  · rw [ix_upn j1 hs6, if_neg (by omega)]; exact j2 j (by omega) h2
  · rw [ix_upn j1 hs6, if_neg (by rintro rfl; exact h2 ho2)]; exact j3 j h1 h2
  · rw [ix_upn j1 hs6]
    by_cases e : s = j
    · subst e
      rw [if_pos rfl]
      exact ⟨⟨by omega, b1⟩, b2, b3, f3⟩
    · rw [if_neg e]; exact j4 j (by omega) h2
  · obtain ⟨hj1, hj2⟩ := opn_t.mp h2
    obtain ⟨y1, y2, y3, y4⟩ := bs_sym hw hh (s := j) (h := h) (by omega) h3 h4
    have hr := (bs_at hw hh (s := j) (h := h) (by omega) (by omega)).2
    obtain ⟨o, ho'⟩ : ∃ o : Nat, (o : Int) = bsd wd ht j h := ⟨(bsd wd ht j h).toNat, by omega⟩
    rw [← ho'] at h5 y1 y2 ⊢
    rw [ix_upn j1 hs6] at h5 ⊢
    rw [ix_upn j1 hs6]
    by_cases e : s = j
    · subst e
      rw [if_neg (by omega)] at h5 ⊢
      rw [if_pos rfl]
      have := f2 h h3
      unfold mtP at this
      rw [← ho'] at this
      have e3 := isO_or T o
      exact Classical.byContradiction (fun z => this ⟨by omega, by omega, by omega, z⟩)
    · rw [if_neg e]
      by_cases e2 : s = o
      · subst e2
        rw [if_pos rfl]
        have := f2 ((h + 2) % 4) (by omega)
        unfold mtP at this
        rw [y1, tm22 h3] at this
        have e3 := isO_or T j
        have e4 := (j4 j (by omega) h2).1
        rw [tm2 h3]
        exact (Classical.byContradiction (fun z => this ⟨by omega, by omega, by omega, fun q => z q.symm⟩))
      · rw [if_neg e2] at h5 ⊢
        have := j5 j (by omega) h2 h h3 h4
        rw [← ho'] at this
        exact this h5
  · rw [nK_up j1 hs6 h9]
    have := j6 k
    split
    · rename_i e
      rw [e] at f1
      omega
    · omega
  · rw [nH_up j1 hs6 h9]
    have := j7 w
    split
    · rename_i e
      rw [e] at f4
      omega
    · omega
theorem leaf_J (hw : 1 ≤ wd ∧ wd ≤ 3) (hh : 1 ≤ ht ∧ ht ≤ 2) (hn : (n : Int) = wd * ht) : ∀ {f s : Nat} {T : List Int}, s + f = n → JJ bl sl ed hu kd wd ht rm mo bs bu n s T → x ∈ qs (okM sl ed hu kd wd ht rm mo bs bu) (opn bl n) f s T → JJ bl sl ed hu kd wd ht rm mo bs bu n n x
  | 0, s, T, hf, hJ, hx => by
    simp only [qs, List.mem_singleton] at hx
    rw [hx, show n = s by omega]
    rw [show s = n by omega] at hJ ⊢
    exact hJ
  | f + 1, s, T, hf, hJ, hx => by
    cases ho : opn bl n s with
    | false => rw [qs_shut ho] at hx; exact leaf_J hw hh hn (by omega) (JJ_skip hJ ho) hx
    | true =>
      rw [qs_open ho] at hx
      obtain ⟨b, h1, h2, h3⟩ := hx
      exact leaf_J hw hh hn (by omega) (JJ_step hw hh hn hJ ho h2) h3
end QT
