/-! families of blocks left; the tree cut back by them; the room in all -/
def spp (bl ed : List Int) (wd ht : Int) (F : Nat → Nat → Prop) (s b : Nat) : Prop := ∀ h : Nat, h < 4 → ¬ bsd wd ht s h = -9 → ix bl (bsd wd ht s h) = -9 → ∃ c : Nat, F (bsd wd ht s h).toNat c ∧ eo ed c (((h : Int) + 2).tmod 4) = eo ed b h
def inW (W : List Int) (s b : Nat) : Prop := s < 6 ∧ bit (ix W s) b = true
/-- the greatest family within another that keeps itself -/
def gfam (bl ed : List Int) (wd ht : Int) (I : Nat → Nat → Prop) (W : List Int) : Prop := (∀ s b : Nat, inW W s b → I s b) ∧ (∀ s b : Nat, inW W s b → spp bl ed wd ht (inW W) s b) ∧ ∀ E : Nat → Nat → Prop, (∀ s b, E s b → I s b) → (∀ s b, E s b → spp bl ed wd ht E s b) → ∀ s b, E s b → inW W s b
def iniF (bl sl ed hu : List Int) (kd wd ht rm mo bs bu : Int) (n s b : Nat) : Prop := opn bl n s = true ∧ (b : Int) < kd * 4 ∧ plB ed b = true ∧ ¬ ((s : Int) = bs ∧ (b : Int) = bu) ∧ fit bl sl ed hu wd ht rm mo s b
noncomputable def okC (W sl ed hu : List Int) (wd ht mo : Int) (T : List Int) (s b : Nat) : Bool := @decide (bit (ix W s) b = true ∧ (∀ h : Nat, h = 0 ∨ h = 3 → ¬ bsd wd ht s h = -9 → eo ed (ix T (bsd wd ht s h)) (((h : Int) + 2).tmod 4) = eo ed b h) ∧ 0 < ix sl ((b : Int).tdiv 4) - nK T ((b : Int).tdiv 4) 6 ∧ nH T hu (ix hu ((b : Int).tdiv 4)) 6 < mo) (Classical.propDecidable _)
theorem okC_t {W sl ed hu : List Int} {wd ht mo : Int} {T : List Int} {s b : Nat} : okC W sl ed hu wd ht mo T s b = true ↔ (bit (ix W s) b = true ∧ (∀ h : Nat, h = 0 ∨ h = 3 → ¬ bsd wd ht s h = -9 → eo ed (ix T (bsd wd ht s h)) (((h : Int) + 2).tmod 4) = eo ed b h) ∧ 0 < ix sl ((b : Int).tdiv 4) - nK T ((b : Int).tdiv 4) 6 ∧ nH T hu (ix hu ((b : Int).tdiv 4)) 6 < mo) := by
  unfold okC
  exact @decide_eq_true_iff _ (Classical.propDecidable _)
theorem cn_le {p q : Nat → Bool} : ∀ {n : Nat}, (∀ j, j < n → p j = true → q j = true) → cn p n ≤ cn q n
  | 0, _ => Int.le_refl _
  | n + 1, h => by
    have := cn_le (n := n) (fun j hj => h j (by omega))
    simp only [cn]
    by_cases e : p n = true
    · rw [if_pos e, if_pos (h n (by omega) e)]; omega
    · rw [if_neg e]; split <;> omega
theorem cn_lt {p q : Nat → Bool} {s : Nat} (hq : q s = true) (hp : p s = false) : ∀ {n : Nat}, s < n → (∀ j, j < n → p j = true → q j = true) → cn p n < cn q n
  | 0, hs, _ => absurd hs (by omega)
  | n + 1, hs, h => by
    simp only [cn]
    by_cases e : s = n
    · subst e
      have := cn_le (n := s) (fun j hj => h j (by omega))
      rw [hq, hp]
      simp
      omega
    · have := cn_lt hq hp (n := n) (by omega) (fun j hj => h j (by omega))
      by_cases e : p n = true
      · rw [if_pos e, if_pos (h n (by omega) e)]; omega
      · rw [if_neg e]; split <;> omega
section FA
variable {bl sl ed hu T x W : List Int} {kd wd ht rm mo bs bu : Int} {n s : Nat}
theorem leaf_fits (hw : 1 ≤ wd ∧ wd ≤ 3) (hh : 1 ≤ ht ∧ ht ≤ 2) (hn : (n : Int) = wd * ht) (hJ : JJ bl sl ed hu kd wd ht rm mo bs bu n n x) (ho : opn bl n s = true) : fit bl sl ed hu wd ht rm mo s (ix x s) := by
  have hw6 := wh_bd hw.1 hw.2 hh.1 hh.2
  obtain ⟨j1, j2, j3, j4, j5, j6, j7⟩ := hJ
  obtain ⟨ho1, ho2⟩ := opn_t.mp ho
  obtain ⟨⟨g0, g1⟩, g2, g3, g4⟩ := j4 s ho1 ho
  have hsame : ∀ j : Nat, j < 6 → 0 ≤ ix bl j → ix x j = ix bl j := fun j h1 h2 => j3 j h1 (by omega)
  refine ⟨?_, fun h hh4 => ?_, g4, ?_⟩
  · have h1 := j6 ((ix x s).tdiv 4)
    have h2 : nK bl ((ix x s).tdiv 4) 6 < nK x ((ix x s).tdiv 4) 6 := by
      unfold nK
      refine cn_lt (s := s) (decide_eq_true ⟨g0, rfl⟩) (decide_eq_false (by rw [ho2]; omega)) (by omega) (fun j hj hp => ?_)
      have hp := of_decide_eq_true hp
      exact decide_eq_true (by rw [hsame j hj hp.1]; exact hp)
    omega
  · unfold mtP
    rintro ⟨z1, z2, z3, z4⟩
    have e3 := isO_or bl (bsd wd ht s h)
    obtain ⟨o, ho'⟩ : ∃ o : Nat, (o : Int) = bsd wd ht s h := ⟨(bsd wd ht s h).toNat, by omega⟩
    have hxo := j3 o (by omega) (by rw [ho']; omega)
    have := j5 s ho1 ho h hh4 (by omega)
    rw [← ho', hxo] at this
    rw [← ho'] at z4 e3 z3
    exact z4 (this (by omega))
  · have h1 := j7 (ix hu ((ix x s).tdiv 4))
    have h2 : nH bl hu (ix hu ((ix x s).tdiv 4)) 6 < nH x hu (ix hu ((ix x s).tdiv 4)) 6 := by
      unfold nH
      refine cn_lt (s := s) (decide_eq_true ⟨g0, rfl⟩) (decide_eq_false (by rw [ho2]; omega)) (by omega) (fun j hj hp => ?_)
      have hp := of_decide_eq_true hp
      exact decide_eq_true (by rw [hsame j hj hp.1]; exact hp)
    omega
/-- what a quilt has is left -/
theorem leaf_in (hw : 1 ≤ wd ∧ wd ≤ 3) (hh : 1 ≤ ht ∧ ht ≤ 2) (hn : (n : Int) = wd * ht) (hl : bl.length = 6) (hG : gfam bl ed wd ht (iniF bl sl ed hu kd wd ht rm mo bs bu n) W) (hx : x ∈ qts bl sl ed hu kd wd ht rm mo bs bu n) (ho : opn bl n s = true) {b : Nat} (hb : ix x s = b) : inW W s b := by
  have hw6 := wh_bd hw.1 hw.2 hh.1 hh.2
  refine hG.2.2 (fun s b => opn bl n s = true ∧ ∃ x, x ∈ qts bl sl ed hu kd wd ht rm mo bs bu n ∧ ix x s = (b : Int)) ?_ ?_ s b ⟨ho, x, hx, hb⟩
  · rintro s b ⟨ho, x, hx, hb⟩
    have hJ := leaf_J hw hh hn (by omega) (JJ_0 hl) hx
    obtain ⟨⟨g0, g1⟩, g2, g3, g4⟩ := hJ.2.2.2.1 s (opn_t.mp ho).1 ho
    have hf := leaf_fits hw hh hn hJ ho
    rw [hb] at g0 g1 g2 g3 g4 hf
    exact ⟨ho, g1, g2, g3, hf⟩
  · rintro s b ⟨ho, x, hx, hb⟩ h h4 h9 ho9
    have hJ := leaf_J hw hh hn (by omega) (JJ_0 hl) hx
    have hr := (bs_at hw hh (s := s) (h := h) (by have := (opn_t.mp ho).1; omega) (by omega)).2
    obtain ⟨o, ho'⟩ : ∃ o : Nat, (o : Int) = bsd wd ht s h := ⟨(bsd wd ht s h).toNat, by omega⟩
    rw [← ho'] at ho9
    have hoo : opn bl n o = true := opn_t.mpr ⟨by omega, ho9⟩
    have h5 := hJ.2.2.2.2.1 s (opn_t.mp ho).1 ho h h4 h9
    obtain ⟨⟨g0, g1⟩, -⟩ := hJ.2.2.2.1 o (opn_t.mp hoo).1 hoo
    rw [← ho'] at h5 ⊢
    rw [Int.toNat_natCast]
    refine ⟨(ix x o).toNat, ⟨hoo, x, hx, by omega⟩, ?_⟩
    rw [show (((ix x o).toNat : Nat) : Int) = ix x o by omega, h5 (by omega), hb]
theorem qts_eq (hw : 1 ≤ wd ∧ wd ≤ 3) (hh : 1 ≤ ht ∧ ht ≤ 2) (hn : (n : Int) = wd * ht) (hl : bl.length = 6) (hG : gfam bl ed wd ht (iniF bl sl ed hu kd wd ht rm mo bs bu n) W) : qs (okC W sl ed hu wd ht mo) (opn bl n) n 0 bl = qts bl sl ed hu kd wd ht rm mo bs bu n := by
  have hw6 := wh_bd hw.1 hw.2 hh.1 hh.2
  refine qs_eq (n := n) (fun s T => JJ bl sl ed hu kd wd ht rm mo bs bu n s T ∧ ∀ y, y ∈ qs (okM sl ed hu kd wd ht rm mo bs bu) (opn bl n) (n - s) s T → y ∈ qts bl sl ed hu kd wd ht rm mo bs bu n) ?_ ?_ ?_ ?_ (by omega) ⟨JJ_0 hl, fun y hy => hy⟩
  · rintro s T b hs hb ⟨hJ, hq⟩ ho hok
    refine ⟨JJ_step hw hh hn hJ ho hok, fun y hy => hq y ?_⟩
    rw [show n - s = (n - (s + 1)) + 1 by omega, qs_open ho]
    exact ⟨b, hb, hok, hy⟩
  · rintro s T hs ⟨hJ, hq⟩ ho
    refine ⟨JJ_skip hJ ho, fun y hy => hq y ?_⟩
    rw [show n - s = (n - (s + 1)) + 1 by omega, qs_shut ho]
    exact hy
  · rintro s T b hs hb ⟨hJ, hq⟩ ho hok
    obtain ⟨c1, c2, c3, c4⟩ := okC_t.mp hok
    obtain ⟨i1, i2, i3, i4, i5, i6, i7, i8⟩ := hG.1 s b ⟨by omega, c1⟩
    refine okM_t.mpr ⟨i2, i3, i4, c3, fun h h4 => ?_, i7, c4⟩
    unfold mtP
    rintro ⟨z1, z2, z3, z4⟩
    by_cases e : h = 0 ∨ h = 3
    · exact z4 (c2 h e (by omega))
    · have e5 := (bs_sym hw hh (s := s) (h := h) (by omega) h4 (by omega)).2.2.2 e
      have e3 := isO_or T (bsd wd ht s h)
      have e4 := isO_or bl (bsd wd ht s h)
      obtain ⟨o, ho'⟩ : ∃ o : Nat, (o : Int) = bsd wd ht s h := ⟨(bsd wd ht s h).toNat, by omega⟩
      have h2 := hJ.2.1 o (by omega) (by omega)
      have h6 := i6 h h4
      unfold mtP at h6
      rw [← ho'] at z4 e3 e4 z3 h6
      rw [h2] at z4 e3
      exact h6 ⟨by omega, by omega, by omega, z4⟩
  · rintro s T b y hs hb ⟨hJ, hq⟩ ho hok hy
    obtain ⟨i2, i3, i4, i5, i6, i7, i8⟩ := okM_t.mp hok
    have hyq : y ∈ qts bl sl ed hu kd wd ht rm mo bs bu n := hq y (by
      rw [show n - s = (n - (s + 1)) + 1 by omega, qs_open ho]
      exact ⟨b, hb, hok, hy⟩)
    have h1 := qs_keep (j := s) (by rw [up_len]; exact hJ.1) (by omega) hy (Or.inl (by omega))
    rw [ix_upn hJ.1 (by omega), if_pos rfl] at h1
    refine okC_t.mpr ⟨(leaf_in hw hh hn hl hG hyq ho h1).2, fun h e h9 => ?_, i5, i8⟩
    have e5 := (bs_sym hw hh (s := s) (h := h) (by omega) (by omega) h9).2.2.1 (by omega)
    have hr := (bs_at hw hh (s := s) (h := h) (by omega) (by omega)).2
    have h6 := i6 h (by omega)
    unfold mtP at h6
    have e3 := isO_or T (bsd wd ht s h)
    obtain ⟨o, ho'⟩ : ∃ o : Nat, (o : Int) = bsd wd ht s h := ⟨(bsd wd ht s h).toNat, by omega⟩
    rw [← ho'] at h6 e3 ⊢
    have hne : ¬ ix T o = -9 := by
      by_cases e9 : ix bl o = -9
      · have := (hJ.2.2.2.1 o (by omega) (opn_t.mpr ⟨by omega, e9⟩)).1
        omega
      · rw [hJ.2.2.1 o (by omega) e9]; exact e9
    exact Classical.byContradiction (fun z => h6 ⟨by omega, by omega, by omega, z⟩)
end FA
