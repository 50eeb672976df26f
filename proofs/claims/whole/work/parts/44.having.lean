/-! bits of the plain blocks; frames of cells -/
theorem hv1_bit {ed : List Int} (he : bet ed 0 9) {x : Nat} (hx : x < 24) {L : List Int} (hl : L.length = 40) (hb : bet L 0 16777215) {h : Nat} {e : Int} {b : Nat} (h4 : h < 4) (h0 : 0 ≤ e ∧ e ≤ 9) : ∀ m : Nat, m ≤ 4 → bit (ix (hv1 ed x L m) (10 * h + e)) b = (bit (ix L (10 * h + e)) b || decide (h < m ∧ eo ed x h = e ∧ x = b))
  | 0, _ => by simp [hv1]
  | m + 1, hm => by
    obtain ⟨i1, i2⟩ := hv1_ok he (x := x) (by omega) hl hb m (by omega)
    have q := eo_bd he (x := x) (h := m) (by omega) (by omega)
    have ih := hv1_bit he hx hl hb (b := b) h4 h0 m (by omega)
    simp only [hv1]
    rw [ix_up (by omega) (by omega) (by omega)]
    by_cases e1 : 10 * (m : Int) + eo ed x m = 10 * h + e
    · have hmh : m = h := by omega
      subst hmh
      rw [if_pos e1, bit_or (i2 _) (m_shl_in (by omega) (by omega)), e1, ih, bit_shl (by omega) (by omega) (by omega)]
      have e2 : eo ed x m = e := by omega
      by_cases e3 : x = b
      · subst e3; simp [e2]
      · have : ¬ (x : Int) = (b : Int) := by omega
        simp [e3, this]
    · rw [if_neg e1, ih]
      congr 1
      by_cases e2 : h = m
      · subst e2
        have : ¬ eo ed x h = e := by omega
        simp [this]
      · have : h < m + 1 ↔ h < m := by omega
        simp [this]
theorem hvs_bit {ed : List Int} (he : bet ed 0 9) {h : Nat} {e : Int} {b : Nat} (h4 : h < 4) (h0 : 0 ≤ e ∧ e ≤ 9) : ∀ m : Nat, m ≤ 24 → (bit (ix (hvs ed m) (10 * h + e)) b = true ↔ (b < m ∧ plB ed b = true ∧ eo ed b h = e))
  | 0, _ => by
    have : ix (hvs ed 0) (10 * h + e) = 0 := ix_rep (by omega) (by omega)
    rw [this, bit_zero]
    simp
  | m + 1, hm => by
    have ih := hvs_bit he (b := b) h4 h0 m (by omega)
    obtain ⟨i1, i2⟩ := hvs_ok he m (by omega)
    simp only [hvs]
    by_cases hp : plB ed m = true
    · rw [if_pos hp, hv1_bit he (by omega) i1 i2 h4 h0 4 (by omega), Bool.or_eq_true, ih, decide_eq_true_iff]
      constructor
      · rintro (⟨a1, a2, a3⟩ | ⟨a1, a2, a3⟩)
        · exact ⟨by omega, a2, a3⟩
        · subst a3; exact ⟨by omega, hp, a2⟩
      · rintro ⟨a1, a2, a3⟩
        by_cases e1 : m = b
        · subst e1; exact Or.inr ⟨h4, a3, rfl⟩
        · exact Or.inl ⟨by omega, a2, a3⟩
    · rw [if_neg hp, ih]
      constructor
      · rintro ⟨a1, a2, a3⟩; exact ⟨by omega, a2, a3⟩
      · rintro ⟨a1, a2, a3⟩
        refine ⟨?_, a2, a3⟩
        rcases Nat.lt_or_ge b m with q | q
        · exact q
        · rw [show b = m by omega] at a2; exact absurd a2 hp
theorem pw_bit {ed : List Int} (he : bet ed 0 9) {m : Nat} (hm : m ≤ 24) {h : Nat} {e : Int} {b : Nat} (h4 : h < 4) : bit (pw (hvs ed m) h e) b = true ↔ (b < m ∧ plB ed b = true ∧ eo ed b h = e) := by
  unfold pw
  by_cases h0 : 0 ≤ e ∧ e < 10
  · rw [if_pos (by omega)]
    exact hvs_bit he h4 (by omega) m hm
  · rw [if_neg (by omega), bit_zero]
    constructor
    · intro z; cases z
    · rintro ⟨a1, -, a3⟩
      have := eo_bd he (x := b) (h := h) (by omega) (by omega)
      omega
theorem pw_in {ed : List Int} (he : bet ed 0 9) {m : Nat} (hm : m ≤ 24) {h e : Int} : 0 ≤ pw (hvs ed m) h e ∧ pw (hvs ed m) h e ≤ 16777215 := by
  unfold pw
  split
  · exact (hvs_ok he m hm).2 _
  · omega
/-- same cells, same lengths -/
def Shp (H H2 : mH) : Prop := H2.length = H.length ∧ ∀ (a k : Nat) (fs : List Int), H[a]? = some (k, fs) → ∃ gs, H2[a]? = some (k, gs) ∧ gs.length = fs.length
/-- only cells of A have changed, by what they hold alone -/
def Fr (A : Nat → Prop) (H H2 : mH) : Prop := Shp H H2 ∧ ∀ a, ¬ A a → H2[a]? = H[a]?
theorem Fr_refl {A : Nat → Prop} (H : mH) : Fr A H H := ⟨⟨rfl, fun a k fs h => ⟨fs, h, rfl⟩⟩, fun _ _ => rfl⟩
theorem Shp_trans {H H2 H3 : mH} (h1 : Shp H H2) (h2 : Shp H2 H3) : Shp H H3 := by
  refine ⟨by rw [h2.1, h1.1], fun a k fs h => ?_⟩
  obtain ⟨gs, g1, g2⟩ := h1.2 a k fs h
  obtain ⟨ks, k1, k2⟩ := h2.2 a k gs g1
  exact ⟨ks, k1, by omega⟩
theorem Fr_trans {A : Nat → Prop} {H H2 H3 : mH} (h1 : Fr A H H2) (h2 : Fr A H2 H3) : Fr A H H3 :=
  ⟨Shp_trans h1.1 h2.1, fun a ha => by rw [h2.2 a ha, h1.2 a ha]⟩
theorem Fr_up {A B : Nat → Prop} {H H2 : mH} (h1 : Fr A H H2) (h : ∀ a, A a → B a) : Fr B H H2 := ⟨h1.1, fun a ha => h1.2 a (fun z => ha (h a z))⟩
theorem Shp_pt {H : mH} {a k : Nat} {fs gs : List Int} (h : H[a]? = some (k, fs)) (hl : gs.length = fs.length) : Shp H (pt H a gs) := by
  refine ⟨pt_len _ _ _, fun b k2 f2 h2 => ?_⟩
  by_cases e : a = b
  · subst e
    rw [h] at h2
    cases h2
    exact ⟨gs, pt_self h, hl⟩
  · exact ⟨f2, by rw [pt_ne e]; exact h2, rfl⟩
theorem Fr_pt {A : Nat → Prop} {H : mH} {a k : Nat} {fs gs : List Int} (hA : A a) (h : H[a]? = some (k, fs)) (hl : gs.length = fs.length) : Fr A H (pt H a gs) :=
  ⟨Shp_pt h hl, fun b hb => pt_ne (by rintro rfl; exact hb hA)⟩
/-- one more cell written -/
theorem Fr_and {A : Nat → Prop} {H H2 : mH} {a k : Nat} {fs gs : List Int} (h1 : Fr A H H2) (hA : A a) (h : H[a]? = some (k, fs)) (hl : gs.length = fs.length) : Fr A H (pt H2 a gs) := by
  obtain ⟨f2, h2, h3⟩ := h1.1.2 a k fs h
  exact Fr_trans h1 (Fr_pt hA h2 (by omega))
theorem Shp_sz {H H2 : mH} (h : Shp H H2) : m_sz H2 = m_sz H := by
  unfold m_sz
  congr 1
  apply List.ext_getElem?
  intro k
  simp only [List.getElem?_map]
  cases hk : H[k]? with
  | none =>
    rw [List.getElem?_eq_none (by rw [h.1]; exact List.getElem?_eq_none_iff.mp hk)]
  | some c =>
    obtain ⟨gs, g1, g2⟩ := h.2 k c.1 c.2 hk
    rw [g1]
    simp [g2]
