/-! the winnow: sets of blocks -/
noncomputable def cd (p : Prop) : Bool := @decide p (Classical.propDecidable p)
theorem cd_t {p : Prop} : cd p = true ↔ p := @decide_eq_true_iff p (Classical.propDecidable p)
theorem cd_f {p : Prop} : cd p = false ↔ ¬ p := by
  cases h : cd p with
  | true => exact ⟨fun z => (by cases z), fun z => absurd (cd_t.mp h) z⟩
  | false => exact ⟨fun _ q => (by rw [cd_t.mpr q] at h; cases h), fun _ => rfl⟩
theorem cd_congr {p q : Prop} (h : p ↔ q) : cd p = cd q := by
  rw [propext h]
/-- the set of the blocks with a property -/
def ms (P : Nat → Bool) : Nat → Int
  | 0 => 0
  | n + 1 => if P n = true then m_or (ms P n) (m_shl 1 n) else ms P n
theorem ms_in (P : Nat → Bool) : ∀ n : Nat, n ≤ 24 → 0 ≤ ms P n ∧ ms P n ≤ 16777215
  | 0, _ => by simp [ms]
  | n + 1, hn => by
    have := ms_in P n (by omega)
    simp only [ms]
    split
    · exact m_or_in this (m_shl_in (by omega) (by omega))
    · exact this
theorem ms_bit (P : Nat → Bool) {b : Nat} : ∀ n : Nat, n ≤ 24 → bit (ms P n) b = (decide (b < n) && P b)
  | 0, _ => by simp [ms, bit_zero]
  | n + 1, hn => by
    have h1 := ms_in P n (by omega)
    have h2 := ms_bit P (b := b) n (by omega)
    simp only [ms]
    by_cases e : P n = true
    · rw [if_pos e, bit_or h1 (m_shl_in (by omega) (by omega)), h2, bit_shl (by omega) (by omega) (by omega)]
      by_cases e2 : n = b
      · subst e2; simp [e]
      · have : ¬ (n : Int) = (b : Int) := by omega
        have e3 : b < n + 1 ↔ b < n := by omega
        simp [this, e3]
    · rw [if_neg e, h2]
      by_cases e2 : n = b
      · subst e2; simp [e]
      · have e3 : b < n + 1 ↔ b < n := by omega
        simp [e3]
noncomputable def mset (P : Nat → Prop) : Int := ms (fun b => cd (P b)) 24
theorem mset_in (P : Nat → Prop) : 0 ≤ mset P ∧ mset P ≤ 16777215 := ms_in _ 24 (by omega)
theorem mset_bit {P : Nat → Prop} {b : Nat} : bit (mset P) b = true ↔ (b < 24 ∧ P b) := by
  unfold mset
  rw [ms_bit _ 24 (by omega), Bool.and_eq_true, decide_eq_true_iff, cd_t]
theorem mset_eq {P : Nat → Prop} {x : Int} (hx : 0 ≤ x ∧ x ≤ 16777215) (h : ∀ b : Nat, b < 24 → (bit x b = true ↔ P b)) : x = mset P := by
  refine bit_ext hx (mset_in P) (fun b h0 h1 => ?_)
  obtain ⟨c, rfl⟩ : ∃ c : Nat, b = (c : Int) := ⟨b.toNat, by omega⟩
  have h2 := h c (by omega)
  cases e : bit (mset P) (c : Int) with
  | true => exact h2.mpr (mset_bit.mp e).2
  | false =>
    cases e2 : bit x (c : Int) with
    | false => rfl
    | true => rw [mset_bit.mpr ⟨by omega, h2.mp e2⟩] at e; cases e
theorem mset_congr {P Q : Nat → Prop} (h : ∀ b : Nat, b < 24 → (P b ↔ Q b)) : mset P = mset Q :=
  mset_eq (mset_in P) (fun b hb => by rw [mset_bit]; exact ⟨fun z => (h b hb).mp z.2, fun z => ⟨hb, (h b hb).mpr z⟩⟩)
theorem mset_0 {P : Nat → Prop} (h : ∀ b : Nat, b < 24 → ¬ P b) : mset P = 0 :=
  (mset_eq ⟨by omega, by omega⟩ (fun b hb => by rw [bit_zero]; exact ⟨fun z => (by cases z), fun z => absurd z (h b hb)⟩)).symm
theorem or_eq {P : Nat → Prop} {x z : Int} (hx : 0 ≤ x ∧ x ≤ 16777215) (hz : 0 ≤ z ∧ z ≤ 16777215) (h : ∀ b : Nat, b < 24 → ((bit x b = true ∨ bit z b = true) ↔ P b)) : m_or x z = mset P :=
  mset_eq (m_or_in hx hz) (fun b hb => by rw [bit_or hx hz, Bool.or_eq_true]; exact h b hb)
theorem and_eq {P : Nat → Prop} {x z : Int} (hx : 0 ≤ x ∧ x ≤ 16777215) (hz : 0 ≤ z ∧ z ≤ 16777215) (h : ∀ b : Nat, b < 24 → ((bit x b = true ∧ bit z b = true) ↔ P b)) : m_and x z = mset P :=
  mset_eq (m_and_in hx hz) (fun b hb => by rw [bit_and hx hz, Bool.and_eq_true]; exact h b hb)
theorem and_0 {x z : Int} (hx : 0 ≤ x ∧ x ≤ 16777215) (hz : 0 ≤ z ∧ z ≤ 16777215) : m_and x z = 0 ↔ ∀ b : Nat, b < 24 → ¬ (bit x b = true ∧ bit z b = true) := by
  constructor
  · intro h b hb hq
    have := bit_and hx hz (b := (b : Int))
    rw [h, bit_zero, hq.1, hq.2] at this
    cases this
  · intro h
    refine bit_ext (m_and_in hx hz) ⟨by omega, by omega⟩ (fun b h0 h1 => ?_)
    obtain ⟨c, rfl⟩ : ∃ c : Nat, b = (c : Int) := ⟨b.toNat, by omega⟩
    rw [bit_and hx hz, bit_zero]
    have := h c (by omega)
    cases e1 : bit x (c : Int) <;> cases e2 : bit z (c : Int) <;> first | rfl | exact absurd ⟨e1, e2⟩ this
theorem b15_all : (List.range 6).all (fun k => (List.range 24).all (fun b => bit (m_shl 15 ((k : Int) * 4)) b == decide (4 * k ≤ b ∧ b < 4 * k + 4)) && decide (0 ≤ m_shl 15 ((k : Int) * 4)) && decide (m_shl 15 ((k : Int) * 4) ≤ 16777215)) = true := by decide +kernel
theorem b15 {k b : Nat} (hk : k < 6) (hb : b < 24) : (bit (m_shl 15 ((k : Int) * 4)) b = true ↔ (4 * k ≤ b ∧ b < 4 * k + 4)) ∧ 0 ≤ m_shl 15 ((k : Int) * 4) ∧ m_shl 15 ((k : Int) * 4) ≤ 16777215 := by
  have h1 := List.all_eq_true.mp b15_all k (List.mem_range.mpr hk)
  simp only [Bool.and_eq_true, decide_eq_true_eq] at h1
  have h2 := List.all_eq_true.mp h1.1.1 b (List.mem_range.mpr hb)
  rw [beq_iff_eq] at h2
  rw [h2, decide_eq_true_iff]
  exact ⟨Iff.rfl, h1.1.2, h1.2⟩
section WN
variable {H : mH} {ta lay : Nat} {bl sl : List Int} {kd wd ht rm mo sd bo : Int} {ed hu sk : List Int} {W : List Int} {n : Nat}
def pln (ed : List Int) (kd : Int) (b : Nat) : Prop := (b : Int) < kd * 4 ∧ plB ed b = true
theorem pw_set (b1 : bet ed 0 9) (r1 : 0 ≤ kd ∧ kd ≤ 6) {h : Nat} {e : Int} (h4 : h < 4) {b : Nat} : bit (pw (hvs ed (4 * kd).toNat) h e) b = true ↔ (pln ed kd b ∧ eo ed b h = e) := by
  rw [pw_bit b1 (by omega) h4]
  unfold pln
  constructor
  · rintro ⟨a1, a2, a3⟩; exact ⟨⟨by omega, a2⟩, a3⟩
  · rintro ⟨⟨a1, a2⟩, a3⟩; exact ⟨by omega, a2, a3⟩
/-- the blocks that meet one of others on a hand -/
def mOP (ed : List Int) (kd x : Int) (h : Nat) (b : Nat) : Prop := pln ed kd b ∧ ∃ c : Nat, c < 24 ∧ bit x c = true ∧ pln ed kd c ∧ eo ed c (((h : Int) + 2).tmod 4) = eo ed b h
theorem C_meetOne (hT : isTold H ta kd wd ht rm mo sd bo ed hu sk (hvs ed (4 * kd).toNat)) {x : Int} {h : Nat} (hx : 0 ≤ x ∧ x ≤ 16777215) (h4 : h < 4) : Call 1 53 [mR ta, mI x, mI (h : Int)] H (mI (mset (mOP ed kd x h))) H := by
  have hT0 := hT
  obtain ⟨t0, t1, t2, t3, t4, ⟨r1, r2, r3, r4, r5, r6, r7, b1, b2, b3, b4, n1, n2, n3, n4⟩⟩ := hT
  have hpi : ∀ {h e : Int}, 0 ≤ pw (hvs ed (4 * kd).toNat) h e ∧ pw (hvs ed (4 * kd).toNat) h e ≤ 16777215 := pw_in b1 (by omega)
  refine Call_of rfl ?_
  refine E_iconst (pc' := 1) g53_0 (by decide) rfl ?_
  refine E_st3 (pc' := 2) g53_1 rfl ?_
  refine E_iconst (pc' := 3) g53_2 (by decide) rfl ?_
  refine E_st4 (pc' := 5) g53_3 rfl ?_
  refine Ev_cast (ls := [mR ta, mI x, mI (h : Int), mI (mset (fun b => mOP ed kd x h b ∧ eo ed b h < ((0 : Nat) : Int))), mI ((0 : Nat) : Int)]) ?_ (by rw [mset_0 (fun b hb z => by have := eo_bd b1 (x := b) (h := h) (by omega) (by omega); have := z.2; omega)]; rfl) rfl
  refine E_loop (n := 10) (fun i => Ev 1 53 5 [mR ta, mI x, mI (h : Int), mI (mset (fun b => mOP ed kd x h b ∧ eo ed b h < (i : Int))), mI (i : Int)] [] H (mI (mset (mOP ed kd x h))) H) ?_ ?_ 0 (by omega)
  · intro i hi hh
    have hq := and_0 hx (hpi (h := ((h : Int) + 2).tmod 4) (e := (i : Int)))
    have ht2 := tm2 h4
    refine E_iload (pc' := 7) g53_5 rfl rfl ?_
    refine E_bipush (pc' := 9) g53_7 (by decide) rfl ?_
    refine E_icge (pc' := 12) (pt := 43) g53_9 rfl rfl (fun c0 => ?_) (fun c0 => ?_)
    · exact absurd c0 (by omega)
    · refine E_iload_n (pc' := 13) g53_12 rfl rfl ?_
      refine E_aload_n (pc' := 14) g53_13 rfl rfl ?_
      refine E_iload_n (pc' := 15) g53_14 rfl rfl ?_
      refine E_cN1i (pc' := 18) g53_15 k53_69 na96 rfl rfl (Nat.le_of_ble_eq_true rfl) (C_opposite (by omega)) (by decide) ?_
      refine E_iload (pc' := 20) g53_18 rfl rfl ?_
      refine E_cV2i (pc' := 23) g53_20 k53_56 na41 rfl ow41 rfl (Nat.le_of_ble_eq_true rfl) (by assumption) (C_plainWith hT0) (by decide) ?_
      refine E_iand (pc' := 24) g53_23 rfl ?_
      refine E_ifeq (pc' := 27) (pt := 37) g53_24 rfl rfl (fun c1 => ?_) (fun c1 => ?_)
      · have hz := hq.mp c1
        refine E_in4 (pc' := 40) g53_37 rfl (m_in_iff.mpr (by omega)) ?_
        refine E_goto (pc' := 5) g53_40 rfl ?_
        first
        | (have e : mset (fun b => mOP ed kd x h b ∧ eo ed b h < (i : Int)) = mset (fun b => mOP ed kd x h b ∧ eo ed b h < ((i + 1 : Nat) : Int)) := by
             refine mset_congr (fun b hb => ⟨fun q => ⟨q.1, by omega⟩, fun q => ⟨q.1, ?_⟩⟩)
             rcases Int.lt_or_le (eo ed b h) i with z | z
             · exact z
             · obtain ⟨q1, c, c1, c2, c3, c4⟩ := q.1
               refine absurd ⟨c2, ?_⟩ (hz c c1)
               rw [ht2] at c4 ⊢
               exact (pw_set b1 r1 (by omega)).mpr ⟨c3, by omega⟩
           exact Ev_cast hh (by rw [e]; rfl) rfl)
        | (have e : m_or (mset (fun b => mOP ed kd x h b ∧ eo ed b h < (i : Int))) (pw (hvs ed (4 * kd).toNat) h i) = mset (fun b => mOP ed kd x h b ∧ eo ed b h < ((i + 1 : Nat) : Int)) := by
             refine or_eq (mset_in _) hpi (fun b hb => ?_)
             rw [mset_bit, pw_set b1 r1 h4]
             obtain ⟨c, c1, c2, c3⟩ := hz
             rw [ht2] at c3
             have c3 := (pw_set b1 r1 (by omega)).mp c3
             constructor
             · rintro (q | q)
               · exact ⟨q.2.1, by omega⟩
               · refine ⟨⟨q.1, c, c1, c2, c3.1, ?_⟩, by omega⟩
                 rw [ht2, c3.2, q.2]
             · rintro ⟨q1, q2⟩
               by_cases e : eo ed b h = i
               · exact Or.inr ⟨q1.1, e⟩
               · exact Or.inl ⟨hb, q1, by omega⟩
           exact Ev_cast hh (by rw [e]; rfl) rfl)
      · have hz : ∃ c : Nat, c < 24 ∧ bit x c = true ∧ bit (pw (hvs ed (4 * kd).toNat) (((h : Int) + 2).tmod 4) i) c = true := Classical.byContradiction (fun z => c1 (hq.mpr (fun b hb hc => z ⟨b, hb, hc.1, hc.2⟩)))
        refine E_iload_n (pc' := 28) g53_27 rfl rfl ?_
        refine E_aload_n (pc' := 29) g53_28 rfl rfl ?_
        refine E_iload_n (pc' := 30) g53_29 rfl rfl ?_
        refine E_iload (pc' := 32) g53_30 rfl rfl ?_
        refine E_cV2i (pc' := 35) g53_32 k53_56 na41 rfl ow41 rfl (Nat.le_of_ble_eq_true rfl) (by assumption) (C_plainWith hT0) (by decide) ?_
        refine E_ior (pc' := 36) g53_35 rfl ?_
        refine E_st3 (pc' := 37) g53_36 rfl ?_
        refine E_in4 (pc' := 40) g53_37 rfl (m_in_iff.mpr (by omega)) ?_
        refine E_goto (pc' := 5) g53_40 rfl ?_
        first
        | (have e : mset (fun b => mOP ed kd x h b ∧ eo ed b h < (i : Int)) = mset (fun b => mOP ed kd x h b ∧ eo ed b h < ((i + 1 : Nat) : Int)) := by
             refine mset_congr (fun b hb => ⟨fun q => ⟨q.1, by omega⟩, fun q => ⟨q.1, ?_⟩⟩)
             rcases Int.lt_or_le (eo ed b h) i with z | z
             · exact z
             · obtain ⟨q1, c, c1, c2, c3, c4⟩ := q.1
               refine absurd ⟨c2, ?_⟩ (hz c c1)
               rw [ht2] at c4 ⊢
               exact (pw_set b1 r1 (by omega)).mpr ⟨c3, by omega⟩
           exact Ev_cast hh (by rw [e]; rfl) rfl)
        | (have e : m_or (mset (fun b => mOP ed kd x h b ∧ eo ed b h < (i : Int))) (pw (hvs ed (4 * kd).toNat) h i) = mset (fun b => mOP ed kd x h b ∧ eo ed b h < ((i + 1 : Nat) : Int)) := by
             refine or_eq (mset_in _) hpi (fun b hb => ?_)
             rw [mset_bit, pw_set b1 r1 h4]
             obtain ⟨c, c1, c2, c3⟩ := hz
             rw [ht2] at c3
             have c3 := (pw_set b1 r1 (by omega)).mp c3
             constructor
             · rintro (q | q)
               · exact ⟨q.2.1, by omega⟩
               · refine ⟨⟨q.1, c, c1, c2, c3.1, ?_⟩, by omega⟩
                 rw [ht2, c3.2, q.2]
             · rintro ⟨q1, q2⟩
               by_cases e : eo ed b h = i
               · exact Or.inr ⟨q1.1, e⟩
               · exact Or.inl ⟨hb, q1, by omega⟩
           exact Ev_cast hh (by rw [e]; rfl) rfl)
  · refine E_iload (pc' := 7) g53_5 rfl rfl ?_
    refine E_bipush (pc' := 9) g53_7 (by decide) rfl ?_
    refine E_icge (pc' := 12) (pt := 43) g53_9 rfl rfl (fun c0 => ?_) (fun c0 => ?_)
    · refine E_iload_n (pc' := 44) g53_43 rfl rfl ?_
      exact E_iret g53_44 ro53 (congrArg mI (mset_congr (P := mOP ed kd x h) (Q := fun b => mOP ed kd x h b ∧ eo ed b h < ((10 : Nat) : Int)) (fun b hb => ⟨fun q => ⟨q, by have := eo_bd b1 (x := b) (h := h) (by omega) (by omega); omega⟩, fun q => q.1⟩))) rfl
    · exact absurd c0 (by omega)
/-- what stays in a square -/
def suP (bl ed W : List Int) (kd wd ht : Int) (s : Nat) (m : Nat) (b : Nat) : Prop := bit (ix W s) b = true ∧ ∀ h : Nat, h < m → ¬ bsd wd ht s h = -9 → ix bl (bsd wd ht s h) = -9 → mOP ed kd (ix W (bsd wd ht s h)) h b
theorem C_supported (hT : isTold H ta kd wd ht rm mo sd bo ed hu sk (hvs ed (4 * kd).toNat)) (hLy : isLay H lay bl sl) (h22 : H[22]? = some (5, [((23 : Nat) : Int)])) (h23 : H[23]? = some (8, W)) (hWl : W.length = 6) (hW : bet W 0 16777215) {s : Nat} (hn : (n : Int) = wd * ht) (hs : s < n) : Call 2 52 [mR 22, mR ta, mR lay, mI (s : Int)] H (mI (mset (suP bl ed W kd wd ht s 4))) H := by
  have hT0 := hT
  have hL0 := hLy
  obtain ⟨t0, t1, t2, t3, t4, ⟨r1, r2, r3, r4, r5, r6, r7, b1, b2, b3, b4, n1, n2, n3, n4⟩⟩ := hT
  obtain ⟨y0, y1, y2, l1, l2, ob, hsl⟩ := hLy
  have hw := wh_bd r2.1 r2.2 r3.1 r3.2
  have hWs := hW s
  refine Call_of rfl ?_
  refine E_aload_n (pc' := 1) g52_0 rfl rfl ?_
  refine E_getR (pc' := 4) g52_1 f52_9 tg5_0 rfl (by assumption) rfl ?_
  refine E_iload_n (pc' := 5) g52_4 rfl rfl ?_
  refine E_iaload (pc' := 6) g52_5 rfl (by assumption) (by omega) (by omega) ?_
  refine E_st4 (pc' := 8) g52_6 rfl ?_
  refine E_iconst (pc' := 9) g52_8 (by decide) rfl ?_
  refine E_st5 (pc' := 11) g52_9 rfl ?_
  refine Ev_cast (ls := [mR 22, mR ta, mR lay, mI (s : Int), mI (mset (suP bl ed W kd wd ht s 0)), mI ((0 : Nat) : Int), none]) ?_ (by rw [← mset_eq (x := ix W s) hWs (fun b hb => ⟨fun q => ⟨q, fun h hh => absurd hh (by omega)⟩, fun q => q.1⟩)]; rfl) rfl
  refine (E_loop (n := 4) (fun i => ∀ u : mV, Ev 2 52 11 [mR 22, mR ta, mR lay, mI (s : Int), mI (mset (suP bl ed W kd wd ht s i)), mI (i : Int), u] [] H (mI (mset (suP bl ed W kd wd ht s 4))) H) ?_ ?_ 0 (by omega)) none
  · intro i hi hh u
    have hbs := (bs_at r2 r3 (s := s) (h := i) (by omega) (by omega)).2
    have e3 := isO_or bl (bsd wd ht s i)
    refine E_iload (pc' := 13) g52_11 rfl rfl ?_
    refine E_iconst (pc' := 14) g52_13 (by decide) rfl ?_
    refine E_icge (pc' := 17) (pt := 71) g52_14 rfl rfl (fun c0 => ?_) (fun c0 => ?_)
    · exact absurd c0 (by omega)
    · first
      | (exfalso; omega)
      | (refine E_aload_n (pc' := 18) g52_17 rfl rfl ?_
         refine E_iload_n (pc' := 19) g52_18 rfl rfl ?_
         refine E_iload (pc' := 21) g52_19 rfl rfl ?_
         refine E_cV2i (pc' := 24) g52_21 k52_60 na42 rfl ow42 rfl (Nat.le_of_ble_eq_true rfl) (by assumption) (C_beside hT0 (by omega)) (by decide) ?_
         refine E_st6 (pc' := 26) g52_24 rfl ?_
         refine E_iload (pc' := 28) g52_26 rfl rfl ?_
         refine E_iflt (pc' := 31) (pt := 65) g52_28 rfl rfl (fun c1 => ?_) (fun c1 => ?_)
         · first
           | (exfalso; omega)
           | (refine E_in5 (pc' := 68) g52_65 rfl (m_in_iff.mpr (by omega)) ?_
              refine E_goto (pc' := 11) g52_68 rfl ?_
              first
              | (have e : m_and (mset (suP bl ed W kd wd ht s i)) (mset (mOP ed kd (ix W (bsd wd ht s i)) i)) = mset (suP bl ed W kd wd ht s (i + 1)) := by
                   refine and_eq (mset_in _) (mset_in _) (fun b hb => ?_)
                   rw [mset_bit, mset_bit]
                   constructor
                   · rintro ⟨⟨-, q1, q2⟩, -, q3⟩
                     refine ⟨q1, fun h hh h9 h8 => ?_⟩
                     rcases Nat.lt_or_ge h i with z | z
                     · exact q2 h z h9 h8
                     · rw [show h = i by omega]; exact q3
                   · rintro ⟨q1, q2⟩
                     exact ⟨⟨hb, q1, fun h hh => q2 h (by omega)⟩, hb, q2 i (by omega) (by omega) (by omega)⟩
                 exact Ev_cast (hh _) (by rw [e]; rfl) rfl)
              | (have e : mset (suP bl ed W kd wd ht s i) = mset (suP bl ed W kd wd ht s (i + 1)) := by
                   refine mset_congr (fun b hb => ⟨fun q => ⟨q.1, fun h hh h9 h8 => ?_⟩, fun q => ⟨q.1, fun h hh => q.2 h (by omega)⟩⟩)
                   rcases Nat.lt_or_ge h i with z | z
                   · exact q.2 h z h9 h8
                   · rw [show h = i by omega] at h9 h8
                     exfalso; omega
                 exact Ev_cast (hh _) (by rw [e]; rfl) rfl))
         · first
           | (exfalso; omega)
           | (refine E_iload (pc' := 33) g52_31 rfl rfl ?_
              refine E_bipush (pc' := 35) g52_33 (by decide) rfl ?_
              refine E_icge (pc' := 38) (pt := 65) g52_35 rfl rfl (fun c2 => ?_) (fun c2 => ?_)
              · first
                | (exfalso; omega)
                | (refine E_in5 (pc' := 68) g52_65 rfl (m_in_iff.mpr (by omega)) ?_
                   refine E_goto (pc' := 11) g52_68 rfl ?_
                   first
                   | (have e : m_and (mset (suP bl ed W kd wd ht s i)) (mset (mOP ed kd (ix W (bsd wd ht s i)) i)) = mset (suP bl ed W kd wd ht s (i + 1)) := by
                        refine and_eq (mset_in _) (mset_in _) (fun b hb => ?_)
                        rw [mset_bit, mset_bit]
                        constructor
                        · rintro ⟨⟨-, q1, q2⟩, -, q3⟩
                          refine ⟨q1, fun h hh h9 h8 => ?_⟩
                          rcases Nat.lt_or_ge h i with z | z
                          · exact q2 h z h9 h8
                          · rw [show h = i by omega]; exact q3
                        · rintro ⟨q1, q2⟩
                          exact ⟨⟨hb, q1, fun h hh => q2 h (by omega)⟩, hb, q2 i (by omega) (by omega) (by omega)⟩
                      exact Ev_cast (hh _) (by rw [e]; rfl) rfl)
                   | (have e : mset (suP bl ed W kd wd ht s i) = mset (suP bl ed W kd wd ht s (i + 1)) := by
                        refine mset_congr (fun b hb => ⟨fun q => ⟨q.1, fun h hh h9 h8 => ?_⟩, fun q => ⟨q.1, fun h hh => q.2 h (by omega)⟩⟩)
                        rcases Nat.lt_or_ge h i with z | z
                        · exact q.2 h z h9 h8
                        · rw [show h = i by omega] at h9 h8
                          exfalso; omega
                      exact Ev_cast (hh _) (by rw [e]; rfl) rfl))
              · first
                | (exfalso; omega)
                | (refine E_aload_n (pc' := 39) g52_38 rfl rfl ?_
                   refine E_iload (pc' := 41) g52_39 rfl rfl ?_
                   refine E_cV1i (pc' := 44) g52_41 k52_25 na17 rfl ow17 rfl (Nat.le_of_ble_eq_true rfl) (by assumption) (C_isOpen hL0) (by decide) ?_
                   refine E_ifeq (pc' := 47) (pt := 65) g52_44 rfl rfl (fun c3 => ?_) (fun c3 => ?_)
                   · first
                     | (exfalso; omega)
                     | (refine E_in5 (pc' := 68) g52_65 rfl (m_in_iff.mpr (by omega)) ?_
                        refine E_goto (pc' := 11) g52_68 rfl ?_
                        first
                        | (have e : m_and (mset (suP bl ed W kd wd ht s i)) (mset (mOP ed kd (ix W (bsd wd ht s i)) i)) = mset (suP bl ed W kd wd ht s (i + 1)) := by
                             refine and_eq (mset_in _) (mset_in _) (fun b hb => ?_)
                             rw [mset_bit, mset_bit]
                             constructor
                             · rintro ⟨⟨-, q1, q2⟩, -, q3⟩
                               refine ⟨q1, fun h hh h9 h8 => ?_⟩
                               rcases Nat.lt_or_ge h i with z | z
                               · exact q2 h z h9 h8
                               · rw [show h = i by omega]; exact q3
                             · rintro ⟨q1, q2⟩
                               exact ⟨⟨hb, q1, fun h hh => q2 h (by omega)⟩, hb, q2 i (by omega) (by omega) (by omega)⟩
                           exact Ev_cast (hh _) (by rw [e]; rfl) rfl)
                        | (have e : mset (suP bl ed W kd wd ht s i) = mset (suP bl ed W kd wd ht s (i + 1)) := by
                             refine mset_congr (fun b hb => ⟨fun q => ⟨q.1, fun h hh h9 h8 => ?_⟩, fun q => ⟨q.1, fun h hh => q.2 h (by omega)⟩⟩)
                             rcases Nat.lt_or_ge h i with z | z
                             · exact q.2 h z h9 h8
                             · rw [show h = i by omega] at h9 h8
                               exfalso; omega
                           exact Ev_cast (hh _) (by rw [e]; rfl) rfl))
                   · first
                     | (exfalso; omega)
                     | (refine E_iload (pc' := 49) g52_47 rfl rfl ?_
                        refine E_aload_n (pc' := 50) g52_49 rfl rfl ?_
                        refine E_aload_n (pc' := 51) g52_50 rfl rfl ?_
                        refine E_getR (pc' := 54) g52_51 f52_9 tg5_0 rfl (by assumption) rfl ?_
                        refine E_iload (pc' := 56) g52_54 rfl rfl ?_
                        refine E_iaload (pc' := 57) g52_56 rfl (by assumption) (by omega) (by omega) ?_
                        refine E_iload (pc' := 59) g52_57 rfl rfl ?_
                        refine E_cS3i (pc' := 62) g52_59 k52_75 na53 rfl rfl (Nat.le_of_ble_eq_true rfl) (C_meetOne hT0 (hW _) hi) (by decide) ?_
                        refine E_iand (pc' := 63) g52_62 rfl ?_
                        refine E_st4 (pc' := 65) g52_63 rfl ?_
                        refine E_in5 (pc' := 68) g52_65 rfl (m_in_iff.mpr (by omega)) ?_
                        refine E_goto (pc' := 11) g52_68 rfl ?_
                        first
                        | (have e : m_and (mset (suP bl ed W kd wd ht s i)) (mset (mOP ed kd (ix W (bsd wd ht s i)) i)) = mset (suP bl ed W kd wd ht s (i + 1)) := by
                             refine and_eq (mset_in _) (mset_in _) (fun b hb => ?_)
                             rw [mset_bit, mset_bit]
                             constructor
                             · rintro ⟨⟨-, q1, q2⟩, -, q3⟩
                               refine ⟨q1, fun h hh h9 h8 => ?_⟩
                               rcases Nat.lt_or_ge h i with z | z
                               · exact q2 h z h9 h8
                               · rw [show h = i by omega]; exact q3
                             · rintro ⟨q1, q2⟩
                               exact ⟨⟨hb, q1, fun h hh => q2 h (by omega)⟩, hb, q2 i (by omega) (by omega) (by omega)⟩
                           exact Ev_cast (hh _) (by rw [e]; rfl) rfl)
                        | (have e : mset (suP bl ed W kd wd ht s i) = mset (suP bl ed W kd wd ht s (i + 1)) := by
                             refine mset_congr (fun b hb => ⟨fun q => ⟨q.1, fun h hh h9 h8 => ?_⟩, fun q => ⟨q.1, fun h hh => q.2 h (by omega)⟩⟩)
                             rcases Nat.lt_or_ge h i with z | z
                             · exact q.2 h z h9 h8
                             · rw [show h = i by omega] at h9 h8
                               exfalso; omega
                           exact Ev_cast (hh _) (by rw [e]; rfl) rfl)))))
  · intro u
    refine E_iload (pc' := 13) g52_11 rfl rfl ?_
    refine E_iconst (pc' := 14) g52_13 (by decide) rfl ?_
    refine E_icge (pc' := 17) (pt := 71) g52_14 rfl rfl (fun c0 => ?_) (fun c0 => ?_)
    · refine E_iload (pc' := 73) g52_71 rfl rfl ?_
      exact E_iret g52_73 ro52 rfl rfl
    · exact absurd c0 (by omega)
def maP (bl ed : List Int) (kd wd ht rm : Int) (s : Nat) (m : Nat) (b : Nat) : Prop := pln ed kd b ∧ ∀ h : Nat, h < m → (rm = -9 ∨ krP ed wd ht rm s b h) ∧ mtP bl ed wd ht s b h
theorem C_around (hT : isTold H ta kd wd ht rm mo sd bo ed hu sk (hvs ed (4 * kd).toNat)) (hLy : isLay H lay bl sl) {s : Nat} (hn : (n : Int) = wd * ht) (hs : s < n) : Call 1 51 [mR ta, mR lay, mI (s : Int)] H (mI (mset (maP bl ed kd wd ht rm s 4))) H := by
  have hT0 := hT
  have hL0 := hLy
  obtain ⟨t0, t1, t2, t3, t4, ⟨r1, r2, r3, r4, r5, r6, r7, b1, b2, b3, b4, n1, n2, n3, n4⟩⟩ := hT
  obtain ⟨y0, y1, y2, l1, l2, ob, hsl⟩ := hLy
  have hw := wh_bd r2.1 r2.2 r3.1 r3.2
  have hpi : ∀ {h e : Int}, 0 ≤ pw (hvs ed (4 * kd).toNat) h e ∧ pw (hvs ed (4 * kd).toNat) h e ≤ 16777215 := pw_in b1 (by omega)
  refine Call_of rfl ?_
  refine E_iconst (pc' := 1) g51_0 (by decide) rfl ?_
  refine E_st3 (pc' := 2) g51_1 rfl ?_
  refine E_iconst (pc' := 3) g51_2 (by decide) rfl ?_
  refine E_st4 (pc' := 5) g51_3 rfl ?_
  refine Ev_cast (ls := [mR ta, mR lay, mI (s : Int), mI (mset (fun b => pln ed kd b ∧ eo ed b 0 < ((0 : Nat) : Int))), mI ((0 : Nat) : Int), none]) ?_ (by rw [mset_0 (fun b hb z => by have := eo_bd b1 (x := b) (h := 0) (by omega) (by omega); have := z.2; omega)]; rfl) rfl
  refine E_loop (n := 10) (fun i => Ev 1 51 5 [mR ta, mR lay, mI (s : Int), mI (mset (fun b => pln ed kd b ∧ eo ed b 0 < (i : Int))), mI (i : Int), none] [] H (mI (mset (maP bl ed kd wd ht rm s 4))) H) ?_ ?_ 0 (by omega)
  · intro i hi hh
    refine E_iload (pc' := 7) g51_5 rfl rfl ?_
    refine E_bipush (pc' := 9) g51_7 (by decide) rfl ?_
    refine E_icge (pc' := 12) (pt := 28) g51_9 rfl rfl (fun c0 => ?_) (fun c0 => ?_)
    · exact absurd c0 (by omega)
    · refine E_iload_n (pc' := 13) g51_12 rfl rfl ?_
      refine E_aload_n (pc' := 14) g51_13 rfl rfl ?_
      refine E_iconst (pc' := 15) g51_14 (by decide) rfl ?_
      refine E_iload (pc' := 17) g51_15 rfl rfl ?_
      refine E_cV2i (pc' := 20) g51_17 k51_56 na41 rfl ow41 rfl (Nat.le_of_ble_eq_true rfl) (by assumption) (C_plainWith hT0) (by decide) ?_
      refine E_ior (pc' := 21) g51_20 rfl ?_
      refine E_st3 (pc' := 22) g51_21 rfl ?_
      refine E_in4 (pc' := 25) g51_22 rfl (m_in_iff.mpr (by omega)) ?_
      refine E_goto (pc' := 5) g51_25 rfl ?_
      have e : m_or (mset (fun b => pln ed kd b ∧ eo ed b 0 < (i : Int))) (pw (hvs ed (4 * kd).toNat) 0 i) = mset (fun b => pln ed kd b ∧ eo ed b 0 < ((i + 1 : Nat) : Int)) := by
        refine or_eq (mset_in _) hpi (fun b hb => ?_)
        have h0 := pw_set (h := 0) (e := i) b1 r1 (by omega) (b := b)
        rw [mset_bit, show ((0 : Nat) : Int) = 0 by rfl] at *
        rw [h0]
        constructor
        · rintro (q | q)
          · exact ⟨q.2.1, by omega⟩
          · exact ⟨q.1, by omega⟩
        · rintro ⟨q1, q2⟩
          by_cases e : eo ed b 0 = i
          · exact Or.inr ⟨q1, e⟩
          · exact Or.inl ⟨hb, q1, by omega⟩
      exact Ev_cast hh (by rw [e]; rfl) rfl
  · refine E_iload (pc' := 7) g51_5 rfl rfl ?_
    refine E_bipush (pc' := 9) g51_7 (by decide) rfl ?_
    refine E_icge (pc' := 12) (pt := 28) g51_9 rfl rfl (fun c0 => ?_) (fun c0 => ?_)
    · refine E_iconst (pc' := 29) g51_28 (by decide) rfl ?_
      refine E_st4 (pc' := 31) g51_29 rfl ?_
      refine Ev_cast (ls := [mR ta, mR lay, mI (s : Int), mI (mset (maP bl ed kd wd ht rm s 0)), mI ((0 : Nat) : Int), none]) ?_ (by rw [mset_congr (Q := maP bl ed kd wd ht rm s 0) (fun b hb => ⟨fun q => ⟨q.1, fun h hh => absurd hh (by omega)⟩, fun q => ⟨q.1, by have := eo_bd b1 (x := b) (h := 0) (by omega) (by omega); omega⟩⟩)]; rfl) rfl
      refine (E_loop (n := 4) (fun i => ∀ u : mV, Ev 1 51 31 [mR ta, mR lay, mI (s : Int), mI (mset (maP bl ed kd wd ht rm s i)), mI (i : Int), u] [] H (mI (mset (maP bl ed kd wd ht rm s 4))) H) ?_ ?_ 0 (by omega)) none
      · intro i hi hh u
        have hbs := (bs_at r2 r3 (s := s) (h := i) (by omega) (by omega)).2
        have e3 := isO_or bl (bsd wd ht s i)
        have ha := and_self (mset_in (maP bl ed kd wd ht rm s i))
        refine E_iload (pc' := 33) g51_31 rfl rfl ?_
        refine E_iconst (pc' := 34) g51_33 (by decide) rfl ?_
        refine E_icge (pc' := 37) (pt := 127) g51_34 rfl rfl (fun c0 => ?_) (fun c0 => ?_)
        · exact absurd c0 (by omega)
        · first
          | (exfalso; omega)
          | (refine E_aload_n (pc' := 38) g51_37 rfl rfl ?_
             refine E_iload_n (pc' := 39) g51_38 rfl rfl ?_
             refine E_iload (pc' := 41) g51_39 rfl rfl ?_
             refine E_cV2i (pc' := 44) g51_41 k51_60 na42 rfl ow42 rfl (Nat.le_of_ble_eq_true rfl) (by assumption) (C_beside hT0 (by omega)) (by decide) ?_
             refine E_st5 (pc' := 46) g51_44 rfl ?_
             refine E_iload (pc' := 48) g51_46 rfl rfl ?_
             refine E_iflt (pc' := 51) (pt := 58) g51_48 rfl rfl (fun c1 => ?_) (fun c1 => ?_)
             · first
               | (exfalso; omega)
               | (refine E_iload_n (pc' := 59) g51_58 rfl rfl ?_
                  refine E_aload_n (pc' := 60) g51_59 rfl rfl ?_
                  refine E_getI (pc' := 63) g51_60 f51_63 tg4_3 (by decide) rfl (by assumption) rfl ?_
                  refine E_bipush (pc' := 65) g51_63 (by decide) rfl ?_
                  refine E_icne (pc' := 68) (pt := 72) g51_65 rfl rfl (fun c2 => ?_) (fun c2 => ?_)
                  · first
                    | (exfalso; omega)
                    | (refine E_aload_n (pc' := 73) g51_72 rfl rfl ?_
                       refine E_iload (pc' := 75) g51_73 rfl rfl ?_
                       refine E_aload_n (pc' := 76) g51_75 rfl rfl ?_
                       refine E_getI (pc' := 79) g51_76 f51_63 tg4_3 (by decide) rfl (by assumption) rfl ?_
                       refine E_cV2i (pc' := 82) g51_79 k51_56 na41 rfl ow41 rfl (Nat.le_of_ble_eq_true rfl) (by assumption) (C_plainWith hT0) (by decide) ?_
                       refine E_iand (pc' := 83) g51_82 rfl ?_
                       refine E_st3 (pc' := 84) g51_83 rfl ?_
                       refine E_goto (pc' := 121) g51_84 rfl ?_
                       refine E_in4 (pc' := 124) g51_121 rfl (m_in_iff.mpr (by omega)) ?_
                       refine E_goto (pc' := 31) g51_124 rfl ?_
                       first
                       | (have e : m_and (mset (maP bl ed kd wd ht rm s i)) (pw (hvs ed (4 * kd).toNat) i rm) = mset (maP bl ed kd wd ht rm s (i + 1)) := by
                            refine and_eq (mset_in _) hpi (fun b hb => ?_)
                            rw [mset_bit, pw_set b1 r1 hi]
                            constructor
                            · rintro ⟨⟨-, q1, q2⟩, -, q3⟩
                              refine ⟨q1, fun h hh => ?_⟩
                              rcases Nat.lt_or_ge h i with z | z
                              · exact q2 h z
                              · rw [show h = i by omega]; unfold krP mtP; omega
                            · rintro ⟨q1, q2⟩
                              have q3 := q2 i (by omega)
                              unfold krP mtP at q3
                              exact ⟨⟨hb, q1, fun h hh => q2 h (by omega)⟩, q1, by omega⟩
                          exact Ev_cast (hh _) (by rw [e]; rfl) rfl)
                       | (have e : m_and (mset (maP bl ed kd wd ht rm s i)) (pw (hvs ed (4 * kd).toNat) i (eo ed (ix bl (bsd wd ht s i)) (((i : Int) + 2).tmod 4))) = mset (maP bl ed kd wd ht rm s (i + 1)) := by
                            refine and_eq (mset_in _) hpi (fun b hb => ?_)
                            rw [mset_bit, pw_set b1 r1 hi]
                            constructor
                            · rintro ⟨⟨-, q1, q2⟩, -, q3⟩
                              refine ⟨q1, fun h hh => ?_⟩
                              rcases Nat.lt_or_ge h i with z | z
                              · exact q2 h z
                              · rw [show h = i by omega]; unfold krP mtP; omega
                            · rintro ⟨q1, q2⟩
                              have q3 := q2 i (by omega)
                              unfold krP mtP at q3
                              exact ⟨⟨hb, q1, fun h hh => q2 h (by omega)⟩, q1, by omega⟩
                          exact Ev_cast (hh _) (by rw [e]; rfl) rfl)
                       | (have e : mset (maP bl ed kd wd ht rm s i) = mset (maP bl ed kd wd ht rm s (i + 1)) := by
                            refine mset_congr (fun b hb => ⟨fun q => ⟨q.1, fun h hh => ?_⟩, fun q => ⟨q.1, fun h hh => q.2 h (by omega)⟩⟩)
                            rcases Nat.lt_or_ge h i with z | z
                            · exact q.2 h z
                            · rw [show h = i by omega]; unfold krP mtP; omega
                          first | exact Ev_cast (hh _) (by rw [e]; rfl) rfl | exact Ev_cast (hh _) (by rw [ha, e]; rfl) rfl))
                  · first
                    | (exfalso; omega)
                    | (refine E_iload_n (pc' := 69) g51_68 rfl rfl ?_
                       refine E_goto (pc' := 82) g51_69 rfl ?_
                       refine E_iand (pc' := 83) g51_82 rfl ?_
                       refine E_st3 (pc' := 84) g51_83 rfl ?_
                       refine E_goto (pc' := 121) g51_84 rfl ?_
                       refine E_in4 (pc' := 124) g51_121 rfl (m_in_iff.mpr (by omega)) ?_
                       refine E_goto (pc' := 31) g51_124 rfl ?_
                       first
                       | (have e : m_and (mset (maP bl ed kd wd ht rm s i)) (pw (hvs ed (4 * kd).toNat) i rm) = mset (maP bl ed kd wd ht rm s (i + 1)) := by
                            refine and_eq (mset_in _) hpi (fun b hb => ?_)
                            rw [mset_bit, pw_set b1 r1 hi]
                            constructor
                            · rintro ⟨⟨-, q1, q2⟩, -, q3⟩
                              refine ⟨q1, fun h hh => ?_⟩
                              rcases Nat.lt_or_ge h i with z | z
                              · exact q2 h z
                              · rw [show h = i by omega]; unfold krP mtP; omega
                            · rintro ⟨q1, q2⟩
                              have q3 := q2 i (by omega)
                              unfold krP mtP at q3
                              exact ⟨⟨hb, q1, fun h hh => q2 h (by omega)⟩, q1, by omega⟩
                          exact Ev_cast (hh _) (by rw [e]; rfl) rfl)
                       | (have e : m_and (mset (maP bl ed kd wd ht rm s i)) (pw (hvs ed (4 * kd).toNat) i (eo ed (ix bl (bsd wd ht s i)) (((i : Int) + 2).tmod 4))) = mset (maP bl ed kd wd ht rm s (i + 1)) := by
                            refine and_eq (mset_in _) hpi (fun b hb => ?_)
                            rw [mset_bit, pw_set b1 r1 hi]
                            constructor
                            · rintro ⟨⟨-, q1, q2⟩, -, q3⟩
                              refine ⟨q1, fun h hh => ?_⟩
                              rcases Nat.lt_or_ge h i with z | z
                              · exact q2 h z
                              · rw [show h = i by omega]; unfold krP mtP; omega
                            · rintro ⟨q1, q2⟩
                              have q3 := q2 i (by omega)
                              unfold krP mtP at q3
                              exact ⟨⟨hb, q1, fun h hh => q2 h (by omega)⟩, q1, by omega⟩
                          exact Ev_cast (hh _) (by rw [e]; rfl) rfl)
                       | (have e : mset (maP bl ed kd wd ht rm s i) = mset (maP bl ed kd wd ht rm s (i + 1)) := by
                            refine mset_congr (fun b hb => ⟨fun q => ⟨q.1, fun h hh => ?_⟩, fun q => ⟨q.1, fun h hh => q.2 h (by omega)⟩⟩)
                            rcases Nat.lt_or_ge h i with z | z
                            · exact q.2 h z
                            · rw [show h = i by omega]; unfold krP mtP; omega
                          first | exact Ev_cast (hh _) (by rw [e]; rfl) rfl | exact Ev_cast (hh _) (by rw [ha, e]; rfl) rfl)))
             · first
               | (exfalso; omega)
               | (refine E_iload (pc' := 53) g51_51 rfl rfl ?_
                  refine E_bipush (pc' := 55) g51_53 (by decide) rfl ?_
                  refine E_iclt (pc' := 58) (pt := 87) g51_55 rfl rfl (fun c3 => ?_) (fun c3 => ?_)
                  · first
                    | (exfalso; omega)
                    | (refine E_aload_n (pc' := 88) g51_87 rfl rfl ?_
                       refine E_iload (pc' := 90) g51_88 rfl rfl ?_
                       refine E_cV1i (pc' := 93) g51_90 k51_25 na17 rfl ow17 rfl (Nat.le_of_ble_eq_true rfl) (by assumption) (C_isOpen hL0) (by decide) ?_
                       refine E_ifne (pc' := 96) (pt := 121) g51_93 rfl rfl (fun c4 => ?_) (fun c4 => ?_)
                       · first
                         | (exfalso; omega)
                         | (refine E_in4 (pc' := 124) g51_121 rfl (m_in_iff.mpr (by omega)) ?_
                            refine E_goto (pc' := 31) g51_124 rfl ?_
                            first
                            | (have e : m_and (mset (maP bl ed kd wd ht rm s i)) (pw (hvs ed (4 * kd).toNat) i rm) = mset (maP bl ed kd wd ht rm s (i + 1)) := by
                                 refine and_eq (mset_in _) hpi (fun b hb => ?_)
                                 rw [mset_bit, pw_set b1 r1 hi]
                                 constructor
                                 · rintro ⟨⟨-, q1, q2⟩, -, q3⟩
                                   refine ⟨q1, fun h hh => ?_⟩
                                   rcases Nat.lt_or_ge h i with z | z
                                   · exact q2 h z
                                   · rw [show h = i by omega]; unfold krP mtP; omega
                                 · rintro ⟨q1, q2⟩
                                   have q3 := q2 i (by omega)
                                   unfold krP mtP at q3
                                   exact ⟨⟨hb, q1, fun h hh => q2 h (by omega)⟩, q1, by omega⟩
                               exact Ev_cast (hh _) (by rw [e]; rfl) rfl)
                            | (have e : m_and (mset (maP bl ed kd wd ht rm s i)) (pw (hvs ed (4 * kd).toNat) i (eo ed (ix bl (bsd wd ht s i)) (((i : Int) + 2).tmod 4))) = mset (maP bl ed kd wd ht rm s (i + 1)) := by
                                 refine and_eq (mset_in _) hpi (fun b hb => ?_)
                                 rw [mset_bit, pw_set b1 r1 hi]
                                 constructor
                                 · rintro ⟨⟨-, q1, q2⟩, -, q3⟩
                                   refine ⟨q1, fun h hh => ?_⟩
                                   rcases Nat.lt_or_ge h i with z | z
                                   · exact q2 h z
                                   · rw [show h = i by omega]; unfold krP mtP; omega
                                 · rintro ⟨q1, q2⟩
                                   have q3 := q2 i (by omega)
                                   unfold krP mtP at q3
                                   exact ⟨⟨hb, q1, fun h hh => q2 h (by omega)⟩, q1, by omega⟩
                               exact Ev_cast (hh _) (by rw [e]; rfl) rfl)
                            | (have e : mset (maP bl ed kd wd ht rm s i) = mset (maP bl ed kd wd ht rm s (i + 1)) := by
                                 refine mset_congr (fun b hb => ⟨fun q => ⟨q.1, fun h hh => ?_⟩, fun q => ⟨q.1, fun h hh => q.2 h (by omega)⟩⟩)
                                 rcases Nat.lt_or_ge h i with z | z
                                 · exact q.2 h z
                                 · rw [show h = i by omega]; unfold krP mtP; omega
                               first | exact Ev_cast (hh _) (by rw [e]; rfl) rfl | exact Ev_cast (hh _) (by rw [ha, e]; rfl) rfl))
                       · first
                         | (exfalso; omega)
                         | (refine E_iload_n (pc' := 97) g51_96 rfl rfl ?_
                            refine E_aload_n (pc' := 98) g51_97 rfl rfl ?_
                            refine E_iload (pc' := 100) g51_98 rfl rfl ?_
                            refine E_aload_n (pc' := 101) g51_100 rfl rfl ?_
                            refine E_aload_n (pc' := 102) g51_101 rfl rfl ?_
                            refine E_getR (pc' := 105) g51_102 f51_66 tg2_0 rfl (by assumption) rfl ?_
                            refine E_iload (pc' := 107) g51_105 rfl rfl ?_
                            refine E_iaload (pc' := 108) g51_107 rfl (by assumption) (by omega) (by omega) ?_
                            refine E_iload (pc' := 110) g51_108 rfl rfl ?_
                            refine E_cN1i (pc' := 113) g51_110 k51_69 na96 rfl rfl (Nat.le_of_ble_eq_true rfl) (C_opposite (by omega)) (by decide) ?_
                            refine E_cV2i (pc' := 116) g51_113 k51_72 na37 rfl ow37 rfl (Nat.le_of_ble_eq_true rfl) (by assumption) (C_edgeOf hT0) (by decide) ?_
                            refine E_cV2i (pc' := 119) g51_116 k51_56 na41 rfl ow41 rfl (Nat.le_of_ble_eq_true rfl) (by assumption) (C_plainWith hT0) (by decide) ?_
                            refine E_iand (pc' := 120) g51_119 rfl ?_
                            refine E_st3 (pc' := 121) g51_120 rfl ?_
                            refine E_in4 (pc' := 124) g51_121 rfl (m_in_iff.mpr (by omega)) ?_
                            refine E_goto (pc' := 31) g51_124 rfl ?_
                            first
                            | (have e : m_and (mset (maP bl ed kd wd ht rm s i)) (pw (hvs ed (4 * kd).toNat) i rm) = mset (maP bl ed kd wd ht rm s (i + 1)) := by
                                 refine and_eq (mset_in _) hpi (fun b hb => ?_)
                                 rw [mset_bit, pw_set b1 r1 hi]
                                 constructor
                                 · rintro ⟨⟨-, q1, q2⟩, -, q3⟩
                                   refine ⟨q1, fun h hh => ?_⟩
                                   rcases Nat.lt_or_ge h i with z | z
                                   · exact q2 h z
                                   · rw [show h = i by omega]; unfold krP mtP; omega
                                 · rintro ⟨q1, q2⟩
                                   have q3 := q2 i (by omega)
                                   unfold krP mtP at q3
                                   exact ⟨⟨hb, q1, fun h hh => q2 h (by omega)⟩, q1, by omega⟩
                               exact Ev_cast (hh _) (by rw [e]; rfl) rfl)
                            | (have e : m_and (mset (maP bl ed kd wd ht rm s i)) (pw (hvs ed (4 * kd).toNat) i (eo ed (ix bl (bsd wd ht s i)) (((i : Int) + 2).tmod 4))) = mset (maP bl ed kd wd ht rm s (i + 1)) := by
                                 refine and_eq (mset_in _) hpi (fun b hb => ?_)
                                 rw [mset_bit, pw_set b1 r1 hi]
                                 constructor
                                 · rintro ⟨⟨-, q1, q2⟩, -, q3⟩
                                   refine ⟨q1, fun h hh => ?_⟩
                                   rcases Nat.lt_or_ge h i with z | z
                                   · exact q2 h z
                                   · rw [show h = i by omega]; unfold krP mtP; omega
                                 · rintro ⟨q1, q2⟩
                                   have q3 := q2 i (by omega)
                                   unfold krP mtP at q3
                                   exact ⟨⟨hb, q1, fun h hh => q2 h (by omega)⟩, q1, by omega⟩
                               exact Ev_cast (hh _) (by rw [e]; rfl) rfl)
                            | (have e : mset (maP bl ed kd wd ht rm s i) = mset (maP bl ed kd wd ht rm s (i + 1)) := by
                                 refine mset_congr (fun b hb => ⟨fun q => ⟨q.1, fun h hh => ?_⟩, fun q => ⟨q.1, fun h hh => q.2 h (by omega)⟩⟩)
                                 rcases Nat.lt_or_ge h i with z | z
                                 · exact q.2 h z
                                 · rw [show h = i by omega]; unfold krP mtP; omega
                               first | exact Ev_cast (hh _) (by rw [e]; rfl) rfl | exact Ev_cast (hh _) (by rw [ha, e]; rfl) rfl)))
                  · first
                    | (exfalso; omega)
                    | (refine E_iload_n (pc' := 59) g51_58 rfl rfl ?_
                       refine E_aload_n (pc' := 60) g51_59 rfl rfl ?_
                       refine E_getI (pc' := 63) g51_60 f51_63 tg4_3 (by decide) rfl (by assumption) rfl ?_
                       refine E_bipush (pc' := 65) g51_63 (by decide) rfl ?_
                       refine E_icne (pc' := 68) (pt := 72) g51_65 rfl rfl (fun c5 => ?_) (fun c5 => ?_)
                       · first
                         | (exfalso; omega)
                         | (refine E_aload_n (pc' := 73) g51_72 rfl rfl ?_
                            refine E_iload (pc' := 75) g51_73 rfl rfl ?_
                            refine E_aload_n (pc' := 76) g51_75 rfl rfl ?_
                            refine E_getI (pc' := 79) g51_76 f51_63 tg4_3 (by decide) rfl (by assumption) rfl ?_
                            refine E_cV2i (pc' := 82) g51_79 k51_56 na41 rfl ow41 rfl (Nat.le_of_ble_eq_true rfl) (by assumption) (C_plainWith hT0) (by decide) ?_
                            refine E_iand (pc' := 83) g51_82 rfl ?_
                            refine E_st3 (pc' := 84) g51_83 rfl ?_
                            refine E_goto (pc' := 121) g51_84 rfl ?_
                            refine E_in4 (pc' := 124) g51_121 rfl (m_in_iff.mpr (by omega)) ?_
                            refine E_goto (pc' := 31) g51_124 rfl ?_
                            first
                            | (have e : m_and (mset (maP bl ed kd wd ht rm s i)) (pw (hvs ed (4 * kd).toNat) i rm) = mset (maP bl ed kd wd ht rm s (i + 1)) := by
                                 refine and_eq (mset_in _) hpi (fun b hb => ?_)
                                 rw [mset_bit, pw_set b1 r1 hi]
                                 constructor
                                 · rintro ⟨⟨-, q1, q2⟩, -, q3⟩
                                   refine ⟨q1, fun h hh => ?_⟩
                                   rcases Nat.lt_or_ge h i with z | z
                                   · exact q2 h z
                                   · rw [show h = i by omega]; unfold krP mtP; omega
                                 · rintro ⟨q1, q2⟩
                                   have q3 := q2 i (by omega)
                                   unfold krP mtP at q3
                                   exact ⟨⟨hb, q1, fun h hh => q2 h (by omega)⟩, q1, by omega⟩
                               exact Ev_cast (hh _) (by rw [e]; rfl) rfl)
                            | (have e : m_and (mset (maP bl ed kd wd ht rm s i)) (pw (hvs ed (4 * kd).toNat) i (eo ed (ix bl (bsd wd ht s i)) (((i : Int) + 2).tmod 4))) = mset (maP bl ed kd wd ht rm s (i + 1)) := by
                                 refine and_eq (mset_in _) hpi (fun b hb => ?_)
                                 rw [mset_bit, pw_set b1 r1 hi]
                                 constructor
                                 · rintro ⟨⟨-, q1, q2⟩, -, q3⟩
                                   refine ⟨q1, fun h hh => ?_⟩
                                   rcases Nat.lt_or_ge h i with z | z
                                   · exact q2 h z
                                   · rw [show h = i by omega]; unfold krP mtP; omega
                                 · rintro ⟨q1, q2⟩
                                   have q3 := q2 i (by omega)
                                   unfold krP mtP at q3
                                   exact ⟨⟨hb, q1, fun h hh => q2 h (by omega)⟩, q1, by omega⟩
                               exact Ev_cast (hh _) (by rw [e]; rfl) rfl)
                            | (have e : mset (maP bl ed kd wd ht rm s i) = mset (maP bl ed kd wd ht rm s (i + 1)) := by
                                 refine mset_congr (fun b hb => ⟨fun q => ⟨q.1, fun h hh => ?_⟩, fun q => ⟨q.1, fun h hh => q.2 h (by omega)⟩⟩)
                                 rcases Nat.lt_or_ge h i with z | z
                                 · exact q.2 h z
                                 · rw [show h = i by omega]; unfold krP mtP; omega
                               first | exact Ev_cast (hh _) (by rw [e]; rfl) rfl | exact Ev_cast (hh _) (by rw [ha, e]; rfl) rfl))
                       · first
                         | (exfalso; omega)
                         | (refine E_iload_n (pc' := 69) g51_68 rfl rfl ?_
                            refine E_goto (pc' := 82) g51_69 rfl ?_
                            refine E_iand (pc' := 83) g51_82 rfl ?_
                            refine E_st3 (pc' := 84) g51_83 rfl ?_
                            refine E_goto (pc' := 121) g51_84 rfl ?_
                            refine E_in4 (pc' := 124) g51_121 rfl (m_in_iff.mpr (by omega)) ?_
                            refine E_goto (pc' := 31) g51_124 rfl ?_
                            first
                            | (have e : m_and (mset (maP bl ed kd wd ht rm s i)) (pw (hvs ed (4 * kd).toNat) i rm) = mset (maP bl ed kd wd ht rm s (i + 1)) := by
                                 refine and_eq (mset_in _) hpi (fun b hb => ?_)
                                 rw [mset_bit, pw_set b1 r1 hi]
                                 constructor
                                 · rintro ⟨⟨-, q1, q2⟩, -, q3⟩
                                   refine ⟨q1, fun h hh => ?_⟩
                                   rcases Nat.lt_or_ge h i with z | z
                                   · exact q2 h z
                                   · rw [show h = i by omega]; unfold krP mtP; omega
                                 · rintro ⟨q1, q2⟩
                                   have q3 := q2 i (by omega)
                                   unfold krP mtP at q3
                                   exact ⟨⟨hb, q1, fun h hh => q2 h (by omega)⟩, q1, by omega⟩
                               exact Ev_cast (hh _) (by rw [e]; rfl) rfl)
                            | (have e : m_and (mset (maP bl ed kd wd ht rm s i)) (pw (hvs ed (4 * kd).toNat) i (eo ed (ix bl (bsd wd ht s i)) (((i : Int) + 2).tmod 4))) = mset (maP bl ed kd wd ht rm s (i + 1)) := by
                                 refine and_eq (mset_in _) hpi (fun b hb => ?_)
                                 rw [mset_bit, pw_set b1 r1 hi]
                                 constructor
                                 · rintro ⟨⟨-, q1, q2⟩, -, q3⟩
                                   refine ⟨q1, fun h hh => ?_⟩
                                   rcases Nat.lt_or_ge h i with z | z
                                   · exact q2 h z
                                   · rw [show h = i by omega]; unfold krP mtP; omega
                                 · rintro ⟨q1, q2⟩
                                   have q3 := q2 i (by omega)
                                   unfold krP mtP at q3
                                   exact ⟨⟨hb, q1, fun h hh => q2 h (by omega)⟩, q1, by omega⟩
                               exact Ev_cast (hh _) (by rw [e]; rfl) rfl)
                            | (have e : mset (maP bl ed kd wd ht rm s i) = mset (maP bl ed kd wd ht rm s (i + 1)) := by
                                 refine mset_congr (fun b hb => ⟨fun q => ⟨q.1, fun h hh => ?_⟩, fun q => ⟨q.1, fun h hh => q.2 h (by omega)⟩⟩)
                                 rcases Nat.lt_or_ge h i with z | z
                                 · exact q.2 h z
                                 · rw [show h = i by omega]; unfold krP mtP; omega
                               first | exact Ev_cast (hh _) (by rw [e]; rfl) rfl | exact Ev_cast (hh _) (by rw [ha, e]; rfl) rfl)))))
      · intro u
        refine E_iload (pc' := 33) g51_31 rfl rfl ?_
        refine E_iconst (pc' := 34) g51_33 (by decide) rfl ?_
        refine E_icge (pc' := 37) (pt := 127) g51_34 rfl rfl (fun c0 => ?_) (fun c0 => ?_)
        · refine E_iload_n (pc' := 128) g51_127 rfl rfl ?_
          exact E_iret g51_128 ro51 rfl rfl
        · exact absurd c0 (by omega)
    · exact absurd c0 (by omega)
def haP (bl sl hu : List Int) (mo : Int) (m : Nat) (b : Nat) : Prop := b < 4 * m ∧ 0 < ix sl ((b : Int).tdiv 4) - nK bl ((b : Int).tdiv 4) 6 ∧ nH bl hu (ix hu ((b : Int).tdiv 4)) 6 < mo
theorem C_toHave (hT : isTold H ta kd wd ht rm mo sd bo ed hu sk (hvs ed (4 * kd).toNat)) (hLy : isLay H lay bl sl) : Call 1 50 [mR ta, mR lay] H (mI (mset (haP bl sl hu mo kd.toNat))) H := by
  have hT0 := hT
  have hL0 := hLy
  obtain ⟨t0, t1, t2, t3, t4, ⟨r1, r2, r3, r4, r5, r6, r7, b1, b2, b3, b4, n1, n2, n3, n4⟩⟩ := hT
  obtain ⟨y0, y1, y2, l1, l2, ob, hsl⟩ := hLy
  have hw := wh_bd r2.1 r2.2 r3.1 r3.2
  obtain ⟨m, hm⟩ : ∃ m : Nat, (m : Int) = kd := ⟨kd.toNat, by omega⟩
  rw [show kd.toNat = m by omega]
  refine Call_of rfl ?_
  refine E_iconst (pc' := 1) g50_0 (by decide) rfl ?_
  refine E_st2 (pc' := 2) g50_1 rfl ?_
  refine E_iconst (pc' := 3) g50_2 (by decide) rfl ?_
  refine E_st3 (pc' := 4) g50_3 rfl ?_
  refine Ev_cast (ls := [mR ta, mR lay, mI (mset (haP bl sl hu mo 0)), mI ((0 : Nat) : Int)]) ?_ (by rw [mset_0 (fun b hb z => by have := z.1; omega)]; rfl) rfl
  refine E_loop (n := m) (fun i => Ev 1 50 4 [mR ta, mR lay, mI (mset (haP bl sl hu mo i)), mI (i : Int)] [] H (mI (mset (haP bl sl hu mo m))) H) ?_ ?_ 0 (by omega)
  · intro i hi hh
    have htd : ∀ b : Nat, 4 * i ≤ b → b < 4 * i + 4 → (b : Int).tdiv 4 = i := fun b z1 z2 => by rw [Int.tdiv_eq_ediv_of_nonneg (by omega)]; omega
    refine E_iload_n (pc' := 5) g50_4 rfl rfl ?_
    refine E_aload_n (pc' := 6) g50_5 rfl rfl ?_
    refine E_getI (pc' := 9) g50_6 f50_38 tg4_0 (by decide) rfl (by assumption) rfl ?_
    refine E_icge (pc' := 12) (pt := 53) g50_9 rfl rfl (fun c0 => ?_) (fun c0 => ?_)
    · exact absurd c0 (by omega)
    · refine E_aload_n (pc' := 13) g50_12 rfl rfl ?_
      refine E_iload_n (pc' := 14) g50_13 rfl rfl ?_
      refine E_cV1i (pc' := 17) g50_14 k50_42 na18 rfl ow18 rfl (Nat.le_of_ble_eq_true rfl) (by assumption) (C_leftOf hL0 (by omega)) (by decide) ?_
      refine E_ifle (pc' := 20) (pt := 47) g50_17 rfl rfl (fun c1 => ?_) (fun c1 => ?_)
      · refine E_in3 (pc' := 50) g50_47 rfl (m_in_iff.mpr (by omega)) ?_
        refine E_goto (pc' := 4) g50_50 rfl ?_
        first
        | (have e : m_or (mset (haP bl sl hu mo i)) (m_shl 15 ((i : Int) * 4)) = mset (haP bl sl hu mo (i + 1)) := by
             refine or_eq (mset_in _) (b15 (k := i) (b := 0) (by omega) (by omega)).2 (fun b hb => ?_)
             rw [mset_bit, (b15 (k := i) (by omega) hb).1]
             constructor
             · rintro (q | q)
               · exact ⟨by have := q.2.1; omega, q.2.2⟩
               · refine ⟨by omega, ?_⟩
                 rw [htd b q.1 q.2]
                 exact ⟨by omega, by omega⟩
             · rintro ⟨q1, q2⟩
               by_cases e : b < 4 * i
               · exact Or.inl ⟨hb, e, q2⟩
               · exact Or.inr (by omega)
           exact Ev_cast hh (by rw [e]; rfl) rfl)
        | (have e : mset (haP bl sl hu mo i) = mset (haP bl sl hu mo (i + 1)) := by
             refine mset_congr (fun b hb => ⟨fun q => ⟨by have := q.1; omega, q.2⟩, fun q => ⟨?_, q.2⟩⟩)
             rcases Nat.lt_or_ge b (4 * i) with z | z
             · exact z
             · have q2 := q.2
               have q1 := q.1
               rw [htd b z (by omega)] at q2
               exfalso; omega
           exact Ev_cast hh (by rw [e]; rfl) rfl)
      · refine E_aload_n (pc' := 21) g50_20 rfl rfl ?_
        refine E_aload_n (pc' := 22) g50_21 rfl rfl ?_
        refine E_aload_n (pc' := 23) g50_22 rfl rfl ?_
        refine E_getR (pc' := 26) g50_23 f50_46 tg4_8 rfl (by assumption) rfl ?_
        refine E_iload_n (pc' := 27) g50_26 rfl rfl ?_
        refine E_iaload (pc' := 28) g50_27 rfl (by assumption) (by omega) (by omega) ?_
        refine E_cV2i (pc' := 31) g50_28 k50_49 na19 rfl ow19 rfl (Nat.le_of_ble_eq_true rfl) (by assumption) (C_sqHue hL0 hT0) (by decide) ?_
        refine E_aload_n (pc' := 32) g50_31 rfl rfl ?_
        refine E_getI (pc' := 35) g50_32 f50_53 tg4_4 (by decide) rfl (by assumption) rfl ?_
        refine E_icge (pc' := 38) (pt := 47) g50_35 rfl rfl (fun c2 => ?_) (fun c2 => ?_)
        · refine E_in3 (pc' := 50) g50_47 rfl (m_in_iff.mpr (by omega)) ?_
          refine E_goto (pc' := 4) g50_50 rfl ?_
          first
          | (have e : m_or (mset (haP bl sl hu mo i)) (m_shl 15 ((i : Int) * 4)) = mset (haP bl sl hu mo (i + 1)) := by
               refine or_eq (mset_in _) (b15 (k := i) (b := 0) (by omega) (by omega)).2 (fun b hb => ?_)
               rw [mset_bit, (b15 (k := i) (by omega) hb).1]
               constructor
               · rintro (q | q)
                 · exact ⟨by have := q.2.1; omega, q.2.2⟩
                 · refine ⟨by omega, ?_⟩
                   rw [htd b q.1 q.2]
                   exact ⟨by omega, by omega⟩
               · rintro ⟨q1, q2⟩
                 by_cases e : b < 4 * i
                 · exact Or.inl ⟨hb, e, q2⟩
                 · exact Or.inr (by omega)
             exact Ev_cast hh (by rw [e]; rfl) rfl)
          | (have e : mset (haP bl sl hu mo i) = mset (haP bl sl hu mo (i + 1)) := by
               refine mset_congr (fun b hb => ⟨fun q => ⟨by have := q.1; omega, q.2⟩, fun q => ⟨?_, q.2⟩⟩)
               rcases Nat.lt_or_ge b (4 * i) with z | z
               · exact z
               · have q2 := q.2
                 have q1 := q.1
                 rw [htd b z (by omega)] at q2
                 exfalso; omega
             exact Ev_cast hh (by rw [e]; rfl) rfl)
        · refine E_iload_n (pc' := 39) g50_38 rfl rfl ?_
          refine E_bipush (pc' := 41) g50_39 (by decide) rfl ?_
          refine E_iload_n (pc' := 42) g50_41 rfl rfl ?_
          refine E_iconst (pc' := 43) g50_42 (by decide) rfl ?_
          refine E_imul (pc' := 44) g50_43 (m_in_iff.mpr (by omega)) rfl ?_
          refine E_ishl (pc' := 45) g50_44 rfl ?_
          refine E_ior (pc' := 46) g50_45 rfl ?_
          refine E_st2 (pc' := 47) g50_46 rfl ?_
          refine E_in3 (pc' := 50) g50_47 rfl (m_in_iff.mpr (by omega)) ?_
          refine E_goto (pc' := 4) g50_50 rfl ?_
          first
          | (have e : m_or (mset (haP bl sl hu mo i)) (m_shl 15 ((i : Int) * 4)) = mset (haP bl sl hu mo (i + 1)) := by
               refine or_eq (mset_in _) (b15 (k := i) (b := 0) (by omega) (by omega)).2 (fun b hb => ?_)
               rw [mset_bit, (b15 (k := i) (by omega) hb).1]
               constructor
               · rintro (q | q)
                 · exact ⟨by have := q.2.1; omega, q.2.2⟩
                 · refine ⟨by omega, ?_⟩
                   rw [htd b q.1 q.2]
                   exact ⟨by omega, by omega⟩
               · rintro ⟨q1, q2⟩
                 by_cases e : b < 4 * i
                 · exact Or.inl ⟨hb, e, q2⟩
                 · exact Or.inr (by omega)
             exact Ev_cast hh (by rw [e]; rfl) rfl)
          | (have e : mset (haP bl sl hu mo i) = mset (haP bl sl hu mo (i + 1)) := by
               refine mset_congr (fun b hb => ⟨fun q => ⟨by have := q.1; omega, q.2⟩, fun q => ⟨?_, q.2⟩⟩)
               rcases Nat.lt_or_ge b (4 * i) with z | z
               · exact z
               · have q2 := q.2
                 have q1 := q.1
                 rw [htd b z (by omega)] at q2
                 exfalso; omega
             exact Ev_cast hh (by rw [e]; rfl) rfl)
  · refine E_iload_n (pc' := 5) g50_4 rfl rfl ?_
    refine E_aload_n (pc' := 6) g50_5 rfl rfl ?_
    refine E_getI (pc' := 9) g50_6 f50_38 tg4_0 (by decide) rfl (by assumption) rfl ?_
    refine E_icge (pc' := 12) (pt := 53) g50_9 rfl rfl (fun c0 => ?_) (fun c0 => ?_)
    · refine E_iload_n (pc' := 54) g50_53 rfl rfl ?_
      exact E_iret g50_54 ro50 rfl rfl
    · exact absurd c0 (by omega)
/-- what may be left at first -/
noncomputable def iniL (bl sl ed hu : List Int) (kd wd ht rm mo bs bu : Int) (n : Nat) : List Int := (List.range 6).map (fun s => mset (iniF bl sl ed hu kd wd ht rm mo bs bu n s))
theorem iniL_ix {bs bu : Int} {s : Nat} (hs : s < 6) : ix (iniL bl sl ed hu kd wd ht rm mo bs bu n) s = mset (iniF bl sl ed hu kd wd ht rm mo bs bu n s) := by
  unfold iniL
  rw [mp6_ix (by omega) (by omega)]
  rfl
theorem iniL_len {bs bu : Int} : (iniL bl sl ed hu kd wd ht rm mo bs bu n).length = 6 := by simp [iniL]
theorem iniL_in {bs bu : Int} (r1 : 0 ≤ kd ∧ kd ≤ 6) (hn : n ≤ 6) {s b : Nat} : inW (iniL bl sl ed hu kd wd ht rm mo bs bu n) s b ↔ iniF bl sl ed hu kd wd ht rm mo bs bu n s b := by
  constructor
  · rintro ⟨h1, h2⟩
    rw [iniL_ix h1, mset_bit] at h2
    exact h2.2
  · intro h
    have hs := (opn_t.mp h.1).1
    have := h.2.1
    exact ⟨by omega, by rw [iniL_ix (by omega), mset_bit]; exact ⟨by omega, h⟩⟩
theorem ini_and (r1 : 0 ≤ kd ∧ kd ≤ 6) (hn : (n : Int) = wd * ht) {s : Nat} (ho : opn bl n s = true) : m_and (mset (haP bl sl hu mo kd.toNat)) (mset (maP bl ed kd wd ht rm s 4)) = mset (iniF bl sl ed hu kd wd ht rm mo (-9) (-9) n s) := by
  refine and_eq (mset_in _) (mset_in _) (fun b hb => ?_)
  rw [mset_bit, mset_bit]
  constructor
  · rintro ⟨⟨-, p1, p2, p3⟩, -, q1, q2⟩
    refine ⟨ho, q1.1, q1.2, by omega, p2, fun h hh => (q2 h hh).2, ?_, p3⟩
    by_cases e : rm = -9
    · exact Or.inl e
    · exact Or.inr (fun h hh => (q2 h hh).1.resolve_left e)
  · rintro ⟨-, i1, i2, i3, f1, f2, f3, f4⟩
    refine ⟨⟨hb, by omega, f1, f4⟩, hb, ⟨i1, i2⟩, fun h hh => ⟨?_, f2 h hh⟩⟩
    rcases f3 with f3 | f3
    · exact Or.inl f3
    · exact Or.inr (f3 h hh)
theorem C_wbegin (hT : isTold H ta kd wd ht rm mo sd bo ed hu sk (hvs ed (4 * kd).toNat)) (hLy : isLay H lay bl sl) (hlay : lay + 2 < 22) (hta : ta + 4 < 22) (h22 : H[22]? = some (5, [((23 : Nat) : Int)])) (h23 : H[23]? = some (8, W)) (hWl : W.length = 6) (hn : (n : Int) = wd * ht) : Call 2 48 [mR 22, mR ta, mR lay] H none (pt H 23 (iniL bl sl ed hu kd wd ht rm mo (-9) (-9) n)) := by
  have hT0 := hT
  have hL0 := hLy
  obtain ⟨t0, t1, t2, t3, t4, ⟨r1, r2, r3, r4, r5, r6, r7, b1, b2, b3, b4, n1, n2, n3, n4⟩⟩ := hT
  obtain ⟨y0, y1, y2, l1, l2, ob, hsl⟩ := hLy
  have hw := wh_bd r2.1 r2.2 r3.1 r3.2
  have hend : fil W 0 (fun s => mset (iniF bl sl ed hu kd wd ht rm mo (-9) (-9) n s)) 6 = iniL bl sl ed hu kd wd ht rm mo (-9) (-9) n := by
    apply ix_ext (by rw [fil_len, hWl, iniL_len])
    intro j h0 h1
    rw [fil_len] at h1
    obtain ⟨c, rfl⟩ : ∃ c : Nat, j = (c : Int) := ⟨j.toNat, by omega⟩
    rw [fil_ix (by omega) (by omega) h0, if_pos (by omega), iniL_ix (by omega), show ((c : Int) - 0).toNat = c by omega]
  refine Call_of rfl ?_
  refine E_aload_n (pc' := 1) g48_0 rfl rfl ?_
  refine E_aload_n (pc' := 2) g48_1 rfl rfl ?_
  refine E_cS2i (pc' := 5) g48_2 k48_15 na50 rfl rfl (Nat.le_of_ble_eq_true rfl) (C_toHave hT0 hL0) (by decide) ?_
  refine E_st3 (pc' := 6) g48_5 rfl ?_
  refine E_iconst (pc' := 7) g48_6 (by decide) rfl ?_
  refine E_st4 (pc' := 9) g48_7 rfl ?_
  refine Ev_cast (H := (pt H 23 (fil W 0 (fun s => mset (iniF bl sl ed hu kd wd ht rm mo (-9) (-9) n s)) 0))) ?_ rfl (by simp only [fil]; rw [pt_same h23])
  refine (E_loop (n := 6) (fun i => ∀ u : mV, Ev 2 48 9 [mR 22, mR ta, mR lay, mI (mset (haP bl sl hu mo kd.toNat)), mI (i : Int), u] [] (pt H 23 (fil W 0 (fun s => mset (iniF bl sl ed hu kd wd ht rm mo (-9) (-9) n s)) i)) none (pt H 23 (iniL bl sl ed hu kd wd ht rm mo (-9) (-9) n))) ?_ ?_ 0 (by omega)) none
  · intro i hi hh u
    have e3 := isO_or bl i
    have hT1 := told_keep (x := 23) (fs := fil W 0 (fun s => mset (iniF bl sl ed hu kd wd ht rm mo (-9) (-9) n s)) i) hT0 (by omega)
    have hL1 := lay_keep (x := 23) (fs := fil W 0 (fun s => mset (iniF bl sl ed hu kd wd ht rm mo (-9) (-9) n s)) i) hL0 (by omega)
    refine E_iload (pc' := 11) g48_9 rfl rfl ?_
    refine E_bipush (pc' := 13) g48_11 (by decide) rfl ?_
    refine E_icge (pc' := 16) (pt := 72) g48_13 rfl rfl (fun c0 => ?_) (fun c0 => ?_)
    · exact absurd c0 (by omega)
    · first
      | (exfalso; omega)
      | (refine E_iload (pc' := 18) g48_16 rfl rfl ?_
         refine E_aload_n (pc' := 19) g48_18 rfl rfl ?_
         refine E_cV0i (pc' := 22) g48_19 k48_19 na36 rfl ow36 rfl (Nat.le_of_ble_eq_true rfl) (pt_nx (by omega) t0) (C_squares hT1) (by decide) ?_
         refine E_icge (pc' := 25) (pt := 38) g48_22 rfl rfl (fun c1 => ?_) (fun c1 => ?_)
         · first
           | (exfalso; omega)
           | (refine E_iconst (pc' := 39) g48_38 (by decide) rfl ?_
              refine E_st5 (pc' := 41) g48_39 rfl ?_
              refine E_aload_n (pc' := 42) g48_41 rfl rfl ?_
              refine E_getR (pc' := 45) g48_42 f48_9 tg5_0 rfl (pt_nx (by decide) h22) rfl ?_
              refine E_iload (pc' := 47) g48_45 rfl rfl ?_
              refine E_iload (pc' := 49) g48_47 rfl rfl ?_
              refine E_ifeq (pc' := 52) (pt := 64) g48_49 rfl rfl (fun c2 => ?_) (fun c2 => ?_)
              · first
                | (exfalso; omega)
                | (refine E_iconst (pc' := 65) g48_64 (by decide) rfl ?_
                   refine E_iastore (pc' := 66) g48_65 rfl (pt_self h23) (by omega) (by rw [fil_len]; omega) ?_
                   refine E_in4 (pc' := 69) g48_66 rfl (m_in_iff.mpr (by omega)) ?_
                   refine E_goto (pc' := 9) g48_69 rfl ?_
                   first
                   | (have ho : opn bl n i = true := opn_t.mpr ⟨by omega, by omega⟩
                      refine Ev_cast (hh _) rfl ?_
                      rw [ini_and r1 hn ho, pt_pt]
                      simp only [fil]
                      rw [Int.zero_add])
                   | (have e : mset (iniF bl sl ed hu kd wd ht rm mo (-9) (-9) n i) = 0 := mset_0 (fun b hb z => by
                        have := opn_t.mp z.1
                        omega)
                      refine Ev_cast (hh _) rfl ?_
                      rw [pt_pt]
                      simp only [fil]
                      rw [Int.zero_add, e]))
              · first
                | (exfalso; omega)
                | (refine E_iload_n (pc' := 53) g48_52 rfl rfl ?_
                   refine E_aload_n (pc' := 54) g48_53 rfl rfl ?_
                   refine E_aload_n (pc' := 55) g48_54 rfl rfl ?_
                   refine E_iload (pc' := 57) g48_55 rfl rfl ?_
                   refine E_cS3i (pc' := 60) g48_57 k48_31 na51 rfl rfl (Nat.le_of_ble_eq_true rfl) (C_around hT1 hL1 hn (by omega)) (by decide) ?_
                   refine E_iand (pc' := 61) g48_60 rfl ?_
                   refine E_goto (pc' := 65) g48_61 rfl ?_
                   refine E_iastore (pc' := 66) g48_65 rfl (pt_self h23) (by omega) (by rw [fil_len]; omega) ?_
                   refine E_in4 (pc' := 69) g48_66 rfl (m_in_iff.mpr (by omega)) ?_
                   refine E_goto (pc' := 9) g48_69 rfl ?_
                   first
                   | (have ho : opn bl n i = true := opn_t.mpr ⟨by omega, by omega⟩
                      refine Ev_cast (hh _) rfl ?_
                      rw [ini_and r1 hn ho, pt_pt]
                      simp only [fil]
                      rw [Int.zero_add])
                   | (have e : mset (iniF bl sl ed hu kd wd ht rm mo (-9) (-9) n i) = 0 := mset_0 (fun b hb z => by
                        have := opn_t.mp z.1
                        omega)
                      refine Ev_cast (hh _) rfl ?_
                      rw [pt_pt]
                      simp only [fil]
                      rw [Int.zero_add, e])))
         · first
           | (exfalso; omega)
           | (refine E_aload_n (pc' := 26) g48_25 rfl rfl ?_
              refine E_iload (pc' := 28) g48_26 rfl rfl ?_
              refine E_cV1i (pc' := 31) g48_28 k48_25 na17 rfl ow17 rfl (Nat.le_of_ble_eq_true rfl) (pt_nx (by omega) y0) (C_isOpen hL1) (by decide) ?_
              refine E_ifeq (pc' := 34) (pt := 38) g48_31 rfl rfl (fun c3 => ?_) (fun c3 => ?_)
              · first
                | (exfalso; omega)
                | (refine E_iconst (pc' := 39) g48_38 (by decide) rfl ?_
                   refine E_st5 (pc' := 41) g48_39 rfl ?_
                   refine E_aload_n (pc' := 42) g48_41 rfl rfl ?_
                   refine E_getR (pc' := 45) g48_42 f48_9 tg5_0 rfl (pt_nx (by decide) h22) rfl ?_
                   refine E_iload (pc' := 47) g48_45 rfl rfl ?_
                   refine E_iload (pc' := 49) g48_47 rfl rfl ?_
                   refine E_ifeq (pc' := 52) (pt := 64) g48_49 rfl rfl (fun c4 => ?_) (fun c4 => ?_)
                   · first
                     | (exfalso; omega)
                     | (refine E_iconst (pc' := 65) g48_64 (by decide) rfl ?_
                        refine E_iastore (pc' := 66) g48_65 rfl (pt_self h23) (by omega) (by rw [fil_len]; omega) ?_
                        refine E_in4 (pc' := 69) g48_66 rfl (m_in_iff.mpr (by omega)) ?_
                        refine E_goto (pc' := 9) g48_69 rfl ?_
                        first
                        | (have ho : opn bl n i = true := opn_t.mpr ⟨by omega, by omega⟩
                           refine Ev_cast (hh _) rfl ?_
                           rw [ini_and r1 hn ho, pt_pt]
                           simp only [fil]
                           rw [Int.zero_add])
                        | (have e : mset (iniF bl sl ed hu kd wd ht rm mo (-9) (-9) n i) = 0 := mset_0 (fun b hb z => by
                             have := opn_t.mp z.1
                             omega)
                           refine Ev_cast (hh _) rfl ?_
                           rw [pt_pt]
                           simp only [fil]
                           rw [Int.zero_add, e]))
                   · first
                     | (exfalso; omega)
                     | (refine E_iload_n (pc' := 53) g48_52 rfl rfl ?_
                        refine E_aload_n (pc' := 54) g48_53 rfl rfl ?_
                        refine E_aload_n (pc' := 55) g48_54 rfl rfl ?_
                        refine E_iload (pc' := 57) g48_55 rfl rfl ?_
                        refine E_cS3i (pc' := 60) g48_57 k48_31 na51 rfl rfl (Nat.le_of_ble_eq_true rfl) (C_around hT1 hL1 hn (by omega)) (by decide) ?_
                        refine E_iand (pc' := 61) g48_60 rfl ?_
                        refine E_goto (pc' := 65) g48_61 rfl ?_
                        refine E_iastore (pc' := 66) g48_65 rfl (pt_self h23) (by omega) (by rw [fil_len]; omega) ?_
                        refine E_in4 (pc' := 69) g48_66 rfl (m_in_iff.mpr (by omega)) ?_
                        refine E_goto (pc' := 9) g48_69 rfl ?_
                        first
                        | (have ho : opn bl n i = true := opn_t.mpr ⟨by omega, by omega⟩
                           refine Ev_cast (hh _) rfl ?_
                           rw [ini_and r1 hn ho, pt_pt]
                           simp only [fil]
                           rw [Int.zero_add])
                        | (have e : mset (iniF bl sl ed hu kd wd ht rm mo (-9) (-9) n i) = 0 := mset_0 (fun b hb z => by
                             have := opn_t.mp z.1
                             omega)
                           refine Ev_cast (hh _) rfl ?_
                           rw [pt_pt]
                           simp only [fil]
                           rw [Int.zero_add, e])))
              · first
                | (exfalso; omega)
                | (refine E_iconst (pc' := 35) g48_34 (by decide) rfl ?_
                   refine E_goto (pc' := 39) g48_35 rfl ?_
                   refine E_st5 (pc' := 41) g48_39 rfl ?_
                   refine E_aload_n (pc' := 42) g48_41 rfl rfl ?_
                   refine E_getR (pc' := 45) g48_42 f48_9 tg5_0 rfl (pt_nx (by decide) h22) rfl ?_
                   refine E_iload (pc' := 47) g48_45 rfl rfl ?_
                   refine E_iload (pc' := 49) g48_47 rfl rfl ?_
                   refine E_ifeq (pc' := 52) (pt := 64) g48_49 rfl rfl (fun c5 => ?_) (fun c5 => ?_)
                   · first
                     | (exfalso; omega)
                     | (refine E_iconst (pc' := 65) g48_64 (by decide) rfl ?_
                        refine E_iastore (pc' := 66) g48_65 rfl (pt_self h23) (by omega) (by rw [fil_len]; omega) ?_
                        refine E_in4 (pc' := 69) g48_66 rfl (m_in_iff.mpr (by omega)) ?_
                        refine E_goto (pc' := 9) g48_69 rfl ?_
                        first
                        | (have ho : opn bl n i = true := opn_t.mpr ⟨by omega, by omega⟩
                           refine Ev_cast (hh _) rfl ?_
                           rw [ini_and r1 hn ho, pt_pt]
                           simp only [fil]
                           rw [Int.zero_add])
                        | (have e : mset (iniF bl sl ed hu kd wd ht rm mo (-9) (-9) n i) = 0 := mset_0 (fun b hb z => by
                             have := opn_t.mp z.1
                             omega)
                           refine Ev_cast (hh _) rfl ?_
                           rw [pt_pt]
                           simp only [fil]
                           rw [Int.zero_add, e]))
                   · first
                     | (exfalso; omega)
                     | (refine E_iload_n (pc' := 53) g48_52 rfl rfl ?_
                        refine E_aload_n (pc' := 54) g48_53 rfl rfl ?_
                        refine E_aload_n (pc' := 55) g48_54 rfl rfl ?_
                        refine E_iload (pc' := 57) g48_55 rfl rfl ?_
                        refine E_cS3i (pc' := 60) g48_57 k48_31 na51 rfl rfl (Nat.le_of_ble_eq_true rfl) (C_around hT1 hL1 hn (by omega)) (by decide) ?_
                        refine E_iand (pc' := 61) g48_60 rfl ?_
                        refine E_goto (pc' := 65) g48_61 rfl ?_
                        refine E_iastore (pc' := 66) g48_65 rfl (pt_self h23) (by omega) (by rw [fil_len]; omega) ?_
                        refine E_in4 (pc' := 69) g48_66 rfl (m_in_iff.mpr (by omega)) ?_
                        refine E_goto (pc' := 9) g48_69 rfl ?_
                        first
                        | (have ho : opn bl n i = true := opn_t.mpr ⟨by omega, by omega⟩
                           refine Ev_cast (hh _) rfl ?_
                           rw [ini_and r1 hn ho, pt_pt]
                           simp only [fil]
                           rw [Int.zero_add])
                        | (have e : mset (iniF bl sl ed hu kd wd ht rm mo (-9) (-9) n i) = 0 := mset_0 (fun b hb z => by
                             have := opn_t.mp z.1
                             omega)
                           refine Ev_cast (hh _) rfl ?_
                           rw [pt_pt]
                           simp only [fil]
                           rw [Int.zero_add, e])))))
  · intro u
    refine E_iload (pc' := 11) g48_9 rfl rfl ?_
    refine E_bipush (pc' := 13) g48_11 (by decide) rfl ?_
    refine E_icge (pc' := 16) (pt := 72) g48_13 rfl rfl (fun c0 => ?_) (fun c0 => ?_)
    · exact E_ret g48_72 rt48 rfl (by rw [hend])
    · exact absurd c0 (by omega)
end WN
