/-! the model: edges, kinds, squares, why; its answers are told in the class's words -/
def mdL (kd un nk le ap nu me op de fo bs bu : Int) : List Int := [kd, ((75 : Nat) : Int), ((76 : Nat) : Int), ((77 : Nat) : Int), un, ((78 : Nat) : Int), ((79 : Nat) : Int), ((80 : Nat) : Int), nk, ((81 : Nat) : Int), ((82 : Nat) : Int), ((83 : Nat) : Int), le, ((84 : Nat) : Int), ap, nu, me, ((85 : Nat) : Int), ((86 : Nat) : Int), op, ((87 : Nat) : Int), ((88 : Nat) : Int), de, fo, bs, bu, ((89 : Nat) : Int), ((90 : Nat) : Int), ((91 : Nat) : Int), ((92 : Nat) : Int)]
def okD (kd wd ht rm mo sd bo : Int) (ed hu : List Int) : Prop := (0 ≤ kd ∧ kd ≤ 6) ∧ (1 ≤ wd ∧ wd ≤ 3) ∧ (1 ≤ ht ∧ ht ≤ 2) ∧ (rm = -9 ∨ (0 ≤ rm ∧ rm ≤ 9)) ∧ (1 ≤ mo ∧ mo ≤ 9) ∧ (1 ≤ sd ∧ sd ≤ 9) ∧ (1 ≤ bo ∧ bo ≤ 4) ∧ bet ed 0 9 ∧ bet hu 0 5
/-- what the model holds of the kinds -/
def relT (td ed hu : List Int) (kd : Int) : Prop := td.length = 30 ∧ (∀ k h : Int, 0 ≤ k → k < kd → 0 ≤ h → h < 4 → ix td (5 * k + h) = ix ed (k * 4 + h)) ∧ ∀ k : Int, 0 ≤ k → k < kd → ix td (5 * k + 4) = ix hu k
/-- what the model holds of squares and stocks -/
def relS (ss bl sl : List Int) (kd : Int) : Prop := ss.length = 15 ∧ (∀ i : Int, 0 ≤ i → i < 6 → ix ss i = ix bl i) ∧ (∀ i : Int, 6 ≤ i → i < 9 → ix ss i = -9) ∧ (∀ k : Int, 0 ≤ k → k < kd → ix ss (9 + k) = ix sl k) ∧ (∀ i : Int, 0 ≤ i → i < 6 → ix bl i = -9 ∨ (0 ≤ ix bl i ∧ ix bl i < kd * 4)) ∧ ∀ k : Int, 0 ≤ k → k < kd → -1000 ≤ ix sl k ∧ ix sl k ≤ 1000
theorem td4k {x kd : Int} (h0 : 0 ≤ x) (h : x < kd * 4) : 0 ≤ x.tdiv 4 ∧ x.tdiv 4 < kd := by
  rw [Int.tdiv_eq_ediv_of_nonneg h0]
  omega
theorem cn_congr {p q : Nat → Bool} : ∀ {n : Nat}, (∀ i, i < n → p i = q i) → cn p n = cn q n
  | 0, _ => rfl
  | n + 1, h => by
    simp only [cn]
    rw [cn_congr (fun i hi => h i (by omega)), h n (by omega)]
theorem cn_more {p : Nat → Bool} {n : Nat} : ∀ {m : Nat}, n ≤ m → (∀ i, n ≤ i → i < m → p i = false) → cn p m = cn p n
  | 0, hm, _ => by rw [show n = 0 by omega]
  | m + 1, hm, h => by
    by_cases e : n = m + 1
    · rw [e]
    · rw [cn_f (h m (by omega) (by omega)), cn_more (by omega) (fun i h1 h2 => h i h1 (by omega))]
section MO
variable {H : mH} {kd un nk le ap nu me op de fo bs bu wd ht rm mo sd bo : Int} {ed hu bl sl td tt ss : List Int}
theorem nK9 (hrS : relS tt bl sl kd) (k : Int) : cn (fun s => decide (¬ ix tt s = -9 ∧ (ix tt s).tdiv 4 = k)) 9 = nK bl k 6 := by
  obtain ⟨nt, q1, q2, q3, q4, q5⟩ := hrS
  unfold nK
  rw [cn_more (n := 6) (by omega) (fun i h1 h2 => decide_eq_false (by have := q2 i (by omega) (by omega); omega))]
  apply cn_congr
  intro i hi
  have h1 := q1 i (by omega) (by omega)
  have h2 := q4 i (by omega) (by omega)
  rw [h1]
  by_cases e : ix bl i = -9
  · simp [e]
  · have : 0 ≤ ix bl i := by omega
    simp [e, this]
theorem nH9 (hrS : relS tt bl sl kd) (hrT : relT td ed hu kd) (v : Int) : cn (fun s => decide (¬ ix tt s = -9 ∧ ix td (5 * (ix tt s).tdiv 4 + 4) = v)) 9 = nH bl hu v 6 := by
  obtain ⟨nt, q1, q2, q3, q4, q5⟩ := hrS
  obtain ⟨nd, u1, u2⟩ := hrT
  unfold nH
  rw [cn_more (n := 6) (by omega) (fun i h1 h2 => decide_eq_false (by have := q2 i (by omega) (by omega); omega))]
  apply cn_congr
  intro i hi
  have h1 := q1 i (by omega) (by omega)
  have h2 := q4 i (by omega) (by omega)
  rw [h1]
  by_cases e : ix bl i = -9
  · simp [e]
  · have h3 : 0 ≤ ix bl i := by omega
    have h4 := td4k h3 (kd := kd) (by omega)
    rw [u2 _ h4.1 h4.2]
    simp [e, h3]
def inC (x lo hi : Int) : Int := if lo ≤ x ∧ x ≤ hi then 1 else 0
theorem inC_or (x lo hi : Int) : (inC x lo hi = 1 ∧ lo ≤ x ∧ x ≤ hi) ∨ (inC x lo hi = 0 ∧ ¬ (lo ≤ x ∧ x ≤ hi)) := by
  unfold inC
  split
  · exact Or.inl ⟨rfl, by assumption⟩
  · exact Or.inr ⟨rfl, by assumption⟩
theorem M_in {x lo hi : Int} : Call 0 97 [mI x, mI lo, mI hi] H (mI (inC x lo hi)) H := by
  refine Call_of rfl ?_
  refine E_iload_n (pc' := 1) g97_0 rfl rfl ?_
  refine E_iload_n (pc' := 2) g97_1 rfl rfl ?_
  refine E_iclt (pc' := 5) (pt := 14) g97_2 rfl rfl (fun c0 => ?_) (fun c0 => ?_)
  · refine E_iconst (pc' := 15) g97_14 (by decide) rfl ?_
    exact E_iret g97_15 (ro97 (by omega)) (by unfold inC; (repeat' split); all_goals (first | rfl | (exfalso; omega))) rfl
  · refine E_iload_n (pc' := 6) g97_5 rfl rfl ?_
    refine E_iload_n (pc' := 7) g97_6 rfl rfl ?_
    refine E_icgt (pc' := 10) (pt := 14) g97_7 rfl rfl (fun c1 => ?_) (fun c1 => ?_)
    · refine E_iconst (pc' := 15) g97_14 (by decide) rfl ?_
      exact E_iret g97_15 (ro97 (by omega)) (by unfold inC; (repeat' split); all_goals (first | rfl | (exfalso; omega))) rfl
    · refine E_iconst (pc' := 11) g97_10 (by decide) rfl ?_
      refine E_goto (pc' := 15) g97_11 rfl ?_
      exact E_iret g97_15 (ro97 (by omega)) (by unfold inC; (repeat' split); all_goals (first | rfl | (exfalso; omega))) rfl
theorem M_isKind (hM : H[74]? = some (7, mdL kd un nk le ap nu me op de fo bs bu)) (hD : okD kd wd ht rm mo sd bo ed hu) {k : Int} : Call 1 109 [mR 74, mI k] H (mI (inI k 0 kd)) H := by
  obtain ⟨r1, r2, r3, r4, r5, r6, r7, b1, b2⟩ := hD
  have e := inI_or k 0 kd
  have e2 := inC_or k 0 (kd - 1)
  refine Call_of rfl ?_
  refine E_iload_n (pc' := 1) g109_0 rfl rfl ?_
  refine E_iconst (pc' := 2) g109_1 (by decide) rfl ?_
  refine E_aload_n (pc' := 3) g109_2 rfl rfl ?_
  refine E_getI (pc' := 6) g109_3 f109_75 tg7_0 (by decide) rfl (by assumption) rfl ?_
  refine E_iconst (pc' := 7) g109_6 (by decide) rfl ?_
  refine E_isub (pc' := 8) g109_7 (m_in_iff.mpr (by omega)) rfl ?_
  refine E_cS3i (pc' := 11) g109_8 k109_81 na97 rfl rfl (Nat.le_of_ble_eq_true rfl) M_in (by decide) ?_
  exact E_iret g109_11 (ro109 (by omega)) (congrArg mI (by omega)) rfl
theorem M_isBlock (hM : H[74]? = some (7, mdL kd un nk le ap nu me op de fo bs bu)) (hD : okD kd wd ht rm mo sd bo ed hu) {k : Int} : Call 1 110 [mR 74, mI k] H (mI (inI k 0 (kd * 4))) H := by
  obtain ⟨r1, r2, r3, r4, r5, r6, r7, b1, b2⟩ := hD
  have e := inI_or k 0 (kd * 4)
  have e2 := inC_or k 0 (4 * kd - 1)
  refine Call_of rfl ?_
  refine E_iload_n (pc' := 1) g110_0 rfl rfl ?_
  refine E_iconst (pc' := 2) g110_1 (by decide) rfl ?_
  refine E_iconst (pc' := 3) g110_2 (by decide) rfl ?_
  refine E_aload_n (pc' := 4) g110_3 rfl rfl ?_
  refine E_getI (pc' := 7) g110_4 f110_75 tg7_0 (by decide) rfl (by assumption) rfl ?_
  refine E_imul (pc' := 8) g110_7 (m_in_iff.mpr (by omega)) rfl ?_
  refine E_iconst (pc' := 9) g110_8 (by decide) rfl ?_
  refine E_isub (pc' := 10) g110_9 (m_in_iff.mpr (by omega)) rfl ?_
  refine E_cS3i (pc' := 13) g110_10 k110_81 na97 rfl rfl (Nat.le_of_ble_eq_true rfl) M_in (by decide) ?_
  exact E_iret g110_13 (ro110 (by omega)) (congrArg mI (by omega)) rfl
theorem M_squares (hM : H[74]? = some (7, mdL kd un nk le ap nu me op de fo bs bu)) (hD : okD kd wd ht rm mo sd bo ed hu) (hz : H[75]? = some (8, [wd, ht, rm, mo, sd, bo])) : Call 0 111 [mR 74] H (mI (wd * ht)) H := by
  obtain ⟨r1, r2, r3, r4, r5, r6, r7, b1, b2⟩ := hD
  have hw := wh_bd r2.1 r2.2 r3.1 r3.2
  refine Call_of rfl ?_
  refine E_aload_n (pc' := 1) g111_0 rfl rfl ?_
  refine E_getR (pc' := 4) g111_1 f111_7 tg7_1 rfl (by assumption) rfl ?_
  refine E_iconst (pc' := 5) g111_4 (by decide) rfl ?_
  refine E_iaload (pc' := 6) g111_5 rfl (by assumption) (by simp) (by simp) ?_
  refine E_aload_n (pc' := 7) g111_6 rfl rfl ?_
  refine E_getR (pc' := 10) g111_7 f111_7 tg7_1 rfl (by assumption) rfl ?_
  refine E_iconst (pc' := 11) g111_10 (by decide) rfl ?_
  refine E_iaload (pc' := 12) g111_11 rfl (by assumption) (by simp) (by simp) ?_
  refine E_imul (pc' := 13) g111_12 (m_in_iff.mpr (show -2147483648 ≤ wd * ht ∧ wd * ht ≤ 2147483647 by omega)) rfl ?_
  exact E_iret g111_13 ro111 rfl rfl
theorem M_isSquare (hM : H[74]? = some (7, mdL kd un nk le ap nu me op de fo bs bu)) (hD : okD kd wd ht rm mo sd bo ed hu) (hz : H[75]? = some (8, [wd, ht, rm, mo, sd, bo])) {k : Int} : Call 1 112 [mR 74, mI k] H (mI (inI k 0 (wd * ht))) H := by
  have hD0 := hD
  obtain ⟨r1, r2, r3, r4, r5, r6, r7, b1, b2⟩ := hD
  have hw := wh_bd r2.1 r2.2 r3.1 r3.2
  have e := inI_or k 0 (wd * ht)
  have e2 := inC_or k 0 (wd * ht - 1)
  refine Call_of rfl ?_
  refine E_iload_n (pc' := 1) g112_0 rfl rfl ?_
  refine E_iconst (pc' := 2) g112_1 (by decide) rfl ?_
  refine E_aload_n (pc' := 3) g112_2 rfl rfl ?_
  refine E_cV0i (pc' := 6) g112_3 k112_116 na111 rfl ow111 rfl (Nat.le_of_ble_eq_true rfl) (by assumption) (M_squares hM hD0 hz) (by decide) ?_
  refine E_iconst (pc' := 7) g112_6 (by decide) rfl ?_
  refine E_isub (pc' := 8) g112_7 (m_in_iff.mpr (by omega)) rfl ?_
  refine E_cS3i (pc' := 11) g112_8 k112_81 na97 rfl rfl (Nat.le_of_ble_eq_true rfl) M_in (by decide) ?_
  exact E_iret g112_11 (ro112 (by omega)) (congrArg mI (by omega)) rfl
theorem M_edge (hM : H[74]? = some (7, mdL kd un nk le ap nu me op de fo bs bu)) (hD : okD kd wd ht rm mo sd bo ed hu) (htd : H[76]? = some (8, td)) (hrT : relT td ed hu kd) {b h : Int} (hb : 0 ≤ b ∧ b < kd * 4) (hh : 0 ≤ h ∧ h < 4) : Call 0 113 [mR 74, mI b, mI h] H (mI (eo ed b h)) H := by
  obtain ⟨r1, r2, r3, r4, r5, r6, r7, b1, b2⟩ := hD
  obtain ⟨nd, u1, u2⟩ := hrT
  have p1 := td4k hb.1 hb.2
  have p2 := tm4 hb.1
  have p3 := tm4 (x := h - b.tmod 4 + 4) (by omega)
  have e : eo ed b h = ix td (5 * b.tdiv 4 + (h - b.tmod 4 + 4).tmod 4) := by
    unfold eo
    rw [if_pos (by omega), u1 _ _ p1.1 p1.2 p3.1 p3.2, show h - b.tmod 4 + 4 = h + 4 - b.tmod 4 by omega]
  rw [e]
  refine Call_of rfl ?_
  refine E_aload_n (pc' := 1) g113_0 rfl rfl ?_
  refine E_getR (pc' := 4) g113_1 f113_13 tg7_2 rfl (by assumption) rfl ?_
  refine E_iconst (pc' := 5) g113_4 (by decide) rfl ?_
  refine E_iload_n (pc' := 6) g113_5 rfl rfl ?_
  refine E_iconst (pc' := 7) g113_6 (by decide) rfl ?_
  refine E_idiv (pc' := 8) g113_7 (by omega) rfl ?_
  refine E_imul (pc' := 9) g113_8 (m_in_iff.mpr (by omega)) rfl ?_
  refine E_iload_n (pc' := 10) g113_9 rfl rfl ?_
  refine E_iload_n (pc' := 11) g113_10 rfl rfl ?_
  refine E_iconst (pc' := 12) g113_11 (by decide) rfl ?_
  refine E_irem (pc' := 13) g113_12 (by omega) rfl ?_
  refine E_isub (pc' := 14) g113_13 (m_in_iff.mpr (by omega)) rfl ?_
  refine E_iconst (pc' := 15) g113_14 (by decide) rfl ?_
  refine E_iadd (pc' := 16) g113_15 (m_in_iff.mpr (by omega)) rfl ?_
  refine E_iconst (pc' := 17) g113_16 (by decide) rfl ?_
  refine E_irem (pc' := 18) g113_17 (by omega) rfl ?_
  refine E_iadd (pc' := 19) g113_18 (m_in_iff.mpr (by omega)) rfl ?_
  refine E_iaload (pc' := 20) g113_19 rfl (by assumption) (by omega) (by omega) ?_
  exact E_iret g113_20 ro113 rfl rfl
theorem M_hueOf (hM : H[74]? = some (7, mdL kd un nk le ap nu me op de fo bs bu)) (hD : okD kd wd ht rm mo sd bo ed hu) (htd : H[76]? = some (8, td)) (hrT : relT td ed hu kd) {k : Int} (hk : 0 ≤ k ∧ k < kd) : Call 0 115 [mR 74, mI k] H (mI (ix hu k)) H := by
  obtain ⟨r1, r2, r3, r4, r5, r6, r7, b1, b2⟩ := hD
  obtain ⟨nd, u1, u2⟩ := hrT
  rw [← u2 k hk.1 hk.2]
  refine Call_of rfl ?_
  refine E_aload_n (pc' := 1) g115_0 rfl rfl ?_
  refine E_getR (pc' := 4) g115_1 f115_13 tg7_2 rfl (by assumption) rfl ?_
  refine E_iconst (pc' := 5) g115_4 (by decide) rfl ?_
  refine E_iload_n (pc' := 6) g115_5 rfl rfl ?_
  refine E_imul (pc' := 7) g115_6 (m_in_iff.mpr (by omega)) rfl ?_
  refine E_iconst (pc' := 8) g115_7 (by decide) rfl ?_
  refine E_iadd (pc' := 9) g115_8 (m_in_iff.mpr (by omega)) rfl ?_
  refine E_iaload (pc' := 10) g115_9 rfl (by assumption) (by omega) (by omega) ?_
  exact E_iret g115_10 ro115 rfl rfl
theorem b01_one {b : Bool} (h : ¬ b01 b = 0) : b = true := by cases b <;> simp [b01] at h ⊢
theorem al_c1 {p : Nat → Bool} {k : Nat} (h : b01 (al p k) = 0) : b01 (al p (k + 1)) = 0 := by
  simp only [al]
  cases q : al p k with
  | false => simp [b01]
  | true => rw [q] at h; simp [b01] at h
theorem al_c2 {p : Nat → Bool} {k : Nat} (h : ¬ b01 (al p k) = 0) (hp : p k = true) : b01 (al p (k + 1)) = 1 := by
  simp only [al, hp]
  cases q : al p k with
  | true => simp [b01]
  | false => rw [q] at h; simp [b01] at h
theorem al_c3 {p : Nat → Bool} {k : Nat} (hp : p k = false) : b01 (al p (k + 1)) = 0 := by simp [al, hp, b01]
theorem b01_zero {b : Bool} (h : b01 b = 0) : b = false := by cases b <;> simp [b01] at h ⊢
theorem M_isPlain (hM : H[74]? = some (7, mdL kd un nk le ap nu me op de fo bs bu)) (hD : okD kd wd ht rm mo sd bo ed hu) (htd : H[76]? = some (8, td)) (hrT : relT td ed hu kd) {x : Int} (hx : 0 ≤ x ∧ x < kd * 4) : Call 1 114 [mR 74, mI x] H (mI (b01 (plB ed x))) H := by
  have hD0 := hD
  have hrT0 := hrT
  obtain ⟨r1, r2, r3, r4, r5, r6, r7, b1, b2⟩ := hD
  obtain ⟨nd, u1, u2⟩ := hrT
  have q2 := tm4 hx.1
  have q3 : x.tmod 4 ≤ x := by rw [Int.tmod_eq_emod_of_nonneg hx.1]; omega
  obtain ⟨n, hn⟩ : ∃ n : Nat, (n : Int) = x.tmod 4 := ⟨(x.tmod 4).toNat, by omega⟩
  have hpl : plB ed x = al (fun j => !(lkB ed (x - n + j) x)) n := by
    unfold plB
    rw [← hn, Int.toNat_natCast]
  refine Call_of rfl ?_
  refine E_iload_n (pc' := 1) g114_0 rfl rfl ?_
  refine E_iload_n (pc' := 2) g114_1 rfl rfl ?_
  refine E_iconst (pc' := 3) g114_2 (by decide) rfl ?_
  refine E_irem (pc' := 4) g114_3 (by omega) rfl ?_
  refine E_isub (pc' := 5) g114_4 (m_in_iff.mpr (by omega)) rfl ?_
  refine E_st2 (pc' := 6) g114_5 rfl ?_
  refine Ev_cast ((E_loop (n := n) (fun i => (∀ j : Nat, j < i → lkB ed (x - n + j) x = false) → ∀ u v : mV, Ev 1 114 6 [mR 74, mI x, mI (x - n + i), u, v] [] H (mI (b01 (plB ed x))) H) ?_ ?_ 0 (by omega)) (fun j hj => absurd hj (by omega)) none none) (by rw [hn]; simp) rfl
  · intro i hi hh hall u v
    refine E_iload_n (pc' := 7) g114_6 rfl rfl ?_
    refine E_iload_n (pc' := 8) g114_7 rfl rfl ?_
    refine E_icge (pc' := 11) (pt := 67) g114_8 rfl rfl (fun c0 => ?_) (fun c0 => ?_)
    · exact absurd c0 (by omega)
    · refine E_iconst (pc' := 12) g114_11 (by decide) rfl ?_
      refine E_st3 (pc' := 13) g114_12 rfl ?_
      refine E_iconst (pc' := 14) g114_13 (by decide) rfl ?_
      refine E_st4 (pc' := 16) g114_14 rfl ?_
      refine E_loop (n := 4) (fun k => Ev 1 114 16 [mR 74, mI x, mI (x - n + i), mI (b01 (al (fun h => decide (eo ed (x - n + i) h = eo ed x h)) k)), mI (k : Int)] [] H (mI (b01 (plB ed x))) H) ?_ ?_ 0 (by omega)
      · intro k hk hk2
        refine E_iload (pc' := 18) g114_16 rfl rfl ?_
        refine E_iconst (pc' := 19) g114_18 (by decide) rfl ?_
        refine E_icge (pc' := 22) (pt := 55) g114_19 rfl rfl (fun c0 => ?_) (fun c0 => ?_)
        · exact absurd c0 (by omega)
        · refine E_iload_n (pc' := 23) g114_22 rfl rfl ?_
          refine E_ifeq (pc' := 26) (pt := 47) g114_23 rfl rfl (fun c1 => ?_) (fun c1 => ?_)
          · refine E_iconst (pc' := 48) g114_47 (by decide) rfl ?_
            refine E_st3 (pc' := 49) g114_48 rfl ?_
            refine E_in4 (pc' := 52) g114_49 rfl (m_in_iff.mpr (by omega)) ?_
            refine E_goto (pc' := 16) g114_52 rfl ?_
            first | exact Ev_cast hk2 (by rw [al_c2 (by assumption) (decide_eq_true (by assumption))]; first | done | rfl) rfl | exact Ev_cast hk2 (by rw [al_c1 (by assumption)]; first | done | rfl) rfl | exact Ev_cast hk2 (by rw [al_c3 (p := fun h : Nat => decide (eo ed (x - n + i) h = eo ed x h)) (decide_eq_false (by assumption))]; first | done | rfl) rfl
          · refine E_aload_n (pc' := 27) g114_26 rfl rfl ?_
            refine E_iload_n (pc' := 28) g114_27 rfl rfl ?_
            refine E_iload (pc' := 30) g114_28 rfl rfl ?_
            refine E_cV2i (pc' := 33) g114_30 k114_119 na113 rfl ow113 rfl (Nat.le_of_ble_eq_true rfl) (by assumption) (M_edge hM hD0 htd hrT0 (by omega) (by omega)) (by decide) ?_
            refine E_aload_n (pc' := 34) g114_33 rfl rfl ?_
            refine E_iload_n (pc' := 35) g114_34 rfl rfl ?_
            refine E_iload (pc' := 37) g114_35 rfl rfl ?_
            refine E_cV2i (pc' := 40) g114_37 k114_119 na113 rfl ow113 rfl (Nat.le_of_ble_eq_true rfl) (by assumption) (M_edge hM hD0 htd hrT0 (by omega) (by omega)) (by decide) ?_
            refine E_icne (pc' := 43) (pt := 47) g114_40 rfl rfl (fun c2 => ?_) (fun c2 => ?_)
            · refine E_iconst (pc' := 48) g114_47 (by decide) rfl ?_
              refine E_st3 (pc' := 49) g114_48 rfl ?_
              refine E_in4 (pc' := 52) g114_49 rfl (m_in_iff.mpr (by omega)) ?_
              refine E_goto (pc' := 16) g114_52 rfl ?_
              first | exact Ev_cast hk2 (by rw [al_c2 (by assumption) (decide_eq_true (by assumption))]; first | done | rfl) rfl | exact Ev_cast hk2 (by rw [al_c1 (by assumption)]; first | done | rfl) rfl | exact Ev_cast hk2 (by rw [al_c3 (p := fun h : Nat => decide (eo ed (x - n + i) h = eo ed x h)) (decide_eq_false (by assumption))]; first | done | rfl) rfl
            · refine E_iconst (pc' := 44) g114_43 (by decide) rfl ?_
              refine E_goto (pc' := 48) g114_44 rfl ?_
              refine E_st3 (pc' := 49) g114_48 rfl ?_
              refine E_in4 (pc' := 52) g114_49 rfl (m_in_iff.mpr (by omega)) ?_
              refine E_goto (pc' := 16) g114_52 rfl ?_
              first | exact Ev_cast hk2 (by rw [al_c2 (by assumption) (decide_eq_true (by assumption))]; first | done | rfl) rfl | exact Ev_cast hk2 (by rw [al_c1 (by assumption)]; first | done | rfl) rfl | exact Ev_cast hk2 (by rw [al_c3 (p := fun h : Nat => decide (eo ed (x - n + i) h = eo ed x h)) (decide_eq_false (by assumption))]; first | done | rfl) rfl
      · skip
        refine E_iload (pc' := 18) g114_16 rfl rfl ?_
        refine E_iconst (pc' := 19) g114_18 (by decide) rfl ?_
        refine E_icge (pc' := 22) (pt := 55) g114_19 rfl rfl (fun c0 => ?_) (fun c0 => ?_)
        · refine E_iload_n (pc' := 56) g114_55 rfl rfl ?_
          refine E_ifeq (pc' := 59) (pt := 61) g114_56 rfl rfl (fun c1 => ?_) (fun c1 => ?_)
          · have hlk : lkB ed (x - n + i) x = false := b01_zero (by assumption)
            refine E_in2 (pc' := 64) g114_61 rfl (m_in_iff.mpr (by omega)) ?_
            refine E_goto (pc' := 6) g114_64 rfl ?_
            refine Ev_cast (hh (fun j hj => ?_) _ _) (by rw [show x - (n : Int) + i + 1 = x - n + ((i + 1 : Nat) : Int) by omega]) rfl
            rcases Nat.lt_or_ge j i with q | q
            · exact hall j q
            · rw [show j = i by omega]; exact hlk
          · have hlk : lkB ed (x - n + i) x = true := b01_one (by assumption)
            refine E_iconst (pc' := 60) g114_59 (by decide) rfl ?_
            exact E_iret g114_60 (ro114 (by omega)) (by rw [hpl, al_no hi (by rw [hlk]; rfl)]; rfl) rfl
        · exact absurd c0 (by omega)
  · intro hall u v
    refine E_iload_n (pc' := 7) g114_6 rfl rfl ?_
    refine E_iload_n (pc' := 8) g114_7 rfl rfl ?_
    refine E_icge (pc' := 11) (pt := 67) g114_8 rfl rfl (fun c0 => ?_) (fun c0 => ?_)
    · refine E_iconst (pc' := 68) g114_67 (by decide) rfl ?_
      exact E_iret g114_68 (ro114 (by omega)) (by rw [hpl, al_iff.mpr (fun j hj => by rw [hall j hj]; rfl)]; rfl) rfl
    · exact absurd c0 (by omega)
theorem M_leftOf (hM : H[74]? = some (7, mdL kd un nk le ap nu me op de fo bs bu)) (hD : okD kd wd ht rm mo sd bo ed hu) (htt : H[85]? = some (8, tt)) (hrS : relS tt bl sl kd) {k : Int} (hk : 0 ≤ k ∧ k < kd) : Call 0 117 [mR 74, mI k] H (mI (ix sl k - nK bl k 6)) H := by
  rw [← nK9 hrS k]
  obtain ⟨r1, r2, r3, r4, r5, r6, r7, b1, b2⟩ := hD
  obtain ⟨nt, q1, q2, q3, q4, q5⟩ := hrS
  have e := q3 k hk.1 hk.2
  have e2 := q5 k hk.1 hk.2
  rw [← e]
  refine Call_of rfl ?_
  refine E_aload_n (pc' := 1) g117_0 rfl rfl ?_
  refine E_getR (pc' := 4) g117_1 f117_41 tg7_17 rfl (by assumption) rfl ?_
  refine E_bipush (pc' := 6) g117_4 (by decide) rfl ?_
  refine E_iload_n (pc' := 7) g117_6 rfl rfl ?_
  refine E_iadd (pc' := 8) g117_7 (m_in_iff.mpr (by omega)) rfl ?_
  refine E_iaload (pc' := 9) g117_8 rfl (by assumption) (by omega) (by omega) ?_
  refine E_st2 (pc' := 10) g117_9 rfl ?_
  refine E_iconst (pc' := 11) g117_10 (by decide) rfl ?_
  refine E_st3 (pc' := 12) g117_11 rfl ?_
  refine Ev_cast (ls := [mR 74, mI k, mI (ix tt (9 + k) - cn (fun s => decide (¬ ix tt s = -9 ∧ (ix tt s).tdiv 4 = k)) 0), mI ((0 : Nat) : Int)]) ?_ (by simp [cn]) rfl
  refine E_loop (n := 9) (fun i => Ev 0 117 12 [mR 74, mI k, mI (ix tt (9 + k) - cn (fun s => decide (¬ ix tt s = -9 ∧ (ix tt s).tdiv 4 = k)) i), mI (i : Int)] [] H (mI (ix tt (9 + k) - cn (fun s => decide (¬ ix tt s = -9 ∧ (ix tt s).tdiv 4 = k)) 9)) H) ?_ ?_ 0 (by omega)
  · intro i hi hh
    have hb := cn_bd (fun s => decide (¬ ix tt s = -9 ∧ (ix tt s).tdiv 4 = k)) i
    refine E_iload_n (pc' := 13) g117_12 rfl rfl ?_
    refine E_bipush (pc' := 15) g117_13 (by decide) rfl ?_
    refine E_icge (pc' := 18) (pt := 55) g117_15 rfl rfl (fun c0 => ?_) (fun c0 => ?_)
    · exact absurd c0 (by omega)
    · refine E_iload_n (pc' := 19) g117_18 rfl rfl ?_
      refine E_aload_n (pc' := 20) g117_19 rfl rfl ?_
      refine E_getR (pc' := 23) g117_20 f117_41 tg7_17 rfl (by assumption) rfl ?_
      refine E_iload_n (pc' := 24) g117_23 rfl rfl ?_
      refine E_iaload (pc' := 25) g117_24 rfl (by assumption) (by omega) (by omega) ?_
      refine E_bipush (pc' := 27) g117_25 (by decide) rfl ?_
      refine E_iceq (pc' := 30) (pt := 46) g117_27 rfl rfl (fun c1 => ?_) (fun c1 => ?_)
      · refine E_iconst (pc' := 47) g117_46 (by decide) rfl ?_
        refine E_isub (pc' := 48) g117_47 (m_in_iff.mpr (by omega)) rfl ?_
        refine E_st2 (pc' := 49) g117_48 rfl ?_
        refine E_in3 (pc' := 52) g117_49 rfl (m_in_iff.mpr (by omega)) ?_
        refine E_goto (pc' := 12) g117_52 rfl ?_
        first | exact Ev_cast hh (by rw [cn_t (decide_eq_true (by omega)), Int.sub_sub]; rfl) rfl | exact Ev_cast hh (by rw [cn_f (decide_eq_false (by omega)), Int.sub_zero]; rfl) rfl
      · refine E_aload_n (pc' := 31) g117_30 rfl rfl ?_
        refine E_getR (pc' := 34) g117_31 f117_41 tg7_17 rfl (by assumption) rfl ?_
        refine E_iload_n (pc' := 35) g117_34 rfl rfl ?_
        refine E_iaload (pc' := 36) g117_35 rfl (by assumption) (by omega) (by omega) ?_
        refine E_iconst (pc' := 37) g117_36 (by decide) rfl ?_
        refine E_idiv (pc' := 38) g117_37 (by omega) rfl ?_
        refine E_iload_n (pc' := 39) g117_38 rfl rfl ?_
        refine E_icne (pc' := 42) (pt := 46) g117_39 rfl rfl (fun c2 => ?_) (fun c2 => ?_)
        · refine E_iconst (pc' := 47) g117_46 (by decide) rfl ?_
          refine E_isub (pc' := 48) g117_47 (m_in_iff.mpr (by omega)) rfl ?_
          refine E_st2 (pc' := 49) g117_48 rfl ?_
          refine E_in3 (pc' := 52) g117_49 rfl (m_in_iff.mpr (by omega)) ?_
          refine E_goto (pc' := 12) g117_52 rfl ?_
          first | exact Ev_cast hh (by rw [cn_t (decide_eq_true (by omega)), Int.sub_sub]; rfl) rfl | exact Ev_cast hh (by rw [cn_f (decide_eq_false (by omega)), Int.sub_zero]; rfl) rfl
        · refine E_iconst (pc' := 43) g117_42 (by decide) rfl ?_
          refine E_goto (pc' := 47) g117_43 rfl ?_
          refine E_isub (pc' := 48) g117_47 (m_in_iff.mpr (by omega)) rfl ?_
          refine E_st2 (pc' := 49) g117_48 rfl ?_
          refine E_in3 (pc' := 52) g117_49 rfl (m_in_iff.mpr (by omega)) ?_
          refine E_goto (pc' := 12) g117_52 rfl ?_
          first | exact Ev_cast hh (by rw [cn_t (decide_eq_true (by omega)), Int.sub_sub]; rfl) rfl | exact Ev_cast hh (by rw [cn_f (decide_eq_false (by omega)), Int.sub_zero]; rfl) rfl
  · refine E_iload_n (pc' := 13) g117_12 rfl rfl ?_
    refine E_bipush (pc' := 15) g117_13 (by decide) rfl ?_
    refine E_icge (pc' := 18) (pt := 55) g117_15 rfl rfl (fun c3 => ?_) (fun c3 => ?_)
    · refine E_iload_n (pc' := 56) g117_55 rfl rfl ?_
      exact E_iret g117_56 ro117 rfl rfl
    · exact absurd c3 (by omega)
theorem M_ofHue (hM : H[74]? = some (7, mdL kd un nk le ap nu me op de fo bs bu)) (hD : okD kd wd ht rm mo sd bo ed hu) (htd : H[76]? = some (8, td)) (hrT : relT td ed hu kd) (htt : H[85]? = some (8, tt)) (hrS : relS tt bl sl kd) {v : Int} : Call 1 118 [mR 74, mI v] H (mI (nH bl hu v 6)) H := by
  rw [← nH9 hrS hrT v]
  have hD0 := hD
  have hrT0 := hrT
  obtain ⟨r1, r2, r3, r4, r5, r6, r7, b1, b2⟩ := hD
  obtain ⟨nt, q1, q2, q3, q4, q5⟩ := hrS
  obtain ⟨nd, u1, u2⟩ := hrT
  refine Call_of rfl ?_
  refine E_iconst (pc' := 1) g118_0 (by decide) rfl ?_
  refine E_st2 (pc' := 2) g118_1 rfl ?_
  refine E_iconst (pc' := 3) g118_2 (by decide) rfl ?_
  refine E_st3 (pc' := 4) g118_3 rfl ?_
  refine E_loop (n := 9) (fun i => Ev 1 118 4 [mR 74, mI v, mI (cn (fun s => decide (¬ ix tt s = -9 ∧ ix td (5 * (ix tt s).tdiv 4 + 4) = v)) i), mI (i : Int)] [] H (mI (cn (fun s => decide (¬ ix tt s = -9 ∧ ix td (5 * (ix tt s).tdiv 4 + 4) = v)) 9)) H) ?_ ?_ 0 (by omega)
  · intro i hi hh
    have hb := cn_bd (fun s => decide (¬ ix tt s = -9 ∧ ix td (5 * (ix tt s).tdiv 4 + 4) = v)) i
    refine E_iload_n (pc' := 5) g118_4 rfl rfl ?_
    refine E_bipush (pc' := 7) g118_5 (by decide) rfl ?_
    refine E_icge (pc' := 10) (pt := 51) g118_7 rfl rfl (fun c0 => ?_) (fun c0 => ?_)
    · exact absurd c0 (by omega)
    · refine E_iload_n (pc' := 11) g118_10 rfl rfl ?_
      refine E_aload_n (pc' := 12) g118_11 rfl rfl ?_
      refine E_getR (pc' := 15) g118_12 f118_41 tg7_17 rfl (by assumption) rfl ?_
      refine E_iload_n (pc' := 16) g118_15 rfl rfl ?_
      refine E_iaload (pc' := 17) g118_16 rfl (by assumption) (by omega) (by omega) ?_
      refine E_bipush (pc' := 19) g118_17 (by decide) rfl ?_
      refine E_iceq (pc' := 22) (pt := 42) g118_19 rfl rfl (fun c1 => ?_) (fun c1 => ?_)
      · refine E_iconst (pc' := 43) g118_42 (by decide) rfl ?_
        refine E_iadd (pc' := 44) g118_43 (m_in_iff.mpr (by omega)) rfl ?_
        refine E_st2 (pc' := 45) g118_44 rfl ?_
        refine E_in3 (pc' := 48) g118_45 rfl (m_in_iff.mpr (by omega)) ?_
        refine E_goto (pc' := 4) g118_48 rfl ?_
        first | exact Ev_cast hh (by rw [cn_t (decide_eq_true (by omega))]; rfl) rfl | exact Ev_cast hh (by rw [cn_f (decide_eq_false (by omega)), Int.add_zero]; rfl) rfl
      · have hq : 0 ≤ (ix tt i).tdiv 4 ∧ (ix tt i).tdiv 4 < kd := by
          by_cases h6 : (i : Int) < 6
          · have h1 := q1 i (by omega) h6
            have h2 := q4 i (by omega) h6
            rw [h1]
            exact td4k (by omega) (by omega)
          · have := q2 i (by omega) (by omega)
            omega
        have hq2 := u2 _ hq.1 hq.2
        refine E_aload_n (pc' := 23) g118_22 rfl rfl ?_
        refine E_aload_n (pc' := 24) g118_23 rfl rfl ?_
        refine E_getR (pc' := 27) g118_24 f118_41 tg7_17 rfl (by assumption) rfl ?_
        refine E_iload_n (pc' := 28) g118_27 rfl rfl ?_
        refine E_iaload (pc' := 29) g118_28 rfl (by assumption) (by omega) (by omega) ?_
        refine E_iconst (pc' := 30) g118_29 (by decide) rfl ?_
        refine E_idiv (pc' := 31) g118_30 (by omega) rfl ?_
        refine E_cV1i (pc' := 34) g118_31 k118_123 na115 rfl ow115 rfl (Nat.le_of_ble_eq_true rfl) (by assumption) (M_hueOf hM hD0 htd hrT0 hq) (by decide) ?_
        refine E_iload_n (pc' := 35) g118_34 rfl rfl ?_
        refine E_icne (pc' := 38) (pt := 42) g118_35 rfl rfl (fun c2 => ?_) (fun c2 => ?_)
        · refine E_iconst (pc' := 43) g118_42 (by decide) rfl ?_
          refine E_iadd (pc' := 44) g118_43 (m_in_iff.mpr (by omega)) rfl ?_
          refine E_st2 (pc' := 45) g118_44 rfl ?_
          refine E_in3 (pc' := 48) g118_45 rfl (m_in_iff.mpr (by omega)) ?_
          refine E_goto (pc' := 4) g118_48 rfl ?_
          first | exact Ev_cast hh (by rw [cn_t (decide_eq_true (by omega))]; rfl) rfl | exact Ev_cast hh (by rw [cn_f (decide_eq_false (by omega)), Int.add_zero]; rfl) rfl
        · refine E_iconst (pc' := 39) g118_38 (by decide) rfl ?_
          refine E_goto (pc' := 43) g118_39 rfl ?_
          refine E_iadd (pc' := 44) g118_43 (m_in_iff.mpr (by omega)) rfl ?_
          refine E_st2 (pc' := 45) g118_44 rfl ?_
          refine E_in3 (pc' := 48) g118_45 rfl (m_in_iff.mpr (by omega)) ?_
          refine E_goto (pc' := 4) g118_48 rfl ?_
          first | exact Ev_cast hh (by rw [cn_t (decide_eq_true (by omega))]; rfl) rfl | exact Ev_cast hh (by rw [cn_f (decide_eq_false (by omega)), Int.add_zero]; rfl) rfl
  · refine E_iload_n (pc' := 5) g118_4 rfl rfl ?_
    refine E_bipush (pc' := 7) g118_5 (by decide) rfl ?_
    refine E_icge (pc' := 10) (pt := 51) g118_7 rfl rfl (fun c3 => ?_) (fun c3 => ?_)
    · refine E_iload_n (pc' := 52) g118_51 rfl rfl ?_
      exact E_iret g118_52 ro118 rfl rfl
    · exact absurd c3 (by omega)
end MO
