/-! the model winnows -/
/-- the squares' sets, no more -/
def rst (A : List Int) (n : Nat) : List Int := (List.range 6).map (fun (s : Nat) => if s < n then ix A s else 0)
theorem rst_len (A : List Int) (n : Nat) : (rst A n).length = 6 := by simp [rst]
theorem rst_ix {A : List Int} {n s : Nat} (hs : s < 6) : ix (rst A n) s = if s < n then ix A s else 0 := by
  unfold rst
  rw [mp6_ix (by omega) (by omega), Int.toNat_natCast]
theorem rst_in {A : List Int} {n s b : Nat} (hn : n ≤ 6) : inW (rst A n) s b ↔ (s < n ∧ bit (ix A s) b = true) := by
  constructor
  · rintro ⟨h1, h2⟩
    rw [rst_ix h1] at h2
    by_cases e : s < n
    · rw [if_pos e] at h2; exact ⟨e, h2⟩
    · rw [if_neg e, bit_zero] at h2; cases h2
  · rintro ⟨h1, h2⟩
    exact ⟨by omega, by rw [rst_ix (by omega), if_pos h1]; exact h2⟩
theorem rst_up {A : List Int} {n s : Nat} {v : Int} (hl : A.length = 9) (hn : n ≤ 6) (hs : s < n) : rst (up A s v) n = up (rst A n) s v := by
  apply ix_ext (by rw [up_len, rst_len, rst_len])
  intro j h0 h1
  rw [rst_len] at h1
  obtain ⟨c, rfl⟩ : ∃ c : Nat, j = (c : Int) := ⟨j.toNat, by omega⟩
  rw [rst_ix (by omega), ix_upn (rst_len _ _) (by omega), rst_ix (by omega), ix_up (by omega) (by omega) (by omega)]
  by_cases e : s = c
  · subst e; rw [if_pos hs, if_pos rfl, if_pos rfl]
  · rw [if_neg e, if_neg (show ¬ (s : Int) = (c : Int) by omega)]
theorem rst_bet {A : List Int} {n : Nat} (hA : ∀ s : Nat, s < n → 0 ≤ ix A s ∧ ix A s ≤ 16777215) : bet (rst A n) 0 16777215 := by
  intro j
  have key : ∀ c : Nat, c < 6 → 0 ≤ ix (rst A n) c ∧ ix (rst A n) c ≤ 16777215 := by
    intro c hc
    rw [rst_ix hc]
    split
    · exact hA c (by assumption)
    · omega
  by_cases hj : 0 ≤ j ∧ j < 6
  · obtain ⟨c, rfl⟩ : ∃ c : Nat, j = (c : Int) := ⟨j.toNat, by omega⟩
    exact key c (by omega)
  · by_cases hj2 : j < 0
    · have e : ix (rst A n) j = ix (rst A n) ((0 : Nat) : Int) := by unfold ix; rw [show j.toNat = (((0 : Nat) : Int)).toNat by omega]
      rw [e]
      exact key 0 (by omega)
    · have e : ix (rst A n) j = 0 := by
        unfold ix
        rw [List.getD_eq_getElem?_getD, List.getElem?_eq_none (by rw [rst_len]; omega)]
        rfl
      omega
theorem xor_bit {x : Int} {b : Nat} (hx : 0 ≤ x ∧ x ≤ 16777215) (hb : b < 24) (hbit : bit x b = true) : m_xor x (m_shl 1 (b : Int)) = mset (fun c => bit x c = true ∧ ¬ c = b) := by
  obtain ⟨y, rfl⟩ : ∃ y : Nat, x = (y : Int) := ⟨x.toNat, by omega⟩
  have h2 : 2 ^ b < 2 ^ 24 := Nat.pow_lt_pow_right (by decide) hb
  have hlt : y ^^^ 2 ^ b < 2 ^ 24 := Nat.xor_lt_two_pow (by omega) h2
  rw [m_shl_nat b (by omega), m_xor_nat (by omega) (by omega)]
  refine mset_eq (by omega) (fun c hc => ?_)
  unfold bit at hbit ⊢
  rw [Int.toNat_natCast] at hbit
  rw [Int.toNat_natCast, Int.toNat_natCast, Int.toNat_natCast, Nat.testBit_xor, Nat.testBit_two_pow]
  by_cases e : b = c
  · subst e
    rw [Int.toNat_natCast] at hbit
    simp [hbit]
  · have : ¬ c = b := fun z => e z.symm
    simp [e, this]
theorem why_one {bl sl ed hu : List Int} {wd ht rm mo s b v w : Int} (h1 : why bl sl ed hu wd ht rm mo s b v) (h2 : why bl sl ed hu wd ht rm mo s b w) : v = w := by
  obtain ⟨a1, a2⟩ := h1
  obtain ⟨b1, b2⟩ := h2
  by_cases c1 : ix sl (b.tdiv 4) - nK bl (b.tdiv 4) 6 ≤ 0
  · rw [a1 c1, b1 c1]
  · obtain ⟨a3, a4⟩ := a2 (by omega)
    obtain ⟨b3, b4⟩ := b2 (by omega)
    by_cases c2 : mt bl ed wd ht s b
    · obtain ⟨a5, a6⟩ := a4 c2
      obtain ⟨b5, b6⟩ := b4 c2
      by_cases c3 : kr ed wd ht rm s b
      · obtain ⟨a7, a8⟩ := a6 c3
        obtain ⟨b7, b8⟩ := b6 c3
        by_cases c4 : mo ≤ nH bl hu (ix hu (b.tdiv 4)) 6
        · rw [a7 c4, b7 c4]
        · rw [a8 (by omega), b8 (by omega)]
      · rw [a5 c3, b5 c3]
    · rw [a3 c2, b3 c2]
section MW
variable {H : mH} {kd un nk le ap nu me op de fo bs bu wd ht rm mo sd bo : Int} {ed hu bl sl td tt ss : List Int} {ps kt ik tx A W W0 : List Int} {n : Nat}
/-- one block taken out -/
theorem rm_step (hI : fIn bl ed wd ht W0 W) {s b : Nat} (hin : inW W s b) (hno : ¬ spp bl ed wd ht (inW W) s b) (hb : b < 24) : fIn bl ed wd ht W0 (up W s (mset (fun c => bit (ix W s) c = true ∧ ¬ c = b))) ∧ mW (up W s (mset (fun c => bit (ix W s) c = true ∧ ¬ c = b))) < mW W := by
  obtain ⟨i1, i2, i3, i4⟩ := hI
  obtain ⟨hs6, hbit⟩ := hin
  have hsub : ∀ j c : Nat, j < 6 → bit (ix (up W s (mset (fun c => bit (ix W s) c = true ∧ ¬ c = b))) j) c = true → bit (ix W j) c = true := by
    intro j c hj
    rw [ix_upn i1 hs6]
    by_cases e : s = j
    · subst e
      rw [if_pos rfl, mset_bit]
      exact fun q => q.2.1
    · rw [if_neg e]; exact id
  refine ⟨⟨by rw [up_len]; exact i1, bet_up i2 (by omega) (by omega) (mset_in _), fun j c h => i3 j c ⟨h.1, hsub j c h.1 h.2⟩, fun E h1 h2 j c hE => ?_⟩, ?_⟩
  · have h3 := i4 E h1 h2 j c hE
    refine ⟨h3.1, ?_⟩
    rw [ix_upn i1 hs6]
    by_cases e : s = j
    · subst e
      rw [if_pos rfl, mset_bit]
      refine ⟨?_, h3.2, ?_⟩
      · rcases Nat.lt_or_ge c 24 with z | z
        · exact z
        · have := h3.2; rw [bit_hi (i2 _) (by omega)] at this; cases this
      · rintro rfl
        exact hno (spp_mono (i4 E h1 h2) (h2 s c hE))
    · rw [if_neg e]; exact h3.2
  · refine sm_lt (s := s) ?_ hs6 (fun j hj => cn_le (fun c _ => hsub j c hj))
    refine cn_lt (s := b) hbit ?_ hb (fun c _ => hsub s c hs6)
    cases q : bit (ix (up W s (mset (fun c => bit (ix W s) c = true ∧ ¬ c = b))) s) b with
    | false => rfl
    | true =>
      rw [ix_upn i1 hs6, if_pos rfl, mset_bit] at q
      exact absurd rfl q.2.2
def hasP (ed A : List Int) (s : Int) (h e : Int) (m : Nat) : Prop := ∃ c : Nat, c < m ∧ bit (ix A s) c = true ∧ eo ed c h = e
theorem M_has (hM : H[74]? = some (7, mdL kd un nk le ap nu me op de fo bs bu)) (hD : okD kd wd ht rm mo sd bo ed hu) (htd : H[76]? = some (8, td)) (hrT : relT td ed hu kd) (h86 : H[86]? = some (8, A)) (hAl : A.length = 9) (hA : ∀ s : Nat, s < n → 0 ≤ ix A s ∧ ix A s ≤ 16777215) (hn : (n : Int) = wd * ht) {s : Nat} {h e : Int} (hs : s < n) (hh : 0 ≤ h ∧ h < 4) : Call 1 132 [mR 74, mI (s : Int), mI h, mI e] H (mI (b01 (cd (hasP ed A s h e (4 * kd).toNat)))) H := by
  have hD0 := hD
  have hrT0 := hrT
  obtain ⟨r1, r2, r3, r4, r5, r6, r7, b1, b2⟩ := hD
  have hw := wh_bd r2.1 r2.2 r3.1 r3.2
  obtain ⟨m, hm⟩ : ∃ m : Nat, (m : Int) = 4 * kd := ⟨(4 * kd).toNat, by omega⟩
  rw [show (4 * kd).toNat = m by omega]
  have hAs := hA s hs
  refine Call_of rfl ?_
  refine E_iconst (pc' := 1) g132_0 (by decide) rfl ?_
  refine E_st4 (pc' := 3) g132_1 rfl ?_
  refine E_iconst (pc' := 4) g132_3 (by decide) rfl ?_
  refine E_st5 (pc' := 6) g132_4 rfl ?_
  refine Ev_cast (ls := [mR 74, mI (s : Int), mI h, mI e, mI (b01 (cd (hasP ed A s h e 0))), mI ((0 : Nat) : Int)]) ?_ (by rw [cd_f.mpr (fun ⟨c, q, _⟩ => absurd q (by omega))]; rfl) rfl
  refine E_loop (n := m) (fun i => Ev 1 132 6 [mR 74, mI (s : Int), mI h, mI e, mI (b01 (cd (hasP ed A s h e i))), mI (i : Int)] [] H (mI (b01 (cd (hasP ed A s h e m)))) H) ?_ ?_ 0 (by omega)
  · intro i hi hh2
    have hask := bit_ask hAs (b := (i : Int)) (by omega) (by omega)
    refine E_iload (pc' := 8) g132_6 rfl rfl ?_
    refine E_iconst (pc' := 9) g132_8 (by decide) rfl ?_
    refine E_aload_n (pc' := 10) g132_9 rfl rfl ?_
    refine E_getI (pc' := 13) g132_10 f132_75 tg7_0 (by decide) rfl (by assumption) rfl ?_
    refine E_imul (pc' := 14) g132_13 (m_in_iff.mpr (by omega)) rfl ?_
    refine E_icge (pc' := 17) (pt := 61) g132_14 rfl rfl (fun c0 => ?_) (fun c0 => ?_)
    · exact absurd c0 (by omega)
    · refine E_iload (pc' := 19) g132_17 rfl rfl ?_
      refine E_ifne (pc' := 22) (pt := 48) g132_19 rfl rfl (fun c1 => ?_) (fun c1 => ?_)
      · refine E_iconst (pc' := 49) g132_48 (by decide) rfl ?_
        refine E_goto (pc' := 53) g132_49 rfl ?_
        refine E_st4 (pc' := 55) g132_53 rfl ?_
        refine E_in5 (pc' := 58) g132_55 rfl (m_in_iff.mpr (by omega)) ?_
        refine E_goto (pc' := 6) g132_58 rfl ?_
        first
        | (have e1 := cd_t.mp (b01_one (by assumption))
           have e2 : cd (hasP ed A s h e (i + 1)) = true := cd_t.mpr (by obtain ⟨c, q1, q2⟩ := e1; exact ⟨c, by omega, q2⟩)
           exact Ev_cast hh2 (by rw [e2]; rfl) rfl)
        | (have e2 : cd (hasP ed A s h e (i + 1)) = true := cd_t.mpr ⟨i, by omega, hbt, by assumption⟩
           exact Ev_cast hh2 (by rw [e2]; rfl) rfl)
        | (have e1 := cd_f.mp (b01_zero (by assumption))
           have e2 : cd (hasP ed A s h e (i + 1)) = false := cd_f.mpr (by
             rintro ⟨c, q1, q2, q3⟩
             rcases Nat.lt_or_ge c i with z | z
             · exact e1 ⟨c, z, q2, q3⟩
             · rw [show c = i by omega] at q2 q3
               first | (rw [hbf] at q2; cases q2) | exact absurd q3 (by assumption))
           exact Ev_cast hh2 (by rw [e2]; rfl) rfl)
      · refine E_aload_n (pc' := 23) g132_22 rfl rfl ?_
        refine E_getR (pc' := 26) g132_23 f132_44 tg7_18 rfl (by assumption) rfl ?_
        refine E_iload_n (pc' := 27) g132_26 rfl rfl ?_
        refine E_iaload (pc' := 28) g132_27 rfl (by assumption) (by omega) (by omega) ?_
        refine E_iload (pc' := 30) g132_28 rfl rfl ?_
        refine E_ishr (pc' := 31) g132_30 rfl ?_
        refine E_iconst (pc' := 32) g132_31 (by decide) rfl ?_
        refine E_iand (pc' := 33) g132_32 rfl ?_
        refine E_iconst (pc' := 34) g132_33 (by decide) rfl ?_
        refine E_icne (pc' := 37) (pt := 52) g132_34 rfl rfl (fun c2 => ?_) (fun c2 => ?_)
        · have hbf : bit (ix A s) i = false := by
            cases q : bit (ix A s) i with
            | false => rfl
            | true => rw [if_pos q] at hask; exact absurd hask c2
          refine E_iconst (pc' := 53) g132_52 (by decide) rfl ?_
          refine E_st4 (pc' := 55) g132_53 rfl ?_
          refine E_in5 (pc' := 58) g132_55 rfl (m_in_iff.mpr (by omega)) ?_
          refine E_goto (pc' := 6) g132_58 rfl ?_
          first
          | (have e1 := cd_t.mp (b01_one (by assumption))
             have e2 : cd (hasP ed A s h e (i + 1)) = true := cd_t.mpr (by obtain ⟨c, q1, q2⟩ := e1; exact ⟨c, by omega, q2⟩)
             exact Ev_cast hh2 (by rw [e2]; rfl) rfl)
          | (have e2 : cd (hasP ed A s h e (i + 1)) = true := cd_t.mpr ⟨i, by omega, hbt, by assumption⟩
             exact Ev_cast hh2 (by rw [e2]; rfl) rfl)
          | (have e1 := cd_f.mp (b01_zero (by assumption))
             have e2 : cd (hasP ed A s h e (i + 1)) = false := cd_f.mpr (by
               rintro ⟨c, q1, q2, q3⟩
               rcases Nat.lt_or_ge c i with z | z
               · exact e1 ⟨c, z, q2, q3⟩
               · rw [show c = i by omega] at q2 q3
                 first | (rw [hbf] at q2; cases q2) | exact absurd q3 (by assumption))
             exact Ev_cast hh2 (by rw [e2]; rfl) rfl)
        · have hbt : bit (ix A s) i = true := by
            cases q : bit (ix A s) i with
            | true => rfl
            | false => rw [if_neg (by rw [q]; decide)] at hask; omega
          refine E_aload_n (pc' := 38) g132_37 rfl rfl ?_
          refine E_iload (pc' := 40) g132_38 rfl rfl ?_
          refine E_iload_n (pc' := 41) g132_40 rfl rfl ?_
          refine E_cV2i (pc' := 44) g132_41 k132_119 na113 rfl ow113 rfl (Nat.le_of_ble_eq_true rfl) (by assumption) (M_edge hM hD0 htd hrT0 (by omega) hh) (by decide) ?_
          refine E_iload_n (pc' := 45) g132_44 rfl rfl ?_
          refine E_icne (pc' := 48) (pt := 52) g132_45 rfl rfl (fun c3 => ?_) (fun c3 => ?_)
          · refine E_iconst (pc' := 53) g132_52 (by decide) rfl ?_
            refine E_st4 (pc' := 55) g132_53 rfl ?_
            refine E_in5 (pc' := 58) g132_55 rfl (m_in_iff.mpr (by omega)) ?_
            refine E_goto (pc' := 6) g132_58 rfl ?_
            first
            | (have e1 := cd_t.mp (b01_one (by assumption))
               have e2 : cd (hasP ed A s h e (i + 1)) = true := cd_t.mpr (by obtain ⟨c, q1, q2⟩ := e1; exact ⟨c, by omega, q2⟩)
               exact Ev_cast hh2 (by rw [e2]; rfl) rfl)
            | (have e2 : cd (hasP ed A s h e (i + 1)) = true := cd_t.mpr ⟨i, by omega, hbt, by assumption⟩
               exact Ev_cast hh2 (by rw [e2]; rfl) rfl)
            | (have e1 := cd_f.mp (b01_zero (by assumption))
               have e2 : cd (hasP ed A s h e (i + 1)) = false := cd_f.mpr (by
                 rintro ⟨c, q1, q2, q3⟩
                 rcases Nat.lt_or_ge c i with z | z
                 · exact e1 ⟨c, z, q2, q3⟩
                 · rw [show c = i by omega] at q2 q3
                   first | (rw [hbf] at q2; cases q2) | exact absurd q3 (by assumption))
               exact Ev_cast hh2 (by rw [e2]; rfl) rfl)
          · refine E_iconst (pc' := 49) g132_48 (by decide) rfl ?_
            refine E_goto (pc' := 53) g132_49 rfl ?_
            refine E_st4 (pc' := 55) g132_53 rfl ?_
            refine E_in5 (pc' := 58) g132_55 rfl (m_in_iff.mpr (by omega)) ?_
            refine E_goto (pc' := 6) g132_58 rfl ?_
            first
            | (have e1 := cd_t.mp (b01_one (by assumption))
               have e2 : cd (hasP ed A s h e (i + 1)) = true := cd_t.mpr (by obtain ⟨c, q1, q2⟩ := e1; exact ⟨c, by omega, q2⟩)
               exact Ev_cast hh2 (by rw [e2]; rfl) rfl)
            | (have e2 : cd (hasP ed A s h e (i + 1)) = true := cd_t.mpr ⟨i, by omega, hbt, by assumption⟩
               exact Ev_cast hh2 (by rw [e2]; rfl) rfl)
            | (have e1 := cd_f.mp (b01_zero (by assumption))
               have e2 : cd (hasP ed A s h e (i + 1)) = false := cd_f.mpr (by
                 rintro ⟨c, q1, q2, q3⟩
                 rcases Nat.lt_or_ge c i with z | z
                 · exact e1 ⟨c, z, q2, q3⟩
                 · rw [show c = i by omega] at q2 q3
                   first | (rw [hbf] at q2; cases q2) | exact absurd q3 (by assumption))
               exact Ev_cast hh2 (by rw [e2]; rfl) rfl)
  · refine E_iload (pc' := 8) g132_6 rfl rfl ?_
    refine E_iconst (pc' := 9) g132_8 (by decide) rfl ?_
    refine E_aload_n (pc' := 10) g132_9 rfl rfl ?_
    refine E_getI (pc' := 13) g132_10 f132_75 tg7_0 (by decide) rfl (by assumption) rfl ?_
    refine E_imul (pc' := 14) g132_13 (m_in_iff.mpr (by omega)) rfl ?_
    refine E_icge (pc' := 17) (pt := 61) g132_14 rfl rfl (fun c0 => ?_) (fun c0 => ?_)
    · refine E_iload (pc' := 63) g132_61 rfl rfl ?_
      exact E_iret g132_63 (ro132 (b01_in _)) rfl rfl
    · exact absurd c0 (by omega)
noncomputable def stP (bl ed A : List Int) (kd wd ht s b : Int) (h : Nat) : Bool := cd (bsd wd ht s h = -9 ∨ ¬ ix bl (bsd wd ht s h) = -9 ∨ hasP ed A (bsd wd ht s h) (((h : Int) + 2).tmod 4) (eo ed b h) (4 * kd).toNat)
theorem M_stays (hM : H[74]? = some (7, mdL kd un nk le ap nu me op de fo bs bu)) (hD : okD kd wd ht rm mo sd bo ed hu) (hz : H[75]? = some (8, [wd, ht, rm, mo, sd, bo])) (htd : H[76]? = some (8, td)) (hrT : relT td ed hu kd) (hss : H[77]? = some (8, ss)) (hrS : relS ss bl sl kd) (h86 : H[86]? = some (8, A)) (hAl : A.length = 9) (hA : ∀ s : Nat, s < n → 0 ≤ ix A s ∧ ix A s ≤ 16777215) (hn : (n : Int) = wd * ht) {s : Nat} {b : Int} (hs : s < n) (hb : 0 ≤ b ∧ b < kd * 4) : Call 2 133 [mR 74, mI (s : Int), mI b] H (mI (b01 (al (stP bl ed A kd wd ht s b) 4))) H := by
  have hD0 := hD
  have hrT0 := hrT
  obtain ⟨r1, r2, r3, r4, r5, r6, r7, b1, b2⟩ := hD
  obtain ⟨nt, q1, q2, q3, q4, q5⟩ := hrS
  have hw := wh_bd r2.1 r2.2 r3.1 r3.2
  refine Call_of rfl ?_
  refine E_iconst (pc' := 1) g133_0 (by decide) rfl ?_
  refine E_st3 (pc' := 2) g133_1 rfl ?_
  refine E_iconst (pc' := 3) g133_2 (by decide) rfl ?_
  refine E_st4 (pc' := 5) g133_3 rfl ?_
  refine (E_loop (n := 4) (fun i => ∀ u : mV, Ev 2 133 5 [mR 74, mI (s : Int), mI b, mI (b01 (al (stP bl ed A kd wd ht s b) i)), mI (i : Int), u] [] H (mI (b01 (al (stP bl ed A kd wd ht s b) 4))) H) ?_ ?_ 0 (by omega)) none
  · intro i hi hh u
    have hbs := (bs_at r2 r3 (s := s) (h := i) (by omega) (by omega)).2
    have ht2 := tm4 (x := (i : Int) + 2) (by omega)
    have hhas : ¬ bsd wd ht s i = -9 → ∀ e : Int, Call 1 132 [mR 74, mI (bsd wd ht s i), mI (((i : Int) + 2).tmod 4), mI e] H (mI (b01 (cd (hasP ed A (bsd wd ht s i) (((i : Int) + 2).tmod 4) e (4 * kd).toNat)))) H := by
      intro h9 e
      obtain ⟨o, ho⟩ : ∃ o : Nat, (o : Int) = bsd wd ht s i := ⟨(bsd wd ht s i).toNat, by omega⟩
      rw [← ho]
      exact M_has hM hD0 htd hrT0 h86 hAl hA hn (by omega) ht2
    refine E_iload (pc' := 7) g133_5 rfl rfl ?_
    refine E_iconst (pc' := 8) g133_7 (by decide) rfl ?_
    refine E_icge (pc' := 11) (pt := 77) g133_8 rfl rfl (fun c0 => ?_) (fun c0 => ?_)
    · exact absurd c0 (by omega)
    · refine E_aload_n (pc' := 12) g133_11 rfl rfl ?_
      refine E_iload_n (pc' := 13) g133_12 rfl rfl ?_
      refine E_iload (pc' := 15) g133_13 rfl rfl ?_
      refine E_cV2i (pc' := 18) g133_15 k133_130 na119 rfl ow119 rfl (Nat.le_of_ble_eq_true rfl) (by assumption) (M_beside hM hD0 hz (by omega) (by omega)) (by decide) ?_
      refine E_st5 (pc' := 20) g133_18 rfl ?_
      refine E_iload_n (pc' := 21) g133_20 rfl rfl ?_
      refine E_ifeq (pc' := 24) (pt := 69) g133_21 rfl rfl (fun c1 => ?_) (fun c1 => ?_)
      · refine E_iconst (pc' := 70) g133_69 (by decide) rfl ?_
        refine E_st3 (pc' := 71) g133_70 rfl ?_
        refine E_in4 (pc' := 74) g133_71 rfl (m_in_iff.mpr (by omega)) ?_
        refine E_goto (pc' := 5) g133_74 rfl ?_
        first | exact Ev_cast (hh _) (by rw [al_c2 (by assumption) hp]; first | done | rfl) rfl | exact Ev_cast (hh _) (by rw [al_c3 hp]; first | done | rfl) rfl | exact Ev_cast (hh _) (by rw [al_c1 (by assumption)]; first | done | rfl) rfl
      · refine E_iload (pc' := 26) g133_24 rfl rfl ?_
        refine E_bipush (pc' := 28) g133_26 (by decide) rfl ?_
        refine E_iceq (pc' := 31) (pt := 65) g133_28 rfl rfl (fun c2 => ?_) (fun c2 => ?_)
        · have hp : stP bl ed A kd wd ht s b i = true := cd_t.mpr (Or.inl c2)
          refine E_iconst (pc' := 66) g133_65 (by decide) rfl ?_
          refine E_goto (pc' := 70) g133_66 rfl ?_
          refine E_st3 (pc' := 71) g133_70 rfl ?_
          refine E_in4 (pc' := 74) g133_71 rfl (m_in_iff.mpr (by omega)) ?_
          refine E_goto (pc' := 5) g133_74 rfl ?_
          first | exact Ev_cast (hh _) (by rw [al_c2 (by assumption) hp]; first | done | rfl) rfl | exact Ev_cast (hh _) (by rw [al_c3 hp]; first | done | rfl) rfl | exact Ev_cast (hh _) (by rw [al_c1 (by assumption)]; first | done | rfl) rfl
        · refine E_aload_n (pc' := 32) g133_31 rfl rfl ?_
          refine E_getR (pc' := 35) g133_32 f133_16 tg7_3 rfl (by assumption) rfl ?_
          refine E_iload (pc' := 37) g133_35 rfl rfl ?_
          refine E_iald (pc' := 38) (v := ix bl (bsd wd ht s i)) g133_37 rfl (by assumption) (by omega) (by omega) (q1 _ (by omega) (by omega)) ?_
          refine E_bipush (pc' := 40) g133_38 (by decide) rfl ?_
          refine E_icne (pc' := 43) (pt := 65) g133_40 rfl rfl (fun c3 => ?_) (fun c3 => ?_)
          · have hp : stP bl ed A kd wd ht s b i = true := cd_t.mpr (Or.inr (Or.inl c3))
            refine E_iconst (pc' := 66) g133_65 (by decide) rfl ?_
            refine E_goto (pc' := 70) g133_66 rfl ?_
            refine E_st3 (pc' := 71) g133_70 rfl ?_
            refine E_in4 (pc' := 74) g133_71 rfl (m_in_iff.mpr (by omega)) ?_
            refine E_goto (pc' := 5) g133_74 rfl ?_
            first | exact Ev_cast (hh _) (by rw [al_c2 (by assumption) hp]; first | done | rfl) rfl | exact Ev_cast (hh _) (by rw [al_c3 hp]; first | done | rfl) rfl | exact Ev_cast (hh _) (by rw [al_c1 (by assumption)]; first | done | rfl) rfl
          · refine E_aload_n (pc' := 44) g133_43 rfl rfl ?_
            refine E_iload (pc' := 46) g133_44 rfl rfl ?_
            refine E_iload (pc' := 48) g133_46 rfl rfl ?_
            refine E_iconst (pc' := 49) g133_48 (by decide) rfl ?_
            refine E_iadd (pc' := 50) g133_49 (m_in_iff.mpr (by omega)) rfl ?_
            refine E_iconst (pc' := 51) g133_50 (by decide) rfl ?_
            refine E_irem (pc' := 52) g133_51 (by omega) rfl ?_
            refine E_aload_n (pc' := 53) g133_52 rfl rfl ?_
            refine E_iload_n (pc' := 54) g133_53 rfl rfl ?_
            refine E_iload (pc' := 56) g133_54 rfl rfl ?_
            refine E_cV2i (pc' := 59) g133_56 k133_119 na113 rfl ow113 rfl (Nat.le_of_ble_eq_true rfl) (by assumption) (M_edge hM hD0 htd hrT0 (by omega) (by omega)) (by decide) ?_
            refine E_cV3i (pc' := 62) g133_59 k133_161 na132 rfl ow132 rfl (Nat.le_of_ble_eq_true rfl) (by assumption) (hhas (by omega) _) (by decide) ?_
            refine E_ifeq (pc' := 65) (pt := 69) g133_62 rfl rfl (fun c4 => ?_) (fun c4 => ?_)
            · have hp : stP bl ed A kd wd ht s b i = false := cd_f.mpr (fun q => by
                rcases q with q | q | q
                · exact absurd q (by assumption)
                · exact absurd q (by omega)
                · exact cd_f.mp (b01_zero c4) q)
              refine E_iconst (pc' := 70) g133_69 (by decide) rfl ?_
              refine E_st3 (pc' := 71) g133_70 rfl ?_
              refine E_in4 (pc' := 74) g133_71 rfl (m_in_iff.mpr (by omega)) ?_
              refine E_goto (pc' := 5) g133_74 rfl ?_
              first | exact Ev_cast (hh _) (by rw [al_c2 (by assumption) hp]; first | done | rfl) rfl | exact Ev_cast (hh _) (by rw [al_c3 hp]; first | done | rfl) rfl | exact Ev_cast (hh _) (by rw [al_c1 (by assumption)]; first | done | rfl) rfl
            · have hp : stP bl ed A kd wd ht s b i = true := cd_t.mpr (Or.inr (Or.inr (cd_t.mp (b01_one c4))))
              refine E_iconst (pc' := 66) g133_65 (by decide) rfl ?_
              refine E_goto (pc' := 70) g133_66 rfl ?_
              refine E_st3 (pc' := 71) g133_70 rfl ?_
              refine E_in4 (pc' := 74) g133_71 rfl (m_in_iff.mpr (by omega)) ?_
              refine E_goto (pc' := 5) g133_74 rfl ?_
              first | exact Ev_cast (hh _) (by rw [al_c2 (by assumption) hp]; first | done | rfl) rfl | exact Ev_cast (hh _) (by rw [al_c3 hp]; first | done | rfl) rfl | exact Ev_cast (hh _) (by rw [al_c1 (by assumption)]; first | done | rfl) rfl
  · intro u
    refine E_iload (pc' := 7) g133_5 rfl rfl ?_
    refine E_iconst (pc' := 8) g133_7 (by decide) rfl ?_
    refine E_icge (pc' := 11) (pt := 77) g133_8 rfl rfl (fun c0 => ?_) (fun c0 => ?_)
    · refine E_iload_n (pc' := 78) g133_77 rfl rfl ?_
      exact E_iret g133_78 (ro133 (b01_in _)) rfl rfl
    · exact absurd c0 (by omega)
theorem st_spp (hD : okD kd wd ht rm mo sd bo ed hu) (hn : (n : Int) = wd * ht) (hP : ∀ s b, inW (rst A n) s b → pln ed kd b) {s b : Nat} (hs : s < n) : al (stP bl ed A kd wd ht s b) 4 = true ↔ spp bl ed wd ht (inW (rst A n)) s b := by
  obtain ⟨r1, r2, r3, r4, r5, r6, r7, b1, b2⟩ := hD
  have hw := wh_bd r2.1 r2.2 r3.1 r3.2
  rw [al_iff]
  have hr : ∀ h : Nat, h < 4 → ¬ bsd wd ht s h = -9 → ∃ o : Nat, (o : Int) = bsd wd ht s h ∧ o < n := by
    intro h h4 h9
    have := (bs_at r2 r3 (s := s) (h := h) (by omega) (by omega)).2
    exact ⟨(bsd wd ht s h).toNat, by omega, by omega⟩
  constructor
  · intro q h h4 h9 h8
    obtain ⟨o, ho, hon⟩ := hr h h4 h9
    rcases cd_t.mp (q h h4) with z | z | ⟨c, c1, c2, c3⟩
    · exact absurd z h9
    · exact absurd h8 z
    · refine ⟨c, ?_, c3⟩
      rw [← ho] at c2 ⊢
      rw [Int.toNat_natCast]
      exact (rst_in (by omega)).mpr ⟨hon, c2⟩
  · intro q h h4
    refine cd_t.mpr ?_
    by_cases h9 : bsd wd ht s h = -9
    · exact Or.inl h9
    · by_cases h8 : ix bl (bsd wd ht s h) = -9
      · obtain ⟨o, ho, hon⟩ := hr h h4 h9
        obtain ⟨c, c1, c2⟩ := q h h4 h9 h8
        have hc := hP _ _ c1
        have c3 := (rst_in (by omega)).mp c1
        rw [← ho, Int.toNat_natCast] at c3
        exact Or.inr (Or.inr ⟨c, by have := hc.1; omega, by rw [← ho]; exact c3.2, c2⟩)
      · exact Or.inr (Or.inl h8)
theorem M_winnows (hM : H[74]? = some (7, mdL kd un nk le ap nu me op de fo bs bu)) (hD : okD kd wd ht rm mo sd bo ed hu) (hz : H[75]? = some (8, [wd, ht, rm, mo, sd, bo])) (htd : H[76]? = some (8, td)) (hrT : relT td ed hu kd) (hss : H[77]? = some (8, ss)) (hrS : relS ss bl sl kd) (htt : H[85]? = some (8, tt)) (ht15 : tt.length = 15) (h86 : H[86]? = some (8, A)) (hAl : A.length = 9) (hn : (n : Int) = wd * ht) : ∃ A2, A2.length = 9 ∧ (∀ s : Nat, s < n → 0 ≤ ix A2 s ∧ ix A2 s ≤ 16777215) ∧ gfam bl ed wd ht (iniF bl sl ed hu kd wd ht rm mo (-9) (-9) n) (rst A2 n) ∧ Call 3 134 [mR 74] H none (pt (pt H 85 ss) 86 A2) := by
  have hD0 := hD
  have hrT0 := hrT
  have hrS0 := hrS
  obtain ⟨r1, r2, r3, r4, r5, r6, r7, b1, b2⟩ := hD
  obtain ⟨nt, q1, q2, q3, q4, q5⟩ := hrS
  have hw := wh_bd r2.1 r2.2 r3.1 r3.2
  have gM : ∀ {X : List Int}, (pt (pt H 85 ss) 86 X)[74]? = some (7, mdL kd un nk le ap nu me op de fo bs bu) := pt_nx (by decide) (pt_nx (by decide) hM)
  have gz : ∀ {X : List Int}, (pt (pt H 85 ss) 86 X)[75]? = some (8, [wd, ht, rm, mo, sd, bo]) := pt_nx (by decide) (pt_nx (by decide) hz)
  have gtd : ∀ {X : List Int}, (pt (pt H 85 ss) 86 X)[76]? = some (8, td) := pt_nx (by decide) (pt_nx (by decide) htd)
  have gss : ∀ {X : List Int}, (pt (pt H 85 ss) 86 X)[77]? = some (8, ss) := pt_nx (by decide) (pt_nx (by decide) hss)
  have gtt : ∀ {X : List Int}, (pt (pt H 85 ss) 86 X)[85]? = some (8, ss) := pt_nx (by decide) (pt_self htt)
  have g86 : ∀ {X : List Int}, (pt (pt H 85 ss) 86 X)[86]? = some (8, X) := pt_self (pt_nx (by decide) h86)
  obtain ⟨m, hm⟩ : ∃ m : Nat, (m : Int) = 4 * kd := ⟨(4 * kd).toNat, by omega⟩
  have hin : ∀ s b, inW (iniL bl sl ed hu kd wd ht rm mo (-9) (-9) n) s b ↔ iniF bl sl ed hu kd wd ht rm mo (-9) (-9) n s b := fun s b => iniL_in r1 (by omega)
  have hP0 : ∀ s b, inW (iniL bl sl ed hu kd wd ht rm mo (-9) (-9) n) s b → opn bl n s = true ∧ pln ed kd b := fun s b h => by
    have := (hin s b).mp h
    exact ⟨this.1, this.2.1, this.2.2.1⟩
  generalize hW0 : iniL bl sl ed hu kd wd ht rm mo (-9) (-9) n = W0 at hin hP0
  -- the sweeps
  have rounds : ∀ (q : Nat) (X : List Int) (u v : mV), X.length = 9 → (∀ s : Nat, s < n → 0 ≤ ix X s ∧ ix X s ≤ 16777215) → fIn bl ed wd ht W0 (rst X n) → mW (rst X n) ≤ q → ∃ A2, A2.length = 9 ∧ (∀ s : Nat, s < n → 0 ≤ ix A2 s ∧ ix A2 s ≤ 16777215) ∧ fIn bl ed wd ht W0 (rst A2 n) ∧ stb bl ed wd ht (rst A2 n) ∧ Ev 3 134 91 [mR 74, mI 1, u, v] [] (pt (pt H 85 ss) 86 X) none (pt (pt H 85 ss) 86 A2) := by
    intro q
    induction q with
    | zero | succ q IH =>
    all_goals
    (intro X u v hXl hXb hXI hXq
     have sweep : ∀ s : Nat, s ≤ n → ∀ (Y : List Int) (ch : Int) (v : mV), Y.length = 9 → (∀ s : Nat, s < n → 0 ≤ ix Y s ∧ ix Y s ≤ 16777215) → fIn bl ed wd ht W0 (rst Y n) → (ch = 0 ∨ ch = 1) → (ch = 0 → Y = X ∧ ∀ s2 b : Nat, s2 < s → inW (rst X n) s2 b → spp bl ed wd ht (inW (rst X n)) s2 b) → (ch = 1 → mW (rst Y n) < mW (rst X n)) → ∃ A2, A2.length = 9 ∧ (∀ s : Nat, s < n → 0 ≤ ix A2 s ∧ ix A2 s ≤ 16777215) ∧ fIn bl ed wd ht W0 (rst A2 n) ∧ stb bl ed wd ht (rst A2 n) ∧ Ev 3 134 99 [mR 74, mI ch, mI (s : Int), v] [] (pt (pt H 85 ss) 86 Y) none (pt (pt H 85 ss) 86 A2) := by
       refine E_loop (n := n) _ ?_ ?_
       · intro s hs hh Y ch v hYl hYb hYI hch h0 h1
         have inner : ∀ b : Nat, b ≤ m → ∀ (Z : List Int) (ch : Int), Z.length = 9 → (∀ s : Nat, s < n → 0 ≤ ix Z s ∧ ix Z s ≤ 16777215) → fIn bl ed wd ht W0 (rst Z n) → (ch = 0 ∨ ch = 1) → (ch = 0 → Z = X ∧ (∀ s2 b : Nat, s2 < s → inW (rst X n) s2 b → spp bl ed wd ht (inW (rst X n)) s2 b) ∧ ∀ c : Nat, c < b → inW (rst X n) s c → spp bl ed wd ht (inW (rst X n)) s c) → (ch = 1 → mW (rst Z n) < mW (rst X n)) → ∃ A2, A2.length = 9 ∧ (∀ s : Nat, s < n → 0 ≤ ix A2 s ∧ ix A2 s ≤ 16777215) ∧ fIn bl ed wd ht W0 (rst A2 n) ∧ stb bl ed wd ht (rst A2 n) ∧ Ev 3 134 109 [mR 74, mI ch, mI (s : Int), mI (b : Int)] [] (pt (pt H 85 ss) 86 Z) none (pt (pt H 85 ss) 86 A2) := by
           refine E_loop (n := m) _ ?_ ?_
           · intro b hb hh2 Z ch hZl hZb hZI hch h0 h1
             have hPZ : ∀ s b, inW (rst Z n) s b → pln ed kd b := fun s b h => (hP0 s b (hZI.2.2.1 s b h)).2
             have hask := bit_ask (hZb s hs) (b := (b : Int)) (by omega) (by omega)
             have hsp := st_spp (bl := bl) hD0 hn hPZ (b := b) hs
             have hst := M_stays (H := pt (pt H 85 ss) 86 Z) (n := n) (b := (b : Int)) gM hD0 gz gtd hrT0 gss hrS0 g86 hZl hZb hn hs (by omega)
             by_cases hrem : bit (ix Z s) b = true ∧ ¬ spp bl ed wd ht (inW (rst Z n)) s b
             · rw [if_pos hrem.1] at hask
               have hinZ : inW (rst Z n) s b := (rst_in (by omega)).mpr ⟨hs, hrem.1⟩
               obtain ⟨k1, k2⟩ := rm_step hZI hinZ hrem.2 (by omega)
               have hxor := xor_bit (hZb s hs) (b := b) (by omega) hrem.1
               rw [rst_ix (by omega), if_pos hs, ← rst_up hZl (by omega) hs] at k1 k2
               have hal : b01 (al (stP bl ed Z kd wd ht s b) 4) = 0 := by
                 cases q : al (stP bl ed Z kd wd ht s b) 4 with
                 | true => exact absurd (hsp.mp q) hrem.2
                 | false => rfl
               obtain ⟨A2, x1, x2, x3, x4, hev⟩ := hh2 (up Z s (mset (fun c => bit (ix Z s) c = true ∧ ¬ c = b))) 1 (by rw [up_len]; exact hZl) (fun j hj => by
                 rw [ix_up (by omega) (by omega) (by omega)]
                 split
                 · exact mset_in _
                 · exact hZb j hj) k1 (Or.inr rfl) (fun z => absurd z (by omega)) (fun _ => by
                 rcases hch with z | z
                 · rw [← (h0 z).1]; exact k2
                 · have := h1 z; omega)
               refine ⟨A2, x1, x2, x3, x4, ?_⟩
               refine E_iload_n (pc' := 110) g134_109 rfl rfl ?_
               refine E_iconst (pc' := 111) g134_110 (by decide) rfl ?_
               refine E_aload_n (pc' := 112) g134_111 rfl rfl ?_
               refine E_getI (pc' := 115) g134_112 f134_75 tg7_0 (by decide) rfl gM rfl ?_
               refine E_imul (pc' := 116) g134_115 (m_in_iff.mpr (by omega)) rfl ?_
               refine E_icge (pc' := 119) (pt := 162) g134_116 rfl rfl (fun c0 => ?_) (fun c0 => ?_)
               · first
                 | (exfalso; omega)
                 | (exfalso; omega)
               · first
                 | (exfalso; omega)
                 | (refine E_aload_n (pc' := 120) g134_119 rfl rfl ?_
                    refine E_getR (pc' := 123) g134_120 f134_44 tg7_18 rfl gM rfl ?_
                    refine E_iload_n (pc' := 124) g134_123 rfl rfl ?_
                    refine E_iaload (pc' := 125) g134_124 rfl g86 (by omega) (by omega) ?_
                    refine E_iload_n (pc' := 126) g134_125 rfl rfl ?_
                    refine E_ishr (pc' := 127) g134_126 rfl ?_
                    refine E_iconst (pc' := 128) g134_127 (by decide) rfl ?_
                    refine E_iand (pc' := 129) g134_128 rfl ?_
                    refine E_iconst (pc' := 130) g134_129 (by decide) rfl ?_
                    refine E_icne (pc' := 133) (pt := 156) g134_130 rfl rfl (fun c1 => ?_) (fun c1 => ?_)
                    · first
                      | (exfalso; omega)
                      | (refine E_in3 (pc' := 159) g134_156 rfl (m_in_iff.mpr (by omega)) ?_
                         refine E_goto (pc' := 109) g134_159 rfl ?_
                         exact hev)
                    · first
                      | (exfalso; omega)
                      | (refine E_aload_n (pc' := 134) g134_133 rfl rfl ?_
                         refine E_iload_n (pc' := 135) g134_134 rfl rfl ?_
                         refine E_iload_n (pc' := 136) g134_135 rfl rfl ?_
                         refine E_cV2i (pc' := 139) g134_136 k134_164 na133 rfl ow133 rfl (Nat.le_of_ble_eq_true rfl) gM hst (by decide) ?_
                         refine E_ifne (pc' := 142) (pt := 156) g134_139 rfl rfl (fun c2 => ?_) (fun c2 => ?_)
                         · first
                           | (exfalso; omega)
                           | (refine E_in3 (pc' := 159) g134_156 rfl (m_in_iff.mpr (by omega)) ?_
                              refine E_goto (pc' := 109) g134_159 rfl ?_
                              exact hev)
                         · first
                           | (exfalso; omega)
                           | (refine E_aload_n (pc' := 143) g134_142 rfl rfl ?_
                              refine E_getR (pc' := 146) g134_143 f134_44 tg7_18 rfl gM rfl ?_
                              refine E_iload_n (pc' := 147) g134_146 rfl rfl ?_
                              refine E_dup2 (pc' := 148) g134_147 rfl ?_
                              refine E_iaload (pc' := 149) g134_148 rfl g86 (by omega) (by omega) ?_
                              refine E_iconst (pc' := 150) g134_149 (by decide) rfl ?_
                              refine E_iload_n (pc' := 151) g134_150 rfl rfl ?_
                              refine E_ishl (pc' := 152) g134_151 rfl ?_
                              refine E_ixor (pc' := 153) g134_152 rfl ?_
                              rw [hxor]
                              refine E_iastore (pc' := 154) g134_153 rfl g86 (by omega) (by omega) ?_
                              rw [pt_pt]
                              refine E_iconst (pc' := 155) g134_154 (by decide) rfl ?_
                              refine E_st1 (pc' := 156) g134_155 rfl ?_
                              refine E_in3 (pc' := 159) g134_156 rfl (m_in_iff.mpr (by omega)) ?_
                              refine E_goto (pc' := 109) g134_159 rfl ?_
                              exact hev)))
             · obtain ⟨A2, x1, x2, x3, x4, hev⟩ := hh2 Z ch hZl hZb hZI hch (fun z => ⟨(h0 z).1, (h0 z).2.1, fun c hc hcin => by
                 rcases Nat.lt_or_ge c b with y | y
                 · exact (h0 z).2.2 c y hcin
                 · rw [show c = b by omega] at hcin ⊢
                   rw [← (h0 z).1] at hcin ⊢
                   exact Classical.byContradiction (fun w => hrem ⟨((rst_in (by omega)).mp hcin).2, w⟩)⟩) h1
               refine ⟨A2, x1, x2, x3, x4, ?_⟩
               by_cases hbt : bit (ix Z s) b = true
               · rw [if_pos hbt] at hask
                 have hal : b01 (al (stP bl ed Z kd wd ht s b) 4) = 1 := by
                   rw [hsp.mpr (Classical.byContradiction (fun w => hrem ⟨hbt, w⟩))]
                   rfl
                 refine E_iload_n (pc' := 110) g134_109 rfl rfl ?_
                 refine E_iconst (pc' := 111) g134_110 (by decide) rfl ?_
                 refine E_aload_n (pc' := 112) g134_111 rfl rfl ?_
                 refine E_getI (pc' := 115) g134_112 f134_75 tg7_0 (by decide) rfl gM rfl ?_
                 refine E_imul (pc' := 116) g134_115 (m_in_iff.mpr (by omega)) rfl ?_
                 refine E_icge (pc' := 119) (pt := 162) g134_116 rfl rfl (fun c0 => ?_) (fun c0 => ?_)
                 · first
                   | (exfalso; omega)
                   | (exfalso; omega)
                 · first
                   | (exfalso; omega)
                   | (refine E_aload_n (pc' := 120) g134_119 rfl rfl ?_
                      refine E_getR (pc' := 123) g134_120 f134_44 tg7_18 rfl gM rfl ?_
                      refine E_iload_n (pc' := 124) g134_123 rfl rfl ?_
                      refine E_iaload (pc' := 125) g134_124 rfl g86 (by omega) (by omega) ?_
                      refine E_iload_n (pc' := 126) g134_125 rfl rfl ?_
                      refine E_ishr (pc' := 127) g134_126 rfl ?_
                      refine E_iconst (pc' := 128) g134_127 (by decide) rfl ?_
                      refine E_iand (pc' := 129) g134_128 rfl ?_
                      refine E_iconst (pc' := 130) g134_129 (by decide) rfl ?_
                      refine E_icne (pc' := 133) (pt := 156) g134_130 rfl rfl (fun c1 => ?_) (fun c1 => ?_)
                      · first
                        | (exfalso; omega)
                        | (refine E_in3 (pc' := 159) g134_156 rfl (m_in_iff.mpr (by omega)) ?_
                           refine E_goto (pc' := 109) g134_159 rfl ?_
                           exact hev)
                      · first
                        | (exfalso; omega)
                        | (refine E_aload_n (pc' := 134) g134_133 rfl rfl ?_
                           refine E_iload_n (pc' := 135) g134_134 rfl rfl ?_
                           refine E_iload_n (pc' := 136) g134_135 rfl rfl ?_
                           refine E_cV2i (pc' := 139) g134_136 k134_164 na133 rfl ow133 rfl (Nat.le_of_ble_eq_true rfl) gM hst (by decide) ?_
                           refine E_ifne (pc' := 142) (pt := 156) g134_139 rfl rfl (fun c2 => ?_) (fun c2 => ?_)
                           · first
                             | (exfalso; omega)
                             | (refine E_in3 (pc' := 159) g134_156 rfl (m_in_iff.mpr (by omega)) ?_
                                refine E_goto (pc' := 109) g134_159 rfl ?_
                                exact hev)
                           · first
                             | (exfalso; omega)
                             | (exfalso; omega)))
               · rw [if_neg hbt] at hask
                 refine E_iload_n (pc' := 110) g134_109 rfl rfl ?_
                 refine E_iconst (pc' := 111) g134_110 (by decide) rfl ?_
                 refine E_aload_n (pc' := 112) g134_111 rfl rfl ?_
                 refine E_getI (pc' := 115) g134_112 f134_75 tg7_0 (by decide) rfl gM rfl ?_
                 refine E_imul (pc' := 116) g134_115 (m_in_iff.mpr (by omega)) rfl ?_
                 refine E_icge (pc' := 119) (pt := 162) g134_116 rfl rfl (fun c0 => ?_) (fun c0 => ?_)
                 · first
                   | (exfalso; omega)
                   | (exfalso; omega)
                 · first
                   | (exfalso; omega)
                   | (refine E_aload_n (pc' := 120) g134_119 rfl rfl ?_
                      refine E_getR (pc' := 123) g134_120 f134_44 tg7_18 rfl gM rfl ?_
                      refine E_iload_n (pc' := 124) g134_123 rfl rfl ?_
                      refine E_iaload (pc' := 125) g134_124 rfl g86 (by omega) (by omega) ?_
                      refine E_iload_n (pc' := 126) g134_125 rfl rfl ?_
                      refine E_ishr (pc' := 127) g134_126 rfl ?_
                      refine E_iconst (pc' := 128) g134_127 (by decide) rfl ?_
                      refine E_iand (pc' := 129) g134_128 rfl ?_
                      refine E_iconst (pc' := 130) g134_129 (by decide) rfl ?_
                      refine E_icne (pc' := 133) (pt := 156) g134_130 rfl rfl (fun c1 => ?_) (fun c1 => ?_)
                      · first
                        | (exfalso; omega)
                        | (refine E_in3 (pc' := 159) g134_156 rfl (m_in_iff.mpr (by omega)) ?_
                           refine E_goto (pc' := 109) g134_159 rfl ?_
                           exact hev)
                      · first
                        | (exfalso; omega)
                        | (exfalso; omega))
           · intro Z ch hZl hZb hZI hch h0 h1
             obtain ⟨A2, x1, x2, x3, x4, hev⟩ := hh Z ch (mI (m : Int)) hZl hZb hZI hch (fun z => ⟨(h0 z).1, fun s2 b hs2 hb => by
               rcases Nat.lt_or_ge s2 s with y | y
               · exact (h0 z).2.1 s2 b y hb
               · rw [show s2 = s by omega] at hb ⊢
                 have := (hP0 s b (hXI.2.2.1 s b hb)).2.1
                 exact (h0 z).2.2 b (by omega) hb⟩) h1
             refine ⟨A2, x1, x2, x3, x4, ?_⟩
             refine E_iload_n (pc' := 110) g134_109 rfl rfl ?_
             refine E_iconst (pc' := 111) g134_110 (by decide) rfl ?_
             refine E_aload_n (pc' := 112) g134_111 rfl rfl ?_
             refine E_getI (pc' := 115) g134_112 f134_75 tg7_0 (by decide) rfl gM rfl ?_
             refine E_imul (pc' := 116) g134_115 (m_in_iff.mpr (by omega)) rfl ?_
             refine E_icge (pc' := 119) (pt := 162) g134_116 rfl rfl (fun c0 => ?_) (fun c0 => ?_)
             · first
               | (exfalso; omega)
               | (refine E_in2 (pc' := 165) g134_162 rfl (m_in_iff.mpr (by omega)) ?_
                  refine E_goto (pc' := 99) g134_165 rfl ?_
                  exact hev)
             · first
               | (exfalso; omega)
               | (exfalso; omega)
         obtain ⟨A2, x1, x2, x3, x4, hev⟩ := inner 0 (by omega) Y ch hYl hYb hYI hch (fun z => ⟨(h0 z).1, (h0 z).2, fun c hc => absurd hc (by omega)⟩) h1
         refine ⟨A2, x1, x2, x3, x4, ?_⟩
         refine E_iload_n (pc' := 100) g134_99 rfl rfl ?_
         refine E_aload_n (pc' := 101) g134_100 rfl rfl ?_
         refine E_cV0i (pc' := 104) g134_101 k134_116 na111 rfl ow111 rfl (Nat.le_of_ble_eq_true rfl) gM (M_squares gM hD0 gz) (by decide) ?_
         refine E_icge (pc' := 107) (pt := 168) g134_104 rfl rfl (fun c0 => ?_) (fun c0 => ?_)
         · first
           | (exfalso; omega)
           | (exfalso; omega)
         · first
           | (exfalso; omega)
           | (refine E_iconst (pc' := 108) g134_107 (by decide) rfl ?_
              refine E_st3 (pc' := 109) g134_108 rfl ?_
              exact hev)
       · intro Y ch v hYl hYb hYI hch h0 h1
         rcases hch with rfl | rfl
         · obtain ⟨rfl, h02⟩ := h0 rfl
           refine ⟨Y, hYl, hYb, hYI, fun s b hb => h02 s b ((rst_in (by omega)).mp hb).1 hb, ?_⟩
           refine E_iload_n (pc' := 100) g134_99 rfl rfl ?_
           refine E_aload_n (pc' := 101) g134_100 rfl rfl ?_
           refine E_cV0i (pc' := 104) g134_101 k134_116 na111 rfl ow111 rfl (Nat.le_of_ble_eq_true rfl) gM (M_squares gM hD0 gz) (by decide) ?_
           refine E_icge (pc' := 107) (pt := 168) g134_104 rfl rfl (fun c0 => ?_) (fun c0 => ?_)
           · first
             | (exfalso; omega)
             | (refine E_goto (pc' := 91) g134_168 rfl ?_
                refine E_iload_n (pc' := 92) g134_91 rfl rfl ?_
                refine E_ifeq (pc' := 95) (pt := 171) g134_92 rfl rfl (fun c1 => ?_) (fun c1 => ?_)
                · first
                  | (exfalso; omega)
                  | (exact E_ret g134_171 rt134 rfl rfl)
                · first
                  | (exfalso; omega)
                  | (exfalso; omega))
           · first
             | (exfalso; omega)
             | (exfalso; omega)
         · have hlt := h1 rfl
           have hmb := mW_bd (rst Y n)
           first
           | (exfalso; omega)
           | (obtain ⟨A2, x1, x2, x3, x4, hev⟩ := IH Y (mI (n : Int)) v hYl hYb hYI (by omega)
              refine ⟨A2, x1, x2, x3, x4, ?_⟩
              refine E_iload_n (pc' := 100) g134_99 rfl rfl ?_
              refine E_aload_n (pc' := 101) g134_100 rfl rfl ?_
              refine E_cV0i (pc' := 104) g134_101 k134_116 na111 rfl ow111 rfl (Nat.le_of_ble_eq_true rfl) gM (M_squares gM hD0 gz) (by decide) ?_
              refine E_icge (pc' := 107) (pt := 168) g134_104 rfl rfl (fun c0 => ?_) (fun c0 => ?_)
              · first
                | (exfalso; omega)
                | (refine E_goto (pc' := 91) g134_168 rfl ?_
                   exact hev)
              · first
                | (exfalso; omega)
                | (exfalso; omega))
     obtain ⟨A2, x1, x2, x3, x4, hev⟩ := sweep 0 (by omega) X 0 v hXl hXb hXI (Or.inl rfl) (fun _ => ⟨rfl, fun s2 b hs2 => absurd hs2 (by omega)⟩) (fun z => absurd z (by omega))
     refine ⟨A2, x1, x2, x3, x4, ?_⟩
     refine E_iload_n (pc' := 92) g134_91 rfl rfl ?_
     refine E_ifeq (pc' := 95) (pt := 171) g134_92 rfl rfl (fun c0 => ?_) (fun c0 => ?_)
     · first
       | (exfalso; omega)
       | (exfalso; omega)
     · first
       | (exfalso; omega)
       | (refine E_iconst (pc' := 96) g134_95 (by decide) rfl ?_
          refine E_st1 (pc' := 97) g134_96 rfl ?_
          refine E_iconst (pc' := 98) g134_97 (by decide) rfl ?_
          refine E_st2 (pc' := 99) g134_98 rfl ?_
          exact hev))
  -- the first sets
  have first : ∀ s : Nat, s ≤ n → ∀ (X : List Int) (v : mV), X.length = 9 → (∀ j : Nat, j < s → ix X j = mset (iniF bl sl ed hu kd wd ht rm mo (-9) (-9) n j)) → ∃ A2, A2.length = 9 ∧ (∀ s : Nat, s < n → 0 ≤ ix A2 s ∧ ix A2 s ≤ 16777215) ∧ fIn bl ed wd ht W0 (rst A2 n) ∧ stb bl ed wd ht (rst A2 n) ∧ Ev 3 134 6 [mR 74, mI (s : Int), v, none] [] (pt (pt H 85 ss) 86 X) none (pt (pt H 85 ss) 86 A2) := by
    refine E_loop (n := n) _ ?_ ?_
    · intro s hs hh X v hXl hX
      have hss1 : ix ss s = ix bl s := q1 s (by omega) (by omega)
      by_cases hop : ix bl s = -9
      · have inner : ∀ b : Nat, b ≤ m → ∀ (Z : List Int), Z.length = 9 → (∀ j : Nat, j < s → ix Z j = mset (iniF bl sl ed hu kd wd ht rm mo (-9) (-9) n j)) → ix Z s = mset (fun c => c < b ∧ iniF bl sl ed hu kd wd ht rm mo (-9) (-9) n s c) → ∃ A2, A2.length = 9 ∧ (∀ s : Nat, s < n → 0 ≤ ix A2 s ∧ ix A2 s ≤ 16777215) ∧ fIn bl ed wd ht W0 (rst A2 n) ∧ stb bl ed wd ht (rst A2 n) ∧ Ev 3 134 23 [mR 74, mI (s : Int), mI (b : Int), none] [] (pt (pt H 85 ss) 86 Z) none (pt (pt H 85 ss) 86 A2) := by
          refine E_loop (n := m) _ ?_ ?_
          · intro b hb hh2 Z hZl hZ hZs
            obtain ⟨wv, hwy, hwb⟩ := why_ex bl sl ed hu wd ht rm mo s b
            have hwc := M_whyNot (H := pt (pt H 85 ss) 86 Z) (s := (s : Int)) (b := (b : Int)) gM hD0 gz gtd hrT0 gtt hrS0 (by omega) (by omega) hwy
            have hpc := M_isPlain (H := pt (pt H 85 ss) 86 Z) (x := (b : Int)) gM hD0 gtd hrT0 (by omega)
            have hiff : iniF bl sl ed hu kd wd ht rm mo (-9) (-9) n s b ↔ (plB ed b = true ∧ wv = 0) := by
              constructor
              · rintro ⟨-, -, i3, -, i5⟩
                refine ⟨i3, ?_⟩
                have := why_0.mpr i5
                exact why_one hwy this
              · rintro ⟨i3, rfl⟩
                exact ⟨opn_t.mpr ⟨hs, hop⟩, by omega, i3, by omega, why_0.mp hwy⟩
            have hmb := mset_in (fun c => c < b ∧ iniF bl sl ed hu kd wd ht rm mo (-9) (-9) n s c)
            have e0 : m_or (ix Z s) 0 = ix Z s := by
              rw [hZs]
              exact (or_eq (z := 0) hmb (by omega) (fun c hc => by rw [bit_zero, mset_bit]; exact ⟨fun q => q.elim (fun z => z.2) (fun z => by cases z), fun q => Or.inl ⟨hc, q⟩⟩))
            by_cases hi : iniF bl sl ed hu kd wd ht rm mo (-9) (-9) n s b
            · obtain ⟨p1, p2⟩ := hiff.mp hi
              have e1 : m_or (ix Z s) (m_shl 1 (b : Int)) = mset (fun c => c < b + 1 ∧ iniF bl sl ed hu kd wd ht rm mo (-9) (-9) n s c) := by
                rw [hZs]
                refine or_eq hmb (m_shl_in (by omega) (by omega)) (fun c hc => ?_)
                rw [mset_bit, bit_shl (by omega) (by omega) (by omega), decide_eq_true_iff]
                constructor
                · rintro (q | q)
                  · exact ⟨by have := q.2.1; omega, q.2.2⟩
                  · rw [show c = b by omega]; exact ⟨by omega, hi⟩
                · rintro ⟨q1, q2⟩
                  by_cases e : c = b
                  · exact Or.inr (by omega)
                  · exact Or.inl ⟨hc, by omega, q2⟩
              obtain ⟨A2, x1, x2, x3, x4, hev⟩ := hh2 (up Z s (m_or (ix Z s) (m_shl 1 (b : Int)))) (by rw [up_len]; exact hZl) (fun j hj => by rw [ix_up (by omega) (by omega) (by omega), if_neg (by omega)]; exact hZ j hj) (by rw [ix_up (by omega) (by omega) (by omega), if_pos rfl, e1])
              refine ⟨A2, x1, x2, x3, x4, ?_⟩
              have hp1 : b01 (plB ed b) = 1 := by rw [p1]; rfl
              refine E_iload_n (pc' := 24) g134_23 rfl rfl ?_
              refine E_iconst (pc' := 25) g134_24 (by decide) rfl ?_
              refine E_aload_n (pc' := 26) g134_25 rfl rfl ?_
              refine E_getI (pc' := 29) g134_26 f134_75 tg7_0 (by decide) rfl gM rfl ?_
              refine E_imul (pc' := 30) g134_29 (m_in_iff.mpr (by omega)) rfl ?_
              refine E_icge (pc' := 33) (pt := 83) g134_30 rfl rfl (fun c0 => ?_) (fun c0 => ?_)
              · first
                | (exfalso; omega)
                | (exfalso; omega)
              · first
                | (exfalso; omega)
                | (refine E_aload_n (pc' := 34) g134_33 rfl rfl ?_
                   refine E_getR (pc' := 37) g134_34 f134_16 tg7_3 rfl gM rfl ?_
                   refine E_iload_n (pc' := 38) g134_37 rfl rfl ?_
                   refine E_iald (pc' := 39) (v := ix bl s) g134_38 rfl gss (by omega) (by omega) hss1 ?_
                   refine E_bipush (pc' := 41) g134_39 (by decide) rfl ?_
                   refine E_icne (pc' := 44) (pt := 83) g134_41 rfl rfl (fun c1 => ?_) (fun c1 => ?_)
                   · first
                     | (exfalso; omega)
                     | (exfalso; omega)
                   · first
                     | (exfalso; omega)
                     | (refine E_aload_n (pc' := 45) g134_44 rfl rfl ?_
                        refine E_getR (pc' := 48) g134_45 f134_44 tg7_18 rfl gM rfl ?_
                        refine E_iload_n (pc' := 49) g134_48 rfl rfl ?_
                        refine E_dup2 (pc' := 50) g134_49 rfl ?_
                        refine E_iaload (pc' := 51) g134_50 rfl g86 (by omega) (by omega) ?_
                        refine E_aload_n (pc' := 52) g134_51 rfl rfl ?_
                        refine E_iload_n (pc' := 53) g134_52 rfl rfl ?_
                        refine E_cV1i (pc' := 56) g134_53 k134_146 na114 rfl ow114 rfl (Nat.le_of_ble_eq_true rfl) gM hpc (by decide) ?_
                        refine E_ifeq (pc' := 59) (pt := 74) g134_56 rfl rfl (fun c2 => ?_) (fun c2 => ?_)
                        · first
                          | (exfalso; omega)
                          | (refine E_iconst (pc' := 75) g134_74 (by decide) rfl ?_
                             refine E_ior (pc' := 76) g134_75 rfl ?_
                             refine E_iastore (pc' := 77) g134_76 rfl g86 (by omega) (by omega) ?_
                             rw [pt_pt]
                             refine E_in2 (pc' := 80) g134_77 rfl (m_in_iff.mpr (by omega)) ?_
                             refine E_goto (pc' := 23) g134_80 rfl ?_
                             exact hev)
                        · first
                          | (exfalso; omega)
                          | (refine E_aload_n (pc' := 60) g134_59 rfl rfl ?_
                             refine E_iload_n (pc' := 61) g134_60 rfl rfl ?_
                             refine E_iload_n (pc' := 62) g134_61 rfl rfl ?_
                             refine E_cV2i (pc' := 65) g134_62 k134_152 na120 rfl ow120 rfl (Nat.le_of_ble_eq_true rfl) gM hwc (by decide) ?_
                             refine E_ifne (pc' := 68) (pt := 74) g134_65 rfl rfl (fun c3 => ?_) (fun c3 => ?_)
                             · first
                               | (exfalso; omega)
                               | (refine E_iconst (pc' := 75) g134_74 (by decide) rfl ?_
                                  refine E_ior (pc' := 76) g134_75 rfl ?_
                                  refine E_iastore (pc' := 77) g134_76 rfl g86 (by omega) (by omega) ?_
                                  rw [pt_pt]
                                  refine E_in2 (pc' := 80) g134_77 rfl (m_in_iff.mpr (by omega)) ?_
                                  refine E_goto (pc' := 23) g134_80 rfl ?_
                                  exact hev)
                             · first
                               | (exfalso; omega)
                               | (refine E_iconst (pc' := 69) g134_68 (by decide) rfl ?_
                                  refine E_iload_n (pc' := 70) g134_69 rfl rfl ?_
                                  refine E_ishl (pc' := 71) g134_70 rfl ?_
                                  refine E_goto (pc' := 75) g134_71 rfl ?_
                                  refine E_ior (pc' := 76) g134_75 rfl ?_
                                  refine E_iastore (pc' := 77) g134_76 rfl g86 (by omega) (by omega) ?_
                                  rw [pt_pt]
                                  refine E_in2 (pc' := 80) g134_77 rfl (m_in_iff.mpr (by omega)) ?_
                                  refine E_goto (pc' := 23) g134_80 rfl ?_
                                  exact hev))))
            · have e1 : mset (fun c => c < b ∧ iniF bl sl ed hu kd wd ht rm mo (-9) (-9) n s c) = mset (fun c => c < b + 1 ∧ iniF bl sl ed hu kd wd ht rm mo (-9) (-9) n s c) := by
                refine mset_congr (fun c _ => ⟨fun q => ⟨by have := q.1; omega, q.2⟩, fun q => ⟨?_, q.2⟩⟩)
                rcases Nat.lt_or_ge c b with y | y
                · exact y
                · have q1 := q.1
                  have q2 := q.2
                  rw [show c = b by omega] at q2
                  exact absurd q2 hi
              obtain ⟨A2, x1, x2, x3, x4, hev⟩ := hh2 (up Z s (m_or (ix Z s) 0)) (by rw [up_len]; exact hZl) (fun j hj => by rw [ix_up (by omega) (by omega) (by omega), if_neg (by omega)]; exact hZ j hj) (by rw [ix_up (by omega) (by omega) (by omega), if_pos rfl, e0, hZs, e1])
              refine ⟨A2, x1, x2, x3, x4, ?_⟩
              have hp1 := b01_in (plB ed b)
              have hp2 : b01 (plB ed b) = 1 → ¬ wv = 0 := fun z y => hi (hiff.mpr ⟨b01_one (by omega), y⟩)
              by_cases hp3 : b01 (plB ed b) = 0
              · skip
                refine E_iload_n (pc' := 24) g134_23 rfl rfl ?_
                refine E_iconst (pc' := 25) g134_24 (by decide) rfl ?_
                refine E_aload_n (pc' := 26) g134_25 rfl rfl ?_
                refine E_getI (pc' := 29) g134_26 f134_75 tg7_0 (by decide) rfl gM rfl ?_
                refine E_imul (pc' := 30) g134_29 (m_in_iff.mpr (by omega)) rfl ?_
                refine E_icge (pc' := 33) (pt := 83) g134_30 rfl rfl (fun c0 => ?_) (fun c0 => ?_)
                · first
                  | (exfalso; omega)
                  | (exfalso; omega)
                · first
                  | (exfalso; omega)
                  | (refine E_aload_n (pc' := 34) g134_33 rfl rfl ?_
                     refine E_getR (pc' := 37) g134_34 f134_16 tg7_3 rfl gM rfl ?_
                     refine E_iload_n (pc' := 38) g134_37 rfl rfl ?_
                     refine E_iald (pc' := 39) (v := ix bl s) g134_38 rfl gss (by omega) (by omega) hss1 ?_
                     refine E_bipush (pc' := 41) g134_39 (by decide) rfl ?_
                     refine E_icne (pc' := 44) (pt := 83) g134_41 rfl rfl (fun c1 => ?_) (fun c1 => ?_)
                     · first
                       | (exfalso; omega)
                       | (exfalso; omega)
                     · first
                       | (exfalso; omega)
                       | (refine E_aload_n (pc' := 45) g134_44 rfl rfl ?_
                          refine E_getR (pc' := 48) g134_45 f134_44 tg7_18 rfl gM rfl ?_
                          refine E_iload_n (pc' := 49) g134_48 rfl rfl ?_
                          refine E_dup2 (pc' := 50) g134_49 rfl ?_
                          refine E_iaload (pc' := 51) g134_50 rfl g86 (by omega) (by omega) ?_
                          refine E_aload_n (pc' := 52) g134_51 rfl rfl ?_
                          refine E_iload_n (pc' := 53) g134_52 rfl rfl ?_
                          refine E_cV1i (pc' := 56) g134_53 k134_146 na114 rfl ow114 rfl (Nat.le_of_ble_eq_true rfl) gM hpc (by decide) ?_
                          refine E_ifeq (pc' := 59) (pt := 74) g134_56 rfl rfl (fun c2 => ?_) (fun c2 => ?_)
                          · first
                            | (exfalso; omega)
                            | (refine E_iconst (pc' := 75) g134_74 (by decide) rfl ?_
                               refine E_ior (pc' := 76) g134_75 rfl ?_
                               refine E_iastore (pc' := 77) g134_76 rfl g86 (by omega) (by omega) ?_
                               rw [pt_pt]
                               refine E_in2 (pc' := 80) g134_77 rfl (m_in_iff.mpr (by omega)) ?_
                               refine E_goto (pc' := 23) g134_80 rfl ?_
                               exact hev)
                          · first
                            | (exfalso; omega)
                            | (refine E_aload_n (pc' := 60) g134_59 rfl rfl ?_
                               refine E_iload_n (pc' := 61) g134_60 rfl rfl ?_
                               refine E_iload_n (pc' := 62) g134_61 rfl rfl ?_
                               refine E_cV2i (pc' := 65) g134_62 k134_152 na120 rfl ow120 rfl (Nat.le_of_ble_eq_true rfl) gM hwc (by decide) ?_
                               refine E_ifne (pc' := 68) (pt := 74) g134_65 rfl rfl (fun c3 => ?_) (fun c3 => ?_)
                               · first
                                 | (exfalso; omega)
                                 | (refine E_iconst (pc' := 75) g134_74 (by decide) rfl ?_
                                    refine E_ior (pc' := 76) g134_75 rfl ?_
                                    refine E_iastore (pc' := 77) g134_76 rfl g86 (by omega) (by omega) ?_
                                    rw [pt_pt]
                                    refine E_in2 (pc' := 80) g134_77 rfl (m_in_iff.mpr (by omega)) ?_
                                    refine E_goto (pc' := 23) g134_80 rfl ?_
                                    exact hev)
                               · first
                                 | (exfalso; omega)
                                 | (exfalso; omega))))
              · have hp4 := hp2 (by omega)
                refine E_iload_n (pc' := 24) g134_23 rfl rfl ?_
                refine E_iconst (pc' := 25) g134_24 (by decide) rfl ?_
                refine E_aload_n (pc' := 26) g134_25 rfl rfl ?_
                refine E_getI (pc' := 29) g134_26 f134_75 tg7_0 (by decide) rfl gM rfl ?_
                refine E_imul (pc' := 30) g134_29 (m_in_iff.mpr (by omega)) rfl ?_
                refine E_icge (pc' := 33) (pt := 83) g134_30 rfl rfl (fun c0 => ?_) (fun c0 => ?_)
                · first
                  | (exfalso; omega)
                  | (exfalso; omega)
                · first
                  | (exfalso; omega)
                  | (refine E_aload_n (pc' := 34) g134_33 rfl rfl ?_
                     refine E_getR (pc' := 37) g134_34 f134_16 tg7_3 rfl gM rfl ?_
                     refine E_iload_n (pc' := 38) g134_37 rfl rfl ?_
                     refine E_iald (pc' := 39) (v := ix bl s) g134_38 rfl gss (by omega) (by omega) hss1 ?_
                     refine E_bipush (pc' := 41) g134_39 (by decide) rfl ?_
                     refine E_icne (pc' := 44) (pt := 83) g134_41 rfl rfl (fun c1 => ?_) (fun c1 => ?_)
                     · first
                       | (exfalso; omega)
                       | (exfalso; omega)
                     · first
                       | (exfalso; omega)
                       | (refine E_aload_n (pc' := 45) g134_44 rfl rfl ?_
                          refine E_getR (pc' := 48) g134_45 f134_44 tg7_18 rfl gM rfl ?_
                          refine E_iload_n (pc' := 49) g134_48 rfl rfl ?_
                          refine E_dup2 (pc' := 50) g134_49 rfl ?_
                          refine E_iaload (pc' := 51) g134_50 rfl g86 (by omega) (by omega) ?_
                          refine E_aload_n (pc' := 52) g134_51 rfl rfl ?_
                          refine E_iload_n (pc' := 53) g134_52 rfl rfl ?_
                          refine E_cV1i (pc' := 56) g134_53 k134_146 na114 rfl ow114 rfl (Nat.le_of_ble_eq_true rfl) gM hpc (by decide) ?_
                          refine E_ifeq (pc' := 59) (pt := 74) g134_56 rfl rfl (fun c2 => ?_) (fun c2 => ?_)
                          · first
                            | (exfalso; omega)
                            | (refine E_iconst (pc' := 75) g134_74 (by decide) rfl ?_
                               refine E_ior (pc' := 76) g134_75 rfl ?_
                               refine E_iastore (pc' := 77) g134_76 rfl g86 (by omega) (by omega) ?_
                               rw [pt_pt]
                               refine E_in2 (pc' := 80) g134_77 rfl (m_in_iff.mpr (by omega)) ?_
                               refine E_goto (pc' := 23) g134_80 rfl ?_
                               exact hev)
                          · first
                            | (exfalso; omega)
                            | (refine E_aload_n (pc' := 60) g134_59 rfl rfl ?_
                               refine E_iload_n (pc' := 61) g134_60 rfl rfl ?_
                               refine E_iload_n (pc' := 62) g134_61 rfl rfl ?_
                               refine E_cV2i (pc' := 65) g134_62 k134_152 na120 rfl ow120 rfl (Nat.le_of_ble_eq_true rfl) gM hwc (by decide) ?_
                               refine E_ifne (pc' := 68) (pt := 74) g134_65 rfl rfl (fun c3 => ?_) (fun c3 => ?_)
                               · first
                                 | (exfalso; omega)
                                 | (refine E_iconst (pc' := 75) g134_74 (by decide) rfl ?_
                                    refine E_ior (pc' := 76) g134_75 rfl ?_
                                    refine E_iastore (pc' := 77) g134_76 rfl g86 (by omega) (by omega) ?_
                                    rw [pt_pt]
                                    refine E_in2 (pc' := 80) g134_77 rfl (m_in_iff.mpr (by omega)) ?_
                                    refine E_goto (pc' := 23) g134_80 rfl ?_
                                    exact hev)
                               · first
                                 | (exfalso; omega)
                                 | (exfalso; omega))))
          · intro Z hZl hZ hZs
            obtain ⟨A2, x1, x2, x3, x4, hev⟩ := hh Z (mI (m : Int)) hZl (fun j hj => by
              rcases Nat.lt_or_ge j s with y | y
              · exact hZ j y
              · rw [show j = s by omega, hZs]
                exact mset_congr (fun c _ => ⟨fun q => q.2, fun q => ⟨by have := q.2.1; omega, q⟩⟩))
            refine ⟨A2, x1, x2, x3, x4, ?_⟩
            refine E_iload_n (pc' := 24) g134_23 rfl rfl ?_
            refine E_iconst (pc' := 25) g134_24 (by decide) rfl ?_
            refine E_aload_n (pc' := 26) g134_25 rfl rfl ?_
            refine E_getI (pc' := 29) g134_26 f134_75 tg7_0 (by decide) rfl gM rfl ?_
            refine E_imul (pc' := 30) g134_29 (m_in_iff.mpr (by omega)) rfl ?_
            refine E_icge (pc' := 33) (pt := 83) g134_30 rfl rfl (fun c0 => ?_) (fun c0 => ?_)
            · first
              | (exfalso; omega)
              | (refine E_in1 (pc' := 86) g134_83 rfl (m_in_iff.mpr (by omega)) ?_
                 refine E_goto (pc' := 6) g134_86 rfl ?_
                 exact hev)
            · first
              | (exfalso; omega)
              | (exfalso; omega)
        obtain ⟨A2, x1, x2, x3, x4, hev⟩ := inner 0 (by omega) (up X s 0) (by rw [up_len]; exact hXl) (fun j hj => by rw [ix_up (by omega) (by omega) (by omega), if_neg (by omega)]; exact hX j hj) (by rw [ix_up (by omega) (by omega) (by omega), if_pos rfl, mset_0 (fun c _ z => absurd z.1 (by omega))])
        refine ⟨A2, x1, x2, x3, x4, ?_⟩
        refine E_iload_n (pc' := 7) g134_6 rfl rfl ?_
        refine E_aload_n (pc' := 8) g134_7 rfl rfl ?_
        refine E_cV0i (pc' := 11) g134_8 k134_116 na111 rfl ow111 rfl (Nat.le_of_ble_eq_true rfl) gM (M_squares gM hD0 gz) (by decide) ?_
        refine E_icge (pc' := 14) (pt := 89) g134_11 rfl rfl (fun c0 => ?_) (fun c0 => ?_)
        · first
          | (exfalso; omega)
          | (exfalso; omega)
        · first
          | (exfalso; omega)
          | (refine E_aload_n (pc' := 15) g134_14 rfl rfl ?_
             refine E_getR (pc' := 18) g134_15 f134_44 tg7_18 rfl gM rfl ?_
             refine E_iload_n (pc' := 19) g134_18 rfl rfl ?_
             refine E_iconst (pc' := 20) g134_19 (by decide) rfl ?_
             refine E_iastore (pc' := 21) g134_20 rfl g86 (by omega) (by omega) ?_
             rw [pt_pt]
             refine E_iconst (pc' := 22) g134_21 (by decide) rfl ?_
             refine E_st2 (pc' := 23) g134_22 rfl ?_
             exact hev)
      · obtain ⟨A2, x1, x2, x3, x4, hev⟩ := hh (up X s 0) (mI 0) (by rw [up_len]; exact hXl) (fun j hj => by
          rw [ix_up (by omega) (by omega) (by omega)]
          by_cases e : s = j
          · rw [if_pos (by omega), ← e, mset_0 (fun c _ z => hop (opn_t.mp z.1).2)]
          · rw [if_neg (by omega)]; exact hX j (by omega))
        refine ⟨A2, x1, x2, x3, x4, ?_⟩
        refine E_iload_n (pc' := 7) g134_6 rfl rfl ?_
        refine E_aload_n (pc' := 8) g134_7 rfl rfl ?_
        refine E_cV0i (pc' := 11) g134_8 k134_116 na111 rfl ow111 rfl (Nat.le_of_ble_eq_true rfl) gM (M_squares gM hD0 gz) (by decide) ?_
        refine E_icge (pc' := 14) (pt := 89) g134_11 rfl rfl (fun c0 => ?_) (fun c0 => ?_)
        · first
          | (exfalso; omega)
          | (exfalso; omega)
        · first
          | (exfalso; omega)
          | (refine E_aload_n (pc' := 15) g134_14 rfl rfl ?_
             refine E_getR (pc' := 18) g134_15 f134_44 tg7_18 rfl gM rfl ?_
             refine E_iload_n (pc' := 19) g134_18 rfl rfl ?_
             refine E_iconst (pc' := 20) g134_19 (by decide) rfl ?_
             refine E_iastore (pc' := 21) g134_20 rfl g86 (by omega) (by omega) ?_
             rw [pt_pt]
             refine E_iconst (pc' := 22) g134_21 (by decide) rfl ?_
             refine E_st2 (pc' := 23) g134_22 rfl ?_
             refine E_iload_n (pc' := 24) g134_23 rfl rfl ?_
             refine E_iconst (pc' := 25) g134_24 (by decide) rfl ?_
             refine E_aload_n (pc' := 26) g134_25 rfl rfl ?_
             refine E_getI (pc' := 29) g134_26 f134_75 tg7_0 (by decide) rfl gM rfl ?_
             refine E_imul (pc' := 30) g134_29 (m_in_iff.mpr (by omega)) rfl ?_
             refine E_icge (pc' := 33) (pt := 83) g134_30 rfl rfl (fun c1 => ?_) (fun c1 => ?_)
             · first
               | (exfalso; omega)
               | (refine E_in1 (pc' := 86) g134_83 rfl (m_in_iff.mpr (by omega)) ?_
                  refine E_goto (pc' := 6) g134_86 rfl ?_
                  exact hev)
             · first
               | (exfalso; omega)
               | (refine E_aload_n (pc' := 34) g134_33 rfl rfl ?_
                  refine E_getR (pc' := 37) g134_34 f134_16 tg7_3 rfl gM rfl ?_
                  refine E_iload_n (pc' := 38) g134_37 rfl rfl ?_
                  refine E_iald (pc' := 39) (v := ix bl s) g134_38 rfl gss (by omega) (by omega) hss1 ?_
                  refine E_bipush (pc' := 41) g134_39 (by decide) rfl ?_
                  refine E_icne (pc' := 44) (pt := 83) g134_41 rfl rfl (fun c2 => ?_) (fun c2 => ?_)
                  · first
                    | (exfalso; omega)
                    | (refine E_in1 (pc' := 86) g134_83 rfl (m_in_iff.mpr (by omega)) ?_
                       refine E_goto (pc' := 6) g134_86 rfl ?_
                       exact hev)
                  · first
                    | (exfalso; omega)
                    | (exfalso; omega)))
    · intro X v hXl hX
      have hXb : ∀ s : Nat, s < n → 0 ≤ ix X s ∧ ix X s ≤ 16777215 := fun s hs => by rw [hX s hs]; exact mset_in _
      have hXe : rst X n = W0 := by
        rw [← hW0]
        apply ix_ext (by rw [rst_len, iniL_len])
        intro j h0 h1
        rw [rst_len] at h1
        obtain ⟨c, rfl⟩ : ∃ c : Nat, j = (c : Int) := ⟨j.toNat, by omega⟩
        rw [rst_ix (by omega), iniL_ix (by omega)]
        by_cases e : c < n
        · rw [if_pos e, hX c e]
        · rw [if_neg e, mset_0 (fun b _ z => e (opn_t.mp z.1).1)]
      obtain ⟨A2, x1, x2, x3, x4, hev⟩ := rounds 144 X v none hXl hXb (by rw [hXe]; exact ⟨by rw [← hXe]; exact rst_len _ _, by rw [← hXe]; exact rst_bet hXb, fun _ _ h => h, fun E h1 _ => h1⟩) (mW_bd _).2
      refine ⟨A2, x1, x2, x3, x4, ?_⟩
      refine E_iload_n (pc' := 7) g134_6 rfl rfl ?_
      refine E_aload_n (pc' := 8) g134_7 rfl rfl ?_
      refine E_cV0i (pc' := 11) g134_8 k134_116 na111 rfl ow111 rfl (Nat.le_of_ble_eq_true rfl) gM (M_squares gM hD0 gz) (by decide) ?_
      refine E_icge (pc' := 14) (pt := 89) g134_11 rfl rfl (fun c0 => ?_) (fun c0 => ?_)
      · first
        | (exfalso; omega)
        | (refine E_iconst (pc' := 90) g134_89 (by decide) rfl ?_
           refine E_st1 (pc' := 91) g134_90 rfl ?_
           exact hev)
      · first
        | (exfalso; omega)
        | (exfalso; omega)
  obtain ⟨A2, x1, x2, x3, x4, hev⟩ := first 0 (by omega) A none hAl (fun j hj => absurd hj (by omega))
  refine ⟨A2, x1, x2, fIn_gfam x3 x4 hin, ?_⟩
  refine Call_of rfl ?_
  refine E_aload_n (pc' := 1) g134_0 rfl rfl ?_
  refine E_cV0v (pc' := 4) g134_1 k134_140 na116 rfl ow116 rfl (Nat.le_of_ble_eq_true rfl) hM (M_tries hM htt ht15 hss hrS0.1) (by decide) ?_
  refine E_iconst (pc' := 5) g134_4 (by decide) rfl ?_
  refine E_st1 (pc' := 6) g134_5 rfl ?_
  exact Ev_cast hev rfl (by rw [pt_same (pt_nx (by decide) h86)])
end MW
