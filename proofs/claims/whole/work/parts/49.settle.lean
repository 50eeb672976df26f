/-! the winnow settles -/
theorem sm_lt {f g : Nat → Int} {s : Nat} (hs : f s < g s) : ∀ {n : Nat}, s < n → (∀ k, k < n → f k ≤ g k) → sm f n < sm g n
  | 0, h, _ => absurd h (by omega)
  | n + 1, h, hle => by
    simp only [sm]
    have h2 := hle n (by omega)
    by_cases e : s = n
    · subst e
      have := sm_le (n := s) (fun k hk => hle k (by omega))
      omega
    · have := sm_lt hs (n := n) (by omega) (fun k hk => hle k (by omega))
      omega
def mW (W : List Int) : Int := sm (fun s => cn (fun b => bit (ix W s) b) 24) 6
theorem mW_bd (W : List Int) : 0 ≤ mW W ∧ mW W ≤ 144 := by
  have := sm_bd (f := fun s => cn (fun b => bit (ix W s) b) 24) (c := 24) (n := 6) (fun k _ => cn_bd _ 24)
  unfold mW
  omega
/-- what the settling keeps -/
def fIn (bl ed : List Int) (wd ht : Int) (W0 W : List Int) : Prop := W.length = 6 ∧ bet W 0 16777215 ∧ (∀ s b, inW W s b → inW W0 s b) ∧ ∀ E : Nat → Nat → Prop, (∀ s b, E s b → inW W0 s b) → (∀ s b, E s b → spp bl ed wd ht E s b) → ∀ s b, E s b → inW W s b
def stb (bl ed : List Int) (wd ht : Int) (W : List Int) : Prop := ∀ s b, inW W s b → spp bl ed wd ht (inW W) s b
section WS
variable {H : mH} {ta lay : Nat} {bl sl : List Int} {kd wd ht rm mo sd bo : Int} {ed hu sk : List Int} {W : List Int} {n : Nat} {W0 W1 : List Int}
theorem sup_spp (r1 : 0 ≤ kd ∧ kd ≤ 6) (r2 : 1 ≤ wd ∧ wd ≤ 3) (r3 : 1 ≤ ht ∧ ht ≤ 2) (hn : (n : Int) = wd * ht) (hP : ∀ s b, inW W s b → pln ed kd b) {s b : Nat} (hs : s < n) : suP bl ed W kd wd ht s 4 b ↔ (bit (ix W s) b = true ∧ spp bl ed wd ht (inW W) s b) := by
  have hw := wh_bd r2.1 r2.2 r3.1 r3.2
  have hr : ∀ h : Nat, h < 4 → ¬ bsd wd ht s h = -9 → ∃ o : Nat, (o : Int) = bsd wd ht s h ∧ o < 6 := by
    intro h h4 h9
    have := (bs_at r2 r3 (s := s) (h := h) (by omega) (by omega)).2
    exact ⟨(bsd wd ht s h).toNat, by omega, by omega⟩
  constructor
  · rintro ⟨q1, q2⟩
    refine ⟨q1, fun h h4 h9 h8 => ?_⟩
    obtain ⟨p1, c, c1, c2, c3, c4⟩ := q2 h h4 h9 h8
    obtain ⟨o, ho, ho6⟩ := hr h h4 h9
    rw [← ho] at c2
    exact ⟨c, ⟨by rw [← ho, Int.toNat_natCast]; exact ho6, by rw [← ho, Int.toNat_natCast]; exact c2⟩, c4⟩
  · rintro ⟨q1, q2⟩
    refine ⟨q1, fun h h4 h9 h8 => ?_⟩
    obtain ⟨c, c1, c2⟩ := q2 h h4 h9 h8
    obtain ⟨o, ho, ho6⟩ := hr h h4 h9
    have hc := hP _ _ c1
    have c3 := c1.2
    rw [← ho, Int.toNat_natCast] at c3
    refine ⟨hP s b ⟨by omega, q1⟩, c, by have := hc.1; omega, by rw [← ho]; exact c3, hc, c2⟩
theorem spp_mono {E F : Nat → Nat → Prop} (h : ∀ s b, E s b → F s b) {s b : Nat} (hs : spp bl ed wd ht E s b) : spp bl ed wd ht F s b := by
  intro k k4 k9 k8
  obtain ⟨c, c1, c2⟩ := hs k k4 k9 k8
  exact ⟨c, h _ _ c1, c2⟩
/-- one square settled once -/
theorem set_step (r1 : 0 ≤ kd ∧ kd ≤ 6) (r2 : 1 ≤ wd ∧ wd ≤ 3) (r3 : 1 ≤ ht ∧ ht ≤ 2) (hn : (n : Int) = wd * ht) (hP : ∀ s b, inW W0 s b → opn bl n s = true ∧ pln ed kd b) (hI : fIn bl ed wd ht W0 W) {s : Nat} (hs : s < n) : m_and (ix W s) (mset (suP bl ed W kd wd ht s 4)) = mset (suP bl ed W kd wd ht s 4) ∧ fIn bl ed wd ht W0 (up W s (mset (suP bl ed W kd wd ht s 4))) ∧ mW (up W s (mset (suP bl ed W kd wd ht s 4))) ≤ mW W ∧ (mset (suP bl ed W kd wd ht s 4) = ix W s → up W s (mset (suP bl ed W kd wd ht s 4)) = W ∧ ∀ b, inW W s b → spp bl ed wd ht (inW W) s b) ∧ (¬ mset (suP bl ed W kd wd ht s 4) = ix W s → mW (up W s (mset (suP bl ed W kd wd ht s 4))) < mW W) := by
  have hw := wh_bd r2.1 r2.2 r3.1 r3.2
  obtain ⟨i1, i2, i3, i4⟩ := hI
  have hPW : ∀ s b, inW W s b → pln ed kd b := fun s b h => (hP s b (i3 s b h)).2
  have hS : ∀ b : Nat, suP bl ed W kd wd ht s 4 b ↔ (bit (ix W s) b = true ∧ spp bl ed wd ht (inW W) s b) := fun b => sup_spp r1 r2 r3 hn hPW hs
  have hs6 : s < 6 := by omega
  have hsub : ∀ j b : Nat, j < 6 → bit (ix (up W s (mset (suP bl ed W kd wd ht s 4))) j) b = true → bit (ix W j) b = true := by
    intro j b hj
    rw [ix_upn i1 hs6]
    by_cases e : s = j
    · subst e
      rw [if_pos rfl, mset_bit]
      exact fun q => q.2.1
    · rw [if_neg e]; exact id
  refine ⟨and_eq (i2 _) (mset_in _) (fun b hb => ?_), ⟨by rw [up_len]; exact i1, bet_up i2 (by omega) (by omega) (mset_in _), fun j b h => i3 j b ⟨h.1, hsub j b h.1 h.2⟩, fun E h1 h2 j b hE => ?_⟩, ?_, fun he => ⟨?_, fun b hb => ?_⟩, fun he => ?_⟩
  · rw [mset_bit]
    exact ⟨fun q => q.2.2, fun q => ⟨q.1, hb, q⟩⟩
  · have h3 := i4 E h1 h2 j b hE
    refine ⟨h3.1, ?_⟩
    rw [ix_upn i1 hs6]
    by_cases e : s = j
    · subst e
      rw [if_pos rfl, mset_bit]
      have := (hPW s b h3).1
      exact ⟨by omega, (hS b).mpr ⟨h3.2, spp_mono (i4 E h1 h2) (h2 s b hE)⟩⟩
    · rw [if_neg e]; exact h3.2
  · exact sm_le (fun j hj => cn_le (fun b _ => hsub j b hj))
  · rw [he]
    apply ix_ext (up_len _ _ _)
    intro j h0 h1
    rw [up_len] at h1
    rw [ix_up (by omega) (by omega) h0]
    split
    · rename_i e; rw [e]
    · rfl
  · have h2 := hb.2
    rw [← he, mset_bit] at h2
    exact ((hS b).mp h2.2).2
  · refine sm_lt (s := s) ?_ hs6 (fun j hj => cn_le (fun b _ => hsub j b hj))
    have hex : ∃ b : Nat, b < 24 ∧ bit (ix W s) b = true ∧ ¬ suP bl ed W kd wd ht s 4 b := by
      refine Classical.byContradiction (fun z => he (mset_eq (i2 _) (fun b hb => ⟨fun q => ?_, fun q => q.1⟩)).symm)
      exact Classical.byContradiction (fun y => z ⟨b, hb, q, y⟩)
    obtain ⟨b, hb, hb1, hb2⟩ := hex
    refine cn_lt (s := b) hb1 ?_ hb (fun c _ => hsub s c hs6)
    cases q : bit (ix (up W s (mset (suP bl ed W kd wd ht s 4))) s) b with
    | false => rfl
    | true =>
      rw [ix_upn i1 hs6, if_pos rfl, mset_bit] at q
      exact absurd q.2 hb2
theorem C_settle (hT : isTold H ta kd wd ht rm mo sd bo ed hu sk (hvs ed (4 * kd).toNat)) (hLy : isLay H lay bl sl) (hlay : lay + 2 < 22) (hta : ta + 4 < 22) (h22 : H[22]? = some (5, [((23 : Nat) : Int)])) (h23 : H[23]? = some (8, W1)) (hn : (n : Int) = wd * ht) (hWl : W0.length = 6) (hW : bet W0 0 16777215) (hP : ∀ s b, inW W0 s b → opn bl n s = true ∧ pln ed kd b) : ∃ W2, fIn bl ed wd ht W0 W2 ∧ stb bl ed wd ht W2 ∧ Call 3 49 [mR 22, mR ta, mR lay] (pt H 23 W0) none (pt H 23 W2) := by
  have hT0 := hT
  have hL0 := hLy
  obtain ⟨t0, t1, t2, t3, t4, ⟨r1, r2, r3, r4, r5, r6, r7, b1, b2, b3, b4, n1, n2, n3, n4⟩⟩ := hT
  obtain ⟨y0, y1, y2, l1, l2, ob, hsl⟩ := hLy
  have hw := wh_bd r2.1 r2.2 r3.1 r3.2
  have hTk : ∀ {g : List Int}, isTold (pt H 23 g) ta kd wd ht rm mo sd bo ed hu sk (hvs ed (4 * kd).toNat) := told_keep hT0 (by omega)
  have hLk : ∀ {g : List Int}, isLay (pt H 23 g) lay bl sl := lay_keep hL0 (by omega)
  have q0 : ∀ {g : List Int}, (pt H 23 g)[ta]? = _ := hTk.1
  have q1 : ∀ {g : List Int}, (pt H 23 g)[lay]? = _ := hLk.1
  have q22 : ∀ {g : List Int}, (pt H 23 g)[22]? = some (5, [((23 : Nat) : Int)]) := pt_nx (by decide) h22
  have q23 : ∀ {g : List Int}, (pt H 23 g)[23]? = some (8, g) := pt_self h23
  have rounds : ∀ r : Nat, r ≤ 145 → ∀ (W : List Int) (ch : Int) (u v : mV), fIn bl ed wd ht W0 W → (ch = 0 ∨ ch = 1) → (ch = 0 → stb bl ed wd ht W) → (ch = 1 → mW W + r ≤ 144) → ∃ W2, fIn bl ed wd ht W0 W2 ∧ stb bl ed wd ht W2 ∧ Ev 3 49 5 [mR 22, mR ta, mR lay, mI ch, mI (r : Int), u, v] [] (pt H 23 W) none (pt H 23 W2) := by
    refine E_loop (n := 145) _ ?_ ?_
    · intro r hr hh W ch u v hI hch hs0 hs1
      rcases hch with rfl | rfl
      · refine ⟨W, hI, hs0 rfl, ?_⟩
        refine E_iload_n (pc' := 6) g49_5 rfl rfl ?_
        refine E_ifeq (pc' := 9) (pt := 101) g49_6 rfl rfl (fun c0 => ?_) (fun c0 => ?_)
        · first
          | (exfalso; omega)
          | (exact E_ret g49_101 rt49 rfl rfl)
        · first
          | (exfalso; omega)
          | (exfalso; omega)
      · have hm1 := hs1 rfl
        have sweep : ∀ s : Nat, s ≤ n → ∀ (W2 : List Int) (ch : Int) (v : mV), fIn bl ed wd ht W0 W2 → (ch = 0 ∨ ch = 1) → (ch = 0 → W2 = W ∧ ∀ s2 b : Nat, s2 < s → inW W s2 b → spp bl ed wd ht (inW W) s2 b) → (ch = 1 → mW W2 < mW W) → mW W2 ≤ mW W → ∃ W3, fIn bl ed wd ht W0 W3 ∧ stb bl ed wd ht W3 ∧ Ev 3 49 22 [mR 22, mR ta, mR lay, mI ch, mI (r : Int), mI (s : Int), v] [] (pt H 23 W2) none (pt H 23 W3) := by
          refine E_loop (n := n) _ ?_ ?_
          · intro s hs hh2 W2 ch v hI2 hch h0 h1 hle
            have e3 := isO_or bl s
            by_cases hop : ix bl s = -9
            · obtain ⟨a1, a2, a3, a4, a5⟩ := set_step r1 r2 r3 hn hP hI2 hs
              have i1 := hI2.1
              have i2 := hI2.2.1
              rcases hch with rfl | rfl
              · obtain ⟨rfl, h02⟩ := h0 rfl
                by_cases hne : mset (suP bl ed W2 kd wd ht s 4) = ix W2 s
                · obtain ⟨a6, a7⟩ := a4 hne
                  obtain ⟨W3, x1, x2, hev⟩ := hh2 (up W2 s (mset (suP bl ed W2 kd wd ht s 4))) 0 (mI (mset (suP bl ed W2 kd wd ht s 4))) a2 (Or.inl rfl) (fun _ => ⟨a6, fun s2 b hs2 hb => by
                    rcases Nat.lt_or_ge s2 s with z | z
                    · exact h02 s2 b z hb
                    · rw [show s2 = s by omega] at hb ⊢; exact a7 b hb⟩) (fun z => absurd z (by omega)) a3
                  refine ⟨W3, x1, x2, ?_⟩
                  refine E_iload (pc' := 24) g49_22 rfl rfl ?_
                  refine E_aload_n (pc' := 25) g49_24 rfl rfl ?_
                  refine E_cV0i (pc' := 28) g49_25 k49_19 na36 rfl ow36 rfl (Nat.le_of_ble_eq_true rfl) q0 (C_squares hTk) (by decide) ?_
                  refine E_icge (pc' := 31) (pt := 95) g49_28 rfl rfl (fun c0 => ?_) (fun c0 => ?_)
                  · first
                    | (exfalso; omega)
                    | (exfalso; omega)
                  · first
                    | (exfalso; omega)
                    | (refine E_aload_n (pc' := 32) g49_31 rfl rfl ?_
                       refine E_iload (pc' := 34) g49_32 rfl rfl ?_
                       refine E_cV1i (pc' := 37) g49_34 k49_25 na17 rfl ow17 rfl (Nat.le_of_ble_eq_true rfl) q1 (C_isOpen hLk) (by decide) ?_
                       refine E_ifeq (pc' := 40) (pt := 89) g49_37 rfl rfl (fun c1 => ?_) (fun c1 => ?_)
                       · first
                         | (exfalso; omega)
                         | (refine E_in5 (pc' := 92) g49_89 rfl (m_in_iff.mpr (by omega)) ?_
                            refine E_goto (pc' := 22) g49_92 rfl ?_
                            exact Ev_cast hev rfl (by rw [pt_pt]))
                       · first
                         | (exfalso; omega)
                         | (refine E_aload_n (pc' := 41) g49_40 rfl rfl ?_
                            refine E_getR (pc' := 44) g49_41 f49_9 tg5_0 rfl q22 rfl ?_
                            refine E_iload (pc' := 46) g49_44 rfl rfl ?_
                            refine E_iaload (pc' := 47) g49_46 rfl q23 (by omega) (by omega) ?_
                            refine E_aload_n (pc' := 48) g49_47 rfl rfl ?_
                            refine E_aload_n (pc' := 49) g49_48 rfl rfl ?_
                            refine E_aload_n (pc' := 50) g49_49 rfl rfl ?_
                            refine E_iload (pc' := 52) g49_50 rfl rfl ?_
                            refine E_cV3i (pc' := 55) g49_52 k49_35 na52 rfl ow52 rfl (Nat.le_of_ble_eq_true rfl) q22 (C_supported hTk hLk q22 q23 i1 i2 hn hs) (by decide) ?_
                            refine E_iand (pc' := 56) g49_55 rfl ?_
                            rw [a1]
                            refine E_st6 (pc' := 58) g49_56 rfl ?_
                            refine E_iload_n (pc' := 59) g49_58 rfl rfl ?_
                            refine E_ifne (pc' := 62) (pt := 74) g49_59 rfl rfl (fun c2 => ?_) (fun c2 => ?_)
                            · first
                              | (exfalso; omega)
                              | (refine E_iconst (pc' := 75) g49_74 (by decide) rfl ?_
                                 refine E_goto (pc' := 79) g49_75 rfl ?_
                                 refine E_st3 (pc' := 80) g49_79 rfl ?_
                                 refine E_aload_n (pc' := 81) g49_80 rfl rfl ?_
                                 refine E_getR (pc' := 84) g49_81 f49_9 tg5_0 rfl q22 rfl ?_
                                 refine E_iload (pc' := 86) g49_84 rfl rfl ?_
                                 refine E_iload (pc' := 88) g49_86 rfl rfl ?_
                                 refine E_iastore (pc' := 89) g49_88 rfl q23 (by omega) (by omega) ?_
                                 refine E_in5 (pc' := 92) g49_89 rfl (m_in_iff.mpr (by omega)) ?_
                                 refine E_goto (pc' := 22) g49_92 rfl ?_
                                 exact Ev_cast hev rfl (by rw [pt_pt]))
                            · first
                              | (exfalso; omega)
                              | (refine E_iload (pc' := 64) g49_62 rfl rfl ?_
                                 refine E_aload_n (pc' := 65) g49_64 rfl rfl ?_
                                 refine E_getR (pc' := 68) g49_65 f49_9 tg5_0 rfl q22 rfl ?_
                                 refine E_iload (pc' := 70) g49_68 rfl rfl ?_
                                 refine E_iaload (pc' := 71) g49_70 rfl q23 (by omega) (by omega) ?_
                                 refine E_iceq (pc' := 74) (pt := 78) g49_71 rfl rfl (fun c3 => ?_) (fun c3 => ?_)
                                 · first
                                   | (exfalso; omega)
                                   | (refine E_iconst (pc' := 79) g49_78 (by decide) rfl ?_
                                      refine E_st3 (pc' := 80) g49_79 rfl ?_
                                      refine E_aload_n (pc' := 81) g49_80 rfl rfl ?_
                                      refine E_getR (pc' := 84) g49_81 f49_9 tg5_0 rfl q22 rfl ?_
                                      refine E_iload (pc' := 86) g49_84 rfl rfl ?_
                                      refine E_iload (pc' := 88) g49_86 rfl rfl ?_
                                      refine E_iastore (pc' := 89) g49_88 rfl q23 (by omega) (by omega) ?_
                                      refine E_in5 (pc' := 92) g49_89 rfl (m_in_iff.mpr (by omega)) ?_
                                      refine E_goto (pc' := 22) g49_92 rfl ?_
                                      exact Ev_cast hev rfl (by rw [pt_pt]))
                                 · first
                                   | (exfalso; omega)
                                   | (refine E_iconst (pc' := 75) g49_74 (by decide) rfl ?_
                                      refine E_goto (pc' := 79) g49_75 rfl ?_
                                      refine E_st3 (pc' := 80) g49_79 rfl ?_
                                      refine E_aload_n (pc' := 81) g49_80 rfl rfl ?_
                                      refine E_getR (pc' := 84) g49_81 f49_9 tg5_0 rfl q22 rfl ?_
                                      refine E_iload (pc' := 86) g49_84 rfl rfl ?_
                                      refine E_iload (pc' := 88) g49_86 rfl rfl ?_
                                      refine E_iastore (pc' := 89) g49_88 rfl q23 (by omega) (by omega) ?_
                                      refine E_in5 (pc' := 92) g49_89 rfl (m_in_iff.mpr (by omega)) ?_
                                      refine E_goto (pc' := 22) g49_92 rfl ?_
                                      exact Ev_cast hev rfl (by rw [pt_pt])))))
                · obtain ⟨W3, x1, x2, hev⟩ := hh2 (up W2 s (mset (suP bl ed W2 kd wd ht s 4))) 1 (mI (mset (suP bl ed W2 kd wd ht s 4))) a2 (Or.inr rfl) (fun z => absurd z (by omega)) (fun _ => a5 hne) a3
                  refine ⟨W3, x1, x2, ?_⟩
                  refine E_iload (pc' := 24) g49_22 rfl rfl ?_
                  refine E_aload_n (pc' := 25) g49_24 rfl rfl ?_
                  refine E_cV0i (pc' := 28) g49_25 k49_19 na36 rfl ow36 rfl (Nat.le_of_ble_eq_true rfl) q0 (C_squares hTk) (by decide) ?_
                  refine E_icge (pc' := 31) (pt := 95) g49_28 rfl rfl (fun c0 => ?_) (fun c0 => ?_)
                  · first
                    | (exfalso; omega)
                    | (exfalso; omega)
                  · first
                    | (exfalso; omega)
                    | (refine E_aload_n (pc' := 32) g49_31 rfl rfl ?_
                       refine E_iload (pc' := 34) g49_32 rfl rfl ?_
                       refine E_cV1i (pc' := 37) g49_34 k49_25 na17 rfl ow17 rfl (Nat.le_of_ble_eq_true rfl) q1 (C_isOpen hLk) (by decide) ?_
                       refine E_ifeq (pc' := 40) (pt := 89) g49_37 rfl rfl (fun c1 => ?_) (fun c1 => ?_)
                       · first
                         | (exfalso; omega)
                         | (refine E_in5 (pc' := 92) g49_89 rfl (m_in_iff.mpr (by omega)) ?_
                            refine E_goto (pc' := 22) g49_92 rfl ?_
                            exact Ev_cast hev rfl (by rw [pt_pt]))
                       · first
                         | (exfalso; omega)
                         | (refine E_aload_n (pc' := 41) g49_40 rfl rfl ?_
                            refine E_getR (pc' := 44) g49_41 f49_9 tg5_0 rfl q22 rfl ?_
                            refine E_iload (pc' := 46) g49_44 rfl rfl ?_
                            refine E_iaload (pc' := 47) g49_46 rfl q23 (by omega) (by omega) ?_
                            refine E_aload_n (pc' := 48) g49_47 rfl rfl ?_
                            refine E_aload_n (pc' := 49) g49_48 rfl rfl ?_
                            refine E_aload_n (pc' := 50) g49_49 rfl rfl ?_
                            refine E_iload (pc' := 52) g49_50 rfl rfl ?_
                            refine E_cV3i (pc' := 55) g49_52 k49_35 na52 rfl ow52 rfl (Nat.le_of_ble_eq_true rfl) q22 (C_supported hTk hLk q22 q23 i1 i2 hn hs) (by decide) ?_
                            refine E_iand (pc' := 56) g49_55 rfl ?_
                            rw [a1]
                            refine E_st6 (pc' := 58) g49_56 rfl ?_
                            refine E_iload_n (pc' := 59) g49_58 rfl rfl ?_
                            refine E_ifne (pc' := 62) (pt := 74) g49_59 rfl rfl (fun c2 => ?_) (fun c2 => ?_)
                            · first
                              | (exfalso; omega)
                              | (refine E_iconst (pc' := 75) g49_74 (by decide) rfl ?_
                                 refine E_goto (pc' := 79) g49_75 rfl ?_
                                 refine E_st3 (pc' := 80) g49_79 rfl ?_
                                 refine E_aload_n (pc' := 81) g49_80 rfl rfl ?_
                                 refine E_getR (pc' := 84) g49_81 f49_9 tg5_0 rfl q22 rfl ?_
                                 refine E_iload (pc' := 86) g49_84 rfl rfl ?_
                                 refine E_iload (pc' := 88) g49_86 rfl rfl ?_
                                 refine E_iastore (pc' := 89) g49_88 rfl q23 (by omega) (by omega) ?_
                                 refine E_in5 (pc' := 92) g49_89 rfl (m_in_iff.mpr (by omega)) ?_
                                 refine E_goto (pc' := 22) g49_92 rfl ?_
                                 exact Ev_cast hev rfl (by rw [pt_pt]))
                            · first
                              | (exfalso; omega)
                              | (refine E_iload (pc' := 64) g49_62 rfl rfl ?_
                                 refine E_aload_n (pc' := 65) g49_64 rfl rfl ?_
                                 refine E_getR (pc' := 68) g49_65 f49_9 tg5_0 rfl q22 rfl ?_
                                 refine E_iload (pc' := 70) g49_68 rfl rfl ?_
                                 refine E_iaload (pc' := 71) g49_70 rfl q23 (by omega) (by omega) ?_
                                 refine E_iceq (pc' := 74) (pt := 78) g49_71 rfl rfl (fun c3 => ?_) (fun c3 => ?_)
                                 · first
                                   | (exfalso; omega)
                                   | (refine E_iconst (pc' := 79) g49_78 (by decide) rfl ?_
                                      refine E_st3 (pc' := 80) g49_79 rfl ?_
                                      refine E_aload_n (pc' := 81) g49_80 rfl rfl ?_
                                      refine E_getR (pc' := 84) g49_81 f49_9 tg5_0 rfl q22 rfl ?_
                                      refine E_iload (pc' := 86) g49_84 rfl rfl ?_
                                      refine E_iload (pc' := 88) g49_86 rfl rfl ?_
                                      refine E_iastore (pc' := 89) g49_88 rfl q23 (by omega) (by omega) ?_
                                      refine E_in5 (pc' := 92) g49_89 rfl (m_in_iff.mpr (by omega)) ?_
                                      refine E_goto (pc' := 22) g49_92 rfl ?_
                                      exact Ev_cast hev rfl (by rw [pt_pt]))
                                 · first
                                   | (exfalso; omega)
                                   | (refine E_iconst (pc' := 75) g49_74 (by decide) rfl ?_
                                      refine E_goto (pc' := 79) g49_75 rfl ?_
                                      refine E_st3 (pc' := 80) g49_79 rfl ?_
                                      refine E_aload_n (pc' := 81) g49_80 rfl rfl ?_
                                      refine E_getR (pc' := 84) g49_81 f49_9 tg5_0 rfl q22 rfl ?_
                                      refine E_iload (pc' := 86) g49_84 rfl rfl ?_
                                      refine E_iload (pc' := 88) g49_86 rfl rfl ?_
                                      refine E_iastore (pc' := 89) g49_88 rfl q23 (by omega) (by omega) ?_
                                      refine E_in5 (pc' := 92) g49_89 rfl (m_in_iff.mpr (by omega)) ?_
                                      refine E_goto (pc' := 22) g49_92 rfl ?_
                                      exact Ev_cast hev rfl (by rw [pt_pt])))))
              · obtain ⟨W3, x1, x2, hev⟩ := hh2 (up W2 s (mset (suP bl ed W2 kd wd ht s 4))) 1 (mI (mset (suP bl ed W2 kd wd ht s 4))) a2 (Or.inr rfl) (fun z => absurd z (by omega)) (fun _ => by have := h1 rfl; omega) (by omega)
                refine ⟨W3, x1, x2, ?_⟩
                refine E_iload (pc' := 24) g49_22 rfl rfl ?_
                refine E_aload_n (pc' := 25) g49_24 rfl rfl ?_
                refine E_cV0i (pc' := 28) g49_25 k49_19 na36 rfl ow36 rfl (Nat.le_of_ble_eq_true rfl) q0 (C_squares hTk) (by decide) ?_
                refine E_icge (pc' := 31) (pt := 95) g49_28 rfl rfl (fun c0 => ?_) (fun c0 => ?_)
                · first
                  | (exfalso; omega)
                  | (exfalso; omega)
                · first
                  | (exfalso; omega)
                  | (refine E_aload_n (pc' := 32) g49_31 rfl rfl ?_
                     refine E_iload (pc' := 34) g49_32 rfl rfl ?_
                     refine E_cV1i (pc' := 37) g49_34 k49_25 na17 rfl ow17 rfl (Nat.le_of_ble_eq_true rfl) q1 (C_isOpen hLk) (by decide) ?_
                     refine E_ifeq (pc' := 40) (pt := 89) g49_37 rfl rfl (fun c1 => ?_) (fun c1 => ?_)
                     · first
                       | (exfalso; omega)
                       | (refine E_in5 (pc' := 92) g49_89 rfl (m_in_iff.mpr (by omega)) ?_
                          refine E_goto (pc' := 22) g49_92 rfl ?_
                          exact Ev_cast hev rfl (by rw [pt_pt]))
                     · first
                       | (exfalso; omega)
                       | (refine E_aload_n (pc' := 41) g49_40 rfl rfl ?_
                          refine E_getR (pc' := 44) g49_41 f49_9 tg5_0 rfl q22 rfl ?_
                          refine E_iload (pc' := 46) g49_44 rfl rfl ?_
                          refine E_iaload (pc' := 47) g49_46 rfl q23 (by omega) (by omega) ?_
                          refine E_aload_n (pc' := 48) g49_47 rfl rfl ?_
                          refine E_aload_n (pc' := 49) g49_48 rfl rfl ?_
                          refine E_aload_n (pc' := 50) g49_49 rfl rfl ?_
                          refine E_iload (pc' := 52) g49_50 rfl rfl ?_
                          refine E_cV3i (pc' := 55) g49_52 k49_35 na52 rfl ow52 rfl (Nat.le_of_ble_eq_true rfl) q22 (C_supported hTk hLk q22 q23 i1 i2 hn hs) (by decide) ?_
                          refine E_iand (pc' := 56) g49_55 rfl ?_
                          rw [a1]
                          refine E_st6 (pc' := 58) g49_56 rfl ?_
                          refine E_iload_n (pc' := 59) g49_58 rfl rfl ?_
                          refine E_ifne (pc' := 62) (pt := 74) g49_59 rfl rfl (fun c2 => ?_) (fun c2 => ?_)
                          · first
                            | (exfalso; omega)
                            | (refine E_iconst (pc' := 75) g49_74 (by decide) rfl ?_
                               refine E_goto (pc' := 79) g49_75 rfl ?_
                               refine E_st3 (pc' := 80) g49_79 rfl ?_
                               refine E_aload_n (pc' := 81) g49_80 rfl rfl ?_
                               refine E_getR (pc' := 84) g49_81 f49_9 tg5_0 rfl q22 rfl ?_
                               refine E_iload (pc' := 86) g49_84 rfl rfl ?_
                               refine E_iload (pc' := 88) g49_86 rfl rfl ?_
                               refine E_iastore (pc' := 89) g49_88 rfl q23 (by omega) (by omega) ?_
                               refine E_in5 (pc' := 92) g49_89 rfl (m_in_iff.mpr (by omega)) ?_
                               refine E_goto (pc' := 22) g49_92 rfl ?_
                               exact Ev_cast hev rfl (by rw [pt_pt]))
                          · first
                            | (exfalso; omega)
                            | (refine E_iload (pc' := 64) g49_62 rfl rfl ?_
                               refine E_aload_n (pc' := 65) g49_64 rfl rfl ?_
                               refine E_getR (pc' := 68) g49_65 f49_9 tg5_0 rfl q22 rfl ?_
                               refine E_iload (pc' := 70) g49_68 rfl rfl ?_
                               refine E_iaload (pc' := 71) g49_70 rfl q23 (by omega) (by omega) ?_
                               refine E_iceq (pc' := 74) (pt := 78) g49_71 rfl rfl (fun c3 => ?_) (fun c3 => ?_)
                               · first
                                 | (exfalso; omega)
                                 | (refine E_iconst (pc' := 79) g49_78 (by decide) rfl ?_
                                    refine E_st3 (pc' := 80) g49_79 rfl ?_
                                    refine E_aload_n (pc' := 81) g49_80 rfl rfl ?_
                                    refine E_getR (pc' := 84) g49_81 f49_9 tg5_0 rfl q22 rfl ?_
                                    refine E_iload (pc' := 86) g49_84 rfl rfl ?_
                                    refine E_iload (pc' := 88) g49_86 rfl rfl ?_
                                    refine E_iastore (pc' := 89) g49_88 rfl q23 (by omega) (by omega) ?_
                                    refine E_in5 (pc' := 92) g49_89 rfl (m_in_iff.mpr (by omega)) ?_
                                    refine E_goto (pc' := 22) g49_92 rfl ?_
                                    exact Ev_cast hev rfl (by rw [pt_pt]))
                               · first
                                 | (exfalso; omega)
                                 | (refine E_iconst (pc' := 75) g49_74 (by decide) rfl ?_
                                    refine E_goto (pc' := 79) g49_75 rfl ?_
                                    refine E_st3 (pc' := 80) g49_79 rfl ?_
                                    refine E_aload_n (pc' := 81) g49_80 rfl rfl ?_
                                    refine E_getR (pc' := 84) g49_81 f49_9 tg5_0 rfl q22 rfl ?_
                                    refine E_iload (pc' := 86) g49_84 rfl rfl ?_
                                    refine E_iload (pc' := 88) g49_86 rfl rfl ?_
                                    refine E_iastore (pc' := 89) g49_88 rfl q23 (by omega) (by omega) ?_
                                    refine E_in5 (pc' := 92) g49_89 rfl (m_in_iff.mpr (by omega)) ?_
                                    refine E_goto (pc' := 22) g49_92 rfl ?_
                                    exact Ev_cast hev rfl (by rw [pt_pt])))))
            · have hno : ∀ b, ¬ inW W s b := fun b hb => hop (opn_t.mp (hP s b (hI.2.2.1 s b hb)).1).2
              obtain ⟨W3, x1, x2, hev⟩ := hh2 W2 ch v hI2 hch (fun z => ⟨(h0 z).1, fun s2 b hs2 hb => by
                rcases Nat.lt_or_ge s2 s with y | y
                · exact (h0 z).2 s2 b y hb
                · rw [show s2 = s by omega] at hb; exact absurd hb (hno b)⟩) h1 hle
              refine ⟨W3, x1, x2, ?_⟩
              refine E_iload (pc' := 24) g49_22 rfl rfl ?_
              refine E_aload_n (pc' := 25) g49_24 rfl rfl ?_
              refine E_cV0i (pc' := 28) g49_25 k49_19 na36 rfl ow36 rfl (Nat.le_of_ble_eq_true rfl) q0 (C_squares hTk) (by decide) ?_
              refine E_icge (pc' := 31) (pt := 95) g49_28 rfl rfl (fun c0 => ?_) (fun c0 => ?_)
              · first
                | (exfalso; omega)
                | (exfalso; omega)
              · first
                | (exfalso; omega)
                | (refine E_aload_n (pc' := 32) g49_31 rfl rfl ?_
                   refine E_iload (pc' := 34) g49_32 rfl rfl ?_
                   refine E_cV1i (pc' := 37) g49_34 k49_25 na17 rfl ow17 rfl (Nat.le_of_ble_eq_true rfl) q1 (C_isOpen hLk) (by decide) ?_
                   refine E_ifeq (pc' := 40) (pt := 89) g49_37 rfl rfl (fun c1 => ?_) (fun c1 => ?_)
                   · first
                     | (exfalso; omega)
                     | (refine E_in5 (pc' := 92) g49_89 rfl (m_in_iff.mpr (by omega)) ?_
                        refine E_goto (pc' := 22) g49_92 rfl ?_
                        exact hev)
                   · first
                     | (exfalso; omega)
                     | (exfalso; omega))
          · intro W2 ch v hI2 hch h0 h1 hle
            obtain ⟨W3, x1, x2, hev⟩ := hh W2 ch (mI (n : Int)) v hI2 hch (fun z => by
              obtain ⟨rfl, h02⟩ := h0 z
              intro s b hb
              exact h02 s b (opn_t.mp (hP s b (hI2.2.2.1 s b hb)).1).1 hb) (fun z => by have := h1 z; omega)
            refine ⟨W3, x1, x2, ?_⟩
            refine E_iload (pc' := 24) g49_22 rfl rfl ?_
            refine E_aload_n (pc' := 25) g49_24 rfl rfl ?_
            refine E_cV0i (pc' := 28) g49_25 k49_19 na36 rfl ow36 rfl (Nat.le_of_ble_eq_true rfl) q0 (C_squares hTk) (by decide) ?_
            refine E_icge (pc' := 31) (pt := 95) g49_28 rfl rfl (fun c0 => ?_) (fun c0 => ?_)
            · first
              | (exfalso; omega)
              | (refine E_in4 (pc' := 98) g49_95 rfl (m_in_iff.mpr (by omega)) ?_
                 refine E_goto (pc' := 5) g49_98 rfl ?_
                 exact hev)
            · first
              | (exfalso; omega)
              | (exfalso; omega)
        obtain ⟨W3, x1, x2, hev⟩ := sweep 0 (by omega) W 0 v hI (Or.inl rfl) (fun _ => ⟨rfl, fun s2 b hs2 => absurd hs2 (by omega)⟩) (fun z => absurd z (by omega)) (Int.le_refl _)
        refine ⟨W3, x1, x2, ?_⟩
        refine E_iload_n (pc' := 6) g49_5 rfl rfl ?_
        refine E_ifeq (pc' := 9) (pt := 101) g49_6 rfl rfl (fun c0 => ?_) (fun c0 => ?_)
        · first
          | (exfalso; omega)
          | (exfalso; omega)
        · first
          | (exfalso; omega)
          | (refine E_iload (pc' := 11) g49_9 rfl rfl ?_
             refine E_sipush (pc' := 14) g49_11 (by decide) rfl ?_
             refine E_icgt (pc' := 17) (pt := 101) g49_14 rfl rfl (fun c1 => ?_) (fun c1 => ?_)
             · first
               | (exfalso; omega)
               | (exfalso; omega)
             · first
               | (exfalso; omega)
               | (refine E_iconst (pc' := 18) g49_17 (by decide) rfl ?_
                  refine E_st3 (pc' := 19) g49_18 rfl ?_
                  refine E_iconst (pc' := 20) g49_19 (by decide) rfl ?_
                  refine E_st5 (pc' := 22) g49_20 rfl ?_
                  exact hev))
    · intro W ch u v hI hch hs0 hs1
      have hm := mW_bd W
      have h0 : ch = 0 := by
        rcases hch with z | z
        · exact z
        · have := hs1 z; omega
      subst h0
      refine ⟨W, hI, hs0 rfl, ?_⟩
      refine E_iload_n (pc' := 6) g49_5 rfl rfl ?_
      refine E_ifeq (pc' := 9) (pt := 101) g49_6 rfl rfl (fun c0 => ?_) (fun c0 => ?_)
      · first
        | (exfalso; omega)
        | (exact E_ret g49_101 rt49 rfl rfl)
      · first
        | (exfalso; omega)
        | (exfalso; omega)
  have hm := mW_bd W0
  obtain ⟨W2, x1, x2, hev⟩ := rounds 0 (by omega) W0 1 none none ⟨hWl, hW, fun _ _ h => h, fun E h1 _ => h1⟩ (Or.inr rfl) (fun z => absurd z (by omega)) (fun _ => by omega)
  refine ⟨W2, x1, x2, ?_⟩
  refine Call_of rfl ?_
  refine E_iconst (pc' := 1) g49_0 (by decide) rfl ?_
  refine E_st3 (pc' := 2) g49_1 rfl ?_
  refine E_iconst (pc' := 3) g49_2 (by decide) rfl ?_
  refine E_st4 (pc' := 5) g49_3 rfl ?_
  exact hev
theorem fIn_gfam {W2 : List Int} {I : Nat → Nat → Prop} (h1 : fIn bl ed wd ht W0 W2) (h2 : stb bl ed wd ht W2) (hI : ∀ s b, inW W0 s b ↔ I s b) : gfam bl ed wd ht I W2 :=
  ⟨fun s b h => (hI s b).mp (h1.2.2.1 s b h), h2, fun E e1 e2 => h1.2.2.2 E (fun s b h => (hI s b).mpr (e1 s b h)) e2⟩
/-- the greatest family is one -/
theorem gfam_one {I : Nat → Nat → Prop} {W2 W3 : List Int} (h1 : gfam bl ed wd ht I W2) (h2 : gfam bl ed wd ht I W3) (s b : Nat) : inW W2 s b ↔ inW W3 s b :=
  ⟨fun h => h2.2.2 (inW W2) h1.1 h1.2.1 s b h, fun h => h1.2.2 (inW W3) h2.1 h2.2.1 s b h⟩
end WS
