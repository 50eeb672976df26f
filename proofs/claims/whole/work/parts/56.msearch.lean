/-! the model's search -/
def sH (H : mH) (kd un nk le ap nu me op de fo bs bu : Int) (tt tr : List Int) : mH := pt (pt (pt H 85 tt) 88 tr) 74 (mdL kd un nk le ap nu me op de fo bs bu)
/-- what the search rests on -/
def mBase (H : mH) (bl td ed hu oa : List Int) (kd wd ht rm mo sd bo : Int) (n N : Nat) : Prop := (∃ q, H[74]? = some (7, q)) ∧ (∃ q, H[85]? = some (8, q)) ∧ (∃ q, H[88]? = some (8, q)) ∧ H[75]? = some (8, [wd, ht, rm, mo, sd, bo]) ∧ H[76]? = some (8, td) ∧ relT td ed hu kd ∧ H[87]? = some (8, oa) ∧ oa.length = 9 ∧ (∀ s : Nat, opn bl n s = true → ix oa (cn (opn bl n) s) = s) ∧ okD kd wd ht rm mo sd bo ed hu ∧ (n : Int) = wd * ht ∧ bl.length = 6 ∧ (N : Int) = cn (opn bl n) n
section NH
variable {H : mH} {kd un nk le ap nu me op de fo bs bu wd ht rm mo sd bo : Int} {ed hu bl sl td tt ss : List Int} {A W oa tr T : List Int} {n N : Nat} {tt2 tr2 : List Int} {de2 fo2 : Int}
theorem sH_74 (hB : mBase H bl td ed hu oa kd wd ht rm mo sd bo n N) : (sH H kd un nk le ap nu me (N : Int) de fo bs bu tt tr)[74]? = some (7, mdL kd un nk le ap nu me N de fo bs bu) := by
  obtain ⟨⟨q, h⟩, -⟩ := hB
  exact pt_self (pt_nx (by decide) (pt_nx (by decide) h))
theorem sH_85 (hB : mBase H bl td ed hu oa kd wd ht rm mo sd bo n N) : (sH H kd un nk le ap nu me (N : Int) de fo bs bu tt tr)[85]? = some (8, tt) := by
  obtain ⟨-, ⟨q, h⟩, -⟩ := hB
  exact pt_nx (by decide) (pt_nx (by decide) (pt_self h))
theorem sH_88 (hB : mBase H bl td ed hu oa kd wd ht rm mo sd bo n N) : (sH H kd un nk le ap nu me (N : Int) de fo bs bu tt tr)[88]? = some (8, tr) := by
  obtain ⟨-, -, ⟨q, h⟩, -⟩ := hB
  exact pt_nx (by decide) (pt_self (pt_nx (by decide) h))
theorem sH_ne {a : Nat} {c : Option (Nat × List Int)} (h1 : 74 ≠ a) (h2 : 85 ≠ a) (h3 : 88 ≠ a) (h : H[a]? = c) : (sH H kd un nk le ap nu me (N : Int) de fo bs bu tt tr)[a]? = c := pt_nx h1 (pt_nx h3 (pt_nx h2 h))
theorem sH_tt : pt (sH H kd un nk le ap nu me (N : Int) de fo bs bu tt tr) 85 tt2 = (sH H kd un nk le ap nu me (N : Int) de fo bs bu tt2 tr) := by
  unfold sH
  rw [pt_swap (a := 74) (b := 85) (by decide), pt_swap (a := 88) (b := 85) (by decide), pt_pt]
theorem sH_tr : pt (sH H kd un nk le ap nu me (N : Int) de fo bs bu tt tr) 88 tr2 = (sH H kd un nk le ap nu me (N : Int) de fo bs bu tt tr2) := by
  unfold sH
  rw [pt_swap (a := 74) (b := 88) (by decide), pt_pt]
theorem sH_md : pt (sH H kd un nk le ap nu me (N : Int) de fo bs bu tt tr) 74 (mdL kd un nk le ap nu me N de2 fo2 bs bu) = (sH H kd un nk le ap nu me (N : Int) de2 fo2 bs bu tt tr) := by
  unfold sH
  rw [pt_pt]
theorem M_canBe (hM : H[74]? = some (7, mdL kd un nk le ap nu me op de fo bs bu)) (hD : okD kd wd ht rm mo sd bo ed hu) (hz : H[75]? = some (8, [wd, ht, rm, mo, sd, bo])) (htd : H[76]? = some (8, td)) (hrT : relT td ed hu kd) (htt : H[85]? = some (8, tt)) (hrS : relS tt T sl kd) {s b : Nat} (hs : (s : Int) < wd * ht) (hb : (b : Int) < kd * 4) : Call 3 140 [mR 74, mI (s : Int), mI (b : Int)] H (mI (b01 ((okM sl ed hu kd wd ht rm mo bs bu) T s b))) H := by
  obtain ⟨wv, hwy, hwb⟩ := why_ex T sl ed hu wd ht rm mo s b
  have hp := b01_in (plB ed b)
  have hiff : (okM sl ed hu kd wd ht rm mo bs bu) T s b = true ↔ (plB ed b = true ∧ ¬ ((s : Int) = bs ∧ (b : Int) = bu) ∧ wv = 0) := by
    rw [okM_t]
    constructor
    · rintro ⟨i1, i2, i3, i4⟩
      exact ⟨i2, i3, why_one hwy (why_0.mpr i4)⟩
    · rintro ⟨i2, i3, rfl⟩
      exact ⟨hb, i2, i3, why_0.mp hwy⟩
  have hval : ∀ v : Int, (v = 1 ∧ b01 (plB ed b) = 1 ∧ ¬ ((s : Int) = bs ∧ (b : Int) = bu) ∧ wv = 0) ∨ (v = 0 ∧ ¬ (b01 (plB ed b) = 1 ∧ ¬ ((s : Int) = bs ∧ (b : Int) = bu) ∧ wv = 0)) → b01 ((okM sl ed hu kd wd ht rm mo bs bu) T s b) = v := by
    intro v hv
    rcases hv with ⟨rfl, v1, v2, v3⟩ | ⟨rfl, v1⟩
    · rw [hiff.mpr ⟨b01_one (by omega), v2, v3⟩]; rfl
    · cases q : (okM sl ed hu kd wd ht rm mo bs bu) T s b with
      | false => rfl
      | true =>
        obtain ⟨q1, q2, q3⟩ := hiff.mp q
        exact absurd ⟨by rw [q1]; rfl, q2, q3⟩ v1
  refine Call_of rfl ?_
  refine E_aload_n (pc' := 1) g140_0 rfl rfl ?_
  refine E_iload_n (pc' := 2) g140_1 rfl rfl ?_
  refine E_cV1i (pc' := 5) g140_2 k140_146 na114 rfl ow114 rfl (Nat.le_of_ble_eq_true rfl) hM (M_isPlain hM hD htd hrT (by omega)) (by decide) ?_
  refine E_ifeq (pc' := 8) (pt := 37) g140_5 rfl rfl (fun c0 => ?_) (fun c0 => ?_)
  · first
    | (exfalso; omega)
    | (refine E_iconst (pc' := 38) g140_37 (by decide) rfl ?_
       exact E_iret g140_38 (ro140 (by omega)) (congrArg mI (hval _ (by omega))) rfl)
  · first
    | (exfalso; omega)
    | (refine E_iload_n (pc' := 9) g140_8 rfl rfl ?_
       refine E_aload_n (pc' := 10) g140_9 rfl rfl ?_
       refine E_getI (pc' := 13) g140_10 f140_186 tg7_24 (by decide) rfl hM rfl ?_
       refine E_icne (pc' := 16) (pt := 24) g140_13 rfl rfl (fun c1 => ?_) (fun c1 => ?_)
       · first
         | (exfalso; omega)
         | (refine E_aload_n (pc' := 25) g140_24 rfl rfl ?_
            refine E_iload_n (pc' := 26) g140_25 rfl rfl ?_
            refine E_iload_n (pc' := 27) g140_26 rfl rfl ?_
            refine E_cV2i (pc' := 30) g140_27 k140_152 na120 rfl ow120 rfl (Nat.le_of_ble_eq_true rfl) hM (M_whyNot hM hD hz htd hrT htt hrS (by omega) (by omega) hwy) (by decide) ?_
            refine E_ifne (pc' := 33) (pt := 37) g140_30 rfl rfl (fun c2 => ?_) (fun c2 => ?_)
            · first
              | (exfalso; omega)
              | (refine E_iconst (pc' := 38) g140_37 (by decide) rfl ?_
                 exact E_iret g140_38 (ro140 (by omega)) (congrArg mI (hval _ (by omega))) rfl)
            · first
              | (exfalso; omega)
              | (refine E_iconst (pc' := 34) g140_33 (by decide) rfl ?_
                 refine E_goto (pc' := 38) g140_34 rfl ?_
                 exact E_iret g140_38 (ro140 (by omega)) (congrArg mI (hval _ (by omega))) rfl))
       · first
         | (exfalso; omega)
         | (refine E_iload_n (pc' := 17) g140_16 rfl rfl ?_
            refine E_aload_n (pc' := 18) g140_17 rfl rfl ?_
            refine E_getI (pc' := 21) g140_18 f140_189 tg7_25 (by decide) rfl hM rfl ?_
            refine E_iceq (pc' := 24) (pt := 37) g140_21 rfl rfl (fun c3 => ?_) (fun c3 => ?_)
            · first
              | (exfalso; omega)
              | (refine E_iconst (pc' := 38) g140_37 (by decide) rfl ?_
                 exact E_iret g140_38 (ro140 (by omega)) (congrArg mI (hval _ (by omega))) rfl)
            · first
              | (exfalso; omega)
              | (refine E_aload_n (pc' := 25) g140_24 rfl rfl ?_
                 refine E_iload_n (pc' := 26) g140_25 rfl rfl ?_
                 refine E_iload_n (pc' := 27) g140_26 rfl rfl ?_
                 refine E_cV2i (pc' := 30) g140_27 k140_152 na120 rfl ow120 rfl (Nat.le_of_ble_eq_true rfl) hM (M_whyNot hM hD hz htd hrT htt hrS (by omega) (by omega) hwy) (by decide) ?_
                 refine E_ifne (pc' := 33) (pt := 37) g140_30 rfl rfl (fun c4 => ?_) (fun c4 => ?_)
                 · first
                   | (exfalso; omega)
                   | (refine E_iconst (pc' := 38) g140_37 (by decide) rfl ?_
                      exact E_iret g140_38 (ro140 (by omega)) (congrArg mI (hval _ (by omega))) rfl)
                 · first
                   | (exfalso; omega)
                   | (refine E_iconst (pc' := 34) g140_33 (by decide) rfl ?_
                      refine E_goto (pc' := 38) g140_34 rfl ?_
                      exact E_iret g140_38 (ro140 (by omega)) (congrArg mI (hval _ (by omega))) rfl))))
theorem mu_pop {d : Nat} (h : ix tr d ≤ 23) : mu tr d < mu tr (d + 1) := by
  simp only [mu]
  have h1 : 1 ≤ (24 - ix tr d).toNat := by omega
  have h2 : 1 ≤ 32 ^ (8 - d) := Nat.pow_pos (by decide)
  have := Nat.mul_le_mul h1 h2
  omega
theorem mu_push {d : Nat} {tr2 : List Int} (hd : d + 1 ≤ 7) (h0 : ∀ j : Nat, j < d → ix tr2 j = ix tr j) (h1 : ix tr d < ix tr2 d) (h2 : ix tr2 d ≤ 23) (h3 : ix tr2 ((d + 1 : Nat) : Int) = -1) : mu tr2 (d + 1 + 1) < mu tr (d + 1) := by
  simp only [mu]
  rw [mu_congr h0, h3, show 8 - d = (8 - (d + 1)) + 1 by omega, Nat.pow_succ]
  have hp0 : 1 ≤ 32 ^ (8 - (d + 1)) := Nat.pow_pos (by decide)
  generalize 32 ^ (8 - (d + 1)) = p at *
  have hp : (24 - ix tr2 d).toNat + 1 ≤ (24 - ix tr d).toNat := by omega
  have := Nat.mul_le_mul_right (p * 32) hp
  rw [Nat.add_mul] at this
  have e : (24 - (-1 : Int)).toNat = 25 := by decide
  rw [e]
  omega
/-- how the search ends -/
def outc (H : mH) (bl sl ed hu : List Int) (kd wd ht rm mo un nk le ap nu me bs bu : Int) (n N : Nat) (R : List (List Int)) (de2 fo2 : Int) (tt2 tr2 : List Int) : Prop := tt2.length = 15 ∧ tr2.length = 9 ∧ ((R = [] ∧ fo2 = 0) ∨ ∃ x xs, R = x :: xs ∧ fo2 = 1 ∧ de2 = N ∧ relS tt2 x sl kd ∧ x = PP bl n tr2 n ∧ rmn (okM sl ed hu kd wd ht rm mo bs bu) bl n tr2 n = xs ∧ ∀ j : Nat, j < N → 0 ≤ ix tr2 j ∧ ix tr2 j < kd * 4)
end NH
