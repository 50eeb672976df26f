/-! the model: the trial, the past, what is done -/
theorem pt_nx {H : mH} {a b : Nat} {gs : List Int} {c : Option (Nat × List Int)} (h : a ≠ b) (hb : H[b]? = c) : (pt H a gs)[b]? = c := by rw [pt_ne h]; exact hb
/-- fifteen of a row -/
def sli (ps : List Int) (off : Int) : List Int := (List.range 15).map (fun (k : Nat) => ix ps (off + (k : Int)))
theorem sli_len (ps : List Int) (off : Int) : (sli ps off).length = 15 := by simp [sli]
theorem sli_ix {ps : List Int} {off j : Int} (h0 : 0 ≤ j) (h : j < 15) : ix (sli ps off) j = ix ps (off + j) := by
  unfold sli
  rw [ix, List.getD_eq_getElem?_getD, List.getElem?_map, List.getElem?_range (by omega)]
  simp only [Option.map_some, Option.getD_some]
  rw [show ((j.toNat : Nat) : Int) = j by omega]
theorem fil_sli {A ps : List Int} {off : Int} (hA : A.length = 15) : fil A 0 (fun k => ix ps (off + k)) 15 = sli ps off := by
  apply ix_ext (by rw [fil_len, hA, sli_len])
  intro j h0 h1
  rw [fil_len] at h1
  rw [fil_ix (by omega) (by omega) h0, if_pos (by omega), sli_ix h0 (by omega), show (((j - 0).toNat : Nat) : Int) = j by omega]
theorem sli_ext {ps qs : List Int} {a b : Int} (h : ∀ j : Int, 0 ≤ j → j < 15 → ix ps (a + j) = ix qs (b + j)) : sli ps a = sli qs b := by
  apply ix_ext (by rw [sli_len, sli_len])
  intro j h0 h1
  rw [sli_len] at h1
  rw [sli_ix h0 (by omega), sli_ix h0 (by omega), h j h0 (by omega)]
theorem sli_of {ps ss : List Int} {a : Int} (hs : ss.length = 15) (h : ∀ j : Int, 0 ≤ j → j < 15 → ix ps (a + j) = ix ss j) : sli ps a = ss := by
  apply ix_ext (by rw [sli_len, hs])
  intro j h0 h1
  rw [sli_len] at h1
  rw [sli_ix h0 (by omega), h j h0 (by omega)]
section MQ
variable {H : mH} {kd un nk le ap nu me op de fo bs bu wd ht rm mo sd bo : Int} {ed hu bl sl td tt ss : List Int} {ps kt ik tx : List Int}
theorem M_tries (hM : H[74]? = some (7, mdL kd un nk le ap nu me op de fo bs bu)) (htt : H[85]? = some (8, tt)) (ht15 : tt.length = 15) (hss : H[77]? = some (8, ss)) (hs15 : ss.length = 15) : Call 0 116 [mR 74] H none (pt H 85 ss) := by
  refine Call_of rfl ?_
  refine E_iconst (pc' := 1) g116_0 (by decide) rfl ?_
  refine E_st1 (pc' := 2) g116_1 rfl ?_
  refine Ev_cast (H := pt H 85 (fil tt 0 (fun k => ix ss k) 0)) ?_ rfl (by simp only [fil]; rw [pt_same htt])
  refine E_loop (n := 15) (fun i => Ev 0 116 2 [mR 74, mI (i : Int)] [] (pt H 85 (fil tt 0 (fun k => ix ss k) i)) none (pt H 85 ss)) ?_ ?_ 0 (by omega)
  · intro i hi hh
    refine E_iload_n (pc' := 3) g116_2 rfl rfl ?_
    refine E_bipush (pc' := 5) g116_3 (by decide) rfl ?_
    refine E_icge (pc' := 8) (pt := 26) g116_5 rfl rfl (fun c0 => ?_) (fun c0 => ?_)
    · exact absurd c0 (by omega)
    · refine E_aload_n (pc' := 9) g116_8 rfl rfl ?_
      refine E_getR (pc' := 12) g116_9 f116_41 tg7_17 rfl (by first | assumption | exact pt_self (by first | assumption | exact pt_self (by first | assumption | exact pt_self (by first | assumption | exact pt_self (by assumption) | (rw [pt_ne (by omega)]; assumption)) | (rw [pt_ne (by omega)]; first | assumption | exact pt_self (by assumption) | (rw [pt_ne (by omega)]; assumption))) | (rw [pt_ne (by omega)]; first | assumption | exact pt_self (by first | assumption | exact pt_self (by assumption) | (rw [pt_ne (by omega)]; assumption)) | (rw [pt_ne (by omega)]; first | assumption | exact pt_self (by assumption) | (rw [pt_ne (by omega)]; assumption)))) | (rw [pt_ne (by omega)]; first | assumption | exact pt_self (by first | assumption | exact pt_self (by first | assumption | exact pt_self (by assumption) | (rw [pt_ne (by omega)]; assumption)) | (rw [pt_ne (by omega)]; first | assumption | exact pt_self (by assumption) | (rw [pt_ne (by omega)]; assumption))) | (rw [pt_ne (by omega)]; first | assumption | exact pt_self (by first | assumption | exact pt_self (by assumption) | (rw [pt_ne (by omega)]; assumption)) | (rw [pt_ne (by omega)]; first | assumption | exact pt_self (by assumption) | (rw [pt_ne (by omega)]; assumption))))) rfl ?_
      refine E_iload_n (pc' := 13) g116_12 rfl rfl ?_
      refine E_aload_n (pc' := 14) g116_13 rfl rfl ?_
      refine E_getR (pc' := 17) g116_14 f116_16 tg7_3 rfl (by first | assumption | exact pt_self (by first | assumption | exact pt_self (by first | assumption | exact pt_self (by first | assumption | exact pt_self (by assumption) | (rw [pt_ne (by omega)]; assumption)) | (rw [pt_ne (by omega)]; first | assumption | exact pt_self (by assumption) | (rw [pt_ne (by omega)]; assumption))) | (rw [pt_ne (by omega)]; first | assumption | exact pt_self (by first | assumption | exact pt_self (by assumption) | (rw [pt_ne (by omega)]; assumption)) | (rw [pt_ne (by omega)]; first | assumption | exact pt_self (by assumption) | (rw [pt_ne (by omega)]; assumption)))) | (rw [pt_ne (by omega)]; first | assumption | exact pt_self (by first | assumption | exact pt_self (by first | assumption | exact pt_self (by assumption) | (rw [pt_ne (by omega)]; assumption)) | (rw [pt_ne (by omega)]; first | assumption | exact pt_self (by assumption) | (rw [pt_ne (by omega)]; assumption))) | (rw [pt_ne (by omega)]; first | assumption | exact pt_self (by first | assumption | exact pt_self (by assumption) | (rw [pt_ne (by omega)]; assumption)) | (rw [pt_ne (by omega)]; first | assumption | exact pt_self (by assumption) | (rw [pt_ne (by omega)]; assumption))))) rfl ?_
      refine E_iload_n (pc' := 18) g116_17 rfl rfl ?_
      refine E_iaload (pc' := 19) g116_18 rfl (by first | assumption | exact pt_self (by first | assumption | exact pt_self (by first | assumption | exact pt_self (by first | assumption | exact pt_self (by assumption) | (rw [pt_ne (by omega)]; assumption)) | (rw [pt_ne (by omega)]; first | assumption | exact pt_self (by assumption) | (rw [pt_ne (by omega)]; assumption))) | (rw [pt_ne (by omega)]; first | assumption | exact pt_self (by first | assumption | exact pt_self (by assumption) | (rw [pt_ne (by omega)]; assumption)) | (rw [pt_ne (by omega)]; first | assumption | exact pt_self (by assumption) | (rw [pt_ne (by omega)]; assumption)))) | (rw [pt_ne (by omega)]; first | assumption | exact pt_self (by first | assumption | exact pt_self (by first | assumption | exact pt_self (by assumption) | (rw [pt_ne (by omega)]; assumption)) | (rw [pt_ne (by omega)]; first | assumption | exact pt_self (by assumption) | (rw [pt_ne (by omega)]; assumption))) | (rw [pt_ne (by omega)]; first | assumption | exact pt_self (by first | assumption | exact pt_self (by assumption) | (rw [pt_ne (by omega)]; assumption)) | (rw [pt_ne (by omega)]; first | assumption | exact pt_self (by assumption) | (rw [pt_ne (by omega)]; assumption))))) (by omega) (by omega) ?_
      refine E_iastore (pc' := 20) g116_19 rfl (by first | assumption | exact pt_self (by first | assumption | exact pt_self (by first | assumption | exact pt_self (by first | assumption | exact pt_self (by assumption) | (rw [pt_ne (by omega)]; assumption)) | (rw [pt_ne (by omega)]; first | assumption | exact pt_self (by assumption) | (rw [pt_ne (by omega)]; assumption))) | (rw [pt_ne (by omega)]; first | assumption | exact pt_self (by first | assumption | exact pt_self (by assumption) | (rw [pt_ne (by omega)]; assumption)) | (rw [pt_ne (by omega)]; first | assumption | exact pt_self (by assumption) | (rw [pt_ne (by omega)]; assumption)))) | (rw [pt_ne (by omega)]; first | assumption | exact pt_self (by first | assumption | exact pt_self (by first | assumption | exact pt_self (by assumption) | (rw [pt_ne (by omega)]; assumption)) | (rw [pt_ne (by omega)]; first | assumption | exact pt_self (by assumption) | (rw [pt_ne (by omega)]; assumption))) | (rw [pt_ne (by omega)]; first | assumption | exact pt_self (by first | assumption | exact pt_self (by assumption) | (rw [pt_ne (by omega)]; assumption)) | (rw [pt_ne (by omega)]; first | assumption | exact pt_self (by assumption) | (rw [pt_ne (by omega)]; assumption))))) (by omega) (by rw [fil_len]; omega) ?_
      refine E_in1 (pc' := 23) g116_20 rfl (m_in_iff.mpr (by omega)) ?_
      refine E_goto (pc' := 2) g116_23 rfl ?_
      refine Ev_cast hh rfl ?_
      rw [pt_pt]
      show _ = pt H 85 (up _ (0 + (i : Int)) _)
      rw [Int.zero_add]
  · refine E_iload_n (pc' := 3) g116_2 rfl rfl ?_
    refine E_bipush (pc' := 5) g116_3 (by decide) rfl ?_
    refine E_icge (pc' := 8) (pt := 26) g116_5 rfl rfl (fun c1 => ?_) (fun c1 => ?_)
    · exact E_ret g116_26 rt116 rfl (by rw [fil_all ht15 hs15])
    · exact absurd c1 (by omega)
theorem M_open (hM : H[74]? = some (7, mdL kd un nk le ap nu me op de fo bs bu)) (hD : okD kd wd ht rm mo sd bo ed hu) (hz : H[75]? = some (8, [wd, ht, rm, mo, sd, bo])) (hss : H[77]? = some (8, ss)) (hrS : relS ss bl sl kd) : Call 1 123 [mR 74] H (mI (nO bl (wd * ht).toNat)) H := by
  have hD0 := hD
  have hrS0 := hrS
  obtain ⟨r1, r2, r3, r4, r5, r6, r7, b1, b2⟩ := hD
  obtain ⟨nt, q1, q2, q3, q4, q5⟩ := hrS
  have hw := wh_bd r2.1 r2.2 r3.1 r3.2
  obtain ⟨n, hn⟩ : ∃ n : Nat, (n : Int) = wd * ht := ⟨(wd * ht).toNat, by omega⟩
  rw [show (wd * ht).toNat = n by omega]
  refine Call_of rfl ?_
  refine E_iconst (pc' := 1) g123_0 (by decide) rfl ?_
  refine E_st1 (pc' := 2) g123_1 rfl ?_
  refine E_iconst (pc' := 3) g123_2 (by decide) rfl ?_
  refine E_st2 (pc' := 4) g123_3 rfl ?_
  refine E_loop (n := n) (fun i => Ev 1 123 4 [mR 74, mI (nO bl i), mI (i : Int)] [] H (mI (nO bl n)) H) ?_ ?_ 0 (by omega)
  · intro i hi hh
    have hb := cn_bd (fun s => decide (ix bl s = -9)) i
    unfold nO at hh ⊢
    refine E_iload_n (pc' := 5) g123_4 rfl rfl ?_
    refine E_aload_n (pc' := 6) g123_5 rfl rfl ?_
    refine E_cV0i (pc' := 9) g123_6 k123_116 na111 rfl ow111 rfl (Nat.le_of_ble_eq_true rfl) (by assumption) (M_squares hM hD0 hz) (by decide) ?_
    refine E_icge (pc' := 12) (pt := 37) g123_9 rfl rfl (fun c0 => ?_) (fun c0 => ?_)
    · exact absurd c0 (by omega)
    · refine E_iload_n (pc' := 13) g123_12 rfl rfl ?_
      refine E_aload_n (pc' := 14) g123_13 rfl rfl ?_
      refine E_getR (pc' := 17) g123_14 f123_16 tg7_3 rfl (by assumption) rfl ?_
      refine E_iload_n (pc' := 18) g123_17 rfl rfl ?_
      refine E_iald (pc' := 19) (v := ix bl i) g123_18 rfl (by assumption) (by omega) (by omega) (q1 i (by omega) (by omega)) ?_
      refine E_bipush (pc' := 21) g123_19 (by decide) rfl ?_
      refine E_icne (pc' := 24) (pt := 28) g123_21 rfl rfl (fun c1 => ?_) (fun c1 => ?_)
      · refine E_iconst (pc' := 29) g123_28 (by decide) rfl ?_
        refine E_iadd (pc' := 30) g123_29 (m_in_iff.mpr (by omega)) rfl ?_
        refine E_st1 (pc' := 31) g123_30 rfl ?_
        refine E_in2 (pc' := 34) g123_31 rfl (m_in_iff.mpr (by omega)) ?_
        refine E_goto (pc' := 4) g123_34 rfl ?_
        first | exact Ev_cast hh (by rw [cn_t (decide_eq_true (by omega))]; rfl) rfl | exact Ev_cast hh (by rw [cn_f (decide_eq_false (by omega)), Int.add_zero]; rfl) rfl
      · refine E_iconst (pc' := 25) g123_24 (by decide) rfl ?_
        refine E_goto (pc' := 29) g123_25 rfl ?_
        refine E_iadd (pc' := 30) g123_29 (m_in_iff.mpr (by omega)) rfl ?_
        refine E_st1 (pc' := 31) g123_30 rfl ?_
        refine E_in2 (pc' := 34) g123_31 rfl (m_in_iff.mpr (by omega)) ?_
        refine E_goto (pc' := 4) g123_34 rfl ?_
        first | exact Ev_cast hh (by rw [cn_t (decide_eq_true (by omega))]; rfl) rfl | exact Ev_cast hh (by rw [cn_f (decide_eq_false (by omega)), Int.add_zero]; rfl) rfl
  · refine E_iload_n (pc' := 5) g123_4 rfl rfl ?_
    refine E_aload_n (pc' := 6) g123_5 rfl rfl ?_
    refine E_cV0i (pc' := 9) g123_6 k123_116 na111 rfl ow111 rfl (Nat.le_of_ble_eq_true rfl) (by assumption) (M_squares hM hD0 hz) (by decide) ?_
    refine E_icge (pc' := 12) (pt := 37) g123_9 rfl rfl (fun c2 => ?_) (fun c2 => ?_)
    · refine E_iload_n (pc' := 38) g123_37 rfl rfl ?_
      exact E_iret g123_38 ro123 rfl rfl
    · exact absurd c2 (by omega)
/-- the past once more is noted -/
def notR (ps ps2 ss : List Int) (un : Int) : Prop := ps2.length = 150 ∧ (∀ i : Int, 0 ≤ i → i < min (un + 1) 10 - 1 → sli ps2 (15 * i) = sli ps (15 * (i + (un + 1 - min (un + 1) 10)))) ∧ sli ps2 (15 * (min (un + 1) 10 - 1)) = ss
theorem not_lt {un : Int} (h0 : 0 ≤ un) (h1 : un < 10) (hpl : ps.length = 150) (hs : ss.length = 15) : notR ps (fil ps (15 * un) (fun k => ix ss k) 15) ss un := by
  refine ⟨by rw [fil_len, hpl], fun i q0 q1 => ?_, ?_⟩
  · rw [show un + 1 - min (un + 1) 10 = 0 by omega]
    refine sli_ext (fun j j0 j1 => ?_)
    rw [fil_ix (by omega) (by omega) (by omega), if_neg (by omega), Int.add_zero]
  · refine sli_of hs (fun j j0 j1 => ?_)
    rw [fil_ix (by omega) (by omega) (by omega), if_pos (by omega)]
    rw [show (((15 * (min (un + 1) 10 - 1) + j - 15 * un).toNat : Nat) : Int) = j by omega]
theorem not_eq (hpl : ps.length = 150) (hs : ss.length = 15) : notR ps (fil (fil ps 0 (fun k => ix ps ((k : Int) + 15)) 135) (15 * 9) (fun k => ix ss k) 15) ss 10 := by
  refine ⟨by rw [fil_len, fil_len, hpl], fun i q0 q1 => ?_, ?_⟩
  · refine sli_ext (fun j j0 j1 => ?_)
    rw [fil_ix (by omega) (by rw [fil_len]; omega) (by omega), if_neg (by omega), fil_ix (by omega) (by omega) (by omega), if_pos (by omega)]
    congr 1
    omega
  · refine sli_of hs (fun j j0 j1 => ?_)
    rw [fil_ix (by omega) (by rw [fil_len]; omega) (by omega), if_pos (by omega)]
    rw [show (((15 * (min ((10 : Int) + 1) 10 - 1) + j - 15 * 9).toNat : Nat) : Int) = j by omega]
theorem M_notes (hM : H[74]? = some (7, mdL kd un nk le ap nu me op de fo bs bu)) (hun : 0 ≤ un ∧ un ≤ 10) (hps : H[78]? = some (8, ps)) (hpl : ps.length = 150) (hss : H[77]? = some (8, ss)) (hs15 : ss.length = 15) : ∃ ps2, notR ps ps2 ss un ∧ Call 0 124 [mR 74] H none (pt (pt H 78 ps2) 74 (mdL kd (min (un + 1) 10) nk le ap nu me op de fo bs bu)) := by
  by_cases h10 : un = 10
  · subst h10
    refine ⟨_, not_eq hpl hs15, ?_⟩
    refine Call_of rfl ?_
    refine E_aload_n (pc' := 1) g124_0 rfl rfl ?_
    refine E_getI (pc' := 4) g124_1 f124_78 tg7_4 (by decide) rfl (by first | assumption | exact pt_self (by first | assumption | exact pt_self (by first | assumption | exact pt_self (by first | assumption | exact pt_self (by assumption) | (rw [pt_ne (by omega)]; assumption)) | (rw [pt_ne (by omega)]; first | assumption | exact pt_self (by assumption) | (rw [pt_ne (by omega)]; assumption))) | (rw [pt_ne (by omega)]; first | assumption | exact pt_self (by first | assumption | exact pt_self (by assumption) | (rw [pt_ne (by omega)]; assumption)) | (rw [pt_ne (by omega)]; first | assumption | exact pt_self (by assumption) | (rw [pt_ne (by omega)]; assumption)))) | (rw [pt_ne (by omega)]; first | assumption | exact pt_self (by first | assumption | exact pt_self (by first | assumption | exact pt_self (by assumption) | (rw [pt_ne (by omega)]; assumption)) | (rw [pt_ne (by omega)]; first | assumption | exact pt_self (by assumption) | (rw [pt_ne (by omega)]; assumption))) | (rw [pt_ne (by omega)]; first | assumption | exact pt_self (by first | assumption | exact pt_self (by assumption) | (rw [pt_ne (by omega)]; assumption)) | (rw [pt_ne (by omega)]; first | assumption | exact pt_self (by assumption) | (rw [pt_ne (by omega)]; assumption))))) rfl ?_
    refine E_bipush (pc' := 6) g124_4 (by decide) rfl ?_
    refine E_icne (pc' := 9) (pt := 49) g124_6 rfl rfl (fun c0 => ?_) (fun c0 => ?_)
    · first
      | (exfalso; omega)
      | (exfalso; omega)
    · first
      | (exfalso; omega)
      | (refine E_iconst (pc' := 10) g124_9 (by decide) rfl ?_
         refine E_st1 (pc' := 11) g124_10 rfl ?_
         refine Ev_cast (H := (pt H 78 (fil ps 0 (fun k => ix ps ((k : Int) + 15)) 0))) ?_ rfl (by simp only [fil]; rw [pt_same hps])
         refine E_loop (n := 135) (fun i => Ev 0 124 11 [mR 74, mI (i : Int)] [] (pt H 78 (fil ps 0 (fun k => ix ps ((k : Int) + 15)) i)) none (pt (pt H 78 (fil (fil ps 0 (fun k => ix ps ((k : Int) + 15)) 135) (15 * 9) (fun k => ix ss k) 15)) 74 (mdL kd (min (10 + 1) 10) nk le ap nu me op de fo bs bu))) ?_ ?_ 0 (by omega)
         · intro i hi hh
           refine E_iload_n (pc' := 12) g124_11 rfl rfl ?_
           refine E_sipush (pc' := 15) g124_12 (by decide) rfl ?_
           refine E_icge (pc' := 18) (pt := 39) g124_15 rfl rfl (fun c0 => ?_) (fun c0 => ?_)
           · exact absurd c0 (by omega)
           · refine E_aload_n (pc' := 19) g124_18 rfl rfl ?_
             refine E_getR (pc' := 22) g124_19 f124_19 tg7_5 rfl (by first | assumption | exact pt_self (by first | assumption | exact pt_self (by first | assumption | exact pt_self (by first | assumption | exact pt_self (by assumption) | (rw [pt_ne (by omega)]; assumption)) | (rw [pt_ne (by omega)]; first | assumption | exact pt_self (by assumption) | (rw [pt_ne (by omega)]; assumption))) | (rw [pt_ne (by omega)]; first | assumption | exact pt_self (by first | assumption | exact pt_self (by assumption) | (rw [pt_ne (by omega)]; assumption)) | (rw [pt_ne (by omega)]; first | assumption | exact pt_self (by assumption) | (rw [pt_ne (by omega)]; assumption)))) | (rw [pt_ne (by omega)]; first | assumption | exact pt_self (by first | assumption | exact pt_self (by first | assumption | exact pt_self (by assumption) | (rw [pt_ne (by omega)]; assumption)) | (rw [pt_ne (by omega)]; first | assumption | exact pt_self (by assumption) | (rw [pt_ne (by omega)]; assumption))) | (rw [pt_ne (by omega)]; first | assumption | exact pt_self (by first | assumption | exact pt_self (by assumption) | (rw [pt_ne (by omega)]; assumption)) | (rw [pt_ne (by omega)]; first | assumption | exact pt_self (by assumption) | (rw [pt_ne (by omega)]; assumption))))) rfl ?_
             refine E_iload_n (pc' := 23) g124_22 rfl rfl ?_
             refine E_aload_n (pc' := 24) g124_23 rfl rfl ?_
             refine E_getR (pc' := 27) g124_24 f124_19 tg7_5 rfl (by first | assumption | exact pt_self (by first | assumption | exact pt_self (by first | assumption | exact pt_self (by first | assumption | exact pt_self (by assumption) | (rw [pt_ne (by omega)]; assumption)) | (rw [pt_ne (by omega)]; first | assumption | exact pt_self (by assumption) | (rw [pt_ne (by omega)]; assumption))) | (rw [pt_ne (by omega)]; first | assumption | exact pt_self (by first | assumption | exact pt_self (by assumption) | (rw [pt_ne (by omega)]; assumption)) | (rw [pt_ne (by omega)]; first | assumption | exact pt_self (by assumption) | (rw [pt_ne (by omega)]; assumption)))) | (rw [pt_ne (by omega)]; first | assumption | exact pt_self (by first | assumption | exact pt_self (by first | assumption | exact pt_self (by assumption) | (rw [pt_ne (by omega)]; assumption)) | (rw [pt_ne (by omega)]; first | assumption | exact pt_self (by assumption) | (rw [pt_ne (by omega)]; assumption))) | (rw [pt_ne (by omega)]; first | assumption | exact pt_self (by first | assumption | exact pt_self (by assumption) | (rw [pt_ne (by omega)]; assumption)) | (rw [pt_ne (by omega)]; first | assumption | exact pt_self (by assumption) | (rw [pt_ne (by omega)]; assumption))))) rfl ?_
             refine E_iload_n (pc' := 28) g124_27 rfl rfl ?_
             refine E_bipush (pc' := 30) g124_28 (by decide) rfl ?_
             refine E_iadd (pc' := 31) g124_30 (m_in_iff.mpr (by omega)) rfl ?_
             refine E_iald (pc' := 32) (v := ix ps ((i : Int) + 15)) g124_31 rfl (by first | assumption | exact pt_self (by first | assumption | exact pt_self (by first | assumption | exact pt_self (by first | assumption | exact pt_self (by assumption) | (rw [pt_ne (by omega)]; assumption)) | (rw [pt_ne (by omega)]; first | assumption | exact pt_self (by assumption) | (rw [pt_ne (by omega)]; assumption))) | (rw [pt_ne (by omega)]; first | assumption | exact pt_self (by first | assumption | exact pt_self (by assumption) | (rw [pt_ne (by omega)]; assumption)) | (rw [pt_ne (by omega)]; first | assumption | exact pt_self (by assumption) | (rw [pt_ne (by omega)]; assumption)))) | (rw [pt_ne (by omega)]; first | assumption | exact pt_self (by first | assumption | exact pt_self (by first | assumption | exact pt_self (by assumption) | (rw [pt_ne (by omega)]; assumption)) | (rw [pt_ne (by omega)]; first | assumption | exact pt_self (by assumption) | (rw [pt_ne (by omega)]; assumption))) | (rw [pt_ne (by omega)]; first | assumption | exact pt_self (by first | assumption | exact pt_self (by assumption) | (rw [pt_ne (by omega)]; assumption)) | (rw [pt_ne (by omega)]; first | assumption | exact pt_self (by assumption) | (rw [pt_ne (by omega)]; assumption))))) (by omega) (by rw [fil_len]; omega) (by rw [fil_ix (by omega) (by omega) (by omega), if_neg (by omega)]) ?_
             refine E_iastore (pc' := 33) g124_32 rfl (by first | assumption | exact pt_self (by first | assumption | exact pt_self (by first | assumption | exact pt_self (by first | assumption | exact pt_self (by assumption) | (rw [pt_ne (by omega)]; assumption)) | (rw [pt_ne (by omega)]; first | assumption | exact pt_self (by assumption) | (rw [pt_ne (by omega)]; assumption))) | (rw [pt_ne (by omega)]; first | assumption | exact pt_self (by first | assumption | exact pt_self (by assumption) | (rw [pt_ne (by omega)]; assumption)) | (rw [pt_ne (by omega)]; first | assumption | exact pt_self (by assumption) | (rw [pt_ne (by omega)]; assumption)))) | (rw [pt_ne (by omega)]; first | assumption | exact pt_self (by first | assumption | exact pt_self (by first | assumption | exact pt_self (by assumption) | (rw [pt_ne (by omega)]; assumption)) | (rw [pt_ne (by omega)]; first | assumption | exact pt_self (by assumption) | (rw [pt_ne (by omega)]; assumption))) | (rw [pt_ne (by omega)]; first | assumption | exact pt_self (by first | assumption | exact pt_self (by assumption) | (rw [pt_ne (by omega)]; assumption)) | (rw [pt_ne (by omega)]; first | assumption | exact pt_self (by assumption) | (rw [pt_ne (by omega)]; assumption))))) (by omega) (by rw [fil_len]; omega) ?_
             refine E_in1 (pc' := 36) g124_33 rfl (m_in_iff.mpr (by omega)) ?_
             refine E_goto (pc' := 11) g124_36 rfl ?_
             refine Ev_cast hh rfl ?_
             rw [pt_pt]
             show _ = pt H 78 (up _ (0 + (i : Int)) _)
             rw [Int.zero_add]
         · have hQl : (fil ps 0 (fun k => ix ps ((k : Int) + 15)) 135).length = 150 := by rw [fil_len, hpl]
           generalize (fil ps 0 (fun k => ix ps ((k : Int) + 15)) 135) = Q at hQl ⊢
           refine E_iload_n (pc' := 12) g124_11 rfl rfl ?_
           refine E_sipush (pc' := 15) g124_12 (by decide) rfl ?_
           refine E_icge (pc' := 18) (pt := 39) g124_15 rfl rfl (fun c1 => ?_) (fun c1 => ?_)
           · refine E_aload_n (pc' := 40) g124_39 rfl rfl ?_
             refine E_dup (pc' := 41) g124_40 rfl ?_
             refine E_getI (pc' := 44) g124_41 f124_78 tg7_4 (by decide) rfl (by first | assumption | exact pt_self (by first | assumption | exact pt_self (by first | assumption | exact pt_self (by first | assumption | exact pt_self (by assumption) | (rw [pt_ne (by omega)]; assumption)) | (rw [pt_ne (by omega)]; first | assumption | exact pt_self (by assumption) | (rw [pt_ne (by omega)]; assumption))) | (rw [pt_ne (by omega)]; first | assumption | exact pt_self (by first | assumption | exact pt_self (by assumption) | (rw [pt_ne (by omega)]; assumption)) | (rw [pt_ne (by omega)]; first | assumption | exact pt_self (by assumption) | (rw [pt_ne (by omega)]; assumption)))) | (rw [pt_ne (by omega)]; first | assumption | exact pt_self (by first | assumption | exact pt_self (by first | assumption | exact pt_self (by assumption) | (rw [pt_ne (by omega)]; assumption)) | (rw [pt_ne (by omega)]; first | assumption | exact pt_self (by assumption) | (rw [pt_ne (by omega)]; assumption))) | (rw [pt_ne (by omega)]; first | assumption | exact pt_self (by first | assumption | exact pt_self (by assumption) | (rw [pt_ne (by omega)]; assumption)) | (rw [pt_ne (by omega)]; first | assumption | exact pt_self (by assumption) | (rw [pt_ne (by omega)]; assumption))))) rfl ?_
             refine E_iconst (pc' := 45) g124_44 (by decide) rfl ?_
             refine E_isub (pc' := 46) g124_45 (m_in_iff.mpr (by omega)) rfl ?_
             refine E_putf (pc' := 49) g124_46 f124_78 tg7_4 fn7_4 rfl rfl (by first | assumption | exact pt_self (by first | assumption | exact pt_self (by first | assumption | exact pt_self (by first | assumption | exact pt_self (by assumption) | (rw [pt_ne (by omega)]; assumption)) | (rw [pt_ne (by omega)]; first | assumption | exact pt_self (by assumption) | (rw [pt_ne (by omega)]; assumption))) | (rw [pt_ne (by omega)]; first | assumption | exact pt_self (by first | assumption | exact pt_self (by assumption) | (rw [pt_ne (by omega)]; assumption)) | (rw [pt_ne (by omega)]; first | assumption | exact pt_self (by assumption) | (rw [pt_ne (by omega)]; assumption)))) | (rw [pt_ne (by omega)]; first | assumption | exact pt_self (by first | assumption | exact pt_self (by first | assumption | exact pt_self (by assumption) | (rw [pt_ne (by omega)]; assumption)) | (rw [pt_ne (by omega)]; first | assumption | exact pt_self (by assumption) | (rw [pt_ne (by omega)]; assumption))) | (rw [pt_ne (by omega)]; first | assumption | exact pt_self (by first | assumption | exact pt_self (by assumption) | (rw [pt_ne (by omega)]; assumption)) | (rw [pt_ne (by omega)]; first | assumption | exact pt_self (by assumption) | (rw [pt_ne (by omega)]; assumption))))) (Nat.le_of_ble_eq_true rfl) ?_
             refine E_iconst (pc' := 50) g124_49 (by decide) rfl ?_
             refine E_st1 (pc' := 51) g124_50 rfl ?_
             refine Ev_cast (H := pt (pt H 78 (fil Q (15 * 9) (fun k => ix ss k) 0)) 74 (mdL kd 9 nk le ap nu me op de fo bs bu)) ?_ rfl rfl
             refine E_loop (n := 15) (fun i => Ev 0 124 51 [mR 74, mI (i : Int)] [] (pt (pt H 78 (fil Q (15 * 9) (fun k => ix ss k) i)) 74 (mdL kd 9 nk le ap nu me op de fo bs bu)) none (pt (pt H 78 (fil Q (15 * 9) (fun k => ix ss k) 15)) 74 (mdL kd (min (10 + 1) 10) nk le ap nu me op de fo bs bu))) ?_ ?_ 0 (by omega)
             · intro i hi hh
               refine E_iload_n (pc' := 52) g124_51 rfl rfl ?_
               refine E_bipush (pc' := 54) g124_52 (by decide) rfl ?_
               refine E_icge (pc' := 57) (pt := 83) g124_54 rfl rfl (fun c0 => ?_) (fun c0 => ?_)
               · exact absurd c0 (by omega)
               · refine E_aload_n (pc' := 58) g124_57 rfl rfl ?_
                 refine E_getR (pc' := 61) g124_58 f124_19 tg7_5 rfl (by first | assumption | exact pt_self (by first | assumption | exact pt_self (by first | assumption | exact pt_self (by first | assumption | exact pt_self (by assumption) | (rw [pt_ne (by omega)]; assumption)) | (rw [pt_ne (by omega)]; first | assumption | exact pt_self (by assumption) | (rw [pt_ne (by omega)]; assumption))) | (rw [pt_ne (by omega)]; first | assumption | exact pt_self (by first | assumption | exact pt_self (by assumption) | (rw [pt_ne (by omega)]; assumption)) | (rw [pt_ne (by omega)]; first | assumption | exact pt_self (by assumption) | (rw [pt_ne (by omega)]; assumption)))) | (rw [pt_ne (by omega)]; first | assumption | exact pt_self (by first | assumption | exact pt_self (by first | assumption | exact pt_self (by assumption) | (rw [pt_ne (by omega)]; assumption)) | (rw [pt_ne (by omega)]; first | assumption | exact pt_self (by assumption) | (rw [pt_ne (by omega)]; assumption))) | (rw [pt_ne (by omega)]; first | assumption | exact pt_self (by first | assumption | exact pt_self (by assumption) | (rw [pt_ne (by omega)]; assumption)) | (rw [pt_ne (by omega)]; first | assumption | exact pt_self (by assumption) | (rw [pt_ne (by omega)]; assumption))))) rfl ?_
                 refine E_bipush (pc' := 63) g124_61 (by decide) rfl ?_
                 refine E_aload_n (pc' := 64) g124_63 rfl rfl ?_
                 refine E_getI (pc' := 67) g124_64 f124_78 tg7_4 (by decide) rfl (by first | assumption | exact pt_self (by first | assumption | exact pt_self (by first | assumption | exact pt_self (by first | assumption | exact pt_self (by assumption) | (rw [pt_ne (by omega)]; assumption)) | (rw [pt_ne (by omega)]; first | assumption | exact pt_self (by assumption) | (rw [pt_ne (by omega)]; assumption))) | (rw [pt_ne (by omega)]; first | assumption | exact pt_self (by first | assumption | exact pt_self (by assumption) | (rw [pt_ne (by omega)]; assumption)) | (rw [pt_ne (by omega)]; first | assumption | exact pt_self (by assumption) | (rw [pt_ne (by omega)]; assumption)))) | (rw [pt_ne (by omega)]; first | assumption | exact pt_self (by first | assumption | exact pt_self (by first | assumption | exact pt_self (by assumption) | (rw [pt_ne (by omega)]; assumption)) | (rw [pt_ne (by omega)]; first | assumption | exact pt_self (by assumption) | (rw [pt_ne (by omega)]; assumption))) | (rw [pt_ne (by omega)]; first | assumption | exact pt_self (by first | assumption | exact pt_self (by assumption) | (rw [pt_ne (by omega)]; assumption)) | (rw [pt_ne (by omega)]; first | assumption | exact pt_self (by assumption) | (rw [pt_ne (by omega)]; assumption))))) rfl ?_
                 refine E_imul (pc' := 68) g124_67 (m_in_iff.mpr (by omega)) rfl ?_
                 refine E_iload_n (pc' := 69) g124_68 rfl rfl ?_
                 refine E_iadd (pc' := 70) g124_69 (m_in_iff.mpr (by omega)) rfl ?_
                 refine E_aload_n (pc' := 71) g124_70 rfl rfl ?_
                 refine E_getR (pc' := 74) g124_71 f124_16 tg7_3 rfl (by first | assumption | exact pt_self (by first | assumption | exact pt_self (by first | assumption | exact pt_self (by first | assumption | exact pt_self (by assumption) | (rw [pt_ne (by omega)]; assumption)) | (rw [pt_ne (by omega)]; first | assumption | exact pt_self (by assumption) | (rw [pt_ne (by omega)]; assumption))) | (rw [pt_ne (by omega)]; first | assumption | exact pt_self (by first | assumption | exact pt_self (by assumption) | (rw [pt_ne (by omega)]; assumption)) | (rw [pt_ne (by omega)]; first | assumption | exact pt_self (by assumption) | (rw [pt_ne (by omega)]; assumption)))) | (rw [pt_ne (by omega)]; first | assumption | exact pt_self (by first | assumption | exact pt_self (by first | assumption | exact pt_self (by assumption) | (rw [pt_ne (by omega)]; assumption)) | (rw [pt_ne (by omega)]; first | assumption | exact pt_self (by assumption) | (rw [pt_ne (by omega)]; assumption))) | (rw [pt_ne (by omega)]; first | assumption | exact pt_self (by first | assumption | exact pt_self (by assumption) | (rw [pt_ne (by omega)]; assumption)) | (rw [pt_ne (by omega)]; first | assumption | exact pt_self (by assumption) | (rw [pt_ne (by omega)]; assumption))))) rfl ?_
                 refine E_iload_n (pc' := 75) g124_74 rfl rfl ?_
                 refine E_iaload (pc' := 76) g124_75 rfl (by first | assumption | exact pt_self (by first | assumption | exact pt_self (by first | assumption | exact pt_self (by first | assumption | exact pt_self (by assumption) | (rw [pt_ne (by omega)]; assumption)) | (rw [pt_ne (by omega)]; first | assumption | exact pt_self (by assumption) | (rw [pt_ne (by omega)]; assumption))) | (rw [pt_ne (by omega)]; first | assumption | exact pt_self (by first | assumption | exact pt_self (by assumption) | (rw [pt_ne (by omega)]; assumption)) | (rw [pt_ne (by omega)]; first | assumption | exact pt_self (by assumption) | (rw [pt_ne (by omega)]; assumption)))) | (rw [pt_ne (by omega)]; first | assumption | exact pt_self (by first | assumption | exact pt_self (by first | assumption | exact pt_self (by assumption) | (rw [pt_ne (by omega)]; assumption)) | (rw [pt_ne (by omega)]; first | assumption | exact pt_self (by assumption) | (rw [pt_ne (by omega)]; assumption))) | (rw [pt_ne (by omega)]; first | assumption | exact pt_self (by first | assumption | exact pt_self (by assumption) | (rw [pt_ne (by omega)]; assumption)) | (rw [pt_ne (by omega)]; first | assumption | exact pt_self (by assumption) | (rw [pt_ne (by omega)]; assumption))))) (by omega) (by omega) ?_
                 refine E_iastore (pc' := 77) g124_76 rfl (by first | assumption | exact pt_self (by first | assumption | exact pt_self (by first | assumption | exact pt_self (by first | assumption | exact pt_self (by assumption) | (rw [pt_ne (by omega)]; assumption)) | (rw [pt_ne (by omega)]; first | assumption | exact pt_self (by assumption) | (rw [pt_ne (by omega)]; assumption))) | (rw [pt_ne (by omega)]; first | assumption | exact pt_self (by first | assumption | exact pt_self (by assumption) | (rw [pt_ne (by omega)]; assumption)) | (rw [pt_ne (by omega)]; first | assumption | exact pt_self (by assumption) | (rw [pt_ne (by omega)]; assumption)))) | (rw [pt_ne (by omega)]; first | assumption | exact pt_self (by first | assumption | exact pt_self (by first | assumption | exact pt_self (by assumption) | (rw [pt_ne (by omega)]; assumption)) | (rw [pt_ne (by omega)]; first | assumption | exact pt_self (by assumption) | (rw [pt_ne (by omega)]; assumption))) | (rw [pt_ne (by omega)]; first | assumption | exact pt_self (by first | assumption | exact pt_self (by assumption) | (rw [pt_ne (by omega)]; assumption)) | (rw [pt_ne (by omega)]; first | assumption | exact pt_self (by assumption) | (rw [pt_ne (by omega)]; assumption))))) (by omega) (by rw [fil_len]; omega) ?_
                 refine E_in1 (pc' := 80) g124_77 rfl (m_in_iff.mpr (by omega)) ?_
                 refine E_goto (pc' := 51) g124_80 rfl ?_
                 refine Ev_cast hh rfl ?_
                 rw [pt_swap (a := 74) (b := 78) (by decide), pt_pt]
                 rfl
             · refine E_iload_n (pc' := 52) g124_51 rfl rfl ?_
               refine E_bipush (pc' := 54) g124_52 (by decide) rfl ?_
               refine E_icge (pc' := 57) (pt := 83) g124_54 rfl rfl (fun c1 => ?_) (fun c1 => ?_)
               · refine E_aload_n (pc' := 84) g124_83 rfl rfl ?_
                 refine E_dup (pc' := 85) g124_84 rfl ?_
                 refine E_getI (pc' := 88) g124_85 f124_78 tg7_4 (by decide) rfl (by first | assumption | exact pt_self (by first | assumption | exact pt_self (by first | assumption | exact pt_self (by first | assumption | exact pt_self (by assumption) | (rw [pt_ne (by omega)]; assumption)) | (rw [pt_ne (by omega)]; first | assumption | exact pt_self (by assumption) | (rw [pt_ne (by omega)]; assumption))) | (rw [pt_ne (by omega)]; first | assumption | exact pt_self (by first | assumption | exact pt_self (by assumption) | (rw [pt_ne (by omega)]; assumption)) | (rw [pt_ne (by omega)]; first | assumption | exact pt_self (by assumption) | (rw [pt_ne (by omega)]; assumption)))) | (rw [pt_ne (by omega)]; first | assumption | exact pt_self (by first | assumption | exact pt_self (by first | assumption | exact pt_self (by assumption) | (rw [pt_ne (by omega)]; assumption)) | (rw [pt_ne (by omega)]; first | assumption | exact pt_self (by assumption) | (rw [pt_ne (by omega)]; assumption))) | (rw [pt_ne (by omega)]; first | assumption | exact pt_self (by first | assumption | exact pt_self (by assumption) | (rw [pt_ne (by omega)]; assumption)) | (rw [pt_ne (by omega)]; first | assumption | exact pt_self (by assumption) | (rw [pt_ne (by omega)]; assumption))))) rfl ?_
                 refine E_iconst (pc' := 89) g124_88 (by decide) rfl ?_
                 refine E_iadd (pc' := 90) g124_89 (m_in_iff.mpr (by omega)) rfl ?_
                 refine E_putf (pc' := 93) g124_90 f124_78 tg7_4 fn7_4 rfl rfl (by first | assumption | exact pt_self (by first | assumption | exact pt_self (by first | assumption | exact pt_self (by first | assumption | exact pt_self (by assumption) | (rw [pt_ne (by omega)]; assumption)) | (rw [pt_ne (by omega)]; first | assumption | exact pt_self (by assumption) | (rw [pt_ne (by omega)]; assumption))) | (rw [pt_ne (by omega)]; first | assumption | exact pt_self (by first | assumption | exact pt_self (by assumption) | (rw [pt_ne (by omega)]; assumption)) | (rw [pt_ne (by omega)]; first | assumption | exact pt_self (by assumption) | (rw [pt_ne (by omega)]; assumption)))) | (rw [pt_ne (by omega)]; first | assumption | exact pt_self (by first | assumption | exact pt_self (by first | assumption | exact pt_self (by assumption) | (rw [pt_ne (by omega)]; assumption)) | (rw [pt_ne (by omega)]; first | assumption | exact pt_self (by assumption) | (rw [pt_ne (by omega)]; assumption))) | (rw [pt_ne (by omega)]; first | assumption | exact pt_self (by first | assumption | exact pt_self (by assumption) | (rw [pt_ne (by omega)]; assumption)) | (rw [pt_ne (by omega)]; first | assumption | exact pt_self (by assumption) | (rw [pt_ne (by omega)]; assumption))))) (Nat.le_of_ble_eq_true rfl) ?_
                 exact E_ret g124_93 rt124 rfl (by rw [pt_pt]; rfl)
               · exact absurd c1 (by omega)
           · exact absurd c1 (by omega))
  · refine ⟨_, not_lt (by omega) (by omega) hpl hs15, ?_⟩
    refine Call_of rfl ?_
    refine E_aload_n (pc' := 1) g124_0 rfl rfl ?_
    refine E_getI (pc' := 4) g124_1 f124_78 tg7_4 (by decide) rfl (by first | assumption | exact pt_self (by first | assumption | exact pt_self (by first | assumption | exact pt_self (by first | assumption | exact pt_self (by assumption) | (rw [pt_ne (by omega)]; assumption)) | (rw [pt_ne (by omega)]; first | assumption | exact pt_self (by assumption) | (rw [pt_ne (by omega)]; assumption))) | (rw [pt_ne (by omega)]; first | assumption | exact pt_self (by first | assumption | exact pt_self (by assumption) | (rw [pt_ne (by omega)]; assumption)) | (rw [pt_ne (by omega)]; first | assumption | exact pt_self (by assumption) | (rw [pt_ne (by omega)]; assumption)))) | (rw [pt_ne (by omega)]; first | assumption | exact pt_self (by first | assumption | exact pt_self (by first | assumption | exact pt_self (by assumption) | (rw [pt_ne (by omega)]; assumption)) | (rw [pt_ne (by omega)]; first | assumption | exact pt_self (by assumption) | (rw [pt_ne (by omega)]; assumption))) | (rw [pt_ne (by omega)]; first | assumption | exact pt_self (by first | assumption | exact pt_self (by assumption) | (rw [pt_ne (by omega)]; assumption)) | (rw [pt_ne (by omega)]; first | assumption | exact pt_self (by assumption) | (rw [pt_ne (by omega)]; assumption))))) rfl ?_
    refine E_bipush (pc' := 6) g124_4 (by decide) rfl ?_
    refine E_icne (pc' := 9) (pt := 49) g124_6 rfl rfl (fun c0 => ?_) (fun c0 => ?_)
    · first
      | (exfalso; omega)
      | (refine E_iconst (pc' := 50) g124_49 (by decide) rfl ?_
         refine E_st1 (pc' := 51) g124_50 rfl ?_
         refine Ev_cast (H := pt H 78 (fil ps (15 * un) (fun k => ix ss k) 0)) ?_ rfl (by simp only [fil]; rw [pt_same hps])
         refine E_loop (n := 15) (fun i => Ev 0 124 51 [mR 74, mI (i : Int)] [] (pt H 78 (fil ps (15 * un) (fun k => ix ss k) i)) none (pt (pt H 78 (fil ps (15 * un) (fun k => ix ss k) 15)) 74 (mdL kd (min (un + 1) 10) nk le ap nu me op de fo bs bu))) ?_ ?_ 0 (by omega)
         · intro i hi hh
           refine E_iload_n (pc' := 52) g124_51 rfl rfl ?_
           refine E_bipush (pc' := 54) g124_52 (by decide) rfl ?_
           refine E_icge (pc' := 57) (pt := 83) g124_54 rfl rfl (fun c0 => ?_) (fun c0 => ?_)
           · exact absurd c0 (by omega)
           · refine E_aload_n (pc' := 58) g124_57 rfl rfl ?_
             refine E_getR (pc' := 61) g124_58 f124_19 tg7_5 rfl (by first | assumption | exact pt_self (by first | assumption | exact pt_self (by first | assumption | exact pt_self (by first | assumption | exact pt_self (by assumption) | (rw [pt_ne (by omega)]; assumption)) | (rw [pt_ne (by omega)]; first | assumption | exact pt_self (by assumption) | (rw [pt_ne (by omega)]; assumption))) | (rw [pt_ne (by omega)]; first | assumption | exact pt_self (by first | assumption | exact pt_self (by assumption) | (rw [pt_ne (by omega)]; assumption)) | (rw [pt_ne (by omega)]; first | assumption | exact pt_self (by assumption) | (rw [pt_ne (by omega)]; assumption)))) | (rw [pt_ne (by omega)]; first | assumption | exact pt_self (by first | assumption | exact pt_self (by first | assumption | exact pt_self (by assumption) | (rw [pt_ne (by omega)]; assumption)) | (rw [pt_ne (by omega)]; first | assumption | exact pt_self (by assumption) | (rw [pt_ne (by omega)]; assumption))) | (rw [pt_ne (by omega)]; first | assumption | exact pt_self (by first | assumption | exact pt_self (by assumption) | (rw [pt_ne (by omega)]; assumption)) | (rw [pt_ne (by omega)]; first | assumption | exact pt_self (by assumption) | (rw [pt_ne (by omega)]; assumption))))) rfl ?_
             refine E_bipush (pc' := 63) g124_61 (by decide) rfl ?_
             refine E_aload_n (pc' := 64) g124_63 rfl rfl ?_
             refine E_getI (pc' := 67) g124_64 f124_78 tg7_4 (by decide) rfl (by first | assumption | exact pt_self (by first | assumption | exact pt_self (by first | assumption | exact pt_self (by first | assumption | exact pt_self (by assumption) | (rw [pt_ne (by omega)]; assumption)) | (rw [pt_ne (by omega)]; first | assumption | exact pt_self (by assumption) | (rw [pt_ne (by omega)]; assumption))) | (rw [pt_ne (by omega)]; first | assumption | exact pt_self (by first | assumption | exact pt_self (by assumption) | (rw [pt_ne (by omega)]; assumption)) | (rw [pt_ne (by omega)]; first | assumption | exact pt_self (by assumption) | (rw [pt_ne (by omega)]; assumption)))) | (rw [pt_ne (by omega)]; first | assumption | exact pt_self (by first | assumption | exact pt_self (by first | assumption | exact pt_self (by assumption) | (rw [pt_ne (by omega)]; assumption)) | (rw [pt_ne (by omega)]; first | assumption | exact pt_self (by assumption) | (rw [pt_ne (by omega)]; assumption))) | (rw [pt_ne (by omega)]; first | assumption | exact pt_self (by first | assumption | exact pt_self (by assumption) | (rw [pt_ne (by omega)]; assumption)) | (rw [pt_ne (by omega)]; first | assumption | exact pt_self (by assumption) | (rw [pt_ne (by omega)]; assumption))))) rfl ?_
             refine E_imul (pc' := 68) g124_67 (m_in_iff.mpr (by omega)) rfl ?_
             refine E_iload_n (pc' := 69) g124_68 rfl rfl ?_
             refine E_iadd (pc' := 70) g124_69 (m_in_iff.mpr (by omega)) rfl ?_
             refine E_aload_n (pc' := 71) g124_70 rfl rfl ?_
             refine E_getR (pc' := 74) g124_71 f124_16 tg7_3 rfl (by first | assumption | exact pt_self (by first | assumption | exact pt_self (by first | assumption | exact pt_self (by first | assumption | exact pt_self (by assumption) | (rw [pt_ne (by omega)]; assumption)) | (rw [pt_ne (by omega)]; first | assumption | exact pt_self (by assumption) | (rw [pt_ne (by omega)]; assumption))) | (rw [pt_ne (by omega)]; first | assumption | exact pt_self (by first | assumption | exact pt_self (by assumption) | (rw [pt_ne (by omega)]; assumption)) | (rw [pt_ne (by omega)]; first | assumption | exact pt_self (by assumption) | (rw [pt_ne (by omega)]; assumption)))) | (rw [pt_ne (by omega)]; first | assumption | exact pt_self (by first | assumption | exact pt_self (by first | assumption | exact pt_self (by assumption) | (rw [pt_ne (by omega)]; assumption)) | (rw [pt_ne (by omega)]; first | assumption | exact pt_self (by assumption) | (rw [pt_ne (by omega)]; assumption))) | (rw [pt_ne (by omega)]; first | assumption | exact pt_self (by first | assumption | exact pt_self (by assumption) | (rw [pt_ne (by omega)]; assumption)) | (rw [pt_ne (by omega)]; first | assumption | exact pt_self (by assumption) | (rw [pt_ne (by omega)]; assumption))))) rfl ?_
             refine E_iload_n (pc' := 75) g124_74 rfl rfl ?_
             refine E_iaload (pc' := 76) g124_75 rfl (by first | assumption | exact pt_self (by first | assumption | exact pt_self (by first | assumption | exact pt_self (by first | assumption | exact pt_self (by assumption) | (rw [pt_ne (by omega)]; assumption)) | (rw [pt_ne (by omega)]; first | assumption | exact pt_self (by assumption) | (rw [pt_ne (by omega)]; assumption))) | (rw [pt_ne (by omega)]; first | assumption | exact pt_self (by first | assumption | exact pt_self (by assumption) | (rw [pt_ne (by omega)]; assumption)) | (rw [pt_ne (by omega)]; first | assumption | exact pt_self (by assumption) | (rw [pt_ne (by omega)]; assumption)))) | (rw [pt_ne (by omega)]; first | assumption | exact pt_self (by first | assumption | exact pt_self (by first | assumption | exact pt_self (by assumption) | (rw [pt_ne (by omega)]; assumption)) | (rw [pt_ne (by omega)]; first | assumption | exact pt_self (by assumption) | (rw [pt_ne (by omega)]; assumption))) | (rw [pt_ne (by omega)]; first | assumption | exact pt_self (by first | assumption | exact pt_self (by assumption) | (rw [pt_ne (by omega)]; assumption)) | (rw [pt_ne (by omega)]; first | assumption | exact pt_self (by assumption) | (rw [pt_ne (by omega)]; assumption))))) (by omega) (by omega) ?_
             refine E_iastore (pc' := 77) g124_76 rfl (by first | assumption | exact pt_self (by first | assumption | exact pt_self (by first | assumption | exact pt_self (by first | assumption | exact pt_self (by assumption) | (rw [pt_ne (by omega)]; assumption)) | (rw [pt_ne (by omega)]; first | assumption | exact pt_self (by assumption) | (rw [pt_ne (by omega)]; assumption))) | (rw [pt_ne (by omega)]; first | assumption | exact pt_self (by first | assumption | exact pt_self (by assumption) | (rw [pt_ne (by omega)]; assumption)) | (rw [pt_ne (by omega)]; first | assumption | exact pt_self (by assumption) | (rw [pt_ne (by omega)]; assumption)))) | (rw [pt_ne (by omega)]; first | assumption | exact pt_self (by first | assumption | exact pt_self (by first | assumption | exact pt_self (by assumption) | (rw [pt_ne (by omega)]; assumption)) | (rw [pt_ne (by omega)]; first | assumption | exact pt_self (by assumption) | (rw [pt_ne (by omega)]; assumption))) | (rw [pt_ne (by omega)]; first | assumption | exact pt_self (by first | assumption | exact pt_self (by assumption) | (rw [pt_ne (by omega)]; assumption)) | (rw [pt_ne (by omega)]; first | assumption | exact pt_self (by assumption) | (rw [pt_ne (by omega)]; assumption))))) (by omega) (by rw [fil_len]; omega) ?_
             refine E_in1 (pc' := 80) g124_77 rfl (m_in_iff.mpr (by omega)) ?_
             refine E_goto (pc' := 51) g124_80 rfl ?_
             refine Ev_cast hh rfl ?_
             rw [pt_pt]
             rfl
         · refine E_iload_n (pc' := 52) g124_51 rfl rfl ?_
           refine E_bipush (pc' := 54) g124_52 (by decide) rfl ?_
           refine E_icge (pc' := 57) (pt := 83) g124_54 rfl rfl (fun c1 => ?_) (fun c1 => ?_)
           · refine E_aload_n (pc' := 84) g124_83 rfl rfl ?_
             refine E_dup (pc' := 85) g124_84 rfl ?_
             refine E_getI (pc' := 88) g124_85 f124_78 tg7_4 (by decide) rfl (by first | assumption | exact pt_self (by first | assumption | exact pt_self (by first | assumption | exact pt_self (by first | assumption | exact pt_self (by assumption) | (rw [pt_ne (by omega)]; assumption)) | (rw [pt_ne (by omega)]; first | assumption | exact pt_self (by assumption) | (rw [pt_ne (by omega)]; assumption))) | (rw [pt_ne (by omega)]; first | assumption | exact pt_self (by first | assumption | exact pt_self (by assumption) | (rw [pt_ne (by omega)]; assumption)) | (rw [pt_ne (by omega)]; first | assumption | exact pt_self (by assumption) | (rw [pt_ne (by omega)]; assumption)))) | (rw [pt_ne (by omega)]; first | assumption | exact pt_self (by first | assumption | exact pt_self (by first | assumption | exact pt_self (by assumption) | (rw [pt_ne (by omega)]; assumption)) | (rw [pt_ne (by omega)]; first | assumption | exact pt_self (by assumption) | (rw [pt_ne (by omega)]; assumption))) | (rw [pt_ne (by omega)]; first | assumption | exact pt_self (by first | assumption | exact pt_self (by assumption) | (rw [pt_ne (by omega)]; assumption)) | (rw [pt_ne (by omega)]; first | assumption | exact pt_self (by assumption) | (rw [pt_ne (by omega)]; assumption))))) rfl ?_
             refine E_iconst (pc' := 89) g124_88 (by decide) rfl ?_
             refine E_iadd (pc' := 90) g124_89 (m_in_iff.mpr (by omega)) rfl ?_
             refine E_putf (pc' := 93) g124_90 f124_78 tg7_4 fn7_4 rfl rfl (by first | assumption | exact pt_self (by first | assumption | exact pt_self (by first | assumption | exact pt_self (by first | assumption | exact pt_self (by assumption) | (rw [pt_ne (by omega)]; assumption)) | (rw [pt_ne (by omega)]; first | assumption | exact pt_self (by assumption) | (rw [pt_ne (by omega)]; assumption))) | (rw [pt_ne (by omega)]; first | assumption | exact pt_self (by first | assumption | exact pt_self (by assumption) | (rw [pt_ne (by omega)]; assumption)) | (rw [pt_ne (by omega)]; first | assumption | exact pt_self (by assumption) | (rw [pt_ne (by omega)]; assumption)))) | (rw [pt_ne (by omega)]; first | assumption | exact pt_self (by first | assumption | exact pt_self (by first | assumption | exact pt_self (by assumption) | (rw [pt_ne (by omega)]; assumption)) | (rw [pt_ne (by omega)]; first | assumption | exact pt_self (by assumption) | (rw [pt_ne (by omega)]; assumption))) | (rw [pt_ne (by omega)]; first | assumption | exact pt_self (by first | assumption | exact pt_self (by assumption) | (rw [pt_ne (by omega)]; assumption)) | (rw [pt_ne (by omega)]; first | assumption | exact pt_self (by assumption) | (rw [pt_ne (by omega)]; assumption))))) (Nat.le_of_ble_eq_true rfl) ?_
             exact E_ret g124_93 rt124 rfl (by rw [show min (un + 1) 10 = un + 1 by omega]; rfl)
           · exact absurd c1 (by omega))
    · first
      | (exfalso; omega)
      | (refine E_iconst (pc' := 10) g124_9 (by decide) rfl ?_
         refine E_st1 (pc' := 11) g124_10 rfl ?_
         exfalso; omega)
end MQ
