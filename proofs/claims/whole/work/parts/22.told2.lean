/-! the rest of Told -/
def al (p : Nat → Bool) : Nat → Bool
  | 0 => true
  | n + 1 => al p n && p n
theorem al_iff {p : Nat → Bool} : ∀ {n : Nat}, al p n = true ↔ ∀ i, i < n → p i = true
  | 0 => by simp [al]
  | n + 1 => by
    simp only [al, Bool.and_eq_true, al_iff]
    constructor
    · rintro ⟨h1, h2⟩ i hi
      rcases Nat.lt_or_ge i n with q | q
      · exact h1 i q
      · rw [show i = n by omega]; exact h2
    · intro h
      exact ⟨fun i hi => h i (by omega), h n (by omega)⟩
def lkB (ed : List Int) (x z : Int) : Bool := al (fun h => decide (eo ed x h = eo ed z h)) 4
theorem lkB_iff {ed : List Int} {x z : Int} : lkB ed x z = true ↔ lk ed x z := by
  unfold lkB lk
  rw [al_iff]
  simp
def plB (ed : List Int) (x : Int) : Bool := al (fun j => !(lkB ed (x - x.tmod 4 + j) x)) (x.tmod 4).toNat
theorem plB_iff {ed : List Int} {x : Int} (hx : 0 ≤ x) : plB ed x = true ↔ plain ed x := by
  have q := tm4 hx
  unfold plB plain
  rw [al_iff]
  constructor
  · intro h z h1 h2 h3
    have := h (z - (x - x.tmod 4)).toNat (by omega)
    rw [show x - x.tmod 4 + (((z - (x - x.tmod 4)).toNat : Nat) : Int) = z by omega] at this
    rw [lkB_iff.mpr h3] at this
    cases this
  · intro h i hi
    have := h (x - x.tmod 4 + i) (by omega) (by omega)
    cases hb : lkB ed (x - x.tmod 4 + i) x with
    | false => rfl
    | true => exact absurd (lkB_iff.mp hb) this
def b01 (b : Bool) : Int := if b = true then 1 else 0
theorem b01_in (b : Bool) : b01 b = 0 ∨ b01 b = 1 := by cases b <;> simp [b01]
section TE
variable {H : mH} {a b t : Nat} {bl sl bl2 sl2 : List Int} {kd wd ht rm mo sd bo : Int} {ed hu sk hv : List Int}
theorem C_plain (hT : isTold H a kd wd ht rm mo sd bo ed hu sk hv) {x : Int} (hx : 0 ≤ x ∧ x < 24) : Call 2 38 [mR a, mI x] H (mI (b01 (plB ed x))) H := by
  refine C_isPlain hT hx ⟨fun q => ?_, fun q => ?_⟩
  · rw [(plB_iff hx.1).mpr q]; rfl
  · cases h : plB ed x with
    | true => exact absurd ((plB_iff hx.1).mp h) q
    | false => rfl
theorem told_hv (hT : isTold H a kd wd ht rm mo sd bo ed hu sk hv) {L : List Int} (hl : L.length = 40) (hb : bet L 0 16777215) : isTold (pt H (a + 4) L) a kd wd ht rm mo sd bo ed hu sk L := by
  obtain ⟨t0, t1, t2, t3, t4, ⟨r1, r2, r3, r4, r5, r6, r7, b1, b2, b3, b4, n1, n2, n3, n4⟩⟩ := hT
  refine ⟨by rw [pt_ne (by omega)]; exact t0, by rw [pt_ne (by omega)]; exact t1, by rw [pt_ne (by omega)]; exact t2, by rw [pt_ne (by omega)]; exact t3, pt_self t4, r1, r2, r3, r4, r5, r6, r7, b1, b2, b3, hb, n1, n2, n3, hl⟩
/-- the plain blocks by hand and edge, as the code gathers them -/
def hv1 (ed : List Int) (x : Int) (L : List Int) : Nat → List Int
  | 0 => L
  | h + 1 => up (hv1 ed x L h) (10 * h + eo ed x h) (m_or (ix (hv1 ed x L h) (10 * h + eo ed x h)) (m_shl 1 x))
def hvs (ed : List Int) : Nat → List Int
  | 0 => List.replicate 40 0
  | x + 1 => if plB ed x = true then hv1 ed x (hvs ed x) 4 else hvs ed x
theorem eo_bd (hb : bet ed 0 9) {x h : Int} (hx : 0 ≤ x ∧ x < 24) (hh : 0 ≤ h ∧ h < 4) : 0 ≤ eo ed x h ∧ eo ed x h ≤ 9 := by
  unfold eo
  rw [if_pos (by omega)]
  exact hb _
theorem bet_up {L : List Int} {lo hi i v : Int} (hb : bet L lo hi) (hi0 : 0 ≤ i) (hl : i < L.length) (hv : lo ≤ v ∧ v ≤ hi) : bet (up L i v) lo hi := by
  intro j
  by_cases hj : 0 ≤ j
  · rw [ix_up hi0 hl hj]
    split
    · exact hv
    · exact hb j
  · have e : ix (up L i v) j = ix (up L i v) 0 := by unfold ix; rw [show j.toNat = (0 : Int).toNat by omega]
    rw [e, ix_up hi0 hl (by omega)]
    split
    · exact hv
    · exact hb 0
theorem hv1_ok (he : bet ed 0 9) {x : Int} (hx : 0 ≤ x ∧ x < 24) {L : List Int} (hl : L.length = 40) (hb : bet L 0 16777215) : ∀ n, n ≤ 4 → (hv1 ed x L n).length = 40 ∧ bet (hv1 ed x L n) 0 16777215
  | 0, _ => ⟨hl, hb⟩
  | n + 1, hn => by
    obtain ⟨i1, i2⟩ := hv1_ok he hx hl hb n (by omega)
    have q := eo_bd he hx (h := n) (by omega)
    refine ⟨by simp only [hv1, up_len]; exact i1, ?_⟩
    simp only [hv1]
    exact bet_up i2 (by omega) (by omega) (m_or_in (i2 _) (m_shl_in hx.1 hx.2))
theorem hvs_ok (he : bet ed 0 9) : ∀ n : Nat, n ≤ 24 → (hvs ed n).length = 40 ∧ bet (hvs ed n) 0 16777215
  | 0, _ => by
    refine ⟨by simp [hvs], fun i => ?_⟩
    have : ix (hvs ed 0) i = 0 := by
      unfold ix hvs
      rw [List.getD_eq_getElem?_getD, List.getElem?_replicate]
      split <;> rfl
    omega
  | n + 1, hn => by
    obtain ⟨i1, i2⟩ := hvs_ok he n (by omega)
    simp only [hvs]
    split
    · exact hv1_ok he (by omega) i1 i2 4 (by omega)
    · exact ⟨i1, i2⟩
theorem C_settleBlocks (hT : isTold H a kd wd ht rm mo sd bo ed hu sk hv) : Call 3 40 [mR a] H none (pt H (a + 4) (hvs ed (4 * kd).toNat)) := by
  have hT0 := hT
  obtain ⟨t0, t1, t2, t3, t4, ⟨r1, r2, r3, r4, r5, r6, r7, b1, b2, b3, b4, n1, n2, n3, n4⟩⟩ := hT
  obtain ⟨n, hn⟩ : ∃ n : Nat, (n : Int) = 4 * kd := ⟨(4 * kd).toNat, by omega⟩
  rw [show (4 * kd).toNat = n by omega]
  refine Call_of rfl ?_
  refine E_aload_n (pc' := 1) g40_0 rfl rfl ?_
  refine E_getR (pc' := 4) g40_1 f40_21 tg4_10 rfl (by assumption) rfl ?_
  refine E_iconst (pc' := 5) g40_4 (by decide) rfl ?_
  refine E_cS2v (pc' := 8) g40_5 k40_62 na161 rfl rfl (Nat.le_of_ble_eq_true rfl) (C_fill t4 (by omega)) (by decide) ?_
  refine E_iconst (pc' := 9) g40_8 (by decide) rfl ?_
  refine E_st1 (pc' := 10) g40_9 rfl ?_
  rw [n4]
  suffices key : ∀ i : Nat, i ≤ n → ∀ x : mV, Ev 3 40 10 [mR a, mI (i : Int), x] [] (pt H (a + 4) (hvs ed i)) none (pt H (a + 4) (hvs ed n)) from key 0 (by omega) none
  refine E_loop (n := n) (fun i => ∀ x : mV, Ev 3 40 10 [mR a, mI (i : Int), x] [] (pt H (a + 4) (hvs ed i)) none (pt H (a + 4) (hvs ed n))) ?_ ?_
  · intro i hi hh
    intro x
    obtain ⟨o1, o2⟩ := hvs_ok b1 i (by omega)
    have hT1 := told_hv hT0 o1 o2
    refine E_iload_n (pc' := 11) g40_10 rfl rfl ?_
    refine E_aload_n (pc' := 12) g40_11 rfl rfl ?_
    refine E_getI (pc' := 15) g40_12 f40_27 tg4_0 (by decide) rfl (by first | assumption | exact pt_self (by first | assumption | exact pt_self (by first | assumption | exact pt_self (by assumption) | (rw [pt_ne (by omega)]; assumption)) | (rw [pt_ne (by omega)]; first | assumption | exact pt_self (by assumption) | (rw [pt_ne (by omega)]; assumption))) | (rw [pt_ne (by omega)]; first | assumption | exact pt_self (by first | assumption | exact pt_self (by assumption) | (rw [pt_ne (by omega)]; assumption)) | (rw [pt_ne (by omega)]; first | assumption | exact pt_self (by assumption) | (rw [pt_ne (by omega)]; assumption)))) rfl ?_
    refine E_iconst (pc' := 16) g40_15 (by decide) rfl ?_
    refine E_imul (pc' := 17) g40_16 (m_in_iff.mpr (by omega)) rfl ?_
    refine E_icge (pc' := 20) (pt := 69) g40_17 rfl rfl (fun c0 => ?_) (fun c0 => ?_)
    · exact absurd c0 (by omega)
    · refine E_aload_n (pc' := 21) g40_20 rfl rfl ?_
      refine E_iload_n (pc' := 22) g40_21 rfl rfl ?_
      refine E_cV1i (pc' := 25) g40_22 k40_68 na38 rfl ow38 rfl (Nat.le_of_ble_eq_true rfl) (by first | assumption | exact pt_self (by first | assumption | exact pt_self (by first | assumption | exact pt_self (by assumption) | (rw [pt_ne (by omega)]; assumption)) | (rw [pt_ne (by omega)]; first | assumption | exact pt_self (by assumption) | (rw [pt_ne (by omega)]; assumption))) | (rw [pt_ne (by omega)]; first | assumption | exact pt_self (by first | assumption | exact pt_self (by assumption) | (rw [pt_ne (by omega)]; assumption)) | (rw [pt_ne (by omega)]; first | assumption | exact pt_self (by assumption) | (rw [pt_ne (by omega)]; assumption)))) (C_plain hT1 (x := i) (by omega)) (by decide) ?_
      refine E_ifeq (pc' := 28) (pt := 63) g40_25 rfl rfl (fun c1 => ?_) (fun c1 => ?_)
      · have hp : ¬ plB ed i = true := by intro q; rw [q] at c1; simp [b01] at c1
        refine E_in1 (pc' := 66) g40_63 rfl (m_in_iff.mpr (by omega)) ?_
        refine E_goto (pc' := 10) g40_66 rfl ?_
        refine Ev_cast (hh _) rfl ?_
        simp only [hvs, if_neg hp]
      · have hp : plB ed i = true := by cases q : plB ed i with
          | true => rfl
          | false => rw [q] at c1; simp [b01] at c1
        refine E_iconst (pc' := 29) g40_28 (by decide) rfl ?_
        refine E_st2 (pc' := 30) g40_29 rfl ?_
        refine Ev_cast (H := pt H (a + 4) (hv1 ed i (hvs ed i) 0)) ?_ rfl rfl
        refine E_loop (n := 4) (fun j => Ev 3 40 30 [mR a, mI (i : Int), mI (j : Int)] [] (pt H (a + 4) (hv1 ed i (hvs ed i) j)) none (pt H (a + 4) (hvs ed n))) ?_ ?_ 0 (by omega)
        · intro j hj hh2
          obtain ⟨i1, i2⟩ := hv1_ok b1 (x := i) (by omega) o1 o2 j (by omega)
          have hT2 := told_hv hT0 i1 i2
          have q := eo_bd b1 (x := i) (h := j) (by omega) (by omega)
          refine E_iload_n (pc' := 31) g40_30 rfl rfl ?_
          refine E_iconst (pc' := 32) g40_31 (by decide) rfl ?_
          refine E_icge (pc' := 35) (pt := 63) g40_32 rfl rfl (fun c0 => ?_) (fun c0 => ?_)
          · exact absurd c0 (by omega)
          · refine E_aload_n (pc' := 36) g40_35 rfl rfl ?_
            refine E_getR (pc' := 39) g40_36 f40_21 tg4_10 rfl (by first | assumption | exact pt_self (by first | assumption | exact pt_self (by first | assumption | exact pt_self (by assumption) | (rw [pt_ne (by omega)]; assumption)) | (rw [pt_ne (by omega)]; first | assumption | exact pt_self (by assumption) | (rw [pt_ne (by omega)]; assumption))) | (rw [pt_ne (by omega)]; first | assumption | exact pt_self (by first | assumption | exact pt_self (by assumption) | (rw [pt_ne (by omega)]; assumption)) | (rw [pt_ne (by omega)]; first | assumption | exact pt_self (by assumption) | (rw [pt_ne (by omega)]; assumption)))) rfl ?_
            refine E_bipush (pc' := 41) g40_39 (by decide) rfl ?_
            refine E_iload_n (pc' := 42) g40_41 rfl rfl ?_
            refine E_imul (pc' := 43) g40_42 (m_in_iff.mpr (by omega)) rfl ?_
            refine E_aload_n (pc' := 44) g40_43 rfl rfl ?_
            refine E_iload_n (pc' := 45) g40_44 rfl rfl ?_
            refine E_iload_n (pc' := 46) g40_45 rfl rfl ?_
            refine E_cV2i (pc' := 49) g40_46 k40_59 na37 rfl ow37 rfl (Nat.le_of_ble_eq_true rfl) (by first | assumption | exact pt_self (by first | assumption | exact pt_self (by first | assumption | exact pt_self (by assumption) | (rw [pt_ne (by omega)]; assumption)) | (rw [pt_ne (by omega)]; first | assumption | exact pt_self (by assumption) | (rw [pt_ne (by omega)]; assumption))) | (rw [pt_ne (by omega)]; first | assumption | exact pt_self (by first | assumption | exact pt_self (by assumption) | (rw [pt_ne (by omega)]; assumption)) | (rw [pt_ne (by omega)]; first | assumption | exact pt_self (by assumption) | (rw [pt_ne (by omega)]; assumption)))) (C_edgeOf hT2) (by decide) ?_
            refine E_iadd (pc' := 50) g40_49 (m_in_iff.mpr (by omega)) rfl ?_
            refine E_dup2 (pc' := 51) g40_50 rfl ?_
            refine E_iaload (pc' := 52) g40_51 rfl (by first | assumption | exact pt_self (by first | assumption | exact pt_self (by first | assumption | exact pt_self (by assumption) | (rw [pt_ne (by omega)]; assumption)) | (rw [pt_ne (by omega)]; first | assumption | exact pt_self (by assumption) | (rw [pt_ne (by omega)]; assumption))) | (rw [pt_ne (by omega)]; first | assumption | exact pt_self (by first | assumption | exact pt_self (by assumption) | (rw [pt_ne (by omega)]; assumption)) | (rw [pt_ne (by omega)]; first | assumption | exact pt_self (by assumption) | (rw [pt_ne (by omega)]; assumption)))) (by omega) (by omega) ?_
            refine E_iconst (pc' := 53) g40_52 (by decide) rfl ?_
            refine E_iload_n (pc' := 54) g40_53 rfl rfl ?_
            refine E_ishl (pc' := 55) g40_54 rfl ?_
            refine E_ior (pc' := 56) g40_55 rfl ?_
            refine E_iastore (pc' := 57) g40_56 rfl (by first | assumption | exact pt_self (by first | assumption | exact pt_self (by first | assumption | exact pt_self (by assumption) | (rw [pt_ne (by omega)]; assumption)) | (rw [pt_ne (by omega)]; first | assumption | exact pt_self (by assumption) | (rw [pt_ne (by omega)]; assumption))) | (rw [pt_ne (by omega)]; first | assumption | exact pt_self (by first | assumption | exact pt_self (by assumption) | (rw [pt_ne (by omega)]; assumption)) | (rw [pt_ne (by omega)]; first | assumption | exact pt_self (by assumption) | (rw [pt_ne (by omega)]; assumption)))) (by omega) (by omega) ?_
            refine E_in2 (pc' := 60) g40_57 rfl (m_in_iff.mpr (by omega)) ?_
            refine E_goto (pc' := 30) g40_60 rfl ?_
            refine Ev_cast hh2 rfl ?_
            rw [pt_pt]
            rfl
        · refine E_iload_n (pc' := 31) g40_30 rfl rfl ?_
          refine E_iconst (pc' := 32) g40_31 (by decide) rfl ?_
          refine E_icge (pc' := 35) (pt := 63) g40_32 rfl rfl (fun c1 => ?_) (fun c1 => ?_)
          · refine E_in1 (pc' := 66) g40_63 rfl (m_in_iff.mpr (by omega)) ?_
            refine E_goto (pc' := 10) g40_66 rfl ?_
            refine Ev_cast (hh _) rfl ?_
            simp only [hvs, if_pos hp]
          · exact absurd c1 (by omega)
  · intro x
    obtain ⟨o1, o2⟩ := hvs_ok b1 n (by omega)
    have hT1 := told_hv hT0 o1 o2
    refine E_iload_n (pc' := 11) g40_10 rfl rfl ?_
    refine E_aload_n (pc' := 12) g40_11 rfl rfl ?_
    refine E_getI (pc' := 15) g40_12 f40_27 tg4_0 (by decide) rfl (by first | assumption | exact pt_self (by first | assumption | exact pt_self (by first | assumption | exact pt_self (by assumption) | (rw [pt_ne (by omega)]; assumption)) | (rw [pt_ne (by omega)]; first | assumption | exact pt_self (by assumption) | (rw [pt_ne (by omega)]; assumption))) | (rw [pt_ne (by omega)]; first | assumption | exact pt_self (by first | assumption | exact pt_self (by assumption) | (rw [pt_ne (by omega)]; assumption)) | (rw [pt_ne (by omega)]; first | assumption | exact pt_self (by assumption) | (rw [pt_ne (by omega)]; assumption)))) rfl ?_
    refine E_iconst (pc' := 16) g40_15 (by decide) rfl ?_
    refine E_imul (pc' := 17) g40_16 (m_in_iff.mpr (by omega)) rfl ?_
    refine E_icge (pc' := 20) (pt := 69) g40_17 rfl rfl (fun c2 => ?_) (fun c2 => ?_)
    · exact E_ret g40_69 rt40 rfl rfl
    · exact absurd c2 (by omega)
/-- the plain blocks with an edge on a hand -/
def pw (hv : List Int) (h e : Int) : Int := if 0 ≤ h ∧ h < 4 ∧ 0 ≤ e ∧ e < 10 then ix hv (10 * h + e) else 0
theorem C_plainWith (hT : isTold H a kd wd ht rm mo sd bo ed hu sk hv) {h e : Int} : Call 0 41 [mR a, mI h, mI e] H (mI (pw hv h e)) H := by
  obtain ⟨t0, t1, t2, t3, t4, ⟨r1, r2, r3, r4, r5, r6, r7, b1, b2, b3, b4, n1, n2, n3, n4⟩⟩ := hT
  refine Call_of rfl ?_
  refine E_iload_n (pc' := 1) g41_0 rfl rfl ?_
  refine E_iflt (pc' := 4) (pt := 19) g41_1 rfl rfl (fun c0 => ?_) (fun c0 => ?_)
  · refine E_iconst (pc' := 20) g41_19 (by decide) rfl ?_
    exact E_iret g41_20 ro41 (by unfold pw; first | rw [if_pos (by omega)] | rw [if_neg (by omega)]) rfl
  · refine E_iload_n (pc' := 5) g41_4 rfl rfl ?_
    refine E_iconst (pc' := 6) g41_5 (by decide) rfl ?_
    refine E_icge (pc' := 9) (pt := 19) g41_6 rfl rfl (fun c1 => ?_) (fun c1 => ?_)
    · refine E_iconst (pc' := 20) g41_19 (by decide) rfl ?_
      exact E_iret g41_20 ro41 (by unfold pw; first | rw [if_pos (by omega)] | rw [if_neg (by omega)]) rfl
    · refine E_iload_n (pc' := 10) g41_9 rfl rfl ?_
      refine E_iflt (pc' := 13) (pt := 19) g41_10 rfl rfl (fun c2 => ?_) (fun c2 => ?_)
      · refine E_iconst (pc' := 20) g41_19 (by decide) rfl ?_
        exact E_iret g41_20 ro41 (by unfold pw; first | rw [if_pos (by omega)] | rw [if_neg (by omega)]) rfl
      · refine E_iload_n (pc' := 14) g41_13 rfl rfl ?_
        refine E_bipush (pc' := 16) g41_14 (by decide) rfl ?_
        refine E_iclt (pc' := 19) (pt := 21) g41_16 rfl rfl (fun c3 => ?_) (fun c3 => ?_)
        · refine E_aload_n (pc' := 22) g41_21 rfl rfl ?_
          refine E_getR (pc' := 25) g41_22 f41_21 tg4_10 rfl (by assumption) rfl ?_
          refine E_bipush (pc' := 27) g41_25 (by decide) rfl ?_
          refine E_iload_n (pc' := 28) g41_27 rfl rfl ?_
          refine E_imul (pc' := 29) g41_28 (m_in_iff.mpr (by omega)) rfl ?_
          refine E_iload_n (pc' := 30) g41_29 rfl rfl ?_
          refine E_iadd (pc' := 31) g41_30 (m_in_iff.mpr (by omega)) rfl ?_
          refine E_iaload (pc' := 32) g41_31 rfl (by assumption) (by omega) (by omega) ?_
          exact E_iret g41_32 ro41 (by unfold pw; first | rw [if_pos (by omega)] | rw [if_neg (by omega)]) rfl
        · refine E_iconst (pc' := 20) g41_19 (by decide) rfl ?_
          exact E_iret g41_20 ro41 (by unfold pw; first | rw [if_pos (by omega)] | rw [if_neg (by omega)]) rfl
/-- the square beside -/
def bsd (wd ht s h : Int) : Int := if h = 0 then (if 0 < s.tdiv wd then s - wd else -9) else if h = 1 then (if s.tmod wd < wd - 1 then s + 1 else -9) else if h = 2 then (if s.tdiv wd < ht - 1 then s + wd else -9) else (if 0 < s.tmod wd then s - 1 else -9)
theorem C_beside (hT : isTold H a kd wd ht rm mo sd bo ed hu sk hv) {s h : Int} (hs : -1000 ≤ s ∧ s ≤ 1000) : Call 0 42 [mR a, mI s, mI h] H (mI (bsd wd ht s h)) H := by
  obtain ⟨t0, t1, t2, t3, t4, ⟨r1, r2, r3, r4, r5, r6, r7, b1, b2, b3, b4, n1, n2, n3, n4⟩⟩ := hT
  refine Call_of rfl ?_
  refine E_aload_n (pc' := 1) g42_0 rfl rfl ?_
  refine E_getI (pc' := 4) g42_1 f42_31 tg4_1 (by decide) rfl (by assumption) rfl ?_
  refine E_iconst (pc' := 5) g42_4 (by decide) rfl ?_
  refine E_icge (pc' := 8) (pt := 11) g42_5 rfl rfl (fun c0 => ?_) (fun c0 => ?_)
  · refine E_iload_n (pc' := 12) g42_11 rfl rfl ?_
    refine E_aload_n (pc' := 13) g42_12 rfl rfl ?_
    refine E_getI (pc' := 16) g42_13 f42_31 tg4_1 (by decide) rfl (by assumption) rfl ?_
    refine E_irem (pc' := 17) g42_16 (by omega) rfl ?_
    refine E_st3 (pc' := 18) g42_17 rfl ?_
    refine E_iload_n (pc' := 19) g42_18 rfl rfl ?_
    refine E_aload_n (pc' := 20) g42_19 rfl rfl ?_
    refine E_getI (pc' := 23) g42_20 f42_31 tg4_1 (by decide) rfl (by assumption) rfl ?_
    refine E_idiv (pc' := 24) g42_23 (by omega) rfl ?_
    refine E_st4 (pc' := 26) g42_24 rfl ?_
    refine E_iload_n (pc' := 27) g42_26 rfl rfl ?_
    by_cases e0 : h = 0
    · refine E_table (pt := 52) g42_27 (by rw [e0]; rfl) ?_
      refine E_iload (pc' := 54) g42_52 rfl rfl ?_
      refine E_ifle (pc' := 57) (pt := 66) g42_54 rfl rfl (fun c1 => ?_) (fun c1 => ?_)
      · refine E_bipush (pc' := 68) g42_66 (by decide) rfl ?_
        exact E_iret g42_68 ro42 (by unfold bsd; (repeat' split); all_goals (first | rfl | (exfalso; omega))) rfl
      · refine E_iload_n (pc' := 58) g42_57 rfl rfl ?_
        refine E_aload_n (pc' := 59) g42_58 rfl rfl ?_
        refine E_getI (pc' := 62) g42_59 f42_31 tg4_1 (by decide) rfl (by assumption) rfl ?_
        refine E_isub (pc' := 63) g42_62 (m_in_iff.mpr (by omega)) rfl ?_
        refine E_goto (pc' := 68) g42_63 rfl ?_
        exact E_iret g42_68 ro42 (by unfold bsd; (repeat' split); all_goals (first | rfl | (exfalso; omega))) rfl
    by_cases e1 : h = 1
    · refine E_table (pt := 69) g42_27 (by rw [e1]; rfl) ?_
      refine E_iload_n (pc' := 70) g42_69 rfl rfl ?_
      refine E_aload_n (pc' := 71) g42_70 rfl rfl ?_
      refine E_getI (pc' := 74) g42_71 f42_31 tg4_1 (by decide) rfl (by assumption) rfl ?_
      refine E_iconst (pc' := 75) g42_74 (by decide) rfl ?_
      refine E_isub (pc' := 76) g42_75 (m_in_iff.mpr (by omega)) rfl ?_
      refine E_icge (pc' := 79) (pt := 85) g42_76 rfl rfl (fun c2 => ?_) (fun c2 => ?_)
      · refine E_bipush (pc' := 87) g42_85 (by decide) rfl ?_
        exact E_iret g42_87 ro42 (by unfold bsd; (repeat' split); all_goals (first | rfl | (exfalso; omega))) rfl
      · refine E_iload_n (pc' := 80) g42_79 rfl rfl ?_
        refine E_iconst (pc' := 81) g42_80 (by decide) rfl ?_
        refine E_iadd (pc' := 82) g42_81 (m_in_iff.mpr (by omega)) rfl ?_
        refine E_goto (pc' := 87) g42_82 rfl ?_
        exact E_iret g42_87 ro42 (by unfold bsd; (repeat' split); all_goals (first | rfl | (exfalso; omega))) rfl
    by_cases e2 : h = 2
    · refine E_table (pt := 88) g42_27 (by rw [e2]; rfl) ?_
      refine E_iload (pc' := 90) g42_88 rfl rfl ?_
      refine E_aload_n (pc' := 91) g42_90 rfl rfl ?_
      refine E_getI (pc' := 94) g42_91 f42_34 tg4_2 (by decide) rfl (by assumption) rfl ?_
      refine E_iconst (pc' := 95) g42_94 (by decide) rfl ?_
      refine E_isub (pc' := 96) g42_95 (m_in_iff.mpr (by omega)) rfl ?_
      refine E_icge (pc' := 99) (pt := 108) g42_96 rfl rfl (fun c3 => ?_) (fun c3 => ?_)
      · refine E_bipush (pc' := 110) g42_108 (by decide) rfl ?_
        exact E_iret g42_110 ro42 (by unfold bsd; (repeat' split); all_goals (first | rfl | (exfalso; omega))) rfl
      · refine E_iload_n (pc' := 100) g42_99 rfl rfl ?_
        refine E_aload_n (pc' := 101) g42_100 rfl rfl ?_
        refine E_getI (pc' := 104) g42_101 f42_31 tg4_1 (by decide) rfl (by assumption) rfl ?_
        refine E_iadd (pc' := 105) g42_104 (m_in_iff.mpr (by omega)) rfl ?_
        refine E_goto (pc' := 110) g42_105 rfl ?_
        exact E_iret g42_110 ro42 (by unfold bsd; (repeat' split); all_goals (first | rfl | (exfalso; omega))) rfl
    refine E_table (pt := 111) g42_27 (by rw [if_pos (by omega)]; rfl) ?_
    refine E_iload_n (pc' := 112) g42_111 rfl rfl ?_
    refine E_ifle (pc' := 115) (pt := 121) g42_112 rfl rfl (fun c4 => ?_) (fun c4 => ?_)
    · refine E_bipush (pc' := 123) g42_121 (by decide) rfl ?_
      exact E_iret g42_123 ro42 (by unfold bsd; (repeat' split); all_goals (first | rfl | (exfalso; omega))) rfl
    · refine E_iload_n (pc' := 116) g42_115 rfl rfl ?_
      refine E_iconst (pc' := 117) g42_116 (by decide) rfl ?_
      refine E_isub (pc' := 118) g42_117 (m_in_iff.mpr (by omega)) rfl ?_
      refine E_goto (pc' := 123) g42_118 rfl ?_
      exact E_iret g42_123 ro42 (by unfold bsd; (repeat' split); all_goals (first | rfl | (exfalso; omega))) rfl
  · exact absurd c0 (by omega)
def fh (hu : List Int) (k : Nat) : Bool := al (fun e => decide (¬ ix hu e = ix hu k)) k
theorem C_isFirst (hT : isTold H a kd wd ht rm mo sd bo ed hu sk hv) {k : Nat} (hk : k < 6) : Call 0 43 [mR a, mI (k : Int)] H (mI (b01 (fh hu k))) H := by
  obtain ⟨t0, t1, t2, t3, t4, ⟨r1, r2, r3, r4, r5, r6, r7, b1, b2, b3, b4, n1, n2, n3, n4⟩⟩ := hT
  refine Call_of rfl ?_
  refine E_iconst (pc' := 1) g43_0 (by decide) rfl ?_
  refine E_st2 (pc' := 2) g43_1 rfl ?_
  refine (E_loop (n := k) (fun i => (∀ j : Nat, j < i → ¬ ix hu j = ix hu k) → Ev 0 43 2 [mR a, mI (k : Int), mI (i : Int)] [] H (mI (b01 (fh hu k))) H) ?_ ?_ 0 (by omega)) (fun j hj => absurd hj (by omega))
  · intro i hi hh hall
    refine E_iload_n (pc' := 3) g43_2 rfl rfl ?_
    refine E_iload_n (pc' := 4) g43_3 rfl rfl ?_
    refine E_icge (pc' := 7) (pt := 30) g43_4 rfl rfl (fun c0 => ?_) (fun c0 => ?_)
    · exact absurd c0 (by omega)
    · refine E_aload_n (pc' := 8) g43_7 rfl rfl ?_
      refine E_getR (pc' := 11) g43_8 f43_15 tg4_8 rfl (by assumption) rfl ?_
      refine E_iload_n (pc' := 12) g43_11 rfl rfl ?_
      refine E_iaload (pc' := 13) g43_12 rfl (by assumption) (by omega) (by omega) ?_
      refine E_aload_n (pc' := 14) g43_13 rfl rfl ?_
      refine E_getR (pc' := 17) g43_14 f43_15 tg4_8 rfl (by assumption) rfl ?_
      refine E_iload_n (pc' := 18) g43_17 rfl rfl ?_
      refine E_iaload (pc' := 19) g43_18 rfl (by assumption) (by omega) (by omega) ?_
      refine E_icne (pc' := 22) (pt := 24) g43_19 rfl rfl (fun c1 => ?_) (fun c1 => ?_)
      · refine E_in2 (pc' := 27) g43_24 rfl (m_in_iff.mpr (by omega)) ?_
        refine E_goto (pc' := 2) g43_27 rfl ?_
        exact hh (fun j hj => by
          rcases Nat.lt_or_ge j i with q | q
          · exact hall j q
          · rw [show j = i by omega]; assumption)
      · refine E_iconst (pc' := 23) g43_22 (by decide) rfl ?_
        exact E_iret g43_23 (ro43 (by omega)) (by
          have hf : fh hu k = false := by
            cases q : fh hu k with
            | false => rfl
            | true => exact absurd (by assumption) (of_decide_eq_true (al_iff.mp q i hi))
          rw [hf]; rfl) rfl
  · intro hall
    refine E_iload_n (pc' := 3) g43_2 rfl rfl ?_
    refine E_iload_n (pc' := 4) g43_3 rfl rfl ?_
    refine E_icge (pc' := 7) (pt := 30) g43_4 rfl rfl (fun c0 => ?_) (fun c0 => ?_)
    · refine E_iconst (pc' := 31) g43_30 (by decide) rfl ?_
      exact E_iret g43_31 (ro43 (by omega)) (by rw [show fh hu k = true from al_iff.mpr (fun j hj => decide_eq_true (hall j hj))]; rfl) rfl
    · exact absurd c0 (by omega)
theorem C_hueCount (hT : isTold H a kd wd ht rm mo sd bo ed hu sk hv) : Call 1 44 [mR a] H (mI (cn (fh hu) kd.toNat)) H := by
  have hT0 := hT
  obtain ⟨t0, t1, t2, t3, t4, ⟨r1, r2, r3, r4, r5, r6, r7, b1, b2, b3, b4, n1, n2, n3, n4⟩⟩ := hT
  obtain ⟨n, hn⟩ : ∃ n : Nat, (n : Int) = kd := ⟨kd.toNat, by omega⟩
  rw [show kd.toNat = n by omega]
  refine Call_of rfl ?_
  refine E_iconst (pc' := 1) g44_0 (by decide) rfl ?_
  refine E_st1 (pc' := 2) g44_1 rfl ?_
  refine E_iconst (pc' := 3) g44_2 (by decide) rfl ?_
  refine E_st2 (pc' := 4) g44_3 rfl ?_
  refine E_loop (n := n) (fun i => Ev 1 44 4 [mR a, mI (cn (fh hu) i), mI (i : Int)] [] H (mI (cn (fh hu) n)) H) ?_ ?_ 0 (by omega)
  · intro i hi hh
    have hb := cn_bd (fh hu) i
    refine E_iload_n (pc' := 5) g44_4 rfl rfl ?_
    refine E_aload_n (pc' := 6) g44_5 rfl rfl ?_
    refine E_getI (pc' := 9) g44_6 f44_27 tg4_0 (by decide) rfl (by assumption) rfl ?_
    refine E_icge (pc' := 12) (pt := 29) g44_9 rfl rfl (fun c0 => ?_) (fun c0 => ?_)
    · exact absurd c0 (by omega)
    · refine E_aload_n (pc' := 13) g44_12 rfl rfl ?_
      refine E_iload_n (pc' := 14) g44_13 rfl rfl ?_
      refine E_cV1i (pc' := 17) g44_14 k44_72 na43 rfl ow43 rfl (Nat.le_of_ble_eq_true rfl) (by assumption) (C_isFirst hT0 (by omega)) (by decide) ?_
      refine E_ifeq (pc' := 20) (pt := 23) g44_17 rfl rfl (fun c1 => ?_) (fun c1 => ?_)
      · have hp : fh hu i = false := by cases q : fh hu i with
          | false => rfl
          | true => rw [q] at c1; simp [b01] at c1
        refine E_in2 (pc' := 26) g44_23 rfl (m_in_iff.mpr (by omega)) ?_
        refine E_goto (pc' := 4) g44_26 rfl ?_
        first | exact Ev_cast hh (by rw [cn_t hp]; rfl) rfl | exact Ev_cast hh (by rw [cn_f hp]; rfl) rfl
      · have hp : fh hu i = true := by cases q : fh hu i with
          | true => rfl
          | false => rw [q] at c1; simp [b01] at c1
        refine E_in1 (pc' := 23) g44_20 rfl (m_in_iff.mpr (by omega)) ?_
        refine E_in2 (pc' := 26) g44_23 rfl (m_in_iff.mpr (by omega)) ?_
        refine E_goto (pc' := 4) g44_26 rfl ?_
        first | exact Ev_cast hh (by rw [cn_t hp]; rfl) rfl | exact Ev_cast hh (by rw [cn_f hp]; rfl) rfl
  · refine E_iload_n (pc' := 5) g44_4 rfl rfl ?_
    refine E_aload_n (pc' := 6) g44_5 rfl rfl ?_
    refine E_getI (pc' := 9) g44_6 f44_27 tg4_0 (by decide) rfl (by assumption) rfl ?_
    refine E_icge (pc' := 12) (pt := 29) g44_9 rfl rfl (fun c2 => ?_) (fun c2 => ?_)
    · refine E_iload_n (pc' := 30) g44_29 rfl rfl ?_
      exact E_iret g44_30 ro44 rfl rfl
    · exact absurd c2 (by omega)
theorem C_hueAt (hT : isTold H a kd wd ht rm mo sd bo ed hu sk hv) {i r : Int} (hr : (∀ k : Nat, (k : Int) < kd → fh hu k = true → cn (fh hu) k = i → r = ix hu k) ∧ ((∀ k : Nat, (k : Int) < kd → fh hu k = true → ¬ cn (fh hu) k = i) → r = -9)) : Call 1 45 [mR a, mI i] H (mI r) H := by
  have hT0 := hT
  obtain ⟨t0, t1, t2, t3, t4, ⟨r1, r2, r3, r4, r5, r6, r7, b1, b2, b3, b4, n1, n2, n3, n4⟩⟩ := hT
  obtain ⟨n, hn⟩ : ∃ n : Nat, (n : Int) = kd := ⟨kd.toNat, by omega⟩
  refine Call_of rfl ?_
  refine E_iconst (pc' := 1) g45_0 (by decide) rfl ?_
  refine E_st2 (pc' := 2) g45_1 rfl ?_
  refine E_iconst (pc' := 3) g45_2 (by decide) rfl ?_
  refine E_st3 (pc' := 4) g45_3 rfl ?_
  refine (E_loop (n := n) (fun j => (∀ k : Nat, k < j → fh hu k = true → ¬ cn (fh hu) k = i) → Ev 1 45 4 [mR a, mI i, mI (cn (fh hu) j), mI (j : Int)] [] H (mI r) H) ?_ ?_ 0 (by omega)) (fun k hk => absurd hk (by omega))
  · intro j hj hh hall
    have hb := cn_bd (fh hu) j
    refine E_iload_n (pc' := 5) g45_4 rfl rfl ?_
    refine E_aload_n (pc' := 6) g45_5 rfl rfl ?_
    refine E_getI (pc' := 9) g45_6 f45_27 tg4_0 (by decide) rfl (by assumption) rfl ?_
    refine E_icge (pc' := 12) (pt := 41) g45_9 rfl rfl (fun c0 => ?_) (fun c0 => ?_)
    · exact absurd c0 (by omega)
    · refine E_aload_n (pc' := 13) g45_12 rfl rfl ?_
      refine E_iload_n (pc' := 14) g45_13 rfl rfl ?_
      refine E_cV1i (pc' := 17) g45_14 k45_72 na43 rfl ow43 rfl (Nat.le_of_ble_eq_true rfl) (by assumption) (C_isFirst hT0 (by omega)) (by decide) ?_
      refine E_ifeq (pc' := 20) (pt := 35) g45_17 rfl rfl (fun c1 => ?_) (fun c1 => ?_)
      · have hp : fh hu j = false := by cases q : fh hu j with
          | false => rfl
          | true => rw [q] at c1; simp [b01] at c1
        refine E_in3 (pc' := 38) g45_35 rfl (m_in_iff.mpr (by omega)) ?_
        refine E_goto (pc' := 4) g45_38 rfl ?_
        refine Ev_cast (hh (fun k hk hf => ?_)) (by first | (rw [cn_t hp]; rfl) | (rw [cn_f hp]; rfl)) rfl
        rcases Nat.lt_or_ge k j with q | q
        · exact hall k q hf
        · rw [show k = j by omega] at hf ⊢
          first | assumption | (rw [hp] at hf; cases hf)
      · have hp : fh hu j = true := by cases q : fh hu j with
          | true => rfl
          | false => rw [q] at c1; simp [b01] at c1
        refine E_iload_n (pc' := 21) g45_20 rfl rfl ?_
        refine E_iload_n (pc' := 22) g45_21 rfl rfl ?_
        refine E_icne (pc' := 25) (pt := 32) g45_22 rfl rfl (fun c2 => ?_) (fun c2 => ?_)
        · refine E_in2 (pc' := 35) g45_32 rfl (m_in_iff.mpr (by omega)) ?_
          refine E_in3 (pc' := 38) g45_35 rfl (m_in_iff.mpr (by omega)) ?_
          refine E_goto (pc' := 4) g45_38 rfl ?_
          refine Ev_cast (hh (fun k hk hf => ?_)) (by first | (rw [cn_t hp]; rfl) | (rw [cn_f hp]; rfl)) rfl
          rcases Nat.lt_or_ge k j with q | q
          · exact hall k q hf
          · rw [show k = j by omega] at hf ⊢
            first | assumption | (rw [hp] at hf; cases hf)
        · refine E_aload_n (pc' := 26) g45_25 rfl rfl ?_
          refine E_getR (pc' := 29) g45_26 f45_15 tg4_8 rfl (by assumption) rfl ?_
          refine E_iload_n (pc' := 30) g45_29 rfl rfl ?_
          refine E_iaload (pc' := 31) g45_30 rfl (by assumption) (by omega) (by omega) ?_
          exact E_iret g45_31 ro45 (by rw [hr.1 j (by omega) hp (by assumption)]) rfl
  · intro hall
    refine E_iload_n (pc' := 5) g45_4 rfl rfl ?_
    refine E_aload_n (pc' := 6) g45_5 rfl rfl ?_
    refine E_getI (pc' := 9) g45_6 f45_27 tg4_0 (by decide) rfl (by assumption) rfl ?_
    refine E_icge (pc' := 12) (pt := 41) g45_9 rfl rfl (fun c0 => ?_) (fun c0 => ?_)
    · refine E_bipush (pc' := 43) g45_41 (by decide) rfl ?_
      exact E_iret g45_43 ro45 (by rw [hr.2 (fun k hk => hall k (by omega))]) rfl
    · exact absurd c0 (by omega)
theorem C_kindsOfHue (hT : isTold H a kd wd ht rm mo sd bo ed hu sk hv) {v : Int} : Call 0 46 [mR a, mI v] H (mI (cn (fun k => decide (ix hu k = v)) kd.toNat)) H := by
  obtain ⟨t0, t1, t2, t3, t4, ⟨r1, r2, r3, r4, r5, r6, r7, b1, b2, b3, b4, n1, n2, n3, n4⟩⟩ := hT
  obtain ⟨n, hn⟩ : ∃ n : Nat, (n : Int) = kd := ⟨kd.toNat, by omega⟩
  rw [show kd.toNat = n by omega]
  refine Call_of rfl ?_
  refine E_iconst (pc' := 1) g46_0 (by decide) rfl ?_
  refine E_st2 (pc' := 2) g46_1 rfl ?_
  refine E_iconst (pc' := 3) g46_2 (by decide) rfl ?_
  refine E_st3 (pc' := 4) g46_3 rfl ?_
  refine E_loop (n := n) (fun i => Ev 0 46 4 [mR a, mI v, mI (cn (fun k => decide (ix hu k = v)) i), mI (i : Int)] [] H (mI (cn (fun k => decide (ix hu k = v)) n)) H) ?_ ?_ 0 (by omega)
  · intro i hi hh
    have hb := cn_bd (fun k => decide (ix hu k = v)) i
    refine E_iload_n (pc' := 5) g46_4 rfl rfl ?_
    refine E_aload_n (pc' := 6) g46_5 rfl rfl ?_
    refine E_getI (pc' := 9) g46_6 f46_27 tg4_0 (by decide) rfl (by assumption) rfl ?_
    refine E_icge (pc' := 12) (pt := 31) g46_9 rfl rfl (fun c0 => ?_) (fun c0 => ?_)
    · exact absurd c0 (by omega)
    · refine E_aload_n (pc' := 13) g46_12 rfl rfl ?_
      refine E_getR (pc' := 16) g46_13 f46_15 tg4_8 rfl (by assumption) rfl ?_
      refine E_iload_n (pc' := 17) g46_16 rfl rfl ?_
      refine E_iaload (pc' := 18) g46_17 rfl (by assumption) (by omega) (by omega) ?_
      refine E_iload_n (pc' := 19) g46_18 rfl rfl ?_
      refine E_icne (pc' := 22) (pt := 25) g46_19 rfl rfl (fun c1 => ?_) (fun c1 => ?_)
      · refine E_in3 (pc' := 28) g46_25 rfl (m_in_iff.mpr (by omega)) ?_
        refine E_goto (pc' := 4) g46_28 rfl ?_
        first | exact Ev_cast hh (by rw [cn_t (decide_eq_true (by omega))]; rfl) rfl | exact Ev_cast hh (by rw [cn_f (decide_eq_false (by omega))]; rfl) rfl
      · refine E_in2 (pc' := 25) g46_22 rfl (m_in_iff.mpr (by omega)) ?_
        refine E_in3 (pc' := 28) g46_25 rfl (m_in_iff.mpr (by omega)) ?_
        refine E_goto (pc' := 4) g46_28 rfl ?_
        first | exact Ev_cast hh (by rw [cn_t (decide_eq_true (by omega))]; rfl) rfl | exact Ev_cast hh (by rw [cn_f (decide_eq_false (by omega))]; rfl) rfl
  · refine E_iload_n (pc' := 5) g46_4 rfl rfl ?_
    refine E_aload_n (pc' := 6) g46_5 rfl rfl ?_
    refine E_getI (pc' := 9) g46_6 f46_27 tg4_0 (by decide) rfl (by assumption) rfl ?_
    refine E_icge (pc' := 12) (pt := 31) g46_9 rfl rfl (fun c2 => ?_) (fun c2 => ?_)
    · refine E_iload_n (pc' := 32) g46_31 rfl rfl ?_
      exact E_iret g46_32 ro46 rfl rfl
    · exact absurd c2 (by omega)
theorem C_toldAnew (hT : isTold H a kd wd ht rm mo sd bo ed hu sk hv) : Call 0 35 [mR a] H none (pt H a [0, 2, 2, -9, 9, 4, 1, ((a + 1 : Nat) : Int), ((a + 2 : Nat) : Int), ((a + 3 : Nat) : Int), ((a + 4 : Nat) : Int)]) := by
  obtain ⟨t0, t1, t2, t3, t4, ⟨r1, r2, r3, r4, r5, r6, r7, b1, b2, b3, b4, n1, n2, n3, n4⟩⟩ := hT
  refine Call_of rfl ?_
  refine E_aload_n (pc' := 1) g35_0 rfl rfl ?_
  refine E_iconst (pc' := 2) g35_1 (by decide) rfl ?_
  refine E_putf (pc' := 5) g35_2 f35_27 tg4_0 fn4_0 rfl rfl (by first | assumption | exact pt_self (by assumption)) (Nat.le_of_ble_eq_true rfl) ?_
  (try rw [pt_pt]); dsimp only [List.set]
  refine E_aload_n (pc' := 6) g35_5 rfl rfl ?_
  refine E_iconst (pc' := 7) g35_6 (by decide) rfl ?_
  refine E_putf (pc' := 10) g35_7 f35_31 tg4_1 fn4_1 rfl rfl (by first | assumption | exact pt_self (by assumption)) (Nat.le_of_ble_eq_true rfl) ?_
  (try rw [pt_pt]); dsimp only [List.set]
  refine E_aload_n (pc' := 11) g35_10 rfl rfl ?_
  refine E_iconst (pc' := 12) g35_11 (by decide) rfl ?_
  refine E_putf (pc' := 15) g35_12 f35_34 tg4_2 fn4_2 rfl rfl (by first | assumption | exact pt_self (by assumption)) (Nat.le_of_ble_eq_true rfl) ?_
  (try rw [pt_pt]); dsimp only [List.set]
  refine E_aload_n (pc' := 16) g35_15 rfl rfl ?_
  refine E_bipush (pc' := 18) g35_16 (by decide) rfl ?_
  refine E_putf (pc' := 21) g35_18 f35_37 tg4_3 fn4_3 rfl rfl (by first | assumption | exact pt_self (by assumption)) (Nat.le_of_ble_eq_true rfl) ?_
  (try rw [pt_pt]); dsimp only [List.set]
  refine E_aload_n (pc' := 22) g35_21 rfl rfl ?_
  refine E_bipush (pc' := 24) g35_22 (by decide) rfl ?_
  refine E_putf (pc' := 27) g35_24 f35_40 tg4_4 fn4_4 rfl rfl (by first | assumption | exact pt_self (by assumption)) (Nat.le_of_ble_eq_true rfl) ?_
  (try rw [pt_pt]); dsimp only [List.set]
  refine E_aload_n (pc' := 28) g35_27 rfl rfl ?_
  refine E_iconst (pc' := 29) g35_28 (by decide) rfl ?_
  refine E_putf (pc' := 32) g35_29 f35_43 tg4_5 fn4_5 rfl rfl (by first | assumption | exact pt_self (by assumption)) (Nat.le_of_ble_eq_true rfl) ?_
  (try rw [pt_pt]); dsimp only [List.set]
  refine E_aload_n (pc' := 33) g35_32 rfl rfl ?_
  refine E_iconst (pc' := 34) g35_33 (by decide) rfl ?_
  refine E_putf (pc' := 37) g35_34 f35_46 tg4_6 fn4_6 rfl rfl (by first | assumption | exact pt_self (by assumption)) (Nat.le_of_ble_eq_true rfl) ?_
  (try rw [pt_pt]); dsimp only [List.set]
  exact E_ret g35_37 rt35 rfl rfl
theorem C_opposite {H : mH} {h : Int} (hh : 0 ≤ h ∧ h < 4) : Call 0 96 [mI h] H (mI ((h + 2).tmod 4)) H := by
  refine Call_of rfl ?_
  refine E_iload_n (pc' := 1) g96_0 rfl rfl ?_
  refine E_iconst (pc' := 2) g96_1 (by decide) rfl ?_
  refine E_iadd (pc' := 3) g96_2 (m_in_iff.mpr (by omega)) rfl ?_
  refine E_iconst (pc' := 4) g96_3 (by decide) rfl ?_
  refine E_irem (pc' := 5) g96_4 (by omega) rfl ?_
  exact E_iret g96_5 ro96 rfl rfl
end TE
