/-! the class's reader -/
def tdL (tb : Nat) (kd wd ht rm mo sd bo : Int) : List Int := [kd, wd, ht, rm, mo, sd, bo, ((tb + 1 : Nat) : Int), ((tb + 2 : Nat) : Int), ((tb + 3 : Nat) : Int), ((tb + 4 : Nat) : Int)]
def rH (H : mH) (tb : Nat) (T ed hu sk R : List Int) : mH := pt (pt (pt (pt (pt H tb T) (tb + 1) ed) (tb + 2) hu) (tb + 3) sk) 2 R
def rBase (H : mH) (tb : Nat) (tx : List Int) : Prop := (∃ q, H[tb]? = some (4, q)) ∧ (∃ q, H[tb + 1]? = some (8, q)) ∧ (∃ q, H[tb + 2]? = some (8, q)) ∧ (∃ q, H[tb + 3]? = some (8, q)) ∧ (∃ q, H[2]? = some (3, q)) ∧ H[1]? = some (8, tx) ∧ tx.length = 120 ∧ 3 ≤ tb
def lowQ (c : Int) : Int := if c = 107 ∨ c = 101 then 0 else 1
theorem C_low {H : mH} {c : Int} : Call 0 26 [mI c] H (mI (lowQ c)) H := by
  refine Call_of rfl ?_
  refine E_iload_n (pc' := 1) g26_0 rfl rfl ?_
  refine E_bipush (pc' := 3) g26_1 (by decide) rfl ?_
  refine E_iceq (pc' := 6) (pt := 12) g26_3 rfl rfl (fun c0 => ?_) (fun c0 => ?_)
  · refine E_iconst (pc' := 13) g26_12 (by decide) rfl ?_
    refine E_goto (pc' := 17) g26_13 rfl ?_
    exact E_iret g26_17 ro26 (by unfold lowQ; first | rw [if_pos (by omega)] | rw [if_neg (by omega)]) rfl
  · refine E_iload_n (pc' := 7) g26_6 rfl rfl ?_
    refine E_bipush (pc' := 9) g26_7 (by decide) rfl ?_
    refine E_icne (pc' := 12) (pt := 16) g26_9 rfl rfl (fun c1 => ?_) (fun c1 => ?_)
    · refine E_iconst (pc' := 17) g26_16 (by decide) rfl ?_
      exact E_iret g26_17 ro26 (by unfold lowQ; first | rw [if_pos (by omega)] | rw [if_neg (by omega)]) rfl
    · refine E_iconst (pc' := 13) g26_12 (by decide) rfl ?_
      refine E_goto (pc' := 17) g26_13 rfl ?_
      exact E_iret g26_17 ro26 (by unfold lowQ; first | rw [if_pos (by omega)] | rw [if_neg (by omega)]) rfl
theorem tkN_2 {tx : List Int} {n p : Nat} {nu : Int} (h : tkT tx n p = -2) : tkN tx n p nu = nV tx n p := by
  obtain ⟨a1, a2, a3⟩ := tkT_num h
  unfold tkN nV; rw [if_neg (by omega), if_pos a2]
section RDR
variable {H : mH} {tb : Nat} {tx T ed hu sk R T2 ed2 hu2 sk2 R2 : List Int} {n p : Nat} {tp tk nu f1 f2 f3 f4 kd wd ht rm mo sd bo c k : Int}
theorem rH_2 (hB : rBase H tb tx) : (rH H tb T ed hu sk R)[2]? = some (3, R) := by
  obtain ⟨-, -, -, -, ⟨q, h⟩, -, -, h3⟩ := hB
  exact pt_self (pt_nx (by omega) (pt_nx (by omega) (pt_nx (by omega) (pt_nx (by omega) h))))
theorem rH_1 (hB : rBase H tb tx) : (rH H tb T ed hu sk R)[1]? = some (8, tx) := by
  obtain ⟨-, -, -, -, -, h, -, h3⟩ := hB
  exact pt_nx (by omega) (pt_nx (by omega) (pt_nx (by omega) (pt_nx (by omega) (pt_nx (by omega) h))))
theorem rH_t (hB : rBase H tb tx) : (rH H tb T ed hu sk R)[tb]? = some (4, T) := by
  obtain ⟨⟨q, h⟩, -, -, -, -, -, -, h3⟩ := hB
  exact pt_nx (by omega) (pt_nx (by omega) (pt_nx (by omega) (pt_nx (by omega) (pt_self h))))
theorem rH_e (hB : rBase H tb tx) : (rH H tb T ed hu sk R)[tb + 1]? = some (8, ed) := by
  obtain ⟨-, ⟨q, h⟩, -, -, -, -, -, h3⟩ := hB
  exact pt_nx (by omega) (pt_nx (by omega) (pt_nx (by omega) (pt_self (pt_nx (by omega) h))))
theorem rH_u (hB : rBase H tb tx) : (rH H tb T ed hu sk R)[tb + 2]? = some (8, hu) := by
  obtain ⟨-, -, ⟨q, h⟩, -, -, -, -, h3⟩ := hB
  exact pt_nx (by omega) (pt_nx (by omega) (pt_self (pt_nx (by omega) (pt_nx (by omega) h))))
theorem rH_s (hB : rBase H tb tx) : (rH H tb T ed hu sk R)[tb + 3]? = some (8, sk) := by
  obtain ⟨-, -, -, ⟨q, h⟩, -, -, -, h3⟩ := hB
  exact pt_nx (by omega) (pt_self (pt_nx (by omega) (pt_nx (by omega) (pt_nx (by omega) h))))
theorem rH_R : pt (rH H tb T ed hu sk R) 2 R2 = rH H tb T ed hu sk R2 := by
  unfold rH
  rw [pt_pt]
theorem rH_T (hB : rBase H tb tx) : pt (rH H tb T ed hu sk R) tb T2 = rH H tb T2 ed hu sk R := by
  have h3 := hB.2.2.2.2.2.2.2
  unfold rH
  rw [pt_swap (a := 2) (b := tb) (by omega), pt_swap (a := tb + 3) (b := tb) (by omega), pt_swap (a := tb + 2) (b := tb) (by omega), pt_swap (a := tb + 1) (b := tb) (by omega), pt_pt]
theorem rH_E (hB : rBase H tb tx) : pt (rH H tb T ed hu sk R) (tb + 1) ed2 = rH H tb T ed2 hu sk R := by
  have h3 := hB.2.2.2.2.2.2.2
  unfold rH
  rw [pt_swap (a := 2) (b := tb + 1) (by omega), pt_swap (a := tb + 3) (b := tb + 1) (by omega), pt_swap (a := tb + 2) (b := tb + 1) (by omega), pt_pt]
theorem rH_U (hB : rBase H tb tx) : pt (rH H tb T ed hu sk R) (tb + 2) hu2 = rH H tb T ed hu2 sk R := by
  have h3 := hB.2.2.2.2.2.2.2
  unfold rH
  rw [pt_swap (a := 2) (b := tb + 2) (by omega), pt_swap (a := tb + 3) (b := tb + 2) (by omega), pt_pt]
theorem rH_S (hB : rBase H tb tx) : pt (rH H tb T ed hu sk R) (tb + 3) sk2 = rH H tb T ed hu sk2 R := by
  have h3 := hB.2.2.2.2.2.2.2
  unfold rH
  rw [pt_swap (a := 2) (b := tb + 3) (by omega), pt_pt]
theorem C_rt (hB : rBase H tb tx) (hn : n ≤ 120) (hp : p ≤ n) : Call 2 30 [mR 2, mR 1, mI (n : Int)] (rH H tb T ed hu sk (rdL (p : Int) tp tk nu f1 f2 f3 f4)) none (rH H tb T ed hu sk (rdL ((tkP tx n p : Nat) : Int) ((skq tx n p : Nat) : Int) (tkT tx n p) (tkN tx n p nu) f1 f2 f3 f4)) := by
  have h := C_readToken (rH_2 (T := T) (ed := ed) (hu := hu) (sk := sk) (R := (rdL (p : Int) tp tk nu f1 f2 f3 f4)) hB) (rH_1 hB) hB.2.2.2.2.2.2.1 hn hp
  rw [rH_R] at h
  exact h
theorem C_numOk (hB : rBase H tb tx) (hn : n ≤ 120) (hp : p ≤ n) {i N hi : Int} (hi0 : 0 ≤ i ∧ i < N) (hN6 : N ≤ 6) (hN : m_pv 25 [mI c] = some (mI N)) (hh : m_pv 27 [mI c, mI i] = some (mI hi)) (hok : nOk tx n (lowQ c) hi p)
    (hput : Call 1 28 [mR 2, mR tb, mI c, mI k, mI i] (rH H tb T ed hu sk (rdL ((tkP tx n p : Nat) : Int) ((skq tx n p : Nat) : Int) (-2) (nV tx n p) f1 f2 f3 f4)) none (rH H tb T2 ed2 hu2 sk2 (rdL ((tkP tx n p : Nat) : Int) ((skq tx n p : Nat) : Int) (-2) (nV tx n p) f1 f2 f3 f4))) {r : mV} {H1 : mH} (h : Ev 3 23 27 [mR 2, mR tb, mR 1, mI (n : Int), mI c, mI k, mI (i + 1)] [] (rH H tb T2 ed2 hu2 sk2 (rdL ((tkP tx n p : Nat) : Int) ((skq tx n p : Nat) : Int) (-2) (nV tx n p) f1 f2 f3 f4)) r H1) : Ev 3 23 27 [mR 2, mR tb, mR 1, mI (n : Int), mI c, mI k, mI i] [] (rH H tb T ed hu sk (rdL (p : Int) tp tk nu f1 f2 f3 f4)) r H1 := by
  have hf := nOk_facts hok
  have hr := C_rt (T := T) (ed := ed) (hu := hu) (sk := sk) (tp := tp) (tk := tk) (nu := nu) (f1 := f1) (f2 := f2) (f3 := f3) (f4 := f4) hB hn hp
  rw [hok.1, hf.2.1] at hr
  refine E_iload (pc' := 29) g23_27 rfl rfl ?_
  refine E_iload (pc' := 31) g23_29 rfl rfl ?_
  refine E_prim1 (pc' := 34) g23_31 k23_63 na25 rfl rfl (Nat.le_of_ble_eq_true rfl) hN ?_
  refine E_icge (pc' := 37) (pt := 97) g23_34 rfl rfl (fun c0 => ?_) (fun c0 => ?_)
  · first
    | (exfalso; omega)
    | (exfalso; omega)
  · first
    | (exfalso; omega)
    | (refine E_aload_n (pc' := 38) g23_37 rfl rfl ?_
       refine E_aload_n (pc' := 39) g23_38 rfl rfl ?_
       refine E_iload_n (pc' := 40) g23_39 rfl rfl ?_
       refine E_cV2v (pc' := 43) g23_40 k23_21 na30 rfl ow30 rfl (Nat.le_of_ble_eq_true rfl) (rH_2 hB) hr (by decide) ?_
       refine E_aload_n (pc' := 44) g23_43 rfl rfl ?_
       refine E_getI (pc' := 47) g23_44 f23_25 tg3_2 (by decide) rfl (rH_2 hB) rfl ?_
       refine E_bipush (pc' := 49) g23_47 (by decide) rfl ?_
       refine E_icne (pc' := 52) (pt := 78) g23_49 rfl rfl (fun c1 => ?_) (fun c1 => ?_)
       · first
         | (exfalso; omega)
         | (exfalso; omega)
       · first
         | (exfalso; omega)
         | (refine E_aload_n (pc' := 53) g23_52 rfl rfl ?_
            refine E_getI (pc' := 56) g23_53 f23_67 tg3_3 (by decide) rfl (rH_2 hB) rfl ?_
            refine E_iload (pc' := 58) g23_56 rfl rfl ?_
            refine E_cS1i (pc' := 61) g23_58 k23_70 na26 rfl rfl (Nat.le_of_ble_eq_true rfl) C_low (by decide) ?_
            refine E_iclt (pc' := 64) (pt := 78) g23_61 rfl rfl (fun c2 => ?_) (fun c2 => ?_)
            · first
              | (exfalso; omega)
              | (exfalso; omega)
            · first
              | (exfalso; omega)
              | (refine E_aload_n (pc' := 65) g23_64 rfl rfl ?_
                 refine E_getI (pc' := 68) g23_65 f23_67 tg3_3 (by decide) rfl (rH_2 hB) rfl ?_
                 refine E_iload (pc' := 70) g23_68 rfl rfl ?_
                 refine E_iload (pc' := 72) g23_70 rfl rfl ?_
                 refine E_prim2 (pc' := 75) g23_72 k23_73 na27 rfl rfl (Nat.le_of_ble_eq_true rfl) hh ?_
                 refine E_icle (pc' := 78) (pt := 80) g23_75 rfl rfl (fun c3 => ?_) (fun c3 => ?_)
                 · first
                   | (exfalso; omega)
                   | (refine E_aload_n (pc' := 81) g23_80 rfl rfl ?_
                      refine E_aload_n (pc' := 82) g23_81 rfl rfl ?_
                      refine E_iload (pc' := 84) g23_82 rfl rfl ?_
                      refine E_iload (pc' := 86) g23_84 rfl rfl ?_
                      refine E_iload (pc' := 88) g23_86 rfl rfl ?_
                      refine E_cV4v (pc' := 91) g23_88 k23_76 na28 rfl ow28 rfl (Nat.le_of_ble_eq_true rfl) (rH_2 hB) hput (by decide) ?_
                      refine E_in6 (pc' := 94) g23_91 rfl (m_in_iff.mpr (by omega)) ?_
                      refine E_goto (pc' := 27) g23_94 rfl ?_
                      exact h)
                 · first
                   | (exfalso; omega)
                   | (exfalso; omega))))
theorem C_numNo (hB : rBase H tb tx) (hn : n ≤ 120) (hp : p ≤ n) {i N hi : Int} (hi0 : 0 ≤ i ∧ i < N) (hN6 : N ≤ 6) (hN : m_pv 25 [mI c] = some (mI N)) (hh : m_pv 27 [mI c, mI i] = some (mI hi)) (hno : ¬ nOk tx n (lowQ c) hi p) : ∃ tk' nu', Ev 3 23 27 [mR 2, mR tb, mR 1, mI (n : Int), mI c, mI k, mI i] [] (rH H tb T ed hu sk (rdL (p : Int) tp tk nu f1 f2 f3 f4)) (mI 0) (rH H tb T ed hu sk (rdL ((tkP tx n p : Nat) : Int) ((skq tx n p : Nat) : Int) tk' nu' f1 f2 f3 f4)) := by
  have hr := C_rt (T := T) (ed := ed) (hu := hu) (sk := sk) (tp := tp) (tk := tk) (nu := nu) (f1 := f1) (f2 := f2) (f3 := f3) (f4 := f4) hB hn hp
  by_cases e : tkT tx n p = -2
  · have hno' : ¬ (lowQ c ≤ nV tx n p ∧ nV tx n p ≤ hi) := fun z => hno ⟨e, z.1, z.2⟩
    rw [e, tkN_2 e] at hr
    refine ⟨-2, nV tx n p, ?_⟩
    refine E_iload (pc' := 29) g23_27 rfl rfl ?_
    refine E_iload (pc' := 31) g23_29 rfl rfl ?_
    refine E_prim1 (pc' := 34) g23_31 k23_63 na25 rfl rfl (Nat.le_of_ble_eq_true rfl) hN ?_
    refine E_icge (pc' := 37) (pt := 97) g23_34 rfl rfl (fun c0 => ?_) (fun c0 => ?_)
    · first
      | (exfalso; omega)
      | (exfalso; omega)
    · first
      | (exfalso; omega)
      | (refine E_aload_n (pc' := 38) g23_37 rfl rfl ?_
         refine E_aload_n (pc' := 39) g23_38 rfl rfl ?_
         refine E_iload_n (pc' := 40) g23_39 rfl rfl ?_
         refine E_cV2v (pc' := 43) g23_40 k23_21 na30 rfl ow30 rfl (Nat.le_of_ble_eq_true rfl) (rH_2 hB) hr (by decide) ?_
         refine E_aload_n (pc' := 44) g23_43 rfl rfl ?_
         refine E_getI (pc' := 47) g23_44 f23_25 tg3_2 (by decide) rfl (rH_2 hB) rfl ?_
         refine E_bipush (pc' := 49) g23_47 (by decide) rfl ?_
         refine E_icne (pc' := 52) (pt := 78) g23_49 rfl rfl (fun c1 => ?_) (fun c1 => ?_)
         · first
           | (exfalso; omega)
           | (refine E_iconst (pc' := 79) g23_78 (by decide) rfl ?_
              exact E_iret g23_79 (ro23 (by decide)) rfl rfl)
         · first
           | (exfalso; omega)
           | (refine E_aload_n (pc' := 53) g23_52 rfl rfl ?_
              refine E_getI (pc' := 56) g23_53 f23_67 tg3_3 (by decide) rfl (rH_2 hB) rfl ?_
              refine E_iload (pc' := 58) g23_56 rfl rfl ?_
              refine E_cS1i (pc' := 61) g23_58 k23_70 na26 rfl rfl (Nat.le_of_ble_eq_true rfl) C_low (by decide) ?_
              refine E_iclt (pc' := 64) (pt := 78) g23_61 rfl rfl (fun c2 => ?_) (fun c2 => ?_)
              · first
                | (exfalso; omega)
                | (refine E_iconst (pc' := 79) g23_78 (by decide) rfl ?_
                   exact E_iret g23_79 (ro23 (by decide)) rfl rfl)
              · first
                | (exfalso; omega)
                | (refine E_aload_n (pc' := 65) g23_64 rfl rfl ?_
                   refine E_getI (pc' := 68) g23_65 f23_67 tg3_3 (by decide) rfl (rH_2 hB) rfl ?_
                   refine E_iload (pc' := 70) g23_68 rfl rfl ?_
                   refine E_iload (pc' := 72) g23_70 rfl rfl ?_
                   refine E_prim2 (pc' := 75) g23_72 k23_73 na27 rfl rfl (Nat.le_of_ble_eq_true rfl) hh ?_
                   refine E_icle (pc' := 78) (pt := 80) g23_75 rfl rfl (fun c3 => ?_) (fun c3 => ?_)
                   · first
                     | (exfalso; omega)
                     | (exfalso; omega)
                   · first
                     | (exfalso; omega)
                     | (refine E_iconst (pc' := 79) g23_78 (by decide) rfl ?_
                        exact E_iret g23_79 (ro23 (by decide)) rfl rfl))))
  · refine ⟨tkT tx n p, tkN tx n p nu, ?_⟩
    refine E_iload (pc' := 29) g23_27 rfl rfl ?_
    refine E_iload (pc' := 31) g23_29 rfl rfl ?_
    refine E_prim1 (pc' := 34) g23_31 k23_63 na25 rfl rfl (Nat.le_of_ble_eq_true rfl) hN ?_
    refine E_icge (pc' := 37) (pt := 97) g23_34 rfl rfl (fun c0 => ?_) (fun c0 => ?_)
    · first
      | (exfalso; omega)
      | (exfalso; omega)
    · first
      | (exfalso; omega)
      | (refine E_aload_n (pc' := 38) g23_37 rfl rfl ?_
         refine E_aload_n (pc' := 39) g23_38 rfl rfl ?_
         refine E_iload_n (pc' := 40) g23_39 rfl rfl ?_
         refine E_cV2v (pc' := 43) g23_40 k23_21 na30 rfl ow30 rfl (Nat.le_of_ble_eq_true rfl) (rH_2 hB) hr (by decide) ?_
         refine E_aload_n (pc' := 44) g23_43 rfl rfl ?_
         refine E_getI (pc' := 47) g23_44 f23_25 tg3_2 (by decide) rfl (rH_2 hB) rfl ?_
         refine E_bipush (pc' := 49) g23_47 (by decide) rfl ?_
         refine E_icne (pc' := 52) (pt := 78) g23_49 rfl rfl (fun c1 => ?_) (fun c1 => ?_)
         · first
           | (exfalso; omega)
           | (refine E_iconst (pc' := 79) g23_78 (by decide) rfl ?_
              exact E_iret g23_79 (ro23 (by decide)) rfl rfl)
         · first
           | (exfalso; omega)
           | (exfalso; omega))
theorem C_head (hB : rBase H tb tx) (hmay : Call 0 24 [mR 2, mR tb, mI c] (rH H tb (tdL tb kd wd ht rm mo sd bo) ed hu sk (rdL p tp c nu f1 f2 f3 f4)) (mI 1) (rH H tb (tdL tb kd wd ht rm mo sd bo) ed hu sk R2)) {r : mV} {H1 : mH} (h : Ev 3 23 27 [mR 2, mR tb, mR 1, mI (n : Int), mI c, mI kd, mI 0] [] (rH H tb (tdL tb kd wd ht rm mo sd bo) ed hu sk R2) r H1) : Call 3 23 [mR 2, mR tb, mR 1, mI (n : Int)] (rH H tb (tdL tb kd wd ht rm mo sd bo) ed hu sk (rdL p tp c nu f1 f2 f3 f4)) r H1 := by
  refine Call_of rfl ?_
  refine E_aload_n (pc' := 1) g23_0 rfl rfl ?_
  refine E_getI (pc' := 4) g23_1 f23_25 tg3_2 (by decide) rfl (rH_2 hB) rfl ?_
  refine E_st4 (pc' := 6) g23_4 rfl ?_
  refine E_aload_n (pc' := 7) g23_6 rfl rfl ?_
  refine E_aload_n (pc' := 8) g23_7 rfl rfl ?_
  refine E_iload (pc' := 10) g23_8 rfl rfl ?_
  refine E_cV2i (pc' := 13) g23_10 k23_56 na24 rfl ow24 rfl (Nat.le_of_ble_eq_true rfl) (rH_2 hB) hmay (by decide) ?_
  refine E_ifne (pc' := 16) (pt := 18) g23_13 rfl rfl (fun c0 => ?_) (fun c0 => ?_)
  · first
    | (exfalso; omega)
    | (refine E_aload_n (pc' := 19) g23_18 rfl rfl ?_
       refine E_getI (pc' := 22) g23_19 f23_60 tg4_0 (by decide) rfl (rH_t hB) rfl ?_
       refine E_st5 (pc' := 24) g23_22 rfl ?_
       refine E_iconst (pc' := 25) g23_24 (by decide) rfl ?_
       refine E_st6 (pc' := 27) g23_25 rfl ?_
       exact h)
  · first
    | (exfalso; omega)
    | (exfalso; omega)
theorem C_headNo (hB : rBase H tb tx) (hmay : Call 0 24 [mR 2, mR tb, mI c] (rH H tb (tdL tb kd wd ht rm mo sd bo) ed hu sk (rdL p tp c nu f1 f2 f3 f4)) (mI 0) (rH H tb (tdL tb kd wd ht rm mo sd bo) ed hu sk R2)) : Call 3 23 [mR 2, mR tb, mR 1, mI (n : Int)] (rH H tb (tdL tb kd wd ht rm mo sd bo) ed hu sk (rdL p tp c nu f1 f2 f3 f4)) (mI 0) (rH H tb (tdL tb kd wd ht rm mo sd bo) ed hu sk R2) := by
  refine Call_of rfl ?_
  refine E_aload_n (pc' := 1) g23_0 rfl rfl ?_
  refine E_getI (pc' := 4) g23_1 f23_25 tg3_2 (by decide) rfl (rH_2 hB) rfl ?_
  refine E_st4 (pc' := 6) g23_4 rfl ?_
  refine E_aload_n (pc' := 7) g23_6 rfl rfl ?_
  refine E_aload_n (pc' := 8) g23_7 rfl rfl ?_
  refine E_iload (pc' := 10) g23_8 rfl rfl ?_
  refine E_cV2i (pc' := 13) g23_10 k23_56 na24 rfl ow24 rfl (Nat.le_of_ble_eq_true rfl) (rH_2 hB) hmay (by decide) ?_
  refine E_ifne (pc' := 16) (pt := 18) g23_13 rfl rfl (fun c0 => ?_) (fun c0 => ?_)
  · first
    | (exfalso; omega)
    | (exfalso; omega)
  · first
    | (exfalso; omega)
    | (refine E_iconst (pc' := 17) g23_16 (by decide) rfl ?_
       exact E_iret g23_17 (ro23 (by decide)) rfl rfl)
theorem C_endOk (hB : rBase H tb tx) (hn : n ≤ 120) (hp : p ≤ n) {N : Int} (hN6 : 0 ≤ N ∧ N ≤ 6) (hN : m_pv 25 [mI c] = some (mI N)) (hc : ¬ c = 107) (h59 : tkT tx n p = 59) : Ev 3 23 27 [mR 2, mR tb, mR 1, mI (n : Int), mI c, mI k, mI N] [] (rH H tb T ed hu sk (rdL (p : Int) tp tk nu f1 f2 f3 f4)) (mI 1) (rH H tb T ed hu sk (rdL ((tkP tx n p : Nat) : Int) ((skq tx n p : Nat) : Int) 59 (tkN tx n p nu) f1 f2 f3 f4)) := by
  have hr := C_rt (T := T) (ed := ed) (hu := hu) (sk := sk) (tp := tp) (tk := tk) (nu := nu) (f1 := f1) (f2 := f2) (f3 := f3) (f4 := f4) hB hn hp
  rw [h59] at hr
  refine E_iload (pc' := 29) g23_27 rfl rfl ?_
  refine E_iload (pc' := 31) g23_29 rfl rfl ?_
  refine E_prim1 (pc' := 34) g23_31 k23_63 na25 rfl rfl (Nat.le_of_ble_eq_true rfl) hN ?_
  refine E_icge (pc' := 37) (pt := 97) g23_34 rfl rfl (fun c0 => ?_) (fun c0 => ?_)
  · first
    | (exfalso; omega)
    | (refine E_aload_n (pc' := 98) g23_97 rfl rfl ?_
       refine E_aload_n (pc' := 99) g23_98 rfl rfl ?_
       refine E_iload_n (pc' := 100) g23_99 rfl rfl ?_
       refine E_cV2v (pc' := 103) g23_100 k23_21 na30 rfl ow30 rfl (Nat.le_of_ble_eq_true rfl) (rH_2 hB) hr (by decide) ?_
       refine E_aload_n (pc' := 104) g23_103 rfl rfl ?_
       refine E_getI (pc' := 107) g23_104 f23_25 tg3_2 (by decide) rfl (rH_2 hB) rfl ?_
       refine E_bipush (pc' := 109) g23_107 (by decide) rfl ?_
       refine E_iceq (pc' := 112) (pt := 114) g23_109 rfl rfl (fun c1 => ?_) (fun c1 => ?_)
       · first
         | (exfalso; omega)
         | (refine E_iload (pc' := 116) g23_114 rfl rfl ?_
            refine E_bipush (pc' := 118) g23_116 (by decide) rfl ?_
            refine E_icne (pc' := 121) (pt := 129) g23_118 rfl rfl (fun c2 => ?_) (fun c2 => ?_)
            · first
              | (exfalso; omega)
              | (refine E_iconst (pc' := 130) g23_129 (by decide) rfl ?_
                 exact E_iret g23_130 (ro23 (by decide)) rfl rfl)
            · first
              | (exfalso; omega)
              | (exfalso; omega))
       · first
         | (exfalso; omega)
         | (exfalso; omega))
  · first
    | (exfalso; omega)
    | (exfalso; omega)
theorem C_endK (hB : rBase H tb tx) (hn : n ≤ 120) (hp : p ≤ n) {N : Int} (hN6 : 0 ≤ N ∧ N ≤ 6) (hN : m_pv 25 [mI 107] = some (mI N)) (hk : 0 ≤ k ∧ k ≤ 10) (h59 : tkT tx n p = 59) : Ev 3 23 27 [mR 2, mR tb, mR 1, mI (n : Int), mI 107, mI k, mI N] [] (rH H tb (tdL tb kd wd ht rm mo sd bo) ed hu sk (rdL (p : Int) tp tk nu f1 f2 f3 f4)) (mI 1) (rH H tb (tdL tb (k + 1) wd ht rm mo sd bo) ed hu sk (rdL ((tkP tx n p : Nat) : Int) ((skq tx n p : Nat) : Int) 59 (tkN tx n p nu) f1 f2 f3 f4)) := by
  have hr := C_rt (T := (tdL tb kd wd ht rm mo sd bo)) (ed := ed) (hu := hu) (sk := sk) (tp := tp) (tk := tk) (nu := nu) (f1 := f1) (f2 := f2) (f3 := f3) (f4 := f4) hB hn hp
  rw [h59] at hr
  refine E_iload (pc' := 29) g23_27 rfl rfl ?_
  refine E_iload (pc' := 31) g23_29 rfl rfl ?_
  refine E_prim1 (pc' := 34) g23_31 k23_63 na25 rfl rfl (Nat.le_of_ble_eq_true rfl) hN ?_
  refine E_icge (pc' := 37) (pt := 97) g23_34 rfl rfl (fun c0 => ?_) (fun c0 => ?_)
  · first
    | (exfalso; omega)
    | (refine E_aload_n (pc' := 98) g23_97 rfl rfl ?_
       refine E_aload_n (pc' := 99) g23_98 rfl rfl ?_
       refine E_iload_n (pc' := 100) g23_99 rfl rfl ?_
       refine E_cV2v (pc' := 103) g23_100 k23_21 na30 rfl ow30 rfl (Nat.le_of_ble_eq_true rfl) (rH_2 hB) hr (by decide) ?_
       refine E_aload_n (pc' := 104) g23_103 rfl rfl ?_
       refine E_getI (pc' := 107) g23_104 f23_25 tg3_2 (by decide) rfl (rH_2 hB) rfl ?_
       refine E_bipush (pc' := 109) g23_107 (by decide) rfl ?_
       refine E_iceq (pc' := 112) (pt := 114) g23_109 rfl rfl (fun c1 => ?_) (fun c1 => ?_)
       · first
         | (exfalso; omega)
         | (refine E_iload (pc' := 116) g23_114 rfl rfl ?_
            refine E_bipush (pc' := 118) g23_116 (by decide) rfl ?_
            refine E_icne (pc' := 121) (pt := 129) g23_118 rfl rfl (fun c2 => ?_) (fun c2 => ?_)
            · first
              | (exfalso; omega)
              | (refine E_iconst (pc' := 130) g23_129 (by decide) rfl ?_
                 exact E_iret g23_130 (ro23 (by decide)) rfl (by rw [rH_T hB]; rfl))
            · first
              | (exfalso; omega)
              | (refine E_aload_n (pc' := 122) g23_121 rfl rfl ?_
                 refine E_iload (pc' := 124) g23_122 rfl rfl ?_
                 refine E_iconst (pc' := 125) g23_124 (by decide) rfl ?_
                 refine E_iadd (pc' := 126) g23_125 (m_in_iff.mpr (by omega)) rfl ?_
                 refine E_putf (pc' := 129) g23_126 f23_60 tg4_0 fn4_0 rfl rfl (rH_t hB) (Nat.le_of_ble_eq_true rfl) ?_
                 refine E_iconst (pc' := 130) g23_129 (by decide) rfl ?_
                 exact E_iret g23_130 (ro23 (by decide)) rfl (by rw [rH_T hB]; rfl)))
       · first
         | (exfalso; omega)
         | (exfalso; omega))
  · first
    | (exfalso; omega)
    | (exfalso; omega)
theorem C_endNo (hB : rBase H tb tx) (hn : n ≤ 120) (hp : p ≤ n) {N : Int} (hN6 : 0 ≤ N ∧ N ≤ 6) (hN : m_pv 25 [mI c] = some (mI N)) (h59 : ¬ tkT tx n p = 59) : Ev 3 23 27 [mR 2, mR tb, mR 1, mI (n : Int), mI c, mI k, mI N] [] (rH H tb T ed hu sk (rdL (p : Int) tp tk nu f1 f2 f3 f4)) (mI 0) (rH H tb T ed hu sk (rdL ((tkP tx n p : Nat) : Int) ((skq tx n p : Nat) : Int) (tkT tx n p) (tkN tx n p nu) f1 f2 f3 f4)) := by
  have hr := C_rt (T := T) (ed := ed) (hu := hu) (sk := sk) (tp := tp) (tk := tk) (nu := nu) (f1 := f1) (f2 := f2) (f3 := f3) (f4 := f4) hB hn hp
  refine E_iload (pc' := 29) g23_27 rfl rfl ?_
  refine E_iload (pc' := 31) g23_29 rfl rfl ?_
  refine E_prim1 (pc' := 34) g23_31 k23_63 na25 rfl rfl (Nat.le_of_ble_eq_true rfl) hN ?_
  refine E_icge (pc' := 37) (pt := 97) g23_34 rfl rfl (fun c0 => ?_) (fun c0 => ?_)
  · first
    | (exfalso; omega)
    | (refine E_aload_n (pc' := 98) g23_97 rfl rfl ?_
       refine E_aload_n (pc' := 99) g23_98 rfl rfl ?_
       refine E_iload_n (pc' := 100) g23_99 rfl rfl ?_
       refine E_cV2v (pc' := 103) g23_100 k23_21 na30 rfl ow30 rfl (Nat.le_of_ble_eq_true rfl) (rH_2 hB) hr (by decide) ?_
       refine E_aload_n (pc' := 104) g23_103 rfl rfl ?_
       refine E_getI (pc' := 107) g23_104 f23_25 tg3_2 (by decide) rfl (rH_2 hB) rfl ?_
       refine E_bipush (pc' := 109) g23_107 (by decide) rfl ?_
       refine E_iceq (pc' := 112) (pt := 114) g23_109 rfl rfl (fun c1 => ?_) (fun c1 => ?_)
       · first
         | (exfalso; omega)
         | (exfalso; omega)
       · first
         | (exfalso; omega)
         | (refine E_iconst (pc' := 113) g23_112 (by decide) rfl ?_
            exact E_iret g23_113 (ro23 (by decide)) rfl rfl))
  · first
    | (exfalso; omega)
    | (exfalso; omega)
theorem C_may_k (hB : rBase H tb tx) : Call 0 24 [mR 2, mR tb, mI 107] (rH H tb (tdL tb kd wd ht rm mo sd bo) ed hu sk R) (mI (if kd < 6 then 1 else 0)) (rH H tb (tdL tb kd wd ht rm mo sd bo) ed hu sk R) := by
  refine Call_of rfl ?_
  refine E_iload_n (pc' := 1) g24_0 rfl rfl ?_
  refine E_lookup (pt := 52) g24_1 (by decide) (by decide) ?_
  refine E_aload_n (pc' := 53) g24_52 rfl rfl ?_
  refine E_getI (pc' := 56) g24_53 f24_60 tg4_0 (by decide) rfl (rH_t hB) rfl ?_
  refine E_bipush (pc' := 58) g24_56 (by decide) rfl ?_
  refine E_icge (pc' := 61) (pt := 65) g24_58 rfl rfl (fun c0 => ?_) (fun c0 => ?_)
  · first
    | (exfalso; omega)
    | (refine E_iconst (pc' := 66) g24_65 (by decide) rfl ?_
       refine E_st3 (pc' := 67) g24_66 rfl ?_
       refine E_goto (pc' := 156) g24_67 rfl ?_
       refine E_iload_n (pc' := 157) g24_156 rfl rfl ?_
       exact E_iret g24_157 (ro24 (by decide)) (by first | rw [if_pos (by omega)] | rw [if_neg (by omega)]) rfl)
  · first
    | (exfalso; omega)
    | (refine E_iconst (pc' := 62) g24_61 (by decide) rfl ?_
       refine E_goto (pc' := 66) g24_62 rfl ?_
       refine E_st3 (pc' := 67) g24_66 rfl ?_
       refine E_goto (pc' := 156) g24_67 rfl ?_
       refine E_iload_n (pc' := 157) g24_156 rfl rfl ?_
       exact E_iret g24_157 (ro24 (by decide)) (by first | rw [if_pos (by omega)] | rw [if_neg (by omega)]) rfl)
theorem C_may_w (hB : rBase H tb tx) : Call 0 24 [mR 2, mR tb, mI 119] (rH H tb T ed hu sk (rdL p tp tk nu f1 f2 f3 f4)) (mI (if f1 = 0 then 1 else 0)) (rH H tb T ed hu sk (rdL p tp tk nu 1 f2 f3 f4)) := by
  refine Call_of rfl ?_
  refine E_iload_n (pc' := 1) g24_0 rfl rfl ?_
  refine E_lookup (pt := 70) g24_1 (by decide) (by decide) ?_
  refine E_aload_n (pc' := 71) g24_70 rfl rfl ?_
  refine E_getI (pc' := 74) g24_71 f24_43 tg3_4 (by decide) rfl (rH_2 hB) rfl ?_
  refine E_ifne (pc' := 77) (pt := 81) g24_74 rfl rfl (fun c0 => ?_) (fun c0 => ?_)
  · first
    | (exfalso; omega)
    | (refine E_iconst (pc' := 82) g24_81 (by decide) rfl ?_
       refine E_st3 (pc' := 83) g24_82 rfl ?_
       refine E_aload_n (pc' := 84) g24_83 rfl rfl ?_
       refine E_iconst (pc' := 85) g24_84 (by decide) rfl ?_
       refine E_putf (pc' := 88) g24_85 f24_43 tg3_4 fn3_4 rfl rfl (rH_2 hB) (Nat.le_of_ble_eq_true rfl) ?_
       refine E_goto (pc' := 156) g24_88 rfl ?_
       refine E_iload_n (pc' := 157) g24_156 rfl rfl ?_
       exact E_iret g24_157 (ro24 (by decide)) (by first | rw [if_pos (by omega)] | rw [if_neg (by omega)]) (by rw [rH_R]; rfl))
  · first
    | (exfalso; omega)
    | (refine E_iconst (pc' := 78) g24_77 (by decide) rfl ?_
       refine E_goto (pc' := 82) g24_78 rfl ?_
       refine E_st3 (pc' := 83) g24_82 rfl ?_
       refine E_aload_n (pc' := 84) g24_83 rfl rfl ?_
       refine E_iconst (pc' := 85) g24_84 (by decide) rfl ?_
       refine E_putf (pc' := 88) g24_85 f24_43 tg3_4 fn3_4 rfl rfl (rH_2 hB) (Nat.le_of_ble_eq_true rfl) ?_
       refine E_goto (pc' := 156) g24_88 rfl ?_
       refine E_iload_n (pc' := 157) g24_156 rfl rfl ?_
       exact E_iret g24_157 (ro24 (by decide)) (by first | rw [if_pos (by omega)] | rw [if_neg (by omega)]) (by rw [rH_R]; rfl))
theorem C_may_e (hB : rBase H tb tx) : Call 0 24 [mR 2, mR tb, mI 101] (rH H tb T ed hu sk (rdL p tp tk nu f1 f2 f3 f4)) (mI (if f2 = 0 then 1 else 0)) (rH H tb T ed hu sk (rdL p tp tk nu f1 1 f3 f4)) := by
  refine Call_of rfl ?_
  refine E_iload_n (pc' := 1) g24_0 rfl rfl ?_
  refine E_lookup (pt := 91) g24_1 (by decide) (by decide) ?_
  refine E_aload_n (pc' := 92) g24_91 rfl rfl ?_
  refine E_getI (pc' := 95) g24_92 f24_47 tg3_5 (by decide) rfl (rH_2 hB) rfl ?_
  refine E_ifne (pc' := 98) (pt := 102) g24_95 rfl rfl (fun c0 => ?_) (fun c0 => ?_)
  · first
    | (exfalso; omega)
    | (refine E_iconst (pc' := 103) g24_102 (by decide) rfl ?_
       refine E_st3 (pc' := 104) g24_103 rfl ?_
       refine E_aload_n (pc' := 105) g24_104 rfl rfl ?_
       refine E_iconst (pc' := 106) g24_105 (by decide) rfl ?_
       refine E_putf (pc' := 109) g24_106 f24_47 tg3_5 fn3_5 rfl rfl (rH_2 hB) (Nat.le_of_ble_eq_true rfl) ?_
       refine E_goto (pc' := 156) g24_109 rfl ?_
       refine E_iload_n (pc' := 157) g24_156 rfl rfl ?_
       exact E_iret g24_157 (ro24 (by decide)) (by first | rw [if_pos (by omega)] | rw [if_neg (by omega)]) (by rw [rH_R]; rfl))
  · first
    | (exfalso; omega)
    | (refine E_iconst (pc' := 99) g24_98 (by decide) rfl ?_
       refine E_goto (pc' := 103) g24_99 rfl ?_
       refine E_st3 (pc' := 104) g24_103 rfl ?_
       refine E_aload_n (pc' := 105) g24_104 rfl rfl ?_
       refine E_iconst (pc' := 106) g24_105 (by decide) rfl ?_
       refine E_putf (pc' := 109) g24_106 f24_47 tg3_5 fn3_5 rfl rfl (rH_2 hB) (Nat.le_of_ble_eq_true rfl) ?_
       refine E_goto (pc' := 156) g24_109 rfl ?_
       refine E_iload_n (pc' := 157) g24_156 rfl rfl ?_
       exact E_iret g24_157 (ro24 (by decide)) (by first | rw [if_pos (by omega)] | rw [if_neg (by omega)]) (by rw [rH_R]; rfl))
theorem C_may_m (hB : rBase H tb tx) : Call 0 24 [mR 2, mR tb, mI 109] (rH H tb T ed hu sk (rdL p tp tk nu f1 f2 f3 f4)) (mI (if f3 = 0 then 1 else 0)) (rH H tb T ed hu sk (rdL p tp tk nu f1 f2 1 f4)) := by
  refine Call_of rfl ?_
  refine E_iload_n (pc' := 1) g24_0 rfl rfl ?_
  refine E_lookup (pt := 112) g24_1 (by decide) (by decide) ?_
  refine E_aload_n (pc' := 113) g24_112 rfl rfl ?_
  refine E_getI (pc' := 116) g24_113 f24_50 tg3_6 (by decide) rfl (rH_2 hB) rfl ?_
  refine E_ifne (pc' := 119) (pt := 123) g24_116 rfl rfl (fun c0 => ?_) (fun c0 => ?_)
  · first
    | (exfalso; omega)
    | (refine E_iconst (pc' := 124) g24_123 (by decide) rfl ?_
       refine E_st3 (pc' := 125) g24_124 rfl ?_
       refine E_aload_n (pc' := 126) g24_125 rfl rfl ?_
       refine E_iconst (pc' := 127) g24_126 (by decide) rfl ?_
       refine E_putf (pc' := 130) g24_127 f24_50 tg3_6 fn3_6 rfl rfl (rH_2 hB) (Nat.le_of_ble_eq_true rfl) ?_
       refine E_goto (pc' := 156) g24_130 rfl ?_
       refine E_iload_n (pc' := 157) g24_156 rfl rfl ?_
       exact E_iret g24_157 (ro24 (by decide)) (by first | rw [if_pos (by omega)] | rw [if_neg (by omega)]) (by rw [rH_R]; rfl))
  · first
    | (exfalso; omega)
    | (refine E_iconst (pc' := 120) g24_119 (by decide) rfl ?_
       refine E_goto (pc' := 124) g24_120 rfl ?_
       refine E_st3 (pc' := 125) g24_124 rfl ?_
       refine E_aload_n (pc' := 126) g24_125 rfl rfl ?_
       refine E_iconst (pc' := 127) g24_126 (by decide) rfl ?_
       refine E_putf (pc' := 130) g24_127 f24_50 tg3_6 fn3_6 rfl rfl (rH_2 hB) (Nat.le_of_ble_eq_true rfl) ?_
       refine E_goto (pc' := 156) g24_130 rfl ?_
       refine E_iload_n (pc' := 157) g24_156 rfl rfl ?_
       exact E_iret g24_157 (ro24 (by decide)) (by first | rw [if_pos (by omega)] | rw [if_neg (by omega)]) (by rw [rH_R]; rfl))
theorem C_may_s (hB : rBase H tb tx) : Call 0 24 [mR 2, mR tb, mI 115] (rH H tb T ed hu sk (rdL p tp tk nu f1 f2 f3 f4)) (mI (if f4 = 0 then 1 else 0)) (rH H tb T ed hu sk (rdL p tp tk nu f1 f2 f3 1)) := by
  refine Call_of rfl ?_
  refine E_iload_n (pc' := 1) g24_0 rfl rfl ?_
  refine E_lookup (pt := 133) g24_1 (by decide) (by decide) ?_
  refine E_aload_n (pc' := 134) g24_133 rfl rfl ?_
  refine E_getI (pc' := 137) g24_134 f24_53 tg3_7 (by decide) rfl (rH_2 hB) rfl ?_
  refine E_ifne (pc' := 140) (pt := 144) g24_137 rfl rfl (fun c0 => ?_) (fun c0 => ?_)
  · first
    | (exfalso; omega)
    | (refine E_iconst (pc' := 145) g24_144 (by decide) rfl ?_
       refine E_st3 (pc' := 146) g24_145 rfl ?_
       refine E_aload_n (pc' := 147) g24_146 rfl rfl ?_
       refine E_iconst (pc' := 148) g24_147 (by decide) rfl ?_
       refine E_putf (pc' := 151) g24_148 f24_53 tg3_7 fn3_7 rfl rfl (rH_2 hB) (Nat.le_of_ble_eq_true rfl) ?_
       refine E_goto (pc' := 156) g24_151 rfl ?_
       refine E_iload_n (pc' := 157) g24_156 rfl rfl ?_
       exact E_iret g24_157 (ro24 (by decide)) (by first | rw [if_pos (by omega)] | rw [if_neg (by omega)]) (by rw [rH_R]; rfl))
  · first
    | (exfalso; omega)
    | (refine E_iconst (pc' := 141) g24_140 (by decide) rfl ?_
       refine E_goto (pc' := 145) g24_141 rfl ?_
       refine E_st3 (pc' := 146) g24_145 rfl ?_
       refine E_aload_n (pc' := 147) g24_146 rfl rfl ?_
       refine E_iconst (pc' := 148) g24_147 (by decide) rfl ?_
       refine E_putf (pc' := 151) g24_148 f24_53 tg3_7 fn3_7 rfl rfl (rH_2 hB) (Nat.le_of_ble_eq_true rfl) ?_
       refine E_goto (pc' := 156) g24_151 rfl ?_
       refine E_iload_n (pc' := 157) g24_156 rfl rfl ?_
       exact E_iret g24_157 (ro24 (by decide)) (by first | rw [if_pos (by omega)] | rw [if_neg (by omega)]) (by rw [rH_R]; rfl))
theorem C_may_no (h1 : ¬ (101 : Int) = c) (h2 : ¬ (107 : Int) = c) (h3 : ¬ (109 : Int) = c) (h4 : ¬ (115 : Int) = c) (h5 : ¬ (119 : Int) = c) : Call 0 24 [mR 2, mR tb, mI c] H (mI 0) H := by
  refine Call_of rfl ?_
  refine E_iload_n (pc' := 1) g24_0 rfl rfl ?_
  refine E_lookup (pt := 154) g24_1 (by decide) (by simp [Op.lookupswitch.offset, m_jmp, h1, h2, h3, h4, h5]) ?_
  refine E_iconst (pc' := 155) g24_154 (by decide) rfl ?_
  refine E_st3 (pc' := 156) g24_155 rfl ?_
  refine E_iload_n (pc' := 157) g24_156 rfl rfl ?_
  exact E_iret g24_157 (ro24 (by decide)) rfl rfl
theorem C_put_w0 (hB : rBase H tb tx) {i : Int} : Call 1 28 [mR 2, mR tb, mI 119, mI k, mI 0] (rH H tb (tdL tb kd wd ht rm mo sd bo) ed hu sk (rdL p tp tk nu f1 f2 f3 f4)) none (rH H tb (tdL tb kd nu ht rm mo sd bo) ed hu sk (rdL p tp tk nu f1 f2 f3 f4)) := by
  refine Call_of rfl ?_
  refine E_iload_n (pc' := 1) g28_0 rfl rfl ?_
  refine E_lookup (pt := 55) g28_1 (by decide) (by decide) ?_
  refine E_iload (pc' := 57) g28_55 rfl rfl ?_
  refine E_ifne (pc' := 60) (pt := 71) g28_57 rfl rfl (fun c0 => ?_) (fun c0 => ?_)
  · first
    | (exfalso; omega)
    | (refine E_aload_n (pc' := 72) g28_71 rfl rfl ?_
       refine E_aload_n (pc' := 73) g28_72 rfl rfl ?_
       refine E_getI (pc' := 76) g28_73 f28_67 tg3_3 (by decide) rfl (rH_2 hB) rfl ?_
       refine E_putf (pc' := 79) g28_76 f28_91 tg4_2 fn4_2 rfl rfl (rH_t hB) (Nat.le_of_ble_eq_true rfl) ?_
       refine E_goto (pc' := 128) g28_79 rfl ?_
       exact E_ret g28_128 rt28 rfl (by rw [rH_T hB]; rfl))
  · first
    | (exfalso; omega)
    | (refine E_aload_n (pc' := 61) g28_60 rfl rfl ?_
       refine E_aload_n (pc' := 62) g28_61 rfl rfl ?_
       refine E_getI (pc' := 65) g28_62 f28_67 tg3_3 (by decide) rfl (rH_2 hB) rfl ?_
       refine E_putf (pc' := 68) g28_65 f28_88 tg4_1 fn4_1 rfl rfl (rH_t hB) (Nat.le_of_ble_eq_true rfl) ?_
       refine E_goto (pc' := 128) g28_68 rfl ?_
       exact E_ret g28_128 rt28 rfl (by rw [rH_T hB]; rfl))
theorem C_put_w1 (hB : rBase H tb tx) {i : Int} : Call 1 28 [mR 2, mR tb, mI 119, mI k, mI 1] (rH H tb (tdL tb kd wd ht rm mo sd bo) ed hu sk (rdL p tp tk nu f1 f2 f3 f4)) none (rH H tb (tdL tb kd wd nu rm mo sd bo) ed hu sk (rdL p tp tk nu f1 f2 f3 f4)) := by
  refine Call_of rfl ?_
  refine E_iload_n (pc' := 1) g28_0 rfl rfl ?_
  refine E_lookup (pt := 55) g28_1 (by decide) (by decide) ?_
  refine E_iload (pc' := 57) g28_55 rfl rfl ?_
  refine E_ifne (pc' := 60) (pt := 71) g28_57 rfl rfl (fun c0 => ?_) (fun c0 => ?_)
  · first
    | (exfalso; omega)
    | (refine E_aload_n (pc' := 72) g28_71 rfl rfl ?_
       refine E_aload_n (pc' := 73) g28_72 rfl rfl ?_
       refine E_getI (pc' := 76) g28_73 f28_67 tg3_3 (by decide) rfl (rH_2 hB) rfl ?_
       refine E_putf (pc' := 79) g28_76 f28_91 tg4_2 fn4_2 rfl rfl (rH_t hB) (Nat.le_of_ble_eq_true rfl) ?_
       refine E_goto (pc' := 128) g28_79 rfl ?_
       exact E_ret g28_128 rt28 rfl (by rw [rH_T hB]; rfl))
  · first
    | (exfalso; omega)
    | (refine E_aload_n (pc' := 61) g28_60 rfl rfl ?_
       refine E_aload_n (pc' := 62) g28_61 rfl rfl ?_
       refine E_getI (pc' := 65) g28_62 f28_67 tg3_3 (by decide) rfl (rH_2 hB) rfl ?_
       refine E_putf (pc' := 68) g28_65 f28_88 tg4_1 fn4_1 rfl rfl (rH_t hB) (Nat.le_of_ble_eq_true rfl) ?_
       refine E_goto (pc' := 128) g28_68 rfl ?_
       exact E_ret g28_128 rt28 rfl (by rw [rH_T hB]; rfl))
theorem C_put_e (hB : rBase H tb tx) {i : Int} : Call 1 28 [mR 2, mR tb, mI 101, mI k, mI i] (rH H tb (tdL tb kd wd ht rm mo sd bo) ed hu sk (rdL p tp tk nu f1 f2 f3 f4)) none (rH H tb (tdL tb kd wd ht nu mo sd bo) ed hu sk (rdL p tp tk nu f1 f2 f3 f4)) := by
  refine Call_of rfl ?_
  refine E_iload_n (pc' := 1) g28_0 rfl rfl ?_
  refine E_lookup (pt := 82) g28_1 (by decide) (by decide) ?_
  refine E_aload_n (pc' := 83) g28_82 rfl rfl ?_
  refine E_aload_n (pc' := 84) g28_83 rfl rfl ?_
  refine E_getI (pc' := 87) g28_84 f28_67 tg3_3 (by decide) rfl (rH_2 hB) rfl ?_
  refine E_putf (pc' := 90) g28_87 f28_94 tg4_3 fn4_3 rfl rfl (rH_t hB) (Nat.le_of_ble_eq_true rfl) ?_
  refine E_goto (pc' := 128) g28_90 rfl ?_
  exact E_ret g28_128 rt28 rfl (by rw [rH_T hB]; rfl)
theorem C_put_m (hB : rBase H tb tx) {i : Int} : Call 1 28 [mR 2, mR tb, mI 109, mI k, mI i] (rH H tb (tdL tb kd wd ht rm mo sd bo) ed hu sk (rdL p tp tk nu f1 f2 f3 f4)) none (rH H tb (tdL tb kd wd ht rm nu sd bo) ed hu sk (rdL p tp tk nu f1 f2 f3 f4)) := by
  refine Call_of rfl ?_
  refine E_iload_n (pc' := 1) g28_0 rfl rfl ?_
  refine E_lookup (pt := 93) g28_1 (by decide) (by decide) ?_
  refine E_aload_n (pc' := 94) g28_93 rfl rfl ?_
  refine E_aload_n (pc' := 95) g28_94 rfl rfl ?_
  refine E_getI (pc' := 98) g28_95 f28_67 tg3_3 (by decide) rfl (rH_2 hB) rfl ?_
  refine E_putf (pc' := 101) g28_98 f28_97 tg4_4 fn4_4 rfl rfl (rH_t hB) (Nat.le_of_ble_eq_true rfl) ?_
  refine E_goto (pc' := 128) g28_101 rfl ?_
  exact E_ret g28_128 rt28 rfl (by rw [rH_T hB]; rfl)
theorem C_put_s0 (hB : rBase H tb tx) {i : Int} : Call 1 28 [mR 2, mR tb, mI 115, mI k, mI 0] (rH H tb (tdL tb kd wd ht rm mo sd bo) ed hu sk (rdL p tp tk nu f1 f2 f3 f4)) none (rH H tb (tdL tb kd wd ht rm mo nu bo) ed hu sk (rdL p tp tk nu f1 f2 f3 f4)) := by
  refine Call_of rfl ?_
  refine E_iload_n (pc' := 1) g28_0 rfl rfl ?_
  refine E_lookup (pt := 104) g28_1 (by decide) (by decide) ?_
  refine E_iload (pc' := 106) g28_104 rfl rfl ?_
  refine E_ifne (pc' := 109) (pt := 120) g28_106 rfl rfl (fun c0 => ?_) (fun c0 => ?_)
  · first
    | (exfalso; omega)
    | (refine E_aload_n (pc' := 121) g28_120 rfl rfl ?_
       refine E_aload_n (pc' := 122) g28_121 rfl rfl ?_
       refine E_getI (pc' := 125) g28_122 f28_67 tg3_3 (by decide) rfl (rH_2 hB) rfl ?_
       refine E_putf (pc' := 128) g28_125 f28_103 tg4_6 fn4_6 rfl rfl (rH_t hB) (Nat.le_of_ble_eq_true rfl) ?_
       exact E_ret g28_128 rt28 rfl (by rw [rH_T hB]; rfl))
  · first
    | (exfalso; omega)
    | (refine E_aload_n (pc' := 110) g28_109 rfl rfl ?_
       refine E_aload_n (pc' := 111) g28_110 rfl rfl ?_
       refine E_getI (pc' := 114) g28_111 f28_67 tg3_3 (by decide) rfl (rH_2 hB) rfl ?_
       refine E_putf (pc' := 117) g28_114 f28_100 tg4_5 fn4_5 rfl rfl (rH_t hB) (Nat.le_of_ble_eq_true rfl) ?_
       refine E_goto (pc' := 128) g28_117 rfl ?_
       exact E_ret g28_128 rt28 rfl (by rw [rH_T hB]; rfl))
theorem C_put_s1 (hB : rBase H tb tx) {i : Int} : Call 1 28 [mR 2, mR tb, mI 115, mI k, mI 1] (rH H tb (tdL tb kd wd ht rm mo sd bo) ed hu sk (rdL p tp tk nu f1 f2 f3 f4)) none (rH H tb (tdL tb kd wd ht rm mo sd nu) ed hu sk (rdL p tp tk nu f1 f2 f3 f4)) := by
  refine Call_of rfl ?_
  refine E_iload_n (pc' := 1) g28_0 rfl rfl ?_
  refine E_lookup (pt := 104) g28_1 (by decide) (by decide) ?_
  refine E_iload (pc' := 106) g28_104 rfl rfl ?_
  refine E_ifne (pc' := 109) (pt := 120) g28_106 rfl rfl (fun c0 => ?_) (fun c0 => ?_)
  · first
    | (exfalso; omega)
    | (refine E_aload_n (pc' := 121) g28_120 rfl rfl ?_
       refine E_aload_n (pc' := 122) g28_121 rfl rfl ?_
       refine E_getI (pc' := 125) g28_122 f28_67 tg3_3 (by decide) rfl (rH_2 hB) rfl ?_
       refine E_putf (pc' := 128) g28_125 f28_103 tg4_6 fn4_6 rfl rfl (rH_t hB) (Nat.le_of_ble_eq_true rfl) ?_
       exact E_ret g28_128 rt28 rfl (by rw [rH_T hB]; rfl))
  · first
    | (exfalso; omega)
    | (refine E_aload_n (pc' := 110) g28_109 rfl rfl ?_
       refine E_aload_n (pc' := 111) g28_110 rfl rfl ?_
       refine E_getI (pc' := 114) g28_111 f28_67 tg3_3 (by decide) rfl (rH_2 hB) rfl ?_
       refine E_putf (pc' := 117) g28_114 f28_100 tg4_5 fn4_5 rfl rfl (rH_t hB) (Nat.le_of_ble_eq_true rfl) ?_
       refine E_goto (pc' := 128) g28_117 rfl ?_
       exact E_ret g28_128 rt28 rfl (by rw [rH_T hB]; rfl))
theorem C_putKind (hB : rBase H tb tx) {i : Int} (hk : 0 ≤ k ∧ k < 6) (hi : 0 ≤ i ∧ i < 6) (he : ed.length = 24) (hu6 : hu.length = 6) (hs6 : sk.length = 6) : Call 0 29 [mR 2, mR tb, mI k, mI i] (rH H tb (tdL tb kd wd ht rm mo sd bo) ed hu sk (rdL p tp tk nu f1 f2 f3 f4)) none (rH H tb (tdL tb kd wd ht rm mo sd bo) (if i < 4 then up ed (k * 4 + i) nu else ed) (if i = 4 then up hu k nu else hu) (if i = 5 then up sk k nu else sk) (rdL p tp tk nu f1 f2 f3 f4)) := by
  refine Call_of rfl ?_
  refine E_iload_n (pc' := 1) g29_0 rfl rfl ?_
  refine E_iflt (pc' := 4) (pt := 14) g29_1 rfl rfl (fun c0 => ?_) (fun c0 => ?_)
  · first
    | (exfalso; omega)
    | (exact E_ret g29_14 rt29 rfl (by exfalso; omega))
  · first
    | (exfalso; omega)
    | (refine E_iload_n (pc' := 5) g29_4 rfl rfl ?_
       refine E_bipush (pc' := 7) g29_5 (by decide) rfl ?_
       refine E_icge (pc' := 10) (pt := 14) g29_7 rfl rfl (fun c1 => ?_) (fun c1 => ?_)
       · first
         | (exfalso; omega)
         | (exact E_ret g29_14 rt29 rfl (by exfalso; omega))
       · first
         | (exfalso; omega)
         | (refine E_iload_n (pc' := 11) g29_10 rfl rfl ?_
            refine E_ifge (pc' := 14) (pt := 15) g29_11 rfl rfl (fun c2 => ?_) (fun c2 => ?_)
            · first
              | (exfalso; omega)
              | (refine E_iload_n (pc' := 16) g29_15 rfl rfl ?_
                 refine E_iconst (pc' := 17) g29_16 (by decide) rfl ?_
                 refine E_icge (pc' := 20) (pt := 37) g29_17 rfl rfl (fun c3 => ?_) (fun c3 => ?_)
                 · first
                   | (exfalso; omega)
                   | (refine E_iload_n (pc' := 38) g29_37 rfl rfl ?_
                      refine E_iconst (pc' := 39) g29_38 (by decide) rfl ?_
                      refine E_icne (pc' := 42) (pt := 55) g29_39 rfl rfl (fun c4 => ?_) (fun c4 => ?_)
                      · first
                        | (exfalso; omega)
                        | (refine E_aload_n (pc' := 56) g29_55 rfl rfl ?_
                           refine E_getR (pc' := 59) g29_56 f29_112 tg4_9 rfl (rH_t hB) rfl ?_
                           refine E_iload_n (pc' := 60) g29_59 rfl rfl ?_
                           refine E_aload_n (pc' := 61) g29_60 rfl rfl ?_
                           refine E_getI (pc' := 64) g29_61 f29_67 tg3_3 (by decide) rfl (rH_2 hB) rfl ?_
                           refine E_iastore (pc' := 65) g29_64 rfl (rH_s hB) (by omega) (by omega) ?_
                           exact E_ret g29_65 rt29 rfl (by first | (rw [if_pos (by omega), if_neg (by omega), if_neg (by omega), rH_E hB]) | (rw [if_neg (by omega), if_pos (by omega), if_neg (by omega), rH_U hB]) | (rw [if_neg (by omega), if_neg (by omega), if_pos (by omega), rH_S hB])))
                      · first
                        | (exfalso; omega)
                        | (refine E_aload_n (pc' := 43) g29_42 rfl rfl ?_
                           refine E_getR (pc' := 46) g29_43 f29_109 tg4_8 rfl (rH_t hB) rfl ?_
                           refine E_iload_n (pc' := 47) g29_46 rfl rfl ?_
                           refine E_aload_n (pc' := 48) g29_47 rfl rfl ?_
                           refine E_getI (pc' := 51) g29_48 f29_67 tg3_3 (by decide) rfl (rH_2 hB) rfl ?_
                           refine E_iastore (pc' := 52) g29_51 rfl (rH_u hB) (by omega) (by omega) ?_
                           refine E_goto (pc' := 65) g29_52 rfl ?_
                           exact E_ret g29_65 rt29 rfl (by first | (rw [if_pos (by omega), if_neg (by omega), if_neg (by omega), rH_E hB]) | (rw [if_neg (by omega), if_pos (by omega), if_neg (by omega), rH_U hB]) | (rw [if_neg (by omega), if_neg (by omega), if_pos (by omega), rH_S hB]))))
                 · first
                   | (exfalso; omega)
                   | (refine E_aload_n (pc' := 21) g29_20 rfl rfl ?_
                      refine E_getR (pc' := 24) g29_21 f29_106 tg4_7 rfl (rH_t hB) rfl ?_
                      refine E_iload_n (pc' := 25) g29_24 rfl rfl ?_
                      refine E_iconst (pc' := 26) g29_25 (by decide) rfl ?_
                      refine E_imul (pc' := 27) g29_26 (m_in_iff.mpr (by omega)) rfl ?_
                      refine E_iload_n (pc' := 28) g29_27 rfl rfl ?_
                      refine E_iadd (pc' := 29) g29_28 (m_in_iff.mpr (by omega)) rfl ?_
                      refine E_aload_n (pc' := 30) g29_29 rfl rfl ?_
                      refine E_getI (pc' := 33) g29_30 f29_67 tg3_3 (by decide) rfl (rH_2 hB) rfl ?_
                      refine E_iastore (pc' := 34) g29_33 rfl (rH_e hB) (by omega) (by omega) ?_
                      refine E_goto (pc' := 65) g29_34 rfl ?_
                      exact E_ret g29_65 rt29 rfl (by first | (rw [if_pos (by omega), if_neg (by omega), if_neg (by omega), rH_E hB]) | (rw [if_neg (by omega), if_pos (by omega), if_neg (by omega), rH_U hB]) | (rw [if_neg (by omega), if_neg (by omega), if_pos (by omega), rH_S hB]))))
            · first
              | (exfalso; omega)
              | (exact E_ret g29_14 rt29 rfl (by exfalso; omega))))
theorem C_put_k (hB : rBase H tb tx) {i : Int} (hk : 0 ≤ k ∧ k < 6) (hi : 0 ≤ i ∧ i < 6) (he : ed.length = 24) (hu6 : hu.length = 6) (hs6 : sk.length = 6) : Call 1 28 [mR 2, mR tb, mI 107, mI k, mI i] (rH H tb (tdL tb kd wd ht rm mo sd bo) ed hu sk (rdL p tp tk nu f1 f2 f3 f4)) none (rH H tb (tdL tb kd wd ht rm mo sd bo) (if i < 4 then up ed (k * 4 + i) nu else ed) (if i = 4 then up hu k nu else hu) (if i = 5 then up sk k nu else sk) (rdL p tp tk nu f1 f2 f3 f4)) := by
  refine Call_of rfl ?_
  refine E_iload_n (pc' := 1) g28_0 rfl rfl ?_
  refine E_lookup (pt := 44) g28_1 (by decide) (by decide) ?_
  refine E_aload_n (pc' := 45) g28_44 rfl rfl ?_
  refine E_aload_n (pc' := 46) g28_45 rfl rfl ?_
  refine E_iload_n (pc' := 47) g28_46 rfl rfl ?_
  refine E_iload (pc' := 49) g28_47 rfl rfl ?_
  refine E_cV3v (pc' := 52) g28_49 k28_84 na29 rfl ow29 rfl (Nat.le_of_ble_eq_true rfl) (rH_2 hB) (C_putKind hB hk hi he hu6 hs6) (by decide) ?_
  refine E_goto (pc' := 128) g28_52 rfl ?_
  exact E_ret g28_128 rt28 rfl rfl
theorem C_intoEnd (hB : rBase H tb tx) {it : Int} : Ev 4 21 23 [mR 2, mR tb, mR 1, mI (n : Int), mI (n : Int), mI it] [] (rH H tb T ed hu sk (rdL p tp (-1) nu f1 f2 f3 f4)) (mI it) (rH H tb T ed hu sk (rdL p tp (-1) nu f1 f2 f3 f4)) := by
  refine E_aload_n (pc' := 24) g21_23 rfl rfl ?_
  refine E_getI (pc' := 27) g21_24 f21_25 tg3_2 (by decide) rfl (rH_2 hB) rfl ?_
  refine E_iconst (pc' := 28) g21_27 (by decide) rfl ?_
  refine E_iceq (pc' := 31) (pt := 70) g21_28 rfl rfl (fun c0 => ?_) (fun c0 => ?_)
  · first
    | (exfalso; omega)
    | (refine E_iload (pc' := 72) g21_70 rfl rfl ?_
       exact E_iret g21_72 ro21 rfl rfl)
  · first
    | (exfalso; omega)
    | (exfalso; omega)
theorem C_intoNo (hB : rBase H tb tx) {it q p2 tk2 nu2 g1 g2 g3 g4 : Int} (hit : it ≤ 120) (ht : ¬ tk = -1) (hq : 0 ≤ q ∧ q ≤ 1000) (hc : Call 3 23 [mR 2, mR tb, mR 1, mI (n : Int)] (rH H tb T ed hu sk (rdL p tp tk nu f1 f2 f3 f4)) (mI 0) (rH H tb T2 ed2 hu2 sk2 (rdL p2 q tk2 nu2 g1 g2 g3 g4))) : Ev 4 21 23 [mR 2, mR tb, mR 1, mI (n : Int), mI (n : Int), mI it] [] (rH H tb T ed hu sk (rdL p tp tk nu f1 f2 f3 f4)) (mI (-10 - q)) (rH H tb T2 ed2 hu2 sk2 (rdL p2 q tk2 nu2 g1 g2 g3 g4)) := by
  refine E_aload_n (pc' := 24) g21_23 rfl rfl ?_
  refine E_getI (pc' := 27) g21_24 f21_25 tg3_2 (by decide) rfl (rH_2 hB) rfl ?_
  refine E_iconst (pc' := 28) g21_27 (by decide) rfl ?_
  refine E_iceq (pc' := 31) (pt := 70) g21_28 rfl rfl (fun c0 => ?_) (fun c0 => ?_)
  · first
    | (exfalso; omega)
    | (exfalso; omega)
  · first
    | (exfalso; omega)
    | (refine E_iload (pc' := 33) g21_31 rfl rfl ?_
       refine E_bipush (pc' := 35) g21_33 (by decide) rfl ?_
       refine E_icgt (pc' := 38) (pt := 70) g21_35 rfl rfl (fun c1 => ?_) (fun c1 => ?_)
       · first
         | (exfalso; omega)
         | (exfalso; omega)
       · first
         | (exfalso; omega)
         | (refine E_aload_n (pc' := 39) g21_38 rfl rfl ?_
            refine E_aload_n (pc' := 40) g21_39 rfl rfl ?_
            refine E_aload_n (pc' := 41) g21_40 rfl rfl ?_
            refine E_iload (pc' := 43) g21_41 rfl rfl ?_
            refine E_cV3i (pc' := 46) g21_43 k21_29 na23 rfl ow23 rfl (Nat.le_of_ble_eq_true rfl) (rH_2 hB) hc (by decide) ?_
            refine E_ifne (pc' := 49) (pt := 57) g21_46 rfl rfl (fun c2 => ?_) (fun c2 => ?_)
            · first
              | (exfalso; omega)
              | (exfalso; omega)
            · first
              | (exfalso; omega)
              | (refine E_bipush (pc' := 51) g21_49 (by decide) rfl ?_
                 refine E_aload_n (pc' := 52) g21_51 rfl rfl ?_
                 refine E_getI (pc' := 55) g21_52 f21_33 tg3_1 (by decide) rfl (rH_2 hB) rfl ?_
                 refine E_isub (pc' := 56) g21_55 (m_in_iff.mpr (by omega)) rfl ?_
                 exact E_iret g21_56 ro21 rfl rfl)))
theorem C_intoOk (hB : rBase H tb tx) (hn : n ≤ 120) (hp : p ≤ n) {it pc tp2 tk2 nu2 g1 g2 g3 g4 : Int} (hit : 0 ≤ it ∧ it ≤ 120) (ht : ¬ tk = -1) (hc : Call 3 23 [mR 2, mR tb, mR 1, mI (n : Int)] (rH H tb T ed hu sk (rdL pc tp tk nu f1 f2 f3 f4)) (mI 1) (rH H tb T2 ed2 hu2 sk2 (rdL (p : Int) tp2 tk2 nu2 g1 g2 g3 g4))) {r : mV} {H1 : mH} (h : Ev 4 21 23 [mR 2, mR tb, mR 1, mI (n : Int), mI (n : Int), mI (it + 1)] [] (rH H tb T2 ed2 hu2 sk2 (rdL ((tkP tx n p : Nat) : Int) ((skq tx n p : Nat) : Int) (tkT tx n p) (tkN tx n p nu2) g1 g2 g3 g4)) r H1) : Ev 4 21 23 [mR 2, mR tb, mR 1, mI (n : Int), mI (n : Int), mI it] [] (rH H tb T ed hu sk (rdL pc tp tk nu f1 f2 f3 f4)) r H1 := by
  refine E_aload_n (pc' := 24) g21_23 rfl rfl ?_
  refine E_getI (pc' := 27) g21_24 f21_25 tg3_2 (by decide) rfl (rH_2 hB) rfl ?_
  refine E_iconst (pc' := 28) g21_27 (by decide) rfl ?_
  refine E_iceq (pc' := 31) (pt := 70) g21_28 rfl rfl (fun c0 => ?_) (fun c0 => ?_)
  · first
    | (exfalso; omega)
    | (exfalso; omega)
  · first
    | (exfalso; omega)
    | (refine E_iload (pc' := 33) g21_31 rfl rfl ?_
       refine E_bipush (pc' := 35) g21_33 (by decide) rfl ?_
       refine E_icgt (pc' := 38) (pt := 70) g21_35 rfl rfl (fun c1 => ?_) (fun c1 => ?_)
       · first
         | (exfalso; omega)
         | (exfalso; omega)
       · first
         | (exfalso; omega)
         | (refine E_aload_n (pc' := 39) g21_38 rfl rfl ?_
            refine E_aload_n (pc' := 40) g21_39 rfl rfl ?_
            refine E_aload_n (pc' := 41) g21_40 rfl rfl ?_
            refine E_iload (pc' := 43) g21_41 rfl rfl ?_
            refine E_cV3i (pc' := 46) g21_43 k21_29 na23 rfl ow23 rfl (Nat.le_of_ble_eq_true rfl) (rH_2 hB) hc (by decide) ?_
            refine E_ifne (pc' := 49) (pt := 57) g21_46 rfl rfl (fun c2 => ?_) (fun c2 => ?_)
            · first
              | (exfalso; omega)
              | (refine E_in5 (pc' := 60) g21_57 rfl (m_in_iff.mpr (by omega)) ?_
                 refine E_aload_n (pc' := 61) g21_60 rfl rfl ?_
                 refine E_aload_n (pc' := 62) g21_61 rfl rfl ?_
                 refine E_iload (pc' := 64) g21_62 rfl rfl ?_
                 refine E_cV2v (pc' := 67) g21_64 k21_21 na30 rfl ow30 rfl (Nat.le_of_ble_eq_true rfl) (rH_2 hB) (C_rt hB hn hp) (by decide) ?_
                 refine E_goto (pc' := 23) g21_67 rfl ?_
                 exact h)
            · first
              | (exfalso; omega)
              | (exfalso; omega)))
theorem rH_same (h1 : H[tb + 1]? = some (8, ed)) (h2 : H[tb + 2]? = some (8, hu)) (h3 : H[tb + 3]? = some (8, sk)) : rH H tb T ed hu sk R = pt (pt H tb T) 2 R := by
  unfold rH
  rw [pt_same (H := pt H tb T) (pt_nx (by omega) h1), pt_same (H := pt H tb T) (pt_nx (by omega) h2), pt_same (H := pt H tb T) (pt_nx (by omega) h3)]
theorem C_startAnew {hv : List Int} {p0 : Int} (hB : rBase H tb tx) (hT : isTold H tb kd wd ht rm mo sd bo ed hu sk hv) (h2 : H[2]? = some (3, (rdL p0 tp tk nu f1 f2 f3 f4))) : Call 1 22 [mR 2, mR tb] H none (rH H tb (tdL tb 0 2 2 (-9) 9 4 1) ed hu sk (rdL ((0 : Nat) : Int) tp tk nu 0 0 0 0)) := by
  have ht0 := C_toldAnew hT
  have h3 := hB.2.2.2.2.2.2.2
  have hx : (pt H tb (tdL tb 0 2 2 (-9) 9 4 1))[2]? = some (3, (rdL p0 tp tk nu f1 f2 f3 f4)) := pt_nx (by omega) h2
  refine Call_of rfl ?_
  refine E_aload_n (pc' := 1) g22_0 rfl rfl ?_
  refine E_cV0v (pc' := 4) g22_1 k22_36 na35 rfl ow35 rfl (Nat.le_of_ble_eq_true rfl) hT.1 ht0 (by decide) ?_
  refine E_aload_n (pc' := 5) g22_4 rfl rfl ?_
  refine E_iconst (pc' := 6) g22_5 (by decide) rfl ?_
  refine E_putf (pc' := 9) g22_6 f22_40 tg3_0 fn3_0 rfl rfl hx (Nat.le_of_ble_eq_true rfl) ?_
  refine E_aload_n (pc' := 10) g22_9 rfl rfl ?_
  refine E_iconst (pc' := 11) g22_10 (by decide) rfl ?_
  refine E_putf (pc' := 14) g22_11 f22_43 tg3_4 fn3_4 rfl rfl (pt_self hx) (Nat.le_of_ble_eq_true rfl) ?_
  rw [pt_pt]
  refine E_aload_n (pc' := 15) g22_14 rfl rfl ?_
  refine E_iconst (pc' := 16) g22_15 (by decide) rfl ?_
  refine E_putf (pc' := 19) g22_16 f22_47 tg3_5 fn3_5 rfl rfl (pt_self hx) (Nat.le_of_ble_eq_true rfl) ?_
  rw [pt_pt]
  refine E_aload_n (pc' := 20) g22_19 rfl rfl ?_
  refine E_iconst (pc' := 21) g22_20 (by decide) rfl ?_
  refine E_putf (pc' := 24) g22_21 f22_50 tg3_6 fn3_6 rfl rfl (pt_self hx) (Nat.le_of_ble_eq_true rfl) ?_
  rw [pt_pt]
  refine E_aload_n (pc' := 25) g22_24 rfl rfl ?_
  refine E_iconst (pc' := 26) g22_25 (by decide) rfl ?_
  refine E_putf (pc' := 29) g22_26 f22_53 tg3_7 fn3_7 rfl rfl (pt_self hx) (Nat.le_of_ble_eq_true rfl) ?_
  rw [pt_pt]
  exact E_ret g22_29 rt22 rfl (by rw [rH_same hT.2.1 hT.2.2.1 hT.2.2.2.1]; rfl)
theorem C_into {hv : List Int} {p0 : Int} (hB : rBase H tb tx) (hT : isTold H tb kd wd ht rm mo sd bo ed hu sk hv) (h2 : H[2]? = some (3, (rdL p0 tp tk nu f1 f2 f3 f4))) (hn : n ≤ 120) {r : mV} {H1 : mH} (h : Ev 4 21 23 [mR 2, mR tb, mR 1, mI (n : Int), mI (n : Int), mI 0] [] (rH H tb (tdL tb 0 2 2 (-9) 9 4 1) ed hu sk (rdL ((tkP tx n 0 : Nat) : Int) ((skq tx n 0 : Nat) : Int) (tkT tx n 0) (tkN tx n 0 nu) 0 0 0 0)) r H1) : Call 4 21 [mR 2, mR tb, mR 1, mI (n : Int)] H r H1 := by
  have hl := hB.2.2.2.2.2.2.1
  refine Call_of rfl ?_
  refine E_aload_n (pc' := 1) g21_0 rfl rfl ?_
  refine E_aload_n (pc' := 2) g21_1 rfl rfl ?_
  refine E_cV1v (pc' := 5) g21_2 k21_9 na22 rfl ow22 rfl (Nat.le_of_ble_eq_true rfl) h2 (C_startAnew hB hT h2) (by decide) ?_
  refine E_iload_n (pc' := 6) g21_5 rfl rfl ?_
  refine E_aload_n (pc' := 7) g21_6 rfl rfl ?_
  refine E_alen (pc' := 8) g21_7 rfl (rH_1 hB) (by decide) (m_in_iff.mpr (by omega)) ?_
  refine E_min (pc' := 11) g21_8 k21_15 rfl (Nat.le_of_ble_eq_true rfl) ?_
  rw [show min (n : Int) (tx.length : Int) = (n : Int) by omega]
  refine E_st4 (pc' := 13) g21_11 rfl ?_
  refine E_iconst (pc' := 14) g21_13 (by decide) rfl ?_
  refine E_st5 (pc' := 16) g21_14 rfl ?_
  refine E_aload_n (pc' := 17) g21_16 rfl rfl ?_
  refine E_aload_n (pc' := 18) g21_17 rfl rfl ?_
  refine E_iload (pc' := 20) g21_18 rfl rfl ?_
  refine E_cV2v (pc' := 23) g21_20 k21_21 na30 rfl ow30 rfl (Nat.le_of_ble_eq_true rfl) (rH_2 hB) (C_rt hB hn (Nat.zero_le n)) (by decide) ?_
  exact h
theorem C_it_e (hB : rBase H tb tx) (hn : n ≤ 120) (hp : p ≤ n) : (nOk tx n 0 9 p → tkT tx n (tkP tx n p) = 59 → ∃ tp' nu', Call 3 23 [mR 2, mR tb, mR 1, mI (n : Int)] (rH H tb (tdL tb kd wd ht rm mo sd bo) ed hu sk (rdL (p : Int) tp 101 nu f1 0 f3 f4)) (mI 1) (rH H tb (tdL tb kd wd ht (nV tx n p) mo sd bo) ed hu sk (rdL ((tkP tx n (tkP tx n p) : Nat) : Int) tp' 59 nu' f1 1 f3 f4))) ∧ (nOk tx n 0 9 p → ¬ tkT tx n (tkP tx n p) = 59 → ∃ p' tk' nu', Call 3 23 [mR 2, mR tb, mR 1, mI (n : Int)] (rH H tb (tdL tb kd wd ht rm mo sd bo) ed hu sk (rdL (p : Int) tp 101 nu f1 0 f3 f4)) (mI 0) (rH H tb (tdL tb kd wd ht (nV tx n p) mo sd bo) ed hu sk (rdL p' ((skq tx n (tkP tx n p) : Nat) : Int) tk' nu' f1 1 f3 f4))) ∧ (¬ nOk tx n 0 9 p → ∃ p' tk' nu', Call 3 23 [mR 2, mR tb, mR 1, mI (n : Int)] (rH H tb (tdL tb kd wd ht rm mo sd bo) ed hu sk (rdL (p : Int) tp 101 nu f1 0 f3 f4)) (mI 0) (rH H tb (tdL tb kd wd ht rm mo sd bo) ed hu sk (rdL p' ((skq tx n p : Nat) : Int) tk' nu' f1 1 f3 f4))) := by
  have hp1 := tkP_bd (tx := tx) hp
  have hmay := C_may_e (H := H) (tb := tb) (T := (tdL tb kd wd ht rm mo sd bo)) (ed := ed) (hu := hu) (sk := sk) (p := p) (tp := tp) (tk := 101) (nu := nu) (f1 := f1) (f2 := 0) (f3 := f3) (f4 := f4) hB
  rw [if_pos rfl] at hmay
  refine ⟨fun h0 h59 => ⟨_, _, C_head hB hmay (C_numOk (c := 101) (N := 1) (hi := 9) hB hn hp ⟨by omega, by omega⟩ (by omega) rfl rfl h0 (C_put_e hB) (C_endOk hB hn hp1.2 (N := 1) ⟨by omega, by omega⟩ rfl (by omega) h59))⟩, fun h0 h59 => ⟨_, _, _, C_head hB hmay (C_numOk (c := 101) (N := 1) (hi := 9) hB hn hp ⟨by omega, by omega⟩ (by omega) rfl rfl h0 (C_put_e hB) (C_endNo hB hn hp1.2 (N := 1) ⟨by omega, by omega⟩ rfl h59))⟩, fun h0 => ?_⟩
  obtain ⟨tk', nu', h⟩ := C_numNo (c := 101) (k := kd) (N := 1) (hi := 9) (i := 0) (H := H) (T := (tdL tb kd wd ht rm mo sd bo)) (ed := ed) (hu := hu) (sk := sk) (tp := tp) (tk := 101) (nu := nu) (f1 := f1) (f2 := 1) (f3 := f3) (f4 := f4) hB hn hp ⟨by omega, by omega⟩ (by omega) rfl rfl h0
  exact ⟨_, _, _, C_head hB hmay h⟩
theorem C_it_eT (hB : rBase H tb tx) : Call 3 23 [mR 2, mR tb, mR 1, mI (n : Int)] (rH H tb (tdL tb kd wd ht rm mo sd bo) ed hu sk (rdL (p : Int) tp 101 nu f1 1 f3 f4)) (mI 0) (rH H tb (tdL tb kd wd ht rm mo sd bo) ed hu sk (rdL (p : Int) tp 101 nu f1 1 f3 f4)) := by
  have hmay := C_may_e (H := H) (tb := tb) (T := (tdL tb kd wd ht rm mo sd bo)) (ed := ed) (hu := hu) (sk := sk) (p := p) (tp := tp) (tk := 101) (nu := nu) (f1 := f1) (f2 := 1) (f3 := f3) (f4 := f4) hB
  rw [if_neg (by omega)] at hmay
  exact C_headNo hB hmay
theorem C_it_m (hB : rBase H tb tx) (hn : n ≤ 120) (hp : p ≤ n) : (nOk tx n 1 9 p → tkT tx n (tkP tx n p) = 59 → ∃ tp' nu', Call 3 23 [mR 2, mR tb, mR 1, mI (n : Int)] (rH H tb (tdL tb kd wd ht rm mo sd bo) ed hu sk (rdL (p : Int) tp 109 nu f1 f2 0 f4)) (mI 1) (rH H tb (tdL tb kd wd ht rm (nV tx n p) sd bo) ed hu sk (rdL ((tkP tx n (tkP tx n p) : Nat) : Int) tp' 59 nu' f1 f2 1 f4))) ∧ (nOk tx n 1 9 p → ¬ tkT tx n (tkP tx n p) = 59 → ∃ p' tk' nu', Call 3 23 [mR 2, mR tb, mR 1, mI (n : Int)] (rH H tb (tdL tb kd wd ht rm mo sd bo) ed hu sk (rdL (p : Int) tp 109 nu f1 f2 0 f4)) (mI 0) (rH H tb (tdL tb kd wd ht rm (nV tx n p) sd bo) ed hu sk (rdL p' ((skq tx n (tkP tx n p) : Nat) : Int) tk' nu' f1 f2 1 f4))) ∧ (¬ nOk tx n 1 9 p → ∃ p' tk' nu', Call 3 23 [mR 2, mR tb, mR 1, mI (n : Int)] (rH H tb (tdL tb kd wd ht rm mo sd bo) ed hu sk (rdL (p : Int) tp 109 nu f1 f2 0 f4)) (mI 0) (rH H tb (tdL tb kd wd ht rm mo sd bo) ed hu sk (rdL p' ((skq tx n p : Nat) : Int) tk' nu' f1 f2 1 f4))) := by
  have hp1 := tkP_bd (tx := tx) hp
  have hmay := C_may_m (H := H) (tb := tb) (T := (tdL tb kd wd ht rm mo sd bo)) (ed := ed) (hu := hu) (sk := sk) (p := p) (tp := tp) (tk := 109) (nu := nu) (f1 := f1) (f2 := f2) (f3 := 0) (f4 := f4) hB
  rw [if_pos rfl] at hmay
  refine ⟨fun h0 h59 => ⟨_, _, C_head hB hmay (C_numOk (c := 109) (N := 1) (hi := 9) hB hn hp ⟨by omega, by omega⟩ (by omega) rfl rfl h0 (C_put_m hB) (C_endOk hB hn hp1.2 (N := 1) ⟨by omega, by omega⟩ rfl (by omega) h59))⟩, fun h0 h59 => ⟨_, _, _, C_head hB hmay (C_numOk (c := 109) (N := 1) (hi := 9) hB hn hp ⟨by omega, by omega⟩ (by omega) rfl rfl h0 (C_put_m hB) (C_endNo hB hn hp1.2 (N := 1) ⟨by omega, by omega⟩ rfl h59))⟩, fun h0 => ?_⟩
  obtain ⟨tk', nu', h⟩ := C_numNo (c := 109) (k := kd) (N := 1) (hi := 9) (i := 0) (H := H) (T := (tdL tb kd wd ht rm mo sd bo)) (ed := ed) (hu := hu) (sk := sk) (tp := tp) (tk := 109) (nu := nu) (f1 := f1) (f2 := f2) (f3 := 1) (f4 := f4) hB hn hp ⟨by omega, by omega⟩ (by omega) rfl rfl h0
  exact ⟨_, _, _, C_head hB hmay h⟩
theorem C_it_mT (hB : rBase H tb tx) : Call 3 23 [mR 2, mR tb, mR 1, mI (n : Int)] (rH H tb (tdL tb kd wd ht rm mo sd bo) ed hu sk (rdL (p : Int) tp 109 nu f1 f2 1 f4)) (mI 0) (rH H tb (tdL tb kd wd ht rm mo sd bo) ed hu sk (rdL (p : Int) tp 109 nu f1 f2 1 f4)) := by
  have hmay := C_may_m (H := H) (tb := tb) (T := (tdL tb kd wd ht rm mo sd bo)) (ed := ed) (hu := hu) (sk := sk) (p := p) (tp := tp) (tk := 109) (nu := nu) (f1 := f1) (f2 := f2) (f3 := 1) (f4 := f4) hB
  rw [if_neg (by omega)] at hmay
  exact C_headNo hB hmay
theorem C_it_w (hB : rBase H tb tx) (hn : n ≤ 120) (hp : p ≤ n) : (nOk tx n 1 3 p → nOk tx n 1 2 (tkP tx n p) → tkT tx n (tkP tx n (tkP tx n p)) = 59 → ∃ tp' nu', Call 3 23 [mR 2, mR tb, mR 1, mI (n : Int)] (rH H tb (tdL tb kd wd ht rm mo sd bo) ed hu sk (rdL (p : Int) tp 119 nu 0 f2 f3 f4)) (mI 1) (rH H tb (tdL tb kd (nV tx n p) (nV tx n (tkP tx n p)) rm mo sd bo) ed hu sk (rdL ((tkP tx n (tkP tx n (tkP tx n p)) : Nat) : Int) tp' 59 nu' 1 f2 f3 f4))) ∧ (nOk tx n 1 3 p → nOk tx n 1 2 (tkP tx n p) → ¬ tkT tx n (tkP tx n (tkP tx n p)) = 59 → ∃ p' tk' nu', Call 3 23 [mR 2, mR tb, mR 1, mI (n : Int)] (rH H tb (tdL tb kd wd ht rm mo sd bo) ed hu sk (rdL (p : Int) tp 119 nu 0 f2 f3 f4)) (mI 0) (rH H tb (tdL tb kd (nV tx n p) (nV tx n (tkP tx n p)) rm mo sd bo) ed hu sk (rdL p' ((skq tx n (tkP tx n (tkP tx n p)) : Nat) : Int) tk' nu' 1 f2 f3 f4))) ∧ (nOk tx n 1 3 p → ¬ nOk tx n 1 2 (tkP tx n p) → ∃ p' tk' nu', Call 3 23 [mR 2, mR tb, mR 1, mI (n : Int)] (rH H tb (tdL tb kd wd ht rm mo sd bo) ed hu sk (rdL (p : Int) tp 119 nu 0 f2 f3 f4)) (mI 0) (rH H tb (tdL tb kd (nV tx n p) ht rm mo sd bo) ed hu sk (rdL p' ((skq tx n (tkP tx n p) : Nat) : Int) tk' nu' 1 f2 f3 f4))) ∧ (¬ nOk tx n 1 3 p → ∃ p' tk' nu', Call 3 23 [mR 2, mR tb, mR 1, mI (n : Int)] (rH H tb (tdL tb kd wd ht rm mo sd bo) ed hu sk (rdL (p : Int) tp 119 nu 0 f2 f3 f4)) (mI 0) (rH H tb (tdL tb kd wd ht rm mo sd bo) ed hu sk (rdL p' ((skq tx n p : Nat) : Int) tk' nu' 1 f2 f3 f4))) := by
  have hp1 := tkP_bd (tx := tx) hp
  have hp2 := tkP_bd (tx := tx) hp1.2
  have hmay := C_may_w (H := H) (tb := tb) (T := (tdL tb kd wd ht rm mo sd bo)) (ed := ed) (hu := hu) (sk := sk) (p := p) (tp := tp) (tk := 119) (nu := nu) (f1 := 0) (f2 := f2) (f3 := f3) (f4 := f4) hB
  rw [if_pos rfl] at hmay
  refine ⟨fun a0 a1 h59 => ?_, fun a0 a1 h59 => ?_, fun a0 a1 => ?_, fun a0 => ?_⟩
  · exact ⟨_, _, C_head hB hmay (C_numOk (c := 119) (N := 2) (hi := 3) hB hn hp ⟨by omega, by omega⟩ (by omega) rfl rfl a0 (C_put_w0 (i := 0) hB) (C_numOk (c := 119) (i := 0 + 1) (N := 2) (hi := 2) hB hn hp1.2 ⟨by omega, by omega⟩ (by omega) rfl rfl a1 (C_put_w1 (i := 0) hB) (C_endOk hB hn hp2.2 (N := 2) ⟨by omega, by omega⟩ rfl (by omega) h59)))⟩
  · exact ⟨_, _, _, C_head hB hmay (C_numOk (c := 119) (N := 2) (hi := 3) hB hn hp ⟨by omega, by omega⟩ (by omega) rfl rfl a0 (C_put_w0 (i := 0) hB) (C_numOk (c := 119) (i := 0 + 1) (N := 2) (hi := 2) hB hn hp1.2 ⟨by omega, by omega⟩ (by omega) rfl rfl a1 (C_put_w1 (i := 0) hB) (C_endNo hB hn hp2.2 (N := 2) ⟨by omega, by omega⟩ rfl h59)))⟩
  · obtain ⟨tk', nu', h⟩ := C_numNo (c := 119) (k := kd) (N := 2) (hi := 2) (i := 0 + 1) (H := H) (T := (tdL tb kd (nV tx n p) ht rm mo sd bo)) (ed := ed) (hu := hu) (sk := sk) (tp := ((skq tx n p : Nat) : Int)) (tk := -2) (nu := nV tx n p) (f1 := 1) (f2 := f2) (f3 := f3) (f4 := f4) hB hn hp1.2 ⟨by omega, by omega⟩ (by omega) rfl rfl a1
    exact ⟨_, _, _, C_head hB hmay (C_numOk (c := 119) (N := 2) (hi := 3) hB hn hp ⟨by omega, by omega⟩ (by omega) rfl rfl a0 (C_put_w0 (i := 0) hB) h)⟩
  · obtain ⟨tk', nu', h⟩ := C_numNo (c := 119) (k := kd) (N := 2) (hi := 3) (i := 0) (H := H) (T := (tdL tb kd wd ht rm mo sd bo)) (ed := ed) (hu := hu) (sk := sk) (tp := tp) (tk := 119) (nu := nu) (f1 := 1) (f2 := f2) (f3 := f3) (f4 := f4) hB hn hp ⟨by omega, by omega⟩ (by omega) rfl rfl a0
    exact ⟨_, _, _, C_head hB hmay h⟩
theorem C_it_wT (hB : rBase H tb tx) : Call 3 23 [mR 2, mR tb, mR 1, mI (n : Int)] (rH H tb (tdL tb kd wd ht rm mo sd bo) ed hu sk (rdL (p : Int) tp 119 nu 1 f2 f3 f4)) (mI 0) (rH H tb (tdL tb kd wd ht rm mo sd bo) ed hu sk (rdL (p : Int) tp 119 nu 1 f2 f3 f4)) := by
  have hmay := C_may_w (H := H) (tb := tb) (T := (tdL tb kd wd ht rm mo sd bo)) (ed := ed) (hu := hu) (sk := sk) (p := p) (tp := tp) (tk := 119) (nu := nu) (f1 := 1) (f2 := f2) (f3 := f3) (f4 := f4) hB
  rw [if_neg (by omega)] at hmay
  exact C_headNo hB hmay
theorem C_it_s (hB : rBase H tb tx) (hn : n ≤ 120) (hp : p ≤ n) : (nOk tx n 1 9 p → nOk tx n 1 4 (tkP tx n p) → tkT tx n (tkP tx n (tkP tx n p)) = 59 → ∃ tp' nu', Call 3 23 [mR 2, mR tb, mR 1, mI (n : Int)] (rH H tb (tdL tb kd wd ht rm mo sd bo) ed hu sk (rdL (p : Int) tp 115 nu f1 f2 f3 0)) (mI 1) (rH H tb (tdL tb kd wd ht rm mo (nV tx n p) (nV tx n (tkP tx n p))) ed hu sk (rdL ((tkP tx n (tkP tx n (tkP tx n p)) : Nat) : Int) tp' 59 nu' f1 f2 f3 1))) ∧ (nOk tx n 1 9 p → nOk tx n 1 4 (tkP tx n p) → ¬ tkT tx n (tkP tx n (tkP tx n p)) = 59 → ∃ p' tk' nu', Call 3 23 [mR 2, mR tb, mR 1, mI (n : Int)] (rH H tb (tdL tb kd wd ht rm mo sd bo) ed hu sk (rdL (p : Int) tp 115 nu f1 f2 f3 0)) (mI 0) (rH H tb (tdL tb kd wd ht rm mo (nV tx n p) (nV tx n (tkP tx n p))) ed hu sk (rdL p' ((skq tx n (tkP tx n (tkP tx n p)) : Nat) : Int) tk' nu' f1 f2 f3 1))) ∧ (nOk tx n 1 9 p → ¬ nOk tx n 1 4 (tkP tx n p) → ∃ p' tk' nu', Call 3 23 [mR 2, mR tb, mR 1, mI (n : Int)] (rH H tb (tdL tb kd wd ht rm mo sd bo) ed hu sk (rdL (p : Int) tp 115 nu f1 f2 f3 0)) (mI 0) (rH H tb (tdL tb kd wd ht rm mo (nV tx n p) bo) ed hu sk (rdL p' ((skq tx n (tkP tx n p) : Nat) : Int) tk' nu' f1 f2 f3 1))) ∧ (¬ nOk tx n 1 9 p → ∃ p' tk' nu', Call 3 23 [mR 2, mR tb, mR 1, mI (n : Int)] (rH H tb (tdL tb kd wd ht rm mo sd bo) ed hu sk (rdL (p : Int) tp 115 nu f1 f2 f3 0)) (mI 0) (rH H tb (tdL tb kd wd ht rm mo sd bo) ed hu sk (rdL p' ((skq tx n p : Nat) : Int) tk' nu' f1 f2 f3 1))) := by
  have hp1 := tkP_bd (tx := tx) hp
  have hp2 := tkP_bd (tx := tx) hp1.2
  have hmay := C_may_s (H := H) (tb := tb) (T := (tdL tb kd wd ht rm mo sd bo)) (ed := ed) (hu := hu) (sk := sk) (p := p) (tp := tp) (tk := 115) (nu := nu) (f1 := f1) (f2 := f2) (f3 := f3) (f4 := 0) hB
  rw [if_pos rfl] at hmay
  refine ⟨fun a0 a1 h59 => ?_, fun a0 a1 h59 => ?_, fun a0 a1 => ?_, fun a0 => ?_⟩
  · exact ⟨_, _, C_head hB hmay (C_numOk (c := 115) (N := 2) (hi := 9) hB hn hp ⟨by omega, by omega⟩ (by omega) rfl rfl a0 (C_put_s0 (i := 0) hB) (C_numOk (c := 115) (i := 0 + 1) (N := 2) (hi := 4) hB hn hp1.2 ⟨by omega, by omega⟩ (by omega) rfl rfl a1 (C_put_s1 (i := 0) hB) (C_endOk hB hn hp2.2 (N := 2) ⟨by omega, by omega⟩ rfl (by omega) h59)))⟩
  · exact ⟨_, _, _, C_head hB hmay (C_numOk (c := 115) (N := 2) (hi := 9) hB hn hp ⟨by omega, by omega⟩ (by omega) rfl rfl a0 (C_put_s0 (i := 0) hB) (C_numOk (c := 115) (i := 0 + 1) (N := 2) (hi := 4) hB hn hp1.2 ⟨by omega, by omega⟩ (by omega) rfl rfl a1 (C_put_s1 (i := 0) hB) (C_endNo hB hn hp2.2 (N := 2) ⟨by omega, by omega⟩ rfl h59)))⟩
  · obtain ⟨tk', nu', h⟩ := C_numNo (c := 115) (k := kd) (N := 2) (hi := 4) (i := 0 + 1) (H := H) (T := (tdL tb kd wd ht rm mo (nV tx n p) bo)) (ed := ed) (hu := hu) (sk := sk) (tp := ((skq tx n p : Nat) : Int)) (tk := -2) (nu := nV tx n p) (f1 := f1) (f2 := f2) (f3 := f3) (f4 := 1) hB hn hp1.2 ⟨by omega, by omega⟩ (by omega) rfl rfl a1
    exact ⟨_, _, _, C_head hB hmay (C_numOk (c := 115) (N := 2) (hi := 9) hB hn hp ⟨by omega, by omega⟩ (by omega) rfl rfl a0 (C_put_s0 (i := 0) hB) h)⟩
  · obtain ⟨tk', nu', h⟩ := C_numNo (c := 115) (k := kd) (N := 2) (hi := 9) (i := 0) (H := H) (T := (tdL tb kd wd ht rm mo sd bo)) (ed := ed) (hu := hu) (sk := sk) (tp := tp) (tk := 115) (nu := nu) (f1 := f1) (f2 := f2) (f3 := f3) (f4 := 1) hB hn hp ⟨by omega, by omega⟩ (by omega) rfl rfl a0
    exact ⟨_, _, _, C_head hB hmay h⟩
theorem C_it_sT (hB : rBase H tb tx) : Call 3 23 [mR 2, mR tb, mR 1, mI (n : Int)] (rH H tb (tdL tb kd wd ht rm mo sd bo) ed hu sk (rdL (p : Int) tp 115 nu f1 f2 f3 1)) (mI 0) (rH H tb (tdL tb kd wd ht rm mo sd bo) ed hu sk (rdL (p : Int) tp 115 nu f1 f2 f3 1)) := by
  have hmay := C_may_s (H := H) (tb := tb) (T := (tdL tb kd wd ht rm mo sd bo)) (ed := ed) (hu := hu) (sk := sk) (p := p) (tp := tp) (tk := 115) (nu := nu) (f1 := f1) (f2 := f2) (f3 := f3) (f4 := 1) hB
  rw [if_neg (by omega)] at hmay
  exact C_headNo hB hmay
theorem C_it_kT (hB : rBase H tb tx) (h6 : ¬ kd < 6) : Call 3 23 [mR 2, mR tb, mR 1, mI (n : Int)] (rH H tb (tdL tb kd wd ht rm mo sd bo) ed hu sk (rdL (p : Int) tp 107 nu f1 f2 f3 f4)) (mI 0) (rH H tb (tdL tb kd wd ht rm mo sd bo) ed hu sk (rdL (p : Int) tp 107 nu f1 f2 f3 f4)) := by
  have hmay := C_may_k (H := H) (tb := tb) (kd := kd) (wd := wd) (ht := ht) (rm := rm) (mo := mo) (sd := sd) (bo := bo) (ed := ed) (hu := hu) (sk := sk) (R := (rdL (p : Int) tp 107 nu f1 f2 f3 f4)) hB
  rw [if_neg h6] at hmay
  exact C_headNo hB hmay
/-- the places of a kind's numbers -/
def plq (tx : List Int) (n p : Nat) : Nat → Nat
  | 0 => p
  | i + 1 => tkP tx n (plq tx n p i)
def kHi (i : Nat) : Int := if i = 4 then 5 else 9
def kE (ed : List Int) (kd : Int) (f : Nat → Int) : Nat → List Int
  | 0 => ed
  | i + 1 => if (i : Int) < 4 then up (kE ed kd f i) (kd * 4 + i) (f i) else kE ed kd f i
def kU (hu : List Int) (kd : Int) (f : Nat → Int) : Nat → List Int
  | 0 => hu
  | i + 1 => if (i : Int) = 4 then up (kU hu kd f i) kd (f i) else kU hu kd f i
def kS (sk : List Int) (kd : Int) (f : Nat → Int) : Nat → List Int
  | 0 => sk
  | i + 1 => if (i : Int) = 5 then up (kS sk kd f i) kd (f i) else kS sk kd f i
theorem plq_bd (hp : p ≤ n) : ∀ i, p ≤ plq tx n p i ∧ plq tx n p i ≤ n
  | 0 => ⟨Nat.le_refl _, hp⟩
  | i + 1 => by
    have h := plq_bd hp i
    have := tkP_bd (tx := tx) h.2
    simp only [plq]
    omega
theorem kE_len {f : Nat → Int} : ∀ i, (kE ed kd f i).length = ed.length
  | 0 => rfl
  | i + 1 => by simp only [kE]; split <;> simp [up_len, kE_len i]
theorem kU_len {f : Nat → Int} : ∀ i, (kU hu kd f i).length = hu.length
  | 0 => rfl
  | i + 1 => by simp only [kU]; split <;> simp [up_len, kU_len i]
theorem kS_len {f : Nat → Int} : ∀ i, (kS sk kd f i).length = sk.length
  | 0 => rfl
  | i + 1 => by simp only [kS]; split <;> simp [up_len, kS_len i]
theorem C_kchain (hB : rBase H tb tx) (hn : n ≤ 120) (hp : p ≤ n) (hk : 0 ≤ kd ∧ kd < 6) (he : ed.length = 24) (hu6 : hu.length = 6) (hs6 : sk.length = 6) : ∀ i : Nat, i ≤ 6 → (∀ j, j < i → nOk tx n 0 (kHi j) (plq tx n p j)) → ∃ tp' tk' nu', ∀ (r : mV) (H1 : mH), Ev 3 23 27 [mR 2, mR tb, mR 1, mI (n : Int), mI 107, mI kd, mI (i : Int)] [] (rH H tb (tdL tb kd wd ht rm mo sd bo) (kE ed kd (fun j => nV tx n (plq tx n p j)) i) (kU hu kd (fun j => nV tx n (plq tx n p j)) i) (kS sk kd (fun j => nV tx n (plq tx n p j)) i) (rdL ((plq tx n p i : Nat) : Int) tp' tk' nu' f1 f2 f3 f4)) r H1 → Ev 3 23 27 [mR 2, mR tb, mR 1, mI (n : Int), mI 107, mI kd, mI 0] [] (rH H tb (tdL tb kd wd ht rm mo sd bo) ed hu sk (rdL (p : Int) tp tk nu f1 f2 f3 f4)) r H1
  | 0, _, _ => ⟨tp, tk, nu, fun r H1 h => h⟩
  | i + 1, hi, hok => by
    obtain ⟨tp', tk', nu', g⟩ := C_kchain hB hn hp hk he hu6 hs6 i (by omega) (fun j hj => hok j (by omega))
    have hb := plq_bd (tx := tx) hp i
    refine ⟨_, _, _, fun r H1 h => g r H1 (C_numOk (c := 107) (N := 6) (hi := kHi i) hB hn hb.2 ⟨by omega, by omega⟩ (by omega) rfl ?_ (hok i (by omega)) (C_put_k hB hk ⟨by omega, by omega⟩ (by rw [kE_len]; exact he) (by rw [kU_len]; exact hu6) (by rw [kS_len]; exact hs6)) h)⟩
    rcases (show i = 0 ∨ i = 1 ∨ i = 2 ∨ i = 3 ∨ i = 4 ∨ i = 5 by omega) with rfl | rfl | rfl | rfl | rfl | rfl <;> rfl
theorem C_it_k (hB : rBase H tb tx) (hn : n ≤ 120) (hp : p ≤ n) (hk : 0 ≤ kd ∧ kd < 6) (he : ed.length = 24) (hu6 : hu.length = 6) (hs6 : sk.length = 6) : ((∀ j, j < 6 → nOk tx n 0 (kHi j) (plq tx n p j)) → tkT tx n (plq tx n p 6) = 59 → ∃ tp' nu', Call 3 23 [mR 2, mR tb, mR 1, mI (n : Int)] (rH H tb (tdL tb kd wd ht rm mo sd bo) ed hu sk (rdL (p : Int) tp 107 nu f1 f2 f3 f4)) (mI 1) (rH H tb (tdL tb (kd + 1) wd ht rm mo sd bo) (kE ed kd (fun j => nV tx n (plq tx n p j)) 6) (kU hu kd (fun j => nV tx n (plq tx n p j)) 6) (kS sk kd (fun j => nV tx n (plq tx n p j)) 6) (rdL ((tkP tx n (plq tx n p 6) : Nat) : Int) tp' 59 nu' f1 f2 f3 f4))) ∧ ((∀ j, j < 6 → nOk tx n 0 (kHi j) (plq tx n p j)) → ¬ tkT tx n (plq tx n p 6) = 59 → ∃ p' tk' nu', Call 3 23 [mR 2, mR tb, mR 1, mI (n : Int)] (rH H tb (tdL tb kd wd ht rm mo sd bo) ed hu sk (rdL (p : Int) tp 107 nu f1 f2 f3 f4)) (mI 0) (rH H tb (tdL tb kd wd ht rm mo sd bo) (kE ed kd (fun j => nV tx n (plq tx n p j)) 6) (kU hu kd (fun j => nV tx n (plq tx n p j)) 6) (kS sk kd (fun j => nV tx n (plq tx n p j)) 6) (rdL p' ((skq tx n (plq tx n p 6) : Nat) : Int) tk' nu' f1 f2 f3 f4))) ∧ (∀ i, i < 6 → (∀ j, j < i → nOk tx n 0 (kHi j) (plq tx n p j)) → ¬ nOk tx n 0 (kHi i) (plq tx n p i) → ∃ p' tk' nu', Call 3 23 [mR 2, mR tb, mR 1, mI (n : Int)] (rH H tb (tdL tb kd wd ht rm mo sd bo) ed hu sk (rdL (p : Int) tp 107 nu f1 f2 f3 f4)) (mI 0) (rH H tb (tdL tb kd wd ht rm mo sd bo) (kE ed kd (fun j => nV tx n (plq tx n p j)) i) (kU hu kd (fun j => nV tx n (plq tx n p j)) i) (kS sk kd (fun j => nV tx n (plq tx n p j)) i) (rdL p' ((skq tx n (plq tx n p i) : Nat) : Int) tk' nu' f1 f2 f3 f4))) := by
  have hmay := C_may_k (H := H) (tb := tb) (kd := kd) (wd := wd) (ht := ht) (rm := rm) (mo := mo) (sd := sd) (bo := bo) (ed := ed) (hu := hu) (sk := sk) (R := (rdL (p : Int) tp 107 nu f1 f2 f3 f4)) hB
  rw [if_pos hk.2] at hmay
  have hb6 := plq_bd (tx := tx) hp 6
  refine ⟨fun hok h59 => ?_, fun hok h59 => ?_, fun i hi hok hno => ?_⟩
  · obtain ⟨tp', tk', nu', g⟩ := C_kchain (tp := tp) (tk := 107) (nu := nu) (f1 := f1) (f2 := f2) (f3 := f3) (f4 := f4) (wd := wd) (ht := ht) (rm := rm) (mo := mo) (sd := sd) (bo := bo) hB hn hp hk he hu6 hs6 6 (by omega) hok
    exact ⟨_, _, C_head hB hmay (g _ _ (C_endK hB hn hb6.2 (N := 6) ⟨by omega, by omega⟩ rfl ⟨by omega, by omega⟩ h59))⟩
  · obtain ⟨tp', tk', nu', g⟩ := C_kchain (tp := tp) (tk := 107) (nu := nu) (f1 := f1) (f2 := f2) (f3 := f3) (f4 := f4) (wd := wd) (ht := ht) (rm := rm) (mo := mo) (sd := sd) (bo := bo) hB hn hp hk he hu6 hs6 6 (by omega) hok
    exact ⟨_, _, _, C_head hB hmay (g _ _ (C_endNo hB hn hb6.2 (N := 6) ⟨by omega, by omega⟩ rfl h59))⟩
  · have hb := plq_bd (tx := tx) hp i
    obtain ⟨tp', tk', nu', g⟩ := C_kchain (tp := tp) (tk := 107) (nu := nu) (f1 := f1) (f2 := f2) (f3 := f3) (f4 := f4) (wd := wd) (ht := ht) (rm := rm) (mo := mo) (sd := sd) (bo := bo) hB hn hp hk he hu6 hs6 i (by omega) hok
    obtain ⟨tk2, nu2, h⟩ := C_numNo (c := 107) (k := kd) (N := 6) (hi := kHi i) (i := i) (H := H) (T := (tdL tb kd wd ht rm mo sd bo)) (ed := (kE ed kd (fun j => nV tx n (plq tx n p j)) i)) (hu := (kU hu kd (fun j => nV tx n (plq tx n p j)) i)) (sk := (kS sk kd (fun j => nV tx n (plq tx n p j)) i)) (tp := tp') (tk := tk') (nu := nu') (f1 := f1) (f2 := f2) (f3 := f3) (f4 := f4) hB hn hb.2 ⟨by omega, by omega⟩ (by omega) rfl (by rcases (show i = 0 ∨ i = 1 ∨ i = 2 ∨ i = 3 ∨ i = 4 ∨ i = 5 by omega) with rfl | rfl | rfl | rfl | rfl | rfl <;> rfl) hno
    exact ⟨_, _, _, C_head hB hmay (g _ _ h)⟩
end RDR
