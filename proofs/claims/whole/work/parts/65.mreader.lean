/-! the model's reader -/
def qH (H : mH) (Z td ns m : List Int) : mH := pt (pt (pt (pt H 81 Z) 82 td) 83 ns) 74 m
def qBase (H : mH) (tx : List Int) : Prop := (∃ q, H[74]? = some (7, q)) ∧ (∃ q, H[81]? = some (8, q)) ∧ (∃ q, H[82]? = some (8, q)) ∧ (∃ q, H[83]? = some (8, q)) ∧ H[84]? = some (8, tx) ∧ tx.length = 120
def mT (td : List Int) (nk : Int) (f : Nat → Int) : Nat → List Int
  | 0 => td
  | i + 1 => if (i : Int) < 5 then up (mT td nk f i) (5 * nk + i) (f i) else mT td nk f i
def mS (ns : List Int) (nk : Int) (f : Nat → Int) : Nat → List Int
  | 0 => ns
  | i + 1 => if (i : Int) < 5 then mS ns nk f i else up (mS ns nk f i) nk (f i)
section MRD
variable {H : mH} {kd un nk nu me op de fo bs bu : Int} {tx Z td ns m m2 Z2 td2 ns2 : List Int} {n p : Nat}
theorem mT_len {f : Nat → Int} : ∀ i, (mT td nk f i).length = td.length
  | 0 => rfl
  | i + 1 => by simp only [mT]; split <;> simp [up_len, mT_len i]
theorem mS_len {f : Nat → Int} : ∀ i, (mS ns nk f i).length = ns.length
  | 0 => rfl
  | i + 1 => by simp only [mS]; split <;> simp [up_len, mS_len i]
theorem qH_74 (hB : qBase H tx) : (qH H Z td ns m)[74]? = some (7, m) := by
  obtain ⟨⟨q, h⟩, -⟩ := hB
  exact pt_self (pt_nx (by decide) (pt_nx (by decide) (pt_nx (by decide) h)))
theorem qH_81 (hB : qBase H tx) : (qH H Z td ns m)[81]? = some (8, Z) := by
  obtain ⟨-, ⟨q, h⟩, -⟩ := hB
  exact pt_nx (by decide) (pt_nx (by decide) (pt_nx (by decide) (pt_self h)))
theorem qH_82 (hB : qBase H tx) : (qH H Z td ns m)[82]? = some (8, td) := by
  obtain ⟨-, -, ⟨q, h⟩, -⟩ := hB
  exact pt_nx (by decide) (pt_nx (by decide) (pt_self (pt_nx (by decide) h)))
theorem qH_83 (hB : qBase H tx) : (qH H Z td ns m)[83]? = some (8, ns) := by
  obtain ⟨-, -, -, ⟨q, h⟩, -⟩ := hB
  exact pt_nx (by decide) (pt_self (pt_nx (by decide) (pt_nx (by decide) h)))
theorem qH_84 (hB : qBase H tx) : (qH H Z td ns m)[84]? = some (8, tx) := by
  obtain ⟨-, -, -, -, h, -⟩ := hB
  exact pt_nx (by decide) (pt_nx (by decide) (pt_nx (by decide) (pt_nx (by decide) h)))
theorem qH_m : pt (qH H Z td ns m) 74 m2 = qH H Z td ns m2 := by
  unfold qH
  rw [pt_pt]
theorem qH_Z : pt (qH H Z td ns m) 81 Z2 = qH H Z2 td ns m := by
  unfold qH
  rw [pt_swap (a := 74) (b := 81) (by decide), pt_swap (a := 83) (b := 81) (by decide), pt_swap (a := 82) (b := 81) (by decide), pt_pt]
theorem qH_td : pt (qH H Z td ns m) 82 td2 = qH H Z td2 ns m := by
  unfold qH
  rw [pt_swap (a := 74) (b := 82) (by decide), pt_swap (a := 83) (b := 82) (by decide), pt_pt]
theorem qH_ns : pt (qH H Z td ns m) 83 ns2 = qH H Z td ns2 m := by
  unfold qH
  rw [pt_swap (a := 74) (b := 83) (by decide), pt_pt]
theorem M_hr (hB : qBase H tx) (hn : n ≤ 120) (hp : p ≤ n) : Call 0 103 [mR 74] (qH H Z td ns (mdL kd un nk (n : Int) (p : Int) nu me op de fo bs bu)) (mI (hrc tx n p)) (qH H Z td ns (mdL kd un nk (n : Int) ((skq tx n p : Nat) : Int) nu me op de fo bs bu)) := by
  have h := M_here (qH_74 (Z := Z) (td := td) (ns := ns) (m := mdL kd un nk (n : Int) (p : Int) nu me op de fo bs bu) hB) (qH_84 hB) hB.2.2.2.2.2 hn hp
  rw [qH_m] at h
  exact h
theorem M_rdY (hB : qBase H tx) (hn : n ≤ 120) (hp : p ≤ n) {lo hi : Int} (hlh : 0 ≤ lo ∧ hi ≤ 99) (hok : nOk tx n lo hi p) : Call 1 104 [mR 74, mI lo, mI hi] (qH H Z td ns (mdL kd un nk (n : Int) (p : Int) nu me op de fo bs bu)) (mI 1) (qH H Z td ns (mdL kd un nk (n : Int) ((tkP tx n p : Nat) : Int) (nV tx n p) me op de fo bs bu)) := by
  have h := (M_reads (qH_74 (Z := Z) (td := td) (ns := ns) (m := mdL kd un nk (n : Int) (p : Int) nu me op de fo bs bu) hB) (qH_84 hB) hB.2.2.2.2.2 hn hp hlh).1 hok
  rw [qH_m] at h
  exact h
theorem M_rdN (hB : qBase H tx) (hn : n ≤ 120) (hp : p ≤ n) {lo hi : Int} (hlh : 0 ≤ lo ∧ hi ≤ 99) (hno : ¬ nOk tx n lo hi p) : ∃ nu2, Call 1 104 [mR 74, mI lo, mI hi] (qH H Z td ns (mdL kd un nk (n : Int) (p : Int) nu me op de fo bs bu)) (mI 0) (qH H Z td ns (mdL kd un nk (n : Int) ((skq tx n p : Nat) : Int) nu2 me op de fo bs bu)) := by
  obtain ⟨nu2, h⟩ := (M_reads (qH_74 (Z := Z) (td := td) (ns := ns) (m := mdL kd un nk (n : Int) (p : Int) nu me op de fo bs bu) hB) (qH_84 hB) hB.2.2.2.2.2 hn hp hlh).2 hno
  rw [qH_m] at h
  exact ⟨nu2, h⟩
theorem M_onceT (hB : qBase H tx) {bt to lo hi h2 : Int} (hm : ¬ m_and me bt = 0) : Call 2 106 [mR 74, mI bt, mI to, mI lo, mI hi, mI h2] (qH H Z td ns (mdL kd un nk (n : Int) (p : Int) nu me op de fo bs bu)) (mI 0) (qH H Z td ns (mdL kd un nk (n : Int) (p : Int) nu me op de fo bs bu)) := by
  refine Call_of rfl ?_
  refine E_aload_n (pc' := 1) g106_0 rfl rfl ?_
  refine E_getI (pc' := 4) g106_1 f106_102 tg7_16 (by decide) rfl (qH_74 hB) rfl ?_
  refine E_iload_n (pc' := 5) g106_4 rfl rfl ?_
  refine E_iand (pc' := 6) g106_5 rfl ?_
  refine E_ifeq (pc' := 9) (pt := 11) g106_6 rfl rfl (fun c0 => ?_) (fun c0 => ?_)
  · first
    | (exfalso; omega)
    | (exfalso; omega)
  · first
    | (exfalso; omega)
    | (refine E_iconst (pc' := 10) g106_9 (by decide) rfl ?_
       exact E_iret g106_10 (ro106 (by decide)) rfl rfl)
theorem M_onceN (hB : qBase H tx) (hn : n ≤ 120) (hp : p < n) {bt to lo hi h2 : Int} (hlh : 0 ≤ lo ∧ hi ≤ 99) (hto : 0 ≤ to ∧ to ≤ 4) (hZ : Z.length = 6) (hm : m_and me bt = 0) (hno : ¬ nOk tx n lo hi (p + 1)) : ∃ nu2, Call 2 106 [mR 74, mI bt, mI to, mI lo, mI hi, mI h2] (qH H Z td ns (mdL kd un nk (n : Int) (p : Int) nu me op de fo bs bu)) (mI 0) (qH H Z td ns (mdL kd un nk (n : Int) ((skq tx n (p + 1) : Nat) : Int) nu2 (m_or me bt) op de fo bs bu)) := by
  obtain ⟨nu2, hr⟩ := M_rdN (kd := kd) (un := un) (nk := nk) (nu := nu) (me := m_or me bt) (op := op) (de := de) (fo := fo) (bs := bs) (bu := bu) (Z := Z) (td := td) (ns := ns) hB hn (p := p + 1) (by omega) hlh hno
  refine ⟨nu2, Call_of rfl ?_⟩
  refine E_aload_n (pc' := 1) g106_0 rfl rfl ?_
  refine E_getI (pc' := 4) g106_1 f106_102 tg7_16 (by decide) rfl (qH_74 hB) rfl ?_
  refine E_iload_n (pc' := 5) g106_4 rfl rfl ?_
  refine E_iand (pc' := 6) g106_5 rfl ?_
  refine E_ifeq (pc' := 9) (pt := 11) g106_6 rfl rfl (fun c0 => ?_) (fun c0 => ?_)
  · first
    | (exfalso; omega)
    | (refine E_aload_n (pc' := 12) g106_11 rfl rfl ?_
       refine E_dup (pc' := 13) g106_12 rfl ?_
       refine E_getI (pc' := 16) g106_13 f106_102 tg7_16 (by decide) rfl (qH_74 hB) rfl ?_
       refine E_iload_n (pc' := 17) g106_16 rfl rfl ?_
       refine E_ior (pc' := 18) g106_17 rfl ?_
       refine E_putf (pc' := 21) g106_18 f106_102 tg7_16 fn7_16 rfl rfl (qH_74 hB) (Nat.le_of_ble_eq_true rfl) ?_
       rw [qH_m]
       refine Ev_cast (H := (qH H Z td ns (mdL kd un nk (n : Int) (p : Int) nu (m_or me bt) op de fo bs bu))) ?_ rfl rfl
       refine E_aload_n (pc' := 22) g106_21 rfl rfl ?_
       refine E_dup (pc' := 23) g106_22 rfl ?_
       refine E_getI (pc' := 26) g106_23 f106_88 tg7_14 (by decide) rfl (qH_74 hB) rfl ?_
       refine E_iconst (pc' := 27) g106_26 (by decide) rfl ?_
       refine E_iadd (pc' := 28) g106_27 (m_in_iff.mpr (by omega)) rfl ?_
       refine E_putf (pc' := 31) g106_28 f106_88 tg7_14 fn7_14 rfl rfl (qH_74 hB) (Nat.le_of_ble_eq_true rfl) ?_
       rw [qH_m]
       refine Ev_cast (H := (qH H Z td ns (mdL kd un nk (n : Int) ((p + 1 : Nat) : Int) nu (m_or me bt) op de fo bs bu))) ?_ rfl rfl
       refine E_aload_n (pc' := 32) g106_31 rfl rfl ?_
       refine E_iload_n (pc' := 33) g106_32 rfl rfl ?_
       refine E_iload (pc' := 35) g106_33 rfl rfl ?_
       refine E_cV2i (pc' := 38) g106_35 k106_98 na104 rfl ow104 rfl (Nat.le_of_ble_eq_true rfl) (qH_74 hB) hr (by decide) ?_
       refine E_ifne (pc' := 41) (pt := 43) g106_38 rfl rfl (fun c1 => ?_) (fun c1 => ?_)
       · first
         | (exfalso; omega)
         | (exfalso; omega)
       · first
         | (exfalso; omega)
         | (refine E_iconst (pc' := 42) g106_41 (by decide) rfl ?_
            exact E_iret g106_42 (ro106 (by decide)) rfl rfl))
  · first
    | (exfalso; omega)
    | (exfalso; omega)
theorem M_once1 (hB : qBase H tx) (hn : n ≤ 120) (hp : p < n) {bt to lo hi h2 : Int} (hlh : 0 ≤ lo ∧ hi ≤ 99) (hto : 0 ≤ to ∧ to ≤ 4) (hZ : Z.length = 6) (hm : m_and me bt = 0) (hok : nOk tx n lo hi (p + 1)) (h20 : h2 = 0) : Call 2 106 [mR 74, mI bt, mI to, mI lo, mI hi, mI h2] (qH H Z td ns (mdL kd un nk (n : Int) (p : Int) nu me op de fo bs bu)) (mI 1) (qH H (up Z to (nV tx n (p + 1))) td ns (mdL kd un nk (n : Int) ((tkP tx n (p + 1) : Nat) : Int) (nV tx n (p + 1)) (m_or me bt) op de fo bs bu)) := by
  have hr := M_rdY (kd := kd) (un := un) (nk := nk) (nu := nu) (me := m_or me bt) (op := op) (de := de) (fo := fo) (bs := bs) (bu := bu) (Z := Z) (td := td) (ns := ns) hB hn (p := p + 1) (by omega) hlh hok
  refine Call_of rfl ?_
  refine E_aload_n (pc' := 1) g106_0 rfl rfl ?_
  refine E_getI (pc' := 4) g106_1 f106_102 tg7_16 (by decide) rfl (qH_74 hB) rfl ?_
  refine E_iload_n (pc' := 5) g106_4 rfl rfl ?_
  refine E_iand (pc' := 6) g106_5 rfl ?_
  refine E_ifeq (pc' := 9) (pt := 11) g106_6 rfl rfl (fun c0 => ?_) (fun c0 => ?_)
  · first
    | (exfalso; omega)
    | (refine E_aload_n (pc' := 12) g106_11 rfl rfl ?_
       refine E_dup (pc' := 13) g106_12 rfl ?_
       refine E_getI (pc' := 16) g106_13 f106_102 tg7_16 (by decide) rfl (qH_74 hB) rfl ?_
       refine E_iload_n (pc' := 17) g106_16 rfl rfl ?_
       refine E_ior (pc' := 18) g106_17 rfl ?_
       refine E_putf (pc' := 21) g106_18 f106_102 tg7_16 fn7_16 rfl rfl (qH_74 hB) (Nat.le_of_ble_eq_true rfl) ?_
       rw [qH_m]
       refine Ev_cast (H := (qH H Z td ns (mdL kd un nk (n : Int) (p : Int) nu (m_or me bt) op de fo bs bu))) ?_ rfl rfl
       refine E_aload_n (pc' := 22) g106_21 rfl rfl ?_
       refine E_dup (pc' := 23) g106_22 rfl ?_
       refine E_getI (pc' := 26) g106_23 f106_88 tg7_14 (by decide) rfl (qH_74 hB) rfl ?_
       refine E_iconst (pc' := 27) g106_26 (by decide) rfl ?_
       refine E_iadd (pc' := 28) g106_27 (m_in_iff.mpr (by omega)) rfl ?_
       refine E_putf (pc' := 31) g106_28 f106_88 tg7_14 fn7_14 rfl rfl (qH_74 hB) (Nat.le_of_ble_eq_true rfl) ?_
       rw [qH_m]
       refine Ev_cast (H := (qH H Z td ns (mdL kd un nk (n : Int) ((p + 1 : Nat) : Int) nu (m_or me bt) op de fo bs bu))) ?_ rfl rfl
       refine E_aload_n (pc' := 32) g106_31 rfl rfl ?_
       refine E_iload_n (pc' := 33) g106_32 rfl rfl ?_
       refine E_iload (pc' := 35) g106_33 rfl rfl ?_
       refine E_cV2i (pc' := 38) g106_35 k106_98 na104 rfl ow104 rfl (Nat.le_of_ble_eq_true rfl) (qH_74 hB) hr (by decide) ?_
       refine E_ifne (pc' := 41) (pt := 43) g106_38 rfl rfl (fun c1 => ?_) (fun c1 => ?_)
       · first
         | (exfalso; omega)
         | (refine E_aload_n (pc' := 44) g106_43 rfl rfl ?_
            refine E_getR (pc' := 47) g106_44 f106_29 tg7_9 rfl (qH_74 hB) rfl ?_
            refine E_iload_n (pc' := 48) g106_47 rfl rfl ?_
            refine E_aload_n (pc' := 49) g106_48 rfl rfl ?_
            refine E_getI (pc' := 52) g106_49 f106_95 tg7_15 (by decide) rfl (qH_74 hB) rfl ?_
            refine E_iastore (pc' := 53) g106_52 rfl (qH_81 hB) (by omega) (by omega) ?_
            rw [qH_Z]
            refine E_iload (pc' := 55) g106_53 rfl rfl ?_
            refine E_ifne (pc' := 58) (pt := 60) g106_55 rfl rfl (fun c2 => ?_) (fun c2 => ?_)
            · first
              | (exfalso; omega)
              | (exfalso; omega)
            · first
              | (exfalso; omega)
              | (refine E_iconst (pc' := 59) g106_58 (by decide) rfl ?_
                 exact E_iret g106_59 (ro106 (by decide)) rfl rfl))
       · first
         | (exfalso; omega)
         | (exfalso; omega))
  · first
    | (exfalso; omega)
    | (exfalso; omega)
theorem M_once2Y (hB : qBase H tx) (hn : n ≤ 120) (hp : p < n) {bt to lo hi h2 : Int} (hlh : 0 ≤ lo ∧ hi ≤ 99) (hto : 0 ≤ to ∧ to ≤ 4) (hZ : Z.length = 6) (hm : m_and me bt = 0) (hok : nOk tx n lo hi (p + 1)) (h20 : ¬ h2 = 0) (h29 : h2 ≤ 99) (hok2 : nOk tx n 1 h2 (tkP tx n (p + 1))) : Call 2 106 [mR 74, mI bt, mI to, mI lo, mI hi, mI h2] (qH H Z td ns (mdL kd un nk (n : Int) (p : Int) nu me op de fo bs bu)) (mI 1) (qH H (up (up Z to (nV tx n (p + 1))) (to + 1) (nV tx n (tkP tx n (p + 1)))) td ns (mdL kd un nk (n : Int) ((tkP tx n (tkP tx n (p + 1)) : Nat) : Int) (nV tx n (tkP tx n (p + 1))) (m_or me bt) op de fo bs bu)) := by
  have hr := M_rdY (kd := kd) (un := un) (nk := nk) (nu := nu) (me := m_or me bt) (op := op) (de := de) (fo := fo) (bs := bs) (bu := bu) (Z := Z) (td := td) (ns := ns) hB hn (p := p + 1) (by omega) hlh hok
  have hb := tkP_bd (tx := tx) (n := n) (p := p + 1) (by omega)
  have hr2 := M_rdY (kd := kd) (un := un) (nk := nk) (nu := nV tx n (p + 1)) (me := m_or me bt) (op := op) (de := de) (fo := fo) (bs := bs) (bu := bu) (Z := up Z to (nV tx n (p + 1))) (td := td) (ns := ns) hB hn hb.2 (lo := 1) (hi := h2) ⟨by omega, by omega⟩ hok2
  refine Call_of rfl ?_
  refine E_aload_n (pc' := 1) g106_0 rfl rfl ?_
  refine E_getI (pc' := 4) g106_1 f106_102 tg7_16 (by decide) rfl (qH_74 hB) rfl ?_
  refine E_iload_n (pc' := 5) g106_4 rfl rfl ?_
  refine E_iand (pc' := 6) g106_5 rfl ?_
  refine E_ifeq (pc' := 9) (pt := 11) g106_6 rfl rfl (fun c0 => ?_) (fun c0 => ?_)
  · first
    | (exfalso; omega)
    | (refine E_aload_n (pc' := 12) g106_11 rfl rfl ?_
       refine E_dup (pc' := 13) g106_12 rfl ?_
       refine E_getI (pc' := 16) g106_13 f106_102 tg7_16 (by decide) rfl (qH_74 hB) rfl ?_
       refine E_iload_n (pc' := 17) g106_16 rfl rfl ?_
       refine E_ior (pc' := 18) g106_17 rfl ?_
       refine E_putf (pc' := 21) g106_18 f106_102 tg7_16 fn7_16 rfl rfl (qH_74 hB) (Nat.le_of_ble_eq_true rfl) ?_
       rw [qH_m]
       refine Ev_cast (H := (qH H Z td ns (mdL kd un nk (n : Int) (p : Int) nu (m_or me bt) op de fo bs bu))) ?_ rfl rfl
       refine E_aload_n (pc' := 22) g106_21 rfl rfl ?_
       refine E_dup (pc' := 23) g106_22 rfl ?_
       refine E_getI (pc' := 26) g106_23 f106_88 tg7_14 (by decide) rfl (qH_74 hB) rfl ?_
       refine E_iconst (pc' := 27) g106_26 (by decide) rfl ?_
       refine E_iadd (pc' := 28) g106_27 (m_in_iff.mpr (by omega)) rfl ?_
       refine E_putf (pc' := 31) g106_28 f106_88 tg7_14 fn7_14 rfl rfl (qH_74 hB) (Nat.le_of_ble_eq_true rfl) ?_
       rw [qH_m]
       refine Ev_cast (H := (qH H Z td ns (mdL kd un nk (n : Int) ((p + 1 : Nat) : Int) nu (m_or me bt) op de fo bs bu))) ?_ rfl rfl
       refine E_aload_n (pc' := 32) g106_31 rfl rfl ?_
       refine E_iload_n (pc' := 33) g106_32 rfl rfl ?_
       refine E_iload (pc' := 35) g106_33 rfl rfl ?_
       refine E_cV2i (pc' := 38) g106_35 k106_98 na104 rfl ow104 rfl (Nat.le_of_ble_eq_true rfl) (qH_74 hB) hr (by decide) ?_
       refine E_ifne (pc' := 41) (pt := 43) g106_38 rfl rfl (fun c1 => ?_) (fun c1 => ?_)
       · first
         | (exfalso; omega)
         | (refine E_aload_n (pc' := 44) g106_43 rfl rfl ?_
            refine E_getR (pc' := 47) g106_44 f106_29 tg7_9 rfl (qH_74 hB) rfl ?_
            refine E_iload_n (pc' := 48) g106_47 rfl rfl ?_
            refine E_aload_n (pc' := 49) g106_48 rfl rfl ?_
            refine E_getI (pc' := 52) g106_49 f106_95 tg7_15 (by decide) rfl (qH_74 hB) rfl ?_
            refine E_iastore (pc' := 53) g106_52 rfl (qH_81 hB) (by omega) (by omega) ?_
            rw [qH_Z]
            refine E_iload (pc' := 55) g106_53 rfl rfl ?_
            refine E_ifne (pc' := 58) (pt := 60) g106_55 rfl rfl (fun c2 => ?_) (fun c2 => ?_)
            · first
              | (exfalso; omega)
              | (refine E_aload_n (pc' := 61) g106_60 rfl rfl ?_
                 refine E_iconst (pc' := 62) g106_61 (by decide) rfl ?_
                 refine E_iload (pc' := 64) g106_62 rfl rfl ?_
                 refine E_cV2i (pc' := 67) g106_64 k106_98 na104 rfl ow104 rfl (Nat.le_of_ble_eq_true rfl) (qH_74 hB) hr2 (by decide) ?_
                 refine E_st6 (pc' := 69) g106_67 rfl ?_
                 refine E_aload_n (pc' := 70) g106_69 rfl rfl ?_
                 refine E_getR (pc' := 73) g106_70 f106_29 tg7_9 rfl (qH_74 hB) rfl ?_
                 refine E_iload_n (pc' := 74) g106_73 rfl rfl ?_
                 refine E_iconst (pc' := 75) g106_74 (by decide) rfl ?_
                 refine E_iadd (pc' := 76) g106_75 (m_in_iff.mpr (by omega)) rfl ?_
                 refine E_aload_n (pc' := 77) g106_76 rfl rfl ?_
                 refine E_getI (pc' := 80) g106_77 f106_95 tg7_15 (by decide) rfl (qH_74 hB) rfl ?_
                 refine E_iastore (pc' := 81) g106_80 rfl (qH_81 hB) (by omega) (by rw [up_len]; omega) ?_
                 refine E_iload (pc' := 83) g106_81 rfl rfl ?_
                 exact E_iret g106_83 (ro106 (by decide)) rfl (by rw [qH_Z]))
            · first
              | (exfalso; omega)
              | (exfalso; omega))
       · first
         | (exfalso; omega)
         | (exfalso; omega))
  · first
    | (exfalso; omega)
    | (exfalso; omega)
theorem M_once2N (hB : qBase H tx) (hn : n ≤ 120) (hp : p < n) {bt to lo hi h2 : Int} (hlh : 0 ≤ lo ∧ hi ≤ 99) (hto : 0 ≤ to ∧ to ≤ 4) (hZ : Z.length = 6) (hm : m_and me bt = 0) (hok : nOk tx n lo hi (p + 1)) (h20 : ¬ h2 = 0) (h29 : h2 ≤ 99) (hok2 : ¬ nOk tx n 1 h2 (tkP tx n (p + 1))) : ∃ nu2, Call 2 106 [mR 74, mI bt, mI to, mI lo, mI hi, mI h2] (qH H Z td ns (mdL kd un nk (n : Int) (p : Int) nu me op de fo bs bu)) (mI 0) (qH H (up (up Z to (nV tx n (p + 1))) (to + 1) nu2) td ns (mdL kd un nk (n : Int) ((skq tx n (tkP tx n (p + 1)) : Nat) : Int) nu2 (m_or me bt) op de fo bs bu)) := by
  have hr := M_rdY (kd := kd) (un := un) (nk := nk) (nu := nu) (me := m_or me bt) (op := op) (de := de) (fo := fo) (bs := bs) (bu := bu) (Z := Z) (td := td) (ns := ns) hB hn (p := p + 1) (by omega) hlh hok
  have hb := tkP_bd (tx := tx) (n := n) (p := p + 1) (by omega)
  obtain ⟨nu2, hr2⟩ := M_rdN (kd := kd) (un := un) (nk := nk) (nu := nV tx n (p + 1)) (me := m_or me bt) (op := op) (de := de) (fo := fo) (bs := bs) (bu := bu) (Z := up Z to (nV tx n (p + 1))) (td := td) (ns := ns) hB hn hb.2 (lo := 1) (hi := h2) ⟨by omega, by omega⟩ hok2
  refine ⟨nu2, Call_of rfl ?_⟩
  refine E_aload_n (pc' := 1) g106_0 rfl rfl ?_
  refine E_getI (pc' := 4) g106_1 f106_102 tg7_16 (by decide) rfl (qH_74 hB) rfl ?_
  refine E_iload_n (pc' := 5) g106_4 rfl rfl ?_
  refine E_iand (pc' := 6) g106_5 rfl ?_
  refine E_ifeq (pc' := 9) (pt := 11) g106_6 rfl rfl (fun c0 => ?_) (fun c0 => ?_)
  · first
    | (exfalso; omega)
    | (refine E_aload_n (pc' := 12) g106_11 rfl rfl ?_
       refine E_dup (pc' := 13) g106_12 rfl ?_
       refine E_getI (pc' := 16) g106_13 f106_102 tg7_16 (by decide) rfl (qH_74 hB) rfl ?_
       refine E_iload_n (pc' := 17) g106_16 rfl rfl ?_
       refine E_ior (pc' := 18) g106_17 rfl ?_
       refine E_putf (pc' := 21) g106_18 f106_102 tg7_16 fn7_16 rfl rfl (qH_74 hB) (Nat.le_of_ble_eq_true rfl) ?_
       rw [qH_m]
       refine Ev_cast (H := (qH H Z td ns (mdL kd un nk (n : Int) (p : Int) nu (m_or me bt) op de fo bs bu))) ?_ rfl rfl
       refine E_aload_n (pc' := 22) g106_21 rfl rfl ?_
       refine E_dup (pc' := 23) g106_22 rfl ?_
       refine E_getI (pc' := 26) g106_23 f106_88 tg7_14 (by decide) rfl (qH_74 hB) rfl ?_
       refine E_iconst (pc' := 27) g106_26 (by decide) rfl ?_
       refine E_iadd (pc' := 28) g106_27 (m_in_iff.mpr (by omega)) rfl ?_
       refine E_putf (pc' := 31) g106_28 f106_88 tg7_14 fn7_14 rfl rfl (qH_74 hB) (Nat.le_of_ble_eq_true rfl) ?_
       rw [qH_m]
       refine Ev_cast (H := (qH H Z td ns (mdL kd un nk (n : Int) ((p + 1 : Nat) : Int) nu (m_or me bt) op de fo bs bu))) ?_ rfl rfl
       refine E_aload_n (pc' := 32) g106_31 rfl rfl ?_
       refine E_iload_n (pc' := 33) g106_32 rfl rfl ?_
       refine E_iload (pc' := 35) g106_33 rfl rfl ?_
       refine E_cV2i (pc' := 38) g106_35 k106_98 na104 rfl ow104 rfl (Nat.le_of_ble_eq_true rfl) (qH_74 hB) hr (by decide) ?_
       refine E_ifne (pc' := 41) (pt := 43) g106_38 rfl rfl (fun c1 => ?_) (fun c1 => ?_)
       · first
         | (exfalso; omega)
         | (refine E_aload_n (pc' := 44) g106_43 rfl rfl ?_
            refine E_getR (pc' := 47) g106_44 f106_29 tg7_9 rfl (qH_74 hB) rfl ?_
            refine E_iload_n (pc' := 48) g106_47 rfl rfl ?_
            refine E_aload_n (pc' := 49) g106_48 rfl rfl ?_
            refine E_getI (pc' := 52) g106_49 f106_95 tg7_15 (by decide) rfl (qH_74 hB) rfl ?_
            refine E_iastore (pc' := 53) g106_52 rfl (qH_81 hB) (by omega) (by omega) ?_
            rw [qH_Z]
            refine E_iload (pc' := 55) g106_53 rfl rfl ?_
            refine E_ifne (pc' := 58) (pt := 60) g106_55 rfl rfl (fun c2 => ?_) (fun c2 => ?_)
            · first
              | (exfalso; omega)
              | (refine E_aload_n (pc' := 61) g106_60 rfl rfl ?_
                 refine E_iconst (pc' := 62) g106_61 (by decide) rfl ?_
                 refine E_iload (pc' := 64) g106_62 rfl rfl ?_
                 refine E_cV2i (pc' := 67) g106_64 k106_98 na104 rfl ow104 rfl (Nat.le_of_ble_eq_true rfl) (qH_74 hB) hr2 (by decide) ?_
                 refine E_st6 (pc' := 69) g106_67 rfl ?_
                 refine E_aload_n (pc' := 70) g106_69 rfl rfl ?_
                 refine E_getR (pc' := 73) g106_70 f106_29 tg7_9 rfl (qH_74 hB) rfl ?_
                 refine E_iload_n (pc' := 74) g106_73 rfl rfl ?_
                 refine E_iconst (pc' := 75) g106_74 (by decide) rfl ?_
                 refine E_iadd (pc' := 76) g106_75 (m_in_iff.mpr (by omega)) rfl ?_
                 refine E_aload_n (pc' := 77) g106_76 rfl rfl ?_
                 refine E_getI (pc' := 80) g106_77 f106_95 tg7_15 (by decide) rfl (qH_74 hB) rfl ?_
                 refine E_iastore (pc' := 81) g106_80 rfl (qH_81 hB) (by omega) (by rw [up_len]; omega) ?_
                 refine E_iload (pc' := 83) g106_81 rfl rfl ?_
                 exact E_iret g106_83 (ro106 (by decide)) rfl (by rw [qH_Z]))
            · first
              | (exfalso; omega)
              | (exfalso; omega))
       · first
         | (exfalso; omega)
         | (exfalso; omega))
  · first
    | (exfalso; omega)
    | (exfalso; omega)
theorem M_kindT (hB : qBase H tx) (h6 : nk = 6) : Call 2 105 [mR 74] (qH H Z td ns (mdL kd un nk (n : Int) (p : Int) nu me op de fo bs bu)) (mI 0) (qH H Z td ns (mdL kd un nk (n : Int) (p : Int) nu me op de fo bs bu)) := by
  refine Call_of rfl ?_
  refine E_aload_n (pc' := 1) g105_0 rfl rfl ?_
  refine E_getI (pc' := 4) g105_1 f105_71 tg7_8 (by decide) rfl (qH_74 hB) rfl ?_
  refine E_bipush (pc' := 6) g105_4 (by decide) rfl ?_
  refine E_icne (pc' := 9) (pt := 11) g105_6 rfl rfl (fun c0 => ?_) (fun c0 => ?_)
  · first
    | (exfalso; omega)
    | (exfalso; omega)
  · first
    | (exfalso; omega)
    | (refine E_iconst (pc' := 10) g105_9 (by decide) rfl ?_
       exact E_iret g105_10 (ro105 (by decide)) rfl rfl)
theorem M_kstep (hB : qBase H tx) (hn : n ≤ 120) (hp : p ≤ n) (hk : 0 ≤ nk ∧ nk < 6) (htl : td.length = 30) (hnl : ns.length = 6) {i : Nat} (hi : i < 6) (hok : nOk tx n 0 (kHi i) p) {r : mV} {H1 : mH} (h : Ev 2 105 23 [mR 74, mI ((i : Int) + 1)] [] (qH H Z (if (i : Int) < 5 then up td (5 * nk + i) (nV tx n p) else td) (if (i : Int) < 5 then ns else up ns nk (nV tx n p)) (mdL kd un nk (n : Int) ((tkP tx n p : Nat) : Int) (nV tx n p) me op de fo bs bu)) r H1) : Ev 2 105 23 [mR 74, mI (i : Int)] [] (qH H Z td ns (mdL kd un nk (n : Int) (p : Int) nu me op de fo bs bu)) r H1 := by
  by_cases e4 : i = 4
  · subst e4
    have hr := M_rdY (kd := kd) (un := un) (nk := nk) (nu := nu) (me := me) (op := op) (de := de) (fo := fo) (bs := bs) (bu := bu) (Z := Z) (td := td) (ns := ns) hB hn hp (lo := 0) (hi := 5) ⟨by omega, by omega⟩ hok
    rw [if_pos (by omega), if_pos (by omega)] at h
    refine E_iload_n (pc' := 24) g105_23 rfl rfl ?_
    refine E_bipush (pc' := 26) g105_24 (by decide) rfl ?_
    refine E_icge (pc' := 29) (pt := 94) g105_26 rfl rfl (fun c0 => ?_) (fun c0 => ?_)
    · first
      | (exfalso; omega)
      | (exfalso; omega)
    · first
      | (exfalso; omega)
      | (refine E_aload_n (pc' := 30) g105_29 rfl rfl ?_
         refine E_iconst (pc' := 31) g105_30 (by decide) rfl ?_
         refine E_iload_n (pc' := 32) g105_31 rfl rfl ?_
         refine E_iconst (pc' := 33) g105_32 (by decide) rfl ?_
         refine E_icne (pc' := 36) (pt := 40) g105_33 rfl rfl (fun c1 => ?_) (fun c1 => ?_)
         · first
           | (exfalso; omega)
           | (exfalso; omega)
         · first
           | (exfalso; omega)
           | (refine E_iconst (pc' := 37) g105_36 (by decide) rfl ?_
              refine E_goto (pc' := 42) g105_37 rfl ?_
              refine E_cV2i (pc' := 45) g105_42 k105_98 na104 rfl ow104 rfl (Nat.le_of_ble_eq_true rfl) (qH_74 hB) hr (by decide) ?_
              refine E_ifne (pc' := 48) (pt := 50) g105_45 rfl rfl (fun c2 => ?_) (fun c2 => ?_)
              · first
                | (exfalso; omega)
                | (refine E_iload_n (pc' := 51) g105_50 rfl rfl ?_
                   refine E_iconst (pc' := 52) g105_51 (by decide) rfl ?_
                   refine E_icge (pc' := 55) (pt := 75) g105_52 rfl rfl (fun c3 => ?_) (fun c3 => ?_)
                   · first
                     | (exfalso; omega)
                     | (exfalso; omega)
                   · first
                     | (exfalso; omega)
                     | (refine E_aload_n (pc' := 56) g105_55 rfl rfl ?_
                        refine E_getR (pc' := 59) g105_56 f105_32 tg7_10 rfl (qH_74 hB) rfl ?_
                        refine E_iconst (pc' := 60) g105_59 (by decide) rfl ?_
                        refine E_aload_n (pc' := 61) g105_60 rfl rfl ?_
                        refine E_getI (pc' := 64) g105_61 f105_71 tg7_8 (by decide) rfl (qH_74 hB) rfl ?_
                        refine E_imul (pc' := 65) g105_64 (m_in_iff.mpr (by omega)) rfl ?_
                        refine E_iload_n (pc' := 66) g105_65 rfl rfl ?_
                        refine E_iadd (pc' := 67) g105_66 (m_in_iff.mpr (by omega)) rfl ?_
                        refine E_aload_n (pc' := 68) g105_67 rfl rfl ?_
                        refine E_getI (pc' := 71) g105_68 f105_95 tg7_15 (by decide) rfl (qH_74 hB) rfl ?_
                        refine E_iastore (pc' := 72) g105_71 rfl (qH_82 hB) (by omega) (by omega) ?_
                        rw [qH_td]
                        refine E_goto (pc' := 88) g105_72 rfl ?_
                        refine E_in1 (pc' := 91) g105_88 rfl (m_in_iff.mpr (by omega)) ?_
                        refine E_goto (pc' := 23) g105_91 rfl ?_
                        exact h))
              · first
                | (exfalso; omega)
                | (exfalso; omega)))
  · have hr := M_rdY (kd := kd) (un := un) (nk := nk) (nu := nu) (me := me) (op := op) (de := de) (fo := fo) (bs := bs) (bu := bu) (Z := Z) (td := td) (ns := ns) hB hn hp (lo := 0) (hi := 9) ⟨by omega, by omega⟩ (by unfold kHi at hok; rw [if_neg e4] at hok; exact hok)
    by_cases e5 : (i : Int) < 5
    · rw [if_pos e5, if_pos e5] at h
      refine E_iload_n (pc' := 24) g105_23 rfl rfl ?_
      refine E_bipush (pc' := 26) g105_24 (by decide) rfl ?_
      refine E_icge (pc' := 29) (pt := 94) g105_26 rfl rfl (fun c0 => ?_) (fun c0 => ?_)
      · first
        | (exfalso; omega)
        | (exfalso; omega)
      · first
        | (exfalso; omega)
        | (refine E_aload_n (pc' := 30) g105_29 rfl rfl ?_
           refine E_iconst (pc' := 31) g105_30 (by decide) rfl ?_
           refine E_iload_n (pc' := 32) g105_31 rfl rfl ?_
           refine E_iconst (pc' := 33) g105_32 (by decide) rfl ?_
           refine E_icne (pc' := 36) (pt := 40) g105_33 rfl rfl (fun c1 => ?_) (fun c1 => ?_)
           · first
             | (exfalso; omega)
             | (refine E_bipush (pc' := 42) g105_40 (by decide) rfl ?_
                refine E_cV2i (pc' := 45) g105_42 k105_98 na104 rfl ow104 rfl (Nat.le_of_ble_eq_true rfl) (qH_74 hB) hr (by decide) ?_
                refine E_ifne (pc' := 48) (pt := 50) g105_45 rfl rfl (fun c2 => ?_) (fun c2 => ?_)
                · first
                  | (exfalso; omega)
                  | (refine E_iload_n (pc' := 51) g105_50 rfl rfl ?_
                     refine E_iconst (pc' := 52) g105_51 (by decide) rfl ?_
                     refine E_icge (pc' := 55) (pt := 75) g105_52 rfl rfl (fun c3 => ?_) (fun c3 => ?_)
                     · first
                       | (exfalso; omega)
                       | (exfalso; omega)
                     · first
                       | (exfalso; omega)
                       | (refine E_aload_n (pc' := 56) g105_55 rfl rfl ?_
                          refine E_getR (pc' := 59) g105_56 f105_32 tg7_10 rfl (qH_74 hB) rfl ?_
                          refine E_iconst (pc' := 60) g105_59 (by decide) rfl ?_
                          refine E_aload_n (pc' := 61) g105_60 rfl rfl ?_
                          refine E_getI (pc' := 64) g105_61 f105_71 tg7_8 (by decide) rfl (qH_74 hB) rfl ?_
                          refine E_imul (pc' := 65) g105_64 (m_in_iff.mpr (by omega)) rfl ?_
                          refine E_iload_n (pc' := 66) g105_65 rfl rfl ?_
                          refine E_iadd (pc' := 67) g105_66 (m_in_iff.mpr (by omega)) rfl ?_
                          refine E_aload_n (pc' := 68) g105_67 rfl rfl ?_
                          refine E_getI (pc' := 71) g105_68 f105_95 tg7_15 (by decide) rfl (qH_74 hB) rfl ?_
                          refine E_iastore (pc' := 72) g105_71 rfl (qH_82 hB) (by omega) (by omega) ?_
                          rw [qH_td]
                          refine E_goto (pc' := 88) g105_72 rfl ?_
                          refine E_in1 (pc' := 91) g105_88 rfl (m_in_iff.mpr (by omega)) ?_
                          refine E_goto (pc' := 23) g105_91 rfl ?_
                          exact h))
                · first
                  | (exfalso; omega)
                  | (exfalso; omega))
           · first
             | (exfalso; omega)
             | (exfalso; omega))
    · rw [if_neg e5, if_neg e5] at h
      refine E_iload_n (pc' := 24) g105_23 rfl rfl ?_
      refine E_bipush (pc' := 26) g105_24 (by decide) rfl ?_
      refine E_icge (pc' := 29) (pt := 94) g105_26 rfl rfl (fun c0 => ?_) (fun c0 => ?_)
      · first
        | (exfalso; omega)
        | (exfalso; omega)
      · first
        | (exfalso; omega)
        | (refine E_aload_n (pc' := 30) g105_29 rfl rfl ?_
           refine E_iconst (pc' := 31) g105_30 (by decide) rfl ?_
           refine E_iload_n (pc' := 32) g105_31 rfl rfl ?_
           refine E_iconst (pc' := 33) g105_32 (by decide) rfl ?_
           refine E_icne (pc' := 36) (pt := 40) g105_33 rfl rfl (fun c1 => ?_) (fun c1 => ?_)
           · first
             | (exfalso; omega)
             | (refine E_bipush (pc' := 42) g105_40 (by decide) rfl ?_
                refine E_cV2i (pc' := 45) g105_42 k105_98 na104 rfl ow104 rfl (Nat.le_of_ble_eq_true rfl) (qH_74 hB) hr (by decide) ?_
                refine E_ifne (pc' := 48) (pt := 50) g105_45 rfl rfl (fun c2 => ?_) (fun c2 => ?_)
                · first
                  | (exfalso; omega)
                  | (refine E_iload_n (pc' := 51) g105_50 rfl rfl ?_
                     refine E_iconst (pc' := 52) g105_51 (by decide) rfl ?_
                     refine E_icge (pc' := 55) (pt := 75) g105_52 rfl rfl (fun c3 => ?_) (fun c3 => ?_)
                     · first
                       | (exfalso; omega)
                       | (refine E_aload_n (pc' := 76) g105_75 rfl rfl ?_
                          refine E_getR (pc' := 79) g105_76 f105_35 tg7_11 rfl (qH_74 hB) rfl ?_
                          refine E_aload_n (pc' := 80) g105_79 rfl rfl ?_
                          refine E_getI (pc' := 83) g105_80 f105_71 tg7_8 (by decide) rfl (qH_74 hB) rfl ?_
                          refine E_aload_n (pc' := 84) g105_83 rfl rfl ?_
                          refine E_getI (pc' := 87) g105_84 f105_95 tg7_15 (by decide) rfl (qH_74 hB) rfl ?_
                          refine E_iastore (pc' := 88) g105_87 rfl (qH_83 hB) (by omega) (by omega) ?_
                          rw [qH_ns]
                          refine E_in1 (pc' := 91) g105_88 rfl (m_in_iff.mpr (by omega)) ?_
                          refine E_goto (pc' := 23) g105_91 rfl ?_
                          exact h)
                     · first
                       | (exfalso; omega)
                       | (exfalso; omega))
                · first
                  | (exfalso; omega)
                  | (exfalso; omega))
           · first
             | (exfalso; omega)
             | (exfalso; omega))
theorem M_kstepN (hB : qBase H tx) (hn : n ≤ 120) (hp : p ≤ n) {i : Nat} (hi : i < 6) (hno : ¬ nOk tx n 0 (kHi i) p) : ∃ nu2, Ev 2 105 23 [mR 74, mI (i : Int)] [] (qH H Z td ns (mdL kd un nk (n : Int) (p : Int) nu me op de fo bs bu)) (mI 0) (qH H Z td ns (mdL kd un nk (n : Int) ((skq tx n p : Nat) : Int) nu2 me op de fo bs bu)) := by
  by_cases e4 : i = 4
  · subst e4
    obtain ⟨nu2, hr⟩ := M_rdN (kd := kd) (un := un) (nk := nk) (nu := nu) (me := me) (op := op) (de := de) (fo := fo) (bs := bs) (bu := bu) (Z := Z) (td := td) (ns := ns) hB hn hp (lo := 0) (hi := 5) ⟨by omega, by omega⟩ hno
    refine ⟨nu2, ?_⟩
    refine E_iload_n (pc' := 24) g105_23 rfl rfl ?_
    refine E_bipush (pc' := 26) g105_24 (by decide) rfl ?_
    refine E_icge (pc' := 29) (pt := 94) g105_26 rfl rfl (fun c0 => ?_) (fun c0 => ?_)
    · first
      | (exfalso; omega)
      | (exfalso; omega)
    · first
      | (exfalso; omega)
      | (refine E_aload_n (pc' := 30) g105_29 rfl rfl ?_
         refine E_iconst (pc' := 31) g105_30 (by decide) rfl ?_
         refine E_iload_n (pc' := 32) g105_31 rfl rfl ?_
         refine E_iconst (pc' := 33) g105_32 (by decide) rfl ?_
         refine E_icne (pc' := 36) (pt := 40) g105_33 rfl rfl (fun c1 => ?_) (fun c1 => ?_)
         · first
           | (exfalso; omega)
           | (exfalso; omega)
         · first
           | (exfalso; omega)
           | (refine E_iconst (pc' := 37) g105_36 (by decide) rfl ?_
              refine E_goto (pc' := 42) g105_37 rfl ?_
              refine E_cV2i (pc' := 45) g105_42 k105_98 na104 rfl ow104 rfl (Nat.le_of_ble_eq_true rfl) (qH_74 hB) hr (by decide) ?_
              refine E_ifne (pc' := 48) (pt := 50) g105_45 rfl rfl (fun c2 => ?_) (fun c2 => ?_)
              · first
                | (exfalso; omega)
                | (exfalso; omega)
              · first
                | (exfalso; omega)
                | (refine E_iconst (pc' := 49) g105_48 (by decide) rfl ?_
                   exact E_iret g105_49 (ro105 (by decide)) rfl rfl)))
  · obtain ⟨nu2, hr⟩ := M_rdN (kd := kd) (un := un) (nk := nk) (nu := nu) (me := me) (op := op) (de := de) (fo := fo) (bs := bs) (bu := bu) (Z := Z) (td := td) (ns := ns) hB hn hp (lo := 0) (hi := 9) ⟨by omega, by omega⟩ (by unfold kHi at hno; rw [if_neg e4] at hno; exact hno)
    refine ⟨nu2, ?_⟩
    refine E_iload_n (pc' := 24) g105_23 rfl rfl ?_
    refine E_bipush (pc' := 26) g105_24 (by decide) rfl ?_
    refine E_icge (pc' := 29) (pt := 94) g105_26 rfl rfl (fun c0 => ?_) (fun c0 => ?_)
    · first
      | (exfalso; omega)
      | (exfalso; omega)
    · first
      | (exfalso; omega)
      | (refine E_aload_n (pc' := 30) g105_29 rfl rfl ?_
         refine E_iconst (pc' := 31) g105_30 (by decide) rfl ?_
         refine E_iload_n (pc' := 32) g105_31 rfl rfl ?_
         refine E_iconst (pc' := 33) g105_32 (by decide) rfl ?_
         refine E_icne (pc' := 36) (pt := 40) g105_33 rfl rfl (fun c1 => ?_) (fun c1 => ?_)
         · first
           | (exfalso; omega)
           | (refine E_bipush (pc' := 42) g105_40 (by decide) rfl ?_
              refine E_cV2i (pc' := 45) g105_42 k105_98 na104 rfl ow104 rfl (Nat.le_of_ble_eq_true rfl) (qH_74 hB) hr (by decide) ?_
              refine E_ifne (pc' := 48) (pt := 50) g105_45 rfl rfl (fun c2 => ?_) (fun c2 => ?_)
              · first
                | (exfalso; omega)
                | (exfalso; omega)
              · first
                | (exfalso; omega)
                | (refine E_iconst (pc' := 49) g105_48 (by decide) rfl ?_
                   exact E_iret g105_49 (ro105 (by decide)) rfl rfl))
         · first
           | (exfalso; omega)
           | (exfalso; omega))
theorem M_kchain (hB : qBase H tx) (hn : n ≤ 120) (hp : p ≤ n) (hk : 0 ≤ nk ∧ nk < 6) (htl : td.length = 30) (hnl : ns.length = 6) : ∀ i : Nat, i ≤ 6 → (∀ j, j < i → nOk tx n 0 (kHi j) (plq tx n p j)) → ∃ nu', ∀ (r : mV) (H1 : mH), Ev 2 105 23 [mR 74, mI (i : Int)] [] (qH H Z (mT td nk (fun j => nV tx n (plq tx n p j)) i) (mS ns nk (fun j => nV tx n (plq tx n p j)) i) (mdL kd un nk (n : Int) ((plq tx n p i : Nat) : Int) nu' me op de fo bs bu)) r H1 → Ev 2 105 23 [mR 74, mI 0] [] (qH H Z td ns (mdL kd un nk (n : Int) (p : Int) nu me op de fo bs bu)) r H1
  | 0, _, _ => ⟨nu, fun r H1 h => h⟩
  | i + 1, hi, hok => by
    obtain ⟨nu', g⟩ := M_kchain hB hn hp hk htl hnl i (by omega) (fun j hj => hok j (by omega))
    have hb := plq_bd (tx := tx) hp i
    exact ⟨_, fun r H1 h => g r H1 (M_kstep hB hn hb.2 hk (by rw [mT_len]; exact htl) (by rw [mS_len]; exact hnl) (by omega) (hok i (by omega)) h)⟩
theorem M_kind0 (hB : qBase H tx) (hk : 0 ≤ nk ∧ nk < 6) (hp : p < 1000) {r : mV} {H1 : mH} (h : Ev 2 105 23 [mR 74, mI 0] [] (qH H Z td ns (mdL kd un nk (n : Int) ((p + 1 : Nat) : Int) nu me op de fo bs bu)) r H1) : Call 2 105 [mR 74] (qH H Z td ns (mdL kd un nk (n : Int) (p : Int) nu me op de fo bs bu)) r H1 := by
  refine Call_of rfl ?_
  refine E_aload_n (pc' := 1) g105_0 rfl rfl ?_
  refine E_getI (pc' := 4) g105_1 f105_71 tg7_8 (by decide) rfl (qH_74 hB) rfl ?_
  refine E_bipush (pc' := 6) g105_4 (by decide) rfl ?_
  refine E_icne (pc' := 9) (pt := 11) g105_6 rfl rfl (fun c0 => ?_) (fun c0 => ?_)
  · first
    | (exfalso; omega)
    | (refine E_aload_n (pc' := 12) g105_11 rfl rfl ?_
       refine E_dup (pc' := 13) g105_12 rfl ?_
       refine E_getI (pc' := 16) g105_13 f105_88 tg7_14 (by decide) rfl (qH_74 hB) rfl ?_
       refine E_iconst (pc' := 17) g105_16 (by decide) rfl ?_
       refine E_iadd (pc' := 18) g105_17 (m_in_iff.mpr (by omega)) rfl ?_
       refine E_putf (pc' := 21) g105_18 f105_88 tg7_14 fn7_14 rfl rfl (qH_74 hB) (Nat.le_of_ble_eq_true rfl) ?_
       rw [qH_m]
       refine Ev_cast (H := (qH H Z td ns (mdL kd un nk (n : Int) ((p + 1 : Nat) : Int) nu me op de fo bs bu))) ?_ rfl rfl
       refine E_iconst (pc' := 22) g105_21 (by decide) rfl ?_
       refine E_st1 (pc' := 23) g105_22 rfl ?_
       exact h)
  · first
    | (exfalso; omega)
    | (exfalso; omega)
theorem M_kindE (hB : qBase H tx) (hk : 0 ≤ nk ∧ nk < 6) : Ev 2 105 23 [mR 74, mI 6] [] (qH H Z td ns (mdL kd un nk (n : Int) (p : Int) nu me op de fo bs bu)) (mI 1) (qH H Z td ns (mdL kd un (nk + 1) (n : Int) (p : Int) nu me op de fo bs bu)) := by
  refine E_iload_n (pc' := 24) g105_23 rfl rfl ?_
  refine E_bipush (pc' := 26) g105_24 (by decide) rfl ?_
  refine E_icge (pc' := 29) (pt := 94) g105_26 rfl rfl (fun c0 => ?_) (fun c0 => ?_)
  · first
    | (exfalso; omega)
    | (refine E_aload_n (pc' := 95) g105_94 rfl rfl ?_
       refine E_dup (pc' := 96) g105_95 rfl ?_
       refine E_getI (pc' := 99) g105_96 f105_71 tg7_8 (by decide) rfl (qH_74 hB) rfl ?_
       refine E_iconst (pc' := 100) g105_99 (by decide) rfl ?_
       refine E_iadd (pc' := 101) g105_100 (m_in_iff.mpr (by omega)) rfl ?_
       refine E_putf (pc' := 104) g105_101 f105_71 tg7_8 fn7_8 rfl rfl (qH_74 hB) (Nat.le_of_ble_eq_true rfl) ?_
       refine E_iconst (pc' := 105) g105_104 (by decide) rfl ?_
       exact E_iret g105_105 (ro105 (by decide)) rfl (by rw [qH_m]; rfl))
  · first
    | (exfalso; omega)
    | (exfalso; omega)
theorem M_kind_ (hB : qBase H tx) (hn : n ≤ 120) (hp : p < n) (hk : 0 ≤ nk ∧ nk < 6) (htl : td.length = 30) (hnl : ns.length = 6) : ((∀ j, j < 6 → nOk tx n 0 (kHi j) (plq tx n (p + 1) j)) → ∃ nu', Call 2 105 [mR 74] (qH H Z td ns (mdL kd un nk (n : Int) (p : Int) nu me op de fo bs bu)) (mI 1) (qH H Z (mT td nk (fun j => nV tx n (plq tx n (p + 1) j)) 6) (mS ns nk (fun j => nV tx n (plq tx n (p + 1) j)) 6) (mdL kd un (nk + 1) (n : Int) ((plq tx n (p + 1) 6 : Nat) : Int) nu' me op de fo bs bu))) ∧ (∀ i, i < 6 → (∀ j, j < i → nOk tx n 0 (kHi j) (plq tx n (p + 1) j)) → ¬ nOk tx n 0 (kHi i) (plq tx n (p + 1) i) → ∃ nu', Call 2 105 [mR 74] (qH H Z td ns (mdL kd un nk (n : Int) (p : Int) nu me op de fo bs bu)) (mI 0) (qH H Z (mT td nk (fun j => nV tx n (plq tx n (p + 1) j)) i) (mS ns nk (fun j => nV tx n (plq tx n (p + 1) j)) i) (mdL kd un nk (n : Int) ((skq tx n (plq tx n (p + 1) i) : Nat) : Int) nu' me op de fo bs bu))) := by
  refine ⟨fun hok => ?_, fun i hi hok hno => ?_⟩
  · obtain ⟨nu', g⟩ := M_kchain (kd := kd) (un := un) (nu := nu) (me := me) (op := op) (de := de) (fo := fo) (bs := bs) (bu := bu) (Z := Z) hB hn (p := p + 1) (by omega) hk htl hnl 6 (by omega) hok
    exact ⟨_, M_kind0 hB hk (by omega) (g _ _ (M_kindE hB hk))⟩
  · have hb := plq_bd (tx := tx) (n := n) (p := p + 1) (by omega) i
    obtain ⟨nu', g⟩ := M_kchain (kd := kd) (un := un) (nu := nu) (me := me) (op := op) (de := de) (fo := fo) (bs := bs) (bu := bu) (Z := Z) hB hn (p := p + 1) (by omega) hk htl hnl i (by omega) hok
    obtain ⟨nu2, h⟩ := M_kstepN (kd := kd) (un := un) (nk := nk) (nu := nu') (me := me) (op := op) (de := de) (fo := fo) (bs := bs) (bu := bu) (Z := Z) (td := mT td nk (fun j => nV tx n (plq tx n (p + 1) j)) i) (ns := mS ns nk (fun j => nV tx n (plq tx n (p + 1) j)) i) hB hn hb.2 hi hno
    exact ⟨_, M_kind0 hB hk (by omega) (g _ _ h)⟩
theorem M_item_k (hB : qBase H tx) (hn : n ≤ 120) (hp : p ≤ n) (hs : skq tx n p = p) (hc : hrc tx n p = 107) {v : Int} (hv : v = 0 ∨ v = 1) {X : mH} (h : Call 2 105 [mR 74] (qH H Z td ns (mdL kd un nk (n : Int) (p : Int) nu me op de fo bs bu)) (mI v) X) : Call 3 107 [mR 74] (qH H Z td ns (mdL kd un nk (n : Int) (p : Int) nu me op de fo bs bu)) (mI v) X := by
  have hh := M_hr (kd := kd) (un := un) (nk := nk) (nu := nu) (me := me) (op := op) (de := de) (fo := fo) (bs := bs) (bu := bu) (Z := Z) (td := td) (ns := ns) hB hn hp
  rw [hs, hc] at hh
  refine Call_of rfl ?_
  refine E_aload_n (pc' := 1) g107_0 rfl rfl ?_
  refine E_cV0i (pc' := 4) g107_1 k107_91 na103 rfl ow103 rfl (Nat.le_of_ble_eq_true rfl) (qH_74 hB) hh (by decide) ?_
  refine E_lookup (pt := 56) g107_4 (by decide) (by decide) ?_
  refine E_aload_n (pc' := 57) g107_56 rfl rfl ?_
  refine E_cV0i (pc' := 60) g107_57 k107_105 na105 rfl ow105 rfl (Nat.le_of_ble_eq_true rfl) (qH_74 hB) h (by decide) ?_
  exact E_iret g107_60 (ro107 hv) rfl rfl
theorem M_item_w (hB : qBase H tx) (hn : n ≤ 120) (hp : p ≤ n) (hs : skq tx n p = p) (hc : hrc tx n p = 119) {v : Int} (hv : v = 0 ∨ v = 1) {X : mH} (h : Call 2 106 [mR 74, mI 1, mI 0, mI 1, mI 3, mI 2] (qH H Z td ns (mdL kd un nk (n : Int) (p : Int) nu me op de fo bs bu)) (mI v) X) : Call 3 107 [mR 74] (qH H Z td ns (mdL kd un nk (n : Int) (p : Int) nu me op de fo bs bu)) (mI v) X := by
  have hh := M_hr (kd := kd) (un := un) (nk := nk) (nu := nu) (me := me) (op := op) (de := de) (fo := fo) (bs := bs) (bu := bu) (Z := Z) (td := td) (ns := ns) hB hn hp
  rw [hs, hc] at hh
  refine Call_of rfl ?_
  refine E_aload_n (pc' := 1) g107_0 rfl rfl ?_
  refine E_cV0i (pc' := 4) g107_1 k107_91 na103 rfl ow103 rfl (Nat.le_of_ble_eq_true rfl) (qH_74 hB) hh (by decide) ?_
  refine E_lookup (pt := 61) g107_4 (by decide) (by decide) ?_
  refine E_aload_n (pc' := 62) g107_61 rfl rfl ?_
  refine E_iconst (pc' := 63) g107_62 (by decide) rfl ?_
  refine E_iconst (pc' := 64) g107_63 (by decide) rfl ?_
  refine E_iconst (pc' := 65) g107_64 (by decide) rfl ?_
  refine E_iconst (pc' := 66) g107_65 (by decide) rfl ?_
  refine E_iconst (pc' := 67) g107_66 (by decide) rfl ?_
  refine E_cV5i (pc' := 70) g107_67 k107_109 na106 rfl ow106 rfl (Nat.le_of_ble_eq_true rfl) (qH_74 hB) h (by decide) ?_
  exact E_iret g107_70 (ro107 hv) rfl rfl
theorem M_item_e (hB : qBase H tx) (hn : n ≤ 120) (hp : p ≤ n) (hs : skq tx n p = p) (hc : hrc tx n p = 101) {v : Int} (hv : v = 0 ∨ v = 1) {X : mH} (h : Call 2 106 [mR 74, mI 2, mI 2, mI 0, mI 9, mI 0] (qH H Z td ns (mdL kd un nk (n : Int) (p : Int) nu me op de fo bs bu)) (mI v) X) : Call 3 107 [mR 74] (qH H Z td ns (mdL kd un nk (n : Int) (p : Int) nu me op de fo bs bu)) (mI v) X := by
  have hh := M_hr (kd := kd) (un := un) (nk := nk) (nu := nu) (me := me) (op := op) (de := de) (fo := fo) (bs := bs) (bu := bu) (Z := Z) (td := td) (ns := ns) hB hn hp
  rw [hs, hc] at hh
  refine Call_of rfl ?_
  refine E_aload_n (pc' := 1) g107_0 rfl rfl ?_
  refine E_cV0i (pc' := 4) g107_1 k107_91 na103 rfl ow103 rfl (Nat.le_of_ble_eq_true rfl) (qH_74 hB) hh (by decide) ?_
  refine E_lookup (pt := 71) g107_4 (by decide) (by decide) ?_
  refine E_aload_n (pc' := 72) g107_71 rfl rfl ?_
  refine E_iconst (pc' := 73) g107_72 (by decide) rfl ?_
  refine E_iconst (pc' := 74) g107_73 (by decide) rfl ?_
  refine E_iconst (pc' := 75) g107_74 (by decide) rfl ?_
  refine E_bipush (pc' := 77) g107_75 (by decide) rfl ?_
  refine E_iconst (pc' := 78) g107_77 (by decide) rfl ?_
  refine E_cV5i (pc' := 81) g107_78 k107_109 na106 rfl ow106 rfl (Nat.le_of_ble_eq_true rfl) (qH_74 hB) h (by decide) ?_
  exact E_iret g107_81 (ro107 hv) rfl rfl
theorem M_item_m (hB : qBase H tx) (hn : n ≤ 120) (hp : p ≤ n) (hs : skq tx n p = p) (hc : hrc tx n p = 109) {v : Int} (hv : v = 0 ∨ v = 1) {X : mH} (h : Call 2 106 [mR 74, mI 4, mI 3, mI 1, mI 9, mI 0] (qH H Z td ns (mdL kd un nk (n : Int) (p : Int) nu me op de fo bs bu)) (mI v) X) : Call 3 107 [mR 74] (qH H Z td ns (mdL kd un nk (n : Int) (p : Int) nu me op de fo bs bu)) (mI v) X := by
  have hh := M_hr (kd := kd) (un := un) (nk := nk) (nu := nu) (me := me) (op := op) (de := de) (fo := fo) (bs := bs) (bu := bu) (Z := Z) (td := td) (ns := ns) hB hn hp
  rw [hs, hc] at hh
  refine Call_of rfl ?_
  refine E_aload_n (pc' := 1) g107_0 rfl rfl ?_
  refine E_cV0i (pc' := 4) g107_1 k107_91 na103 rfl ow103 rfl (Nat.le_of_ble_eq_true rfl) (qH_74 hB) hh (by decide) ?_
  refine E_lookup (pt := 82) g107_4 (by decide) (by decide) ?_
  refine E_aload_n (pc' := 83) g107_82 rfl rfl ?_
  refine E_iconst (pc' := 84) g107_83 (by decide) rfl ?_
  refine E_iconst (pc' := 85) g107_84 (by decide) rfl ?_
  refine E_iconst (pc' := 86) g107_85 (by decide) rfl ?_
  refine E_bipush (pc' := 88) g107_86 (by decide) rfl ?_
  refine E_iconst (pc' := 89) g107_88 (by decide) rfl ?_
  refine E_cV5i (pc' := 92) g107_89 k107_109 na106 rfl ow106 rfl (Nat.le_of_ble_eq_true rfl) (qH_74 hB) h (by decide) ?_
  exact E_iret g107_92 (ro107 hv) rfl rfl
theorem M_item_s (hB : qBase H tx) (hn : n ≤ 120) (hp : p ≤ n) (hs : skq tx n p = p) (hc : hrc tx n p = 115) {v : Int} (hv : v = 0 ∨ v = 1) {X : mH} (h : Call 2 106 [mR 74, mI 8, mI 4, mI 1, mI 9, mI 4] (qH H Z td ns (mdL kd un nk (n : Int) (p : Int) nu me op de fo bs bu)) (mI v) X) : Call 3 107 [mR 74] (qH H Z td ns (mdL kd un nk (n : Int) (p : Int) nu me op de fo bs bu)) (mI v) X := by
  have hh := M_hr (kd := kd) (un := un) (nk := nk) (nu := nu) (me := me) (op := op) (de := de) (fo := fo) (bs := bs) (bu := bu) (Z := Z) (td := td) (ns := ns) hB hn hp
  rw [hs, hc] at hh
  refine Call_of rfl ?_
  refine E_aload_n (pc' := 1) g107_0 rfl rfl ?_
  refine E_cV0i (pc' := 4) g107_1 k107_91 na103 rfl ow103 rfl (Nat.le_of_ble_eq_true rfl) (qH_74 hB) hh (by decide) ?_
  refine E_lookup (pt := 93) g107_4 (by decide) (by decide) ?_
  refine E_aload_n (pc' := 94) g107_93 rfl rfl ?_
  refine E_bipush (pc' := 96) g107_94 (by decide) rfl ?_
  refine E_iconst (pc' := 97) g107_96 (by decide) rfl ?_
  refine E_iconst (pc' := 98) g107_97 (by decide) rfl ?_
  refine E_bipush (pc' := 100) g107_98 (by decide) rfl ?_
  refine E_iconst (pc' := 101) g107_100 (by decide) rfl ?_
  refine E_cV5i (pc' := 104) g107_101 k107_109 na106 rfl ow106 rfl (Nat.le_of_ble_eq_true rfl) (qH_74 hB) h (by decide) ?_
  exact E_iret g107_104 (ro107 hv) rfl rfl
theorem M_item_no (hB : qBase H tx) (hn : n ≤ 120) (hp : p ≤ n) (hs : skq tx n p = p) (h1 : ¬ 101 = hrc tx n p) (h2 : ¬ 107 = hrc tx n p) (h3 : ¬ 109 = hrc tx n p) (h4 : ¬ 115 = hrc tx n p) (h5 : ¬ 119 = hrc tx n p) : Call 3 107 [mR 74] (qH H Z td ns (mdL kd un nk (n : Int) (p : Int) nu me op de fo bs bu)) (mI 0) (qH H Z td ns (mdL kd un nk (n : Int) (p : Int) nu me op de fo bs bu)) := by
  have hh := M_hr (kd := kd) (un := un) (nk := nk) (nu := nu) (me := me) (op := op) (de := de) (fo := fo) (bs := bs) (bu := bu) (Z := Z) (td := td) (ns := ns) hB hn hp
  rw [hs] at hh
  refine Call_of rfl ?_
  refine E_aload_n (pc' := 1) g107_0 rfl rfl ?_
  refine E_cV0i (pc' := 4) g107_1 k107_91 na103 rfl ow103 rfl (Nat.le_of_ble_eq_true rfl) (qH_74 hB) hh (by decide) ?_
  refine E_lookup (pt := 105) g107_4 (by decide) (by simp [Op.lookupswitch.offset, m_jmp, h1, h2, h3, h4, h5]) ?_
  refine E_iconst (pc' := 106) g107_105 (by decide) rfl ?_
  exact E_iret g107_106 (ro107 (by decide)) rfl rfl
theorem M_tlNo1 (hB : qBase H tx) (hn : n ≤ 120) (hp : p ≤ n) {it : Int} (he : ¬ hrc tx n p = -1) {q : Nat} (hq : q ≤ 1000) {nu2 me2 nk2 : Int} (hit : Call 3 107 [mR 74] (qH H Z td ns (mdL kd un nk (n : Int) ((skq tx n p : Nat) : Int) nu me op de fo bs bu)) (mI 0) (qH H Z2 td2 ns2 (mdL kd un nk2 (n : Int) (q : Int) nu2 me2 op de fo bs bu))) : Ev 4 108 16 [mR 74, mI it] [] (qH H Z td ns (mdL kd un nk (n : Int) (p : Int) nu me op de fo bs bu)) (mI (-10 - (q : Int))) (qH H Z2 td2 ns2 (mdL kd un nk2 (n : Int) (q : Int) nu2 me2 op de fo bs bu)) := by
  have hh := M_hr (kd := kd) (un := un) (nk := nk) (nu := nu) (me := me) (op := op) (de := de) (fo := fo) (bs := bs) (bu := bu) (Z := Z) (td := td) (ns := ns) hB hn hp
  refine E_aload_n (pc' := 17) g108_16 rfl rfl ?_
  refine E_cV0i (pc' := 20) g108_17 k108_91 na103 rfl ow103 rfl (Nat.le_of_ble_eq_true rfl) (qH_74 hB) hh (by decide) ?_
  refine E_iconst (pc' := 21) g108_20 (by decide) rfl ?_
  refine E_iceq (pc' := 24) (pt := 64) g108_21 rfl rfl (fun c0 => ?_) (fun c0 => ?_)
  · first
    | (exfalso; omega)
    | (exfalso; omega)
  · first
    | (exfalso; omega)
    | (refine E_aload_n (pc' := 25) g108_24 rfl rfl ?_
       refine E_cV0i (pc' := 28) g108_25 k108_113 na107 rfl ow107 rfl (Nat.le_of_ble_eq_true rfl) (qH_74 hB) hit (by decide) ?_
       refine E_ifeq (pc' := 31) (pt := 40) g108_28 rfl rfl (fun c1 => ?_) (fun c1 => ?_)
       · first
         | (exfalso; omega)
         | (refine E_bipush (pc' := 42) g108_40 (by decide) rfl ?_
            refine E_aload_n (pc' := 43) g108_42 rfl rfl ?_
            refine E_getI (pc' := 46) g108_43 f108_88 tg7_14 (by decide) rfl (qH_74 hB) rfl ?_
            refine E_isub (pc' := 47) g108_46 (m_in_iff.mpr (by omega)) rfl ?_
            exact E_iret g108_47 ro108 rfl rfl)
       · first
         | (exfalso; omega)
         | (exfalso; omega))
theorem M_tlNo2 (hB : qBase H tx) (hn : n ≤ 120) (hp : p ≤ n) {it : Int} (he : ¬ hrc tx n p = -1) {q : Nat} (hq : q ≤ n) {nu2 me2 nk2 : Int} (hit : Call 3 107 [mR 74] (qH H Z td ns (mdL kd un nk (n : Int) ((skq tx n p : Nat) : Int) nu me op de fo bs bu)) (mI 1) (qH H Z2 td2 ns2 (mdL kd un nk2 (n : Int) (q : Int) nu2 me2 op de fo bs bu))) (h59 : ¬ hrc tx n q = 59) : Ev 4 108 16 [mR 74, mI it] [] (qH H Z td ns (mdL kd un nk (n : Int) (p : Int) nu me op de fo bs bu)) (mI (-10 - ((skq tx n q : Nat) : Int))) (qH H Z2 td2 ns2 (mdL kd un nk2 (n : Int) ((skq tx n q : Nat) : Int) nu2 me2 op de fo bs bu)) := by
  have hh := M_hr (kd := kd) (un := un) (nk := nk) (nu := nu) (me := me) (op := op) (de := de) (fo := fo) (bs := bs) (bu := bu) (Z := Z) (td := td) (ns := ns) hB hn hp
  have hh2 := M_hr (kd := kd) (un := un) (nk := nk2) (nu := nu2) (me := me2) (op := op) (de := de) (fo := fo) (bs := bs) (bu := bu) (Z := Z2) (td := td2) (ns := ns2) hB hn hq
  have hsb := skq_bd (tx := tx) hq
  refine E_aload_n (pc' := 17) g108_16 rfl rfl ?_
  refine E_cV0i (pc' := 20) g108_17 k108_91 na103 rfl ow103 rfl (Nat.le_of_ble_eq_true rfl) (qH_74 hB) hh (by decide) ?_
  refine E_iconst (pc' := 21) g108_20 (by decide) rfl ?_
  refine E_iceq (pc' := 24) (pt := 64) g108_21 rfl rfl (fun c0 => ?_) (fun c0 => ?_)
  · first
    | (exfalso; omega)
    | (exfalso; omega)
  · first
    | (exfalso; omega)
    | (refine E_aload_n (pc' := 25) g108_24 rfl rfl ?_
       refine E_cV0i (pc' := 28) g108_25 k108_113 na107 rfl ow107 rfl (Nat.le_of_ble_eq_true rfl) (qH_74 hB) hit (by decide) ?_
       refine E_ifeq (pc' := 31) (pt := 40) g108_28 rfl rfl (fun c1 => ?_) (fun c1 => ?_)
       · first
         | (exfalso; omega)
         | (refine E_bipush (pc' := 42) g108_40 (by decide) rfl ?_
            refine E_aload_n (pc' := 43) g108_42 rfl rfl ?_
            refine E_getI (pc' := 46) g108_43 f108_88 tg7_14 (by decide) rfl (qH_74 hB) rfl ?_
            refine E_isub (pc' := 47) g108_46 (m_in_iff.mpr (by omega)) rfl ?_
            exact E_iret g108_47 ro108 rfl rfl)
       · first
         | (exfalso; omega)
         | (refine E_aload_n (pc' := 32) g108_31 rfl rfl ?_
            refine E_cV0i (pc' := 35) g108_32 k108_91 na103 rfl ow103 rfl (Nat.le_of_ble_eq_true rfl) (qH_74 hB) hh2 (by decide) ?_
            refine E_bipush (pc' := 37) g108_35 (by decide) rfl ?_
            refine E_iceq (pc' := 40) (pt := 48) g108_37 rfl rfl (fun c2 => ?_) (fun c2 => ?_)
            · first
              | (exfalso; omega)
              | (exfalso; omega)
            · first
              | (exfalso; omega)
              | (refine E_bipush (pc' := 42) g108_40 (by decide) rfl ?_
                 refine E_aload_n (pc' := 43) g108_42 rfl rfl ?_
                 refine E_getI (pc' := 46) g108_43 f108_88 tg7_14 (by decide) rfl (qH_74 hB) rfl ?_
                 refine E_isub (pc' := 47) g108_46 (m_in_iff.mpr (by omega)) rfl ?_
                 exact E_iret g108_47 ro108 rfl rfl)))
theorem M_tlOk (hB : qBase H tx) (hn : n ≤ 120) (hp : p ≤ n) {it : Int} (hit0 : 0 ≤ it ∧ it ≤ 1000) (he : ¬ hrc tx n p = -1) {q : Nat} (hq : q ≤ n) {nu2 me2 nk2 : Int} (hit : Call 3 107 [mR 74] (qH H Z td ns (mdL kd un nk (n : Int) ((skq tx n p : Nat) : Int) nu me op de fo bs bu)) (mI 1) (qH H Z2 td2 ns2 (mdL kd un nk2 (n : Int) (q : Int) nu2 me2 op de fo bs bu))) (h59 : hrc tx n q = 59) {r : mV} {H1 : mH} (h : Ev 4 108 16 [mR 74, mI (it + 1)] [] (qH H Z2 td2 ns2 (mdL kd un nk2 (n : Int) ((skq tx n q + 1 : Nat) : Int) nu2 me2 op de fo bs bu)) r H1) : Ev 4 108 16 [mR 74, mI it] [] (qH H Z td ns (mdL kd un nk (n : Int) (p : Int) nu me op de fo bs bu)) r H1 := by
  have hh := M_hr (kd := kd) (un := un) (nk := nk) (nu := nu) (me := me) (op := op) (de := de) (fo := fo) (bs := bs) (bu := bu) (Z := Z) (td := td) (ns := ns) hB hn hp
  have hh2 := M_hr (kd := kd) (un := un) (nk := nk2) (nu := nu2) (me := me2) (op := op) (de := de) (fo := fo) (bs := bs) (bu := bu) (Z := Z2) (td := td2) (ns := ns2) hB hn hq
  have hsb := skq_bd (tx := tx) hq
  refine E_aload_n (pc' := 17) g108_16 rfl rfl ?_
  refine E_cV0i (pc' := 20) g108_17 k108_91 na103 rfl ow103 rfl (Nat.le_of_ble_eq_true rfl) (qH_74 hB) hh (by decide) ?_
  refine E_iconst (pc' := 21) g108_20 (by decide) rfl ?_
  refine E_iceq (pc' := 24) (pt := 64) g108_21 rfl rfl (fun c0 => ?_) (fun c0 => ?_)
  · first
    | (exfalso; omega)
    | (exfalso; omega)
  · first
    | (exfalso; omega)
    | (refine E_aload_n (pc' := 25) g108_24 rfl rfl ?_
       refine E_cV0i (pc' := 28) g108_25 k108_113 na107 rfl ow107 rfl (Nat.le_of_ble_eq_true rfl) (qH_74 hB) hit (by decide) ?_
       refine E_ifeq (pc' := 31) (pt := 40) g108_28 rfl rfl (fun c1 => ?_) (fun c1 => ?_)
       · first
         | (exfalso; omega)
         | (exfalso; omega)
       · first
         | (exfalso; omega)
         | (refine E_aload_n (pc' := 32) g108_31 rfl rfl ?_
            refine E_cV0i (pc' := 35) g108_32 k108_91 na103 rfl ow103 rfl (Nat.le_of_ble_eq_true rfl) (qH_74 hB) hh2 (by decide) ?_
            refine E_bipush (pc' := 37) g108_35 (by decide) rfl ?_
            refine E_iceq (pc' := 40) (pt := 48) g108_37 rfl rfl (fun c2 => ?_) (fun c2 => ?_)
            · first
              | (exfalso; omega)
              | (refine E_aload_n (pc' := 49) g108_48 rfl rfl ?_
                 refine E_dup (pc' := 50) g108_49 rfl ?_
                 refine E_getI (pc' := 53) g108_50 f108_88 tg7_14 (by decide) rfl (qH_74 hB) rfl ?_
                 refine E_iconst (pc' := 54) g108_53 (by decide) rfl ?_
                 refine E_iadd (pc' := 55) g108_54 (m_in_iff.mpr (by omega)) rfl ?_
                 refine E_putf (pc' := 58) g108_55 f108_88 tg7_14 fn7_14 rfl rfl (qH_74 hB) (Nat.le_of_ble_eq_true rfl) ?_
                 rw [qH_m]
                 refine Ev_cast (H := (qH H Z2 td2 ns2 (mdL kd un nk2 (n : Int) ((skq tx n q + 1 : Nat) : Int) nu2 me2 op de fo bs bu))) ?_ rfl rfl
                 refine E_in1 (pc' := 61) g108_58 rfl (m_in_iff.mpr (by omega)) ?_
                 refine E_goto (pc' := 16) g108_61 rfl ?_
                 exact h)
            · first
              | (exfalso; omega)
              | (exfalso; omega)))
end MRD
