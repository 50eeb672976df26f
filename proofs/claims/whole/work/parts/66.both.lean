/-! both read a text alike -/
abbrev tS : Type := (Int × Int × Int × Int × Int × Int × Int) × (List Int × List Int × List Int) × (Int × Int × Int × Int)
/-- the class's reader within its cells, the model's -/
def cS (H : mH) (tb : Nat) (S : tS) (p tp tk nu : Int) : mH := rH H tb (tdL tb S.1.1 S.1.2.1 S.1.2.2.1 S.1.2.2.2.1 S.1.2.2.2.2.1 S.1.2.2.2.2.2.1 S.1.2.2.2.2.2.2) S.2.1.1 S.2.1.2.1 S.2.1.2.2 (rdL p tp tk nu S.2.2.1 S.2.2.2.1 S.2.2.2.2.1 S.2.2.2.2.2)
def metQ (f1 f2 f3 f4 : Int) : Int := f1 + 2 * f2 + 4 * f3 + 8 * f4
def mQ (c : Int × Int × Int × Int × Int × Int × Int) (n : Nat) (H : mH) (S : tS) (td ns : List Int) (ap nu : Int) : mH := qH H [S.1.2.1, S.1.2.2.1, S.1.2.2.2.1, S.1.2.2.2.2.1, S.1.2.2.2.2.2.1, S.1.2.2.2.2.2.2] td ns (mdL c.1 c.2.1 S.1.1 (n : Int) ap nu (metQ S.2.2.1 S.2.2.2.1 S.2.2.2.2.1 S.2.2.2.2.2) c.2.2.1 c.2.2.2.1 c.2.2.2.2.1 c.2.2.2.2.2.1 c.2.2.2.2.2.2)
def tOk (S : tS) : Prop := (0 ≤ S.1.1 ∧ S.1.1 ≤ 6) ∧ (1 ≤ S.1.2.1 ∧ S.1.2.1 ≤ 3) ∧ (1 ≤ S.1.2.2.1 ∧ S.1.2.2.1 ≤ 2) ∧ (S.1.2.2.2.1 = -9 ∨ (0 ≤ S.1.2.2.2.1 ∧ S.1.2.2.2.1 ≤ 9)) ∧ (1 ≤ S.1.2.2.2.2.1 ∧ S.1.2.2.2.2.1 ≤ 9) ∧ (1 ≤ S.1.2.2.2.2.2.1 ∧ S.1.2.2.2.2.2.1 ≤ 9) ∧ (1 ≤ S.1.2.2.2.2.2.2 ∧ S.1.2.2.2.2.2.2 ≤ 4) ∧ (bet S.2.1.1 0 9 ∧ bet S.2.1.2.1 0 5 ∧ bet S.2.1.2.2 0 9 ∧ S.2.1.1.length = 24 ∧ S.2.1.2.1.length = 6 ∧ S.2.1.2.2.length = 6) ∧ (S.2.2.1 = 0 ∨ S.2.2.1 = 1) ∧ (S.2.2.2.1 = 0 ∨ S.2.2.2.1 = 1) ∧ (S.2.2.2.2.1 = 0 ∨ S.2.2.2.2.1 = 1) ∧ (S.2.2.2.2.2 = 0 ∨ S.2.2.2.2.2 = 1)
def tRel (S : tS) (td ns : List Int) : Prop := relT td S.2.1.1 S.2.1.2.1 S.1.1 ∧ ns.length = 6 ∧ ∀ k : Int, 0 ≤ k → k < S.1.1 → ix ns k = ix S.2.1.2.2 k
/-- an item that can't stand there: both tell the place; one that can -/
def cBad (tb : Nat) (tx : List Int) (n p : Nat) (S : tS) (q : Nat) : Prop := ∀ (H : mH) (nu : Int), rBase H tb tx → ∃ (S' : tS) (a c d : Int), tOk S' ∧ Call 3 23 [mR 2, mR tb, mR 1, mI (n : Int)] (cS H tb S ((tkP tx n p : Nat) : Int) ((skq tx n p : Nat) : Int) (tkT tx n p) nu) (mI 0) (cS H tb S' a (q : Int) c d)
def mEnd (c : Int × Int × Int × Int × Int × Int × Int) (n : Nat) (H H2 : mH) : Prop := ∃ (Z td ns : List Int) (nk ap nu me : Int), Z.length = 6 ∧ td.length = 30 ∧ ns.length = 6 ∧ H2 = qH H Z td ns (mdL c.1 c.2.1 nk (n : Int) ap nu me c.2.2.1 c.2.2.2.1 c.2.2.2.2.1 c.2.2.2.2.2.1 c.2.2.2.2.2.2)
def mBad (c : Int × Int × Int × Int × Int × Int × Int) (tx : List Int) (n p : Nat) (S : tS) (td ns : List Int) (q : Nat) : Prop := ∀ (H : mH) (nu it : Int), qBase H tx → ∃ H2, mEnd c n H H2 ∧ Ev 4 108 16 [mR 74, mI it] [] (mQ c n H S td ns (p : Int) nu) (mI (-10 - (q : Int))) H2
def cGood (tb : Nat) (tx : List Int) (n p : Nat) (S S' : tS) (q : Nat) : Prop := ∀ (H : mH) (nu : Int), rBase H tb tx → ∃ (tp' nu' : Int), Call 3 23 [mR 2, mR tb, mR 1, mI (n : Int)] (cS H tb S ((tkP tx n p : Nat) : Int) ((skq tx n p : Nat) : Int) (tkT tx n p) nu) (mI 1) (cS H tb S' ((tkP tx n q : Nat) : Int) tp' 59 nu')
def mGood (c : Int × Int × Int × Int × Int × Int × Int) (tx : List Int) (n p : Nat) (S : tS) (td ns : List Int) (S' : tS) (td' ns' : List Int) (q : Nat) : Prop := ∀ (H : mH) (nu : Int), qBase H tx → ∃ nu', Call 3 107 [mR 74] (mQ c n H S td ns ((skq tx n p : Nat) : Int) nu) (mI 1) (mQ c n H S' td' ns' (q : Int) nu')
def itR (c : Int × Int × Int × Int × Int × Int × Int) (tb : Nat) (tx : List Int) (n p : Nat) (S : tS) (td ns : List Int) : Prop := (∃ q, q ≤ n ∧ cBad tb tx n p S q ∧ mBad c tx n p S td ns q) ∨ ∃ q S' td' ns', skq tx n p + 1 ≤ q ∧ q ≤ n ∧ hrc tx n q = 59 ∧ tOk S' ∧ tRel S' td' ns' ∧ cGood tb tx n p S S' q ∧ mGood c tx n p S td ns S' td' ns' q
section TOKS
variable {tx : List Int} {n p : Nat} {c : Int}
theorem tk_hr (hc : isSg c) (h : hrc tx n p = c) : skq tx n p < n ∧ tkT tx n p = c ∧ tkP tx n p = skq tx n p + 1 := by
  have hc' := hc
  unfold isSg at hc'
  unfold hrc at h
  by_cases h1 : skq tx n p < n
  · rw [if_pos h1] at h
    refine ⟨h1, ?_, ?_⟩
    · unfold tkT
      rw [if_neg (by omega), if_neg (by omega), if_pos (by rw [h]; exact hc), h]
    · unfold tkP
      rw [if_neg (by omega), if_neg (by omega)]
  · rw [if_neg h1] at h
    omega
theorem numT_or {q : Nat} : numT tx n q = -3 ∨ numT tx n q = -2 := by
  unfold numT
  split
  · exact Or.inl rfl
  · exact Or.inr rfl
theorem hr_tk (hc : isSg c) (h : tkT tx n p = c) : hrc tx n p = c := by
  unfold isSg at hc
  unfold tkT at h
  have hn := numT_or (tx := tx) (n := n) (q := skq tx n p)
  unfold hrc
  by_cases h1 : n ≤ skq tx n p
  · rw [if_pos h1] at h; omega
  · rw [if_neg h1] at h
    rw [if_pos (by omega)]
    by_cases h2 : 48 ≤ ix tx (skq tx n p) ∧ ix tx (skq tx n p) ≤ 57
    · rw [if_pos h2] at h; omega
    · rw [if_neg h2] at h
      by_cases h3 : isSg (ix tx (skq tx n p))
      · rw [if_pos h3] at h; exact h
      · rw [if_neg h3] at h; omega
theorem hr_end (hx : ∀ i : Int, 0 ≤ ix tx i) : hrc tx n p = -1 ↔ tkT tx n p = -1 := by
  have hn := numT_or (tx := tx) (n := n) (q := skq tx n p)
  have h0 := hx (skq tx n p)
  unfold hrc tkT
  by_cases h1 : n ≤ skq tx n p
  · rw [if_pos h1, if_neg (by omega)]
  · rw [if_neg h1, if_pos (by omega)]
    by_cases h2 : 48 ≤ ix tx (skq tx n p) ∧ ix tx (skq tx n p) ≤ 57
    · rw [if_pos h2]; omega
    · rw [if_neg h2]
      by_cases h3 : isSg (ix tx (skq tx n p))
      · rw [if_pos h3]
      · rw [if_neg h3]; omega
theorem sg59 : isSg 59 := by unfold isSg; omega
theorem not59 (h : ¬ tkT tx n p = 59) : ¬ hrc tx n p = 59 := fun z => h (tk_hr sg59 z).2.1
end TOKS
theorem met_w {f1 f2 f3 f4 : Int} (h1 : f1 = 0 ∨ f1 = 1) (h2 : f2 = 0 ∨ f2 = 1) (h3 : f3 = 0 ∨ f3 = 1) (h4 : f4 = 0 ∨ f4 = 1) : (m_and (metQ 0 f2 f3 f4) 1 = 0 ∧ m_or (metQ 0 f2 f3 f4) 1 = metQ 1 f2 f3 f4 ∧ ¬ m_and (metQ 1 f2 f3 f4) 1 = 0) ∧ (m_and (metQ f1 0 f3 f4) 2 = 0 ∧ m_or (metQ f1 0 f3 f4) 2 = metQ f1 1 f3 f4 ∧ ¬ m_and (metQ f1 1 f3 f4) 2 = 0) ∧ (m_and (metQ f1 f2 0 f4) 4 = 0 ∧ m_or (metQ f1 f2 0 f4) 4 = metQ f1 f2 1 f4 ∧ ¬ m_and (metQ f1 f2 1 f4) 4 = 0) ∧ (m_and (metQ f1 f2 f3 0) 8 = 0 ∧ m_or (metQ f1 f2 f3 0) 8 = metQ f1 f2 f3 1 ∧ ¬ m_and (metQ f1 f2 f3 1) 8 = 0) := by
  rcases h1 with rfl | rfl <;> rcases h2 with rfl | rfl <;> rcases h3 with rfl | rfl <;> rcases h4 with rfl | rfl <;> decide
section ITM
variable {tb : Nat} {tx td ns : List Int} {n p : Nat} {S : tS} {kd0 un op de fo bs bu : Int}
theorem mEnd_mk {H : mH} {Z : List Int} {nk ap nu me : Int} (h1 : Z.length = 6) (h2 : td.length = 30) (h3 : ns.length = 6) : mEnd (kd0, un, op, de, fo, bs, bu) n H (qH H Z td ns (mdL kd0 un nk (n : Int) ap nu me op de fo bs bu)) := ⟨Z, td, ns, nk, ap, nu, me, h1, h2, h3, rfl⟩
theorem it_e (hn : n ≤ 120) (hO : tOk S) (hR : tRel S td ns) (hp : p ≤ n) (hc : hrc tx n p = 101) : itR (kd0, un, op, de, fo, bs, bu) tb tx n p S td ns := by
  obtain ⟨⟨kd, wd, ht, rm, mo, sd, bo⟩, ⟨ed, hu, sk⟩, f1, f2, f3, f4⟩ := S
  obtain ⟨r1, r2, r3, r4, r5, r6, r7, ⟨b1, b2, b3, l1, l2, l3⟩, g1, g2, g3, g4⟩ := hO
  obtain ⟨rT, rN, rS⟩ := hR
  dsimp only at r1 r2 r3 r4 r5 r6 r7 b1 b2 b3 l1 l2 l3 g1 g2 g3 g4 rT rN rS
  have hmet := met_w g1 g2 g3 g4
  obtain ⟨ha, hT, hP⟩ := tk_hr (by unfold isSg; omega) hc
  have hs := skq_id (tx := tx) (n := n) (p := p)
  have hc2 : hrc tx n (skq tx n p) = 101 := by unfold hrc at hc ⊢; rw [hs]; exact hc
  have hm := hmet.2.1
  have hb := tkP_bd (tx := tx) (n := n) (p := (skq tx n p + 1)) (by omega)
  rcases g2 with rfl | rfl
  · by_cases h0 : nOk tx n 0 9 (skq tx n p + 1)
    · have hv9 := (nOk_facts h0).2.2
      have hO1 : tOk ((kd, wd, ht, nV tx n (skq tx n p + 1), mo, sd, bo), (ed, hu, sk), (f1, 1, f3, f4)) := ⟨r1, r2, r3, Or.inr hv9, r5, r6, r7, ⟨b1, b2, b3, l1, l2, l3⟩, g1, Or.inr rfl, g3, g4⟩
      by_cases h59 : tkT tx n (tkP tx n (skq tx n p + 1)) = 59
      · refine Or.inr ⟨tkP tx n (skq tx n p + 1), ((kd, wd, ht, nV tx n (skq tx n p + 1), mo, sd, bo), (ed, hu, sk), (f1, 1, f3, f4)), td, ns, by omega, hb.2, hr_tk sg59 h59, hO1, ⟨rT, rN, rS⟩, ?_, ?_⟩
        · intro H nu hB
          rw [hP, hT]
          exact (C_it_e (H := H) (tb := tb) (kd := kd) (wd := wd) (ht := ht) (rm := rm) (mo := mo) (sd := sd) (bo := bo) (ed := ed) (hu := hu) (sk := sk) (tp := ((skq tx n p : Nat) : Int)) (nu := nu) (f1 := f1) (f3 := f3) (f4 := f4) hB hn (by omega)).1 h0 h59
        · intro H nu hB
          have h := M_once1 (bt := 2) (to := 2) (lo := 0) (hi := 9) (h2 := 0) (H := H) (kd := kd0) (un := un) (nk := kd) (nu := nu) (me := metQ f1 0 f3 f4) (op := op) (de := de) (fo := fo) (bs := bs) (bu := bu) (Z := [wd, ht, rm, mo, sd, bo]) (td := td) (ns := ns) hB hn ha ⟨by omega, by omega⟩ ⟨by omega, by omega⟩ rfl hm.1 h0 rfl
          rw [hm.2.1] at h
          exact ⟨_, M_item_e hB hn (by omega) hs hc2 (Or.inr rfl) h⟩
      · refine Or.inl ⟨skq tx n (tkP tx n (skq tx n p + 1)), (skq_bd hb.2).2, ?_, ?_⟩
        · intro H nu hB
          rw [hP, hT]
          obtain ⟨a1, a2, a3, h⟩ := (C_it_e (H := H) (tb := tb) (kd := kd) (wd := wd) (ht := ht) (rm := rm) (mo := mo) (sd := sd) (bo := bo) (ed := ed) (hu := hu) (sk := sk) (tp := ((skq tx n p : Nat) : Int)) (nu := nu) (f1 := f1) (f3 := f3) (f4 := f4) hB hn (by omega)).2.1 h0 h59
          exact ⟨((kd, wd, ht, nV tx n (skq tx n p + 1), mo, sd, bo), (ed, hu, sk), (f1, 1, f3, f4)), _, _, _, hO1, h⟩
        · intro H nu it hB
          have h := M_once1 (bt := 2) (to := 2) (lo := 0) (hi := 9) (h2 := 0) (H := H) (kd := kd0) (un := un) (nk := kd) (nu := nu) (me := metQ f1 0 f3 f4) (op := op) (de := de) (fo := fo) (bs := bs) (bu := bu) (Z := [wd, ht, rm, mo, sd, bo]) (td := td) (ns := ns) hB hn ha ⟨by omega, by omega⟩ ⟨by omega, by omega⟩ rfl hm.1 h0 rfl
          have hv := M_tlNo2 (nu := nu) (it := it) hB hn hp (by omega) hb.2 (M_item_e hB hn (by omega) hs hc2 (Or.inr rfl) h) (not59 h59)
          exact ⟨_, mEnd_mk (by simp [up_len]) rT.1 rN, hv⟩
    · have hz := (skq_bd (tx := tx) (n := n) (p := (skq tx n p + 1)) (by omega)).2
      refine Or.inl ⟨skq tx n (skq tx n p + 1), hz, ?_, ?_⟩
      · intro H nu hB
        rw [hP, hT]
        obtain ⟨a1, a2, a3, h⟩ := (C_it_e (H := H) (tb := tb) (kd := kd) (wd := wd) (ht := ht) (rm := rm) (mo := mo) (sd := sd) (bo := bo) (ed := ed) (hu := hu) (sk := sk) (tp := ((skq tx n p : Nat) : Int)) (nu := nu) (f1 := f1) (f3 := f3) (f4 := f4) hB hn (by omega)).2.2 h0
        exact ⟨((kd, wd, ht, rm, mo, sd, bo), (ed, hu, sk), (f1, 1, f3, f4)), _, _, _, ⟨r1, r2, r3, r4, r5, r6, r7, ⟨b1, b2, b3, l1, l2, l3⟩, g1, Or.inr rfl, g3, g4⟩, h⟩
      · intro H nu it hB
        obtain ⟨nu2, h⟩ := M_onceN (bt := 2) (to := 2) (lo := 0) (hi := 9) (h2 := 0) (H := H) (kd := kd0) (un := un) (nk := kd) (nu := nu) (me := metQ f1 0 f3 f4) (op := op) (de := de) (fo := fo) (bs := bs) (bu := bu) (Z := [wd, ht, rm, mo, sd, bo]) (td := td) (ns := ns) hB hn ha ⟨by omega, by omega⟩ ⟨by omega, by omega⟩ rfl hm.1 h0
        have hv := M_tlNo1 (nu := nu) (it := it) hB hn hp (by omega) (by omega) (M_item_e hB hn (by omega) hs hc2 (Or.inl rfl) h)
        exact ⟨_, mEnd_mk rfl rT.1 rN, hv⟩
  · refine Or.inl ⟨skq tx n p, by omega, ?_, ?_⟩
    · intro H nu hB
      rw [hP, hT]
      exact ⟨((kd, wd, ht, rm, mo, sd, bo), (ed, hu, sk), (f1, 1, f3, f4)), _, _, _, ⟨r1, r2, r3, r4, r5, r6, r7, ⟨b1, b2, b3, l1, l2, l3⟩, g1, Or.inr rfl, g3, g4⟩, C_it_eT hB⟩
    · intro H nu it hB
      have h := M_onceT (H := H) (kd := kd0) (un := un) (nk := kd) (nu := nu) (me := metQ f1 1 f3 f4) (op := op) (de := de) (fo := fo) (bs := bs) (bu := bu) (Z := [wd, ht, rm, mo, sd, bo]) (td := td) (ns := ns) (n := n) (p := skq tx n p) (bt := 2) (to := 2) (lo := 0) (hi := 9) (h2 := 0) hB hm.2.2
      have hv := M_tlNo1 (nu := nu) (it := it) hB hn hp (by omega) (by omega) (M_item_e hB hn (by omega) hs hc2 (Or.inl rfl) h)
      exact ⟨_, mEnd_mk rfl rT.1 rN, hv⟩
theorem it_m (hn : n ≤ 120) (hO : tOk S) (hR : tRel S td ns) (hp : p ≤ n) (hc : hrc tx n p = 109) : itR (kd0, un, op, de, fo, bs, bu) tb tx n p S td ns := by
  obtain ⟨⟨kd, wd, ht, rm, mo, sd, bo⟩, ⟨ed, hu, sk⟩, f1, f2, f3, f4⟩ := S
  obtain ⟨r1, r2, r3, r4, r5, r6, r7, ⟨b1, b2, b3, l1, l2, l3⟩, g1, g2, g3, g4⟩ := hO
  obtain ⟨rT, rN, rS⟩ := hR
  dsimp only at r1 r2 r3 r4 r5 r6 r7 b1 b2 b3 l1 l2 l3 g1 g2 g3 g4 rT rN rS
  have hmet := met_w g1 g2 g3 g4
  obtain ⟨ha, hT, hP⟩ := tk_hr (by unfold isSg; omega) hc
  have hs := skq_id (tx := tx) (n := n) (p := p)
  have hc2 : hrc tx n (skq tx n p) = 109 := by unfold hrc at hc ⊢; rw [hs]; exact hc
  have hm := hmet.2.2.1
  have hb := tkP_bd (tx := tx) (n := n) (p := (skq tx n p + 1)) (by omega)
  rcases g3 with rfl | rfl
  · by_cases h0 : nOk tx n 1 9 (skq tx n p + 1)
    · have hv9 := (nOk_facts h0).2.2
      have hO1 : tOk ((kd, wd, ht, rm, nV tx n (skq tx n p + 1), sd, bo), (ed, hu, sk), (f1, f2, 1, f4)) := ⟨r1, r2, r3, r4, hv9, r6, r7, ⟨b1, b2, b3, l1, l2, l3⟩, g1, g2, Or.inr rfl, g4⟩
      by_cases h59 : tkT tx n (tkP tx n (skq tx n p + 1)) = 59
      · refine Or.inr ⟨tkP tx n (skq tx n p + 1), ((kd, wd, ht, rm, nV tx n (skq tx n p + 1), sd, bo), (ed, hu, sk), (f1, f2, 1, f4)), td, ns, by omega, hb.2, hr_tk sg59 h59, hO1, ⟨rT, rN, rS⟩, ?_, ?_⟩
        · intro H nu hB
          rw [hP, hT]
          exact (C_it_m (H := H) (tb := tb) (kd := kd) (wd := wd) (ht := ht) (rm := rm) (mo := mo) (sd := sd) (bo := bo) (ed := ed) (hu := hu) (sk := sk) (tp := ((skq tx n p : Nat) : Int)) (nu := nu) (f1 := f1) (f2 := f2) (f4 := f4) hB hn (by omega)).1 h0 h59
        · intro H nu hB
          have h := M_once1 (bt := 4) (to := 3) (lo := 1) (hi := 9) (h2 := 0) (H := H) (kd := kd0) (un := un) (nk := kd) (nu := nu) (me := metQ f1 f2 0 f4) (op := op) (de := de) (fo := fo) (bs := bs) (bu := bu) (Z := [wd, ht, rm, mo, sd, bo]) (td := td) (ns := ns) hB hn ha ⟨by omega, by omega⟩ ⟨by omega, by omega⟩ rfl hm.1 h0 rfl
          rw [hm.2.1] at h
          exact ⟨_, M_item_m hB hn (by omega) hs hc2 (Or.inr rfl) h⟩
      · refine Or.inl ⟨skq tx n (tkP tx n (skq tx n p + 1)), (skq_bd hb.2).2, ?_, ?_⟩
        · intro H nu hB
          rw [hP, hT]
          obtain ⟨a1, a2, a3, h⟩ := (C_it_m (H := H) (tb := tb) (kd := kd) (wd := wd) (ht := ht) (rm := rm) (mo := mo) (sd := sd) (bo := bo) (ed := ed) (hu := hu) (sk := sk) (tp := ((skq tx n p : Nat) : Int)) (nu := nu) (f1 := f1) (f2 := f2) (f4 := f4) hB hn (by omega)).2.1 h0 h59
          exact ⟨((kd, wd, ht, rm, nV tx n (skq tx n p + 1), sd, bo), (ed, hu, sk), (f1, f2, 1, f4)), _, _, _, hO1, h⟩
        · intro H nu it hB
          have h := M_once1 (bt := 4) (to := 3) (lo := 1) (hi := 9) (h2 := 0) (H := H) (kd := kd0) (un := un) (nk := kd) (nu := nu) (me := metQ f1 f2 0 f4) (op := op) (de := de) (fo := fo) (bs := bs) (bu := bu) (Z := [wd, ht, rm, mo, sd, bo]) (td := td) (ns := ns) hB hn ha ⟨by omega, by omega⟩ ⟨by omega, by omega⟩ rfl hm.1 h0 rfl
          have hv := M_tlNo2 (nu := nu) (it := it) hB hn hp (by omega) hb.2 (M_item_m hB hn (by omega) hs hc2 (Or.inr rfl) h) (not59 h59)
          exact ⟨_, mEnd_mk (by simp [up_len]) rT.1 rN, hv⟩
    · have hz := (skq_bd (tx := tx) (n := n) (p := (skq tx n p + 1)) (by omega)).2
      refine Or.inl ⟨skq tx n (skq tx n p + 1), hz, ?_, ?_⟩
      · intro H nu hB
        rw [hP, hT]
        obtain ⟨a1, a2, a3, h⟩ := (C_it_m (H := H) (tb := tb) (kd := kd) (wd := wd) (ht := ht) (rm := rm) (mo := mo) (sd := sd) (bo := bo) (ed := ed) (hu := hu) (sk := sk) (tp := ((skq tx n p : Nat) : Int)) (nu := nu) (f1 := f1) (f2 := f2) (f4 := f4) hB hn (by omega)).2.2 h0
        exact ⟨((kd, wd, ht, rm, mo, sd, bo), (ed, hu, sk), (f1, f2, 1, f4)), _, _, _, ⟨r1, r2, r3, r4, r5, r6, r7, ⟨b1, b2, b3, l1, l2, l3⟩, g1, g2, Or.inr rfl, g4⟩, h⟩
      · intro H nu it hB
        obtain ⟨nu2, h⟩ := M_onceN (bt := 4) (to := 3) (lo := 1) (hi := 9) (h2 := 0) (H := H) (kd := kd0) (un := un) (nk := kd) (nu := nu) (me := metQ f1 f2 0 f4) (op := op) (de := de) (fo := fo) (bs := bs) (bu := bu) (Z := [wd, ht, rm, mo, sd, bo]) (td := td) (ns := ns) hB hn ha ⟨by omega, by omega⟩ ⟨by omega, by omega⟩ rfl hm.1 h0
        have hv := M_tlNo1 (nu := nu) (it := it) hB hn hp (by omega) (by omega) (M_item_m hB hn (by omega) hs hc2 (Or.inl rfl) h)
        exact ⟨_, mEnd_mk rfl rT.1 rN, hv⟩
  · refine Or.inl ⟨skq tx n p, by omega, ?_, ?_⟩
    · intro H nu hB
      rw [hP, hT]
      exact ⟨((kd, wd, ht, rm, mo, sd, bo), (ed, hu, sk), (f1, f2, 1, f4)), _, _, _, ⟨r1, r2, r3, r4, r5, r6, r7, ⟨b1, b2, b3, l1, l2, l3⟩, g1, g2, Or.inr rfl, g4⟩, C_it_mT hB⟩
    · intro H nu it hB
      have h := M_onceT (H := H) (kd := kd0) (un := un) (nk := kd) (nu := nu) (me := metQ f1 f2 1 f4) (op := op) (de := de) (fo := fo) (bs := bs) (bu := bu) (Z := [wd, ht, rm, mo, sd, bo]) (td := td) (ns := ns) (n := n) (p := skq tx n p) (bt := 4) (to := 3) (lo := 1) (hi := 9) (h2 := 0) hB hm.2.2
      have hv := M_tlNo1 (nu := nu) (it := it) hB hn hp (by omega) (by omega) (M_item_m hB hn (by omega) hs hc2 (Or.inl rfl) h)
      exact ⟨_, mEnd_mk rfl rT.1 rN, hv⟩
theorem it_w (hn : n ≤ 120) (hO : tOk S) (hR : tRel S td ns) (hp : p ≤ n) (hc : hrc tx n p = 119) : itR (kd0, un, op, de, fo, bs, bu) tb tx n p S td ns := by
  obtain ⟨⟨kd, wd, ht, rm, mo, sd, bo⟩, ⟨ed, hu, sk⟩, f1, f2, f3, f4⟩ := S
  obtain ⟨r1, r2, r3, r4, r5, r6, r7, ⟨b1, b2, b3, l1, l2, l3⟩, g1, g2, g3, g4⟩ := hO
  obtain ⟨rT, rN, rS⟩ := hR
  dsimp only at r1 r2 r3 r4 r5 r6 r7 b1 b2 b3 l1 l2 l3 g1 g2 g3 g4 rT rN rS
  have hmet := met_w g1 g2 g3 g4
  obtain ⟨ha, hT, hP⟩ := tk_hr (by unfold isSg; omega) hc
  have hs := skq_id (tx := tx) (n := n) (p := p)
  have hc2 : hrc tx n (skq tx n p) = 119 := by unfold hrc at hc ⊢; rw [hs]; exact hc
  have hm := hmet.1
  have hb := tkP_bd (tx := tx) (n := n) (p := (skq tx n p + 1)) (by omega)
  have hb2 := tkP_bd (tx := tx) hb.2
  rcases g1 with rfl | rfl
  · by_cases h0 : nOk tx n 1 3 (skq tx n p + 1)
    · have hv9 := (nOk_facts h0).2.2
      by_cases h1 : nOk tx n 1 2 (tkP tx n (skq tx n p + 1))
      · have hv8 := (nOk_facts h1).2.2
        have hO2 : tOk ((kd, nV tx n (skq tx n p + 1), nV tx n (tkP tx n (skq tx n p + 1)), rm, mo, sd, bo), (ed, hu, sk), (1, f2, f3, f4)) := ⟨r1, hv9, hv8, r4, r5, r6, r7, ⟨b1, b2, b3, l1, l2, l3⟩, Or.inr rfl, g2, g3, g4⟩
        by_cases h59 : tkT tx n (tkP tx n (tkP tx n (skq tx n p + 1))) = 59
        · refine Or.inr ⟨(tkP tx n (tkP tx n (skq tx n p + 1))), ((kd, nV tx n (skq tx n p + 1), nV tx n (tkP tx n (skq tx n p + 1)), rm, mo, sd, bo), (ed, hu, sk), (1, f2, f3, f4)), td, ns, by omega, hb2.2, hr_tk sg59 h59, hO2, ⟨rT, rN, rS⟩, ?_, ?_⟩
          · intro H nu hB
            rw [hP, hT]
            exact (C_it_w (H := H) (tb := tb) (kd := kd) (wd := wd) (ht := ht) (rm := rm) (mo := mo) (sd := sd) (bo := bo) (ed := ed) (hu := hu) (sk := sk) (tp := ((skq tx n p : Nat) : Int)) (nu := nu) (f2 := f2) (f3 := f3) (f4 := f4) hB hn (by omega)).1 h0 h1 h59
          · intro H nu hB
            have h := M_once2Y (bt := 1) (to := 0) (lo := 1) (hi := 3) (h2 := 2) (H := H) (kd := kd0) (un := un) (nk := kd) (nu := nu) (me := metQ 0 f2 f3 f4) (op := op) (de := de) (fo := fo) (bs := bs) (bu := bu) (Z := [wd, ht, rm, mo, sd, bo]) (td := td) (ns := ns) hB hn ha ⟨by omega, by omega⟩ ⟨by omega, by omega⟩ rfl hm.1 h0 (by omega) (by omega) h1
            rw [hm.2.1] at h
            exact ⟨_, M_item_w hB hn (by omega) hs hc2 (Or.inr rfl) h⟩
        · refine Or.inl ⟨skq tx n (tkP tx n (tkP tx n (skq tx n p + 1))), (skq_bd hb2.2).2, ?_, ?_⟩
          · intro H nu hB
            rw [hP, hT]
            obtain ⟨a1, a2, a3, h⟩ := (C_it_w (H := H) (tb := tb) (kd := kd) (wd := wd) (ht := ht) (rm := rm) (mo := mo) (sd := sd) (bo := bo) (ed := ed) (hu := hu) (sk := sk) (tp := ((skq tx n p : Nat) : Int)) (nu := nu) (f2 := f2) (f3 := f3) (f4 := f4) hB hn (by omega)).2.1 h0 h1 h59
            exact ⟨((kd, nV tx n (skq tx n p + 1), nV tx n (tkP tx n (skq tx n p + 1)), rm, mo, sd, bo), (ed, hu, sk), (1, f2, f3, f4)), _, _, _, hO2, h⟩
          · intro H nu it hB
            have h := M_once2Y (bt := 1) (to := 0) (lo := 1) (hi := 3) (h2 := 2) (H := H) (kd := kd0) (un := un) (nk := kd) (nu := nu) (me := metQ 0 f2 f3 f4) (op := op) (de := de) (fo := fo) (bs := bs) (bu := bu) (Z := [wd, ht, rm, mo, sd, bo]) (td := td) (ns := ns) hB hn ha ⟨by omega, by omega⟩ ⟨by omega, by omega⟩ rfl hm.1 h0 (by omega) (by omega) h1
            have hv := M_tlNo2 (nu := nu) (it := it) hB hn hp (by omega) hb2.2 (M_item_w hB hn (by omega) hs hc2 (Or.inr rfl) h) (not59 h59)
            exact ⟨_, mEnd_mk (by simp [up_len]) rT.1 rN, hv⟩
      · have hz := (skq_bd (tx := tx) hb.2).2
        refine Or.inl ⟨skq tx n (tkP tx n (skq tx n p + 1)), hz, ?_, ?_⟩
        · intro H nu hB
          rw [hP, hT]
          obtain ⟨a1, a2, a3, h⟩ := (C_it_w (H := H) (tb := tb) (kd := kd) (wd := wd) (ht := ht) (rm := rm) (mo := mo) (sd := sd) (bo := bo) (ed := ed) (hu := hu) (sk := sk) (tp := ((skq tx n p : Nat) : Int)) (nu := nu) (f2 := f2) (f3 := f3) (f4 := f4) hB hn (by omega)).2.2.1 h0 h1
          exact ⟨((kd, nV tx n (skq tx n p + 1), ht, rm, mo, sd, bo), (ed, hu, sk), (1, f2, f3, f4)), _, _, _, ⟨r1, hv9, r3, r4, r5, r6, r7, ⟨b1, b2, b3, l1, l2, l3⟩, Or.inr rfl, g2, g3, g4⟩, h⟩
        · intro H nu it hB
          obtain ⟨nu2, h⟩ := M_once2N (bt := 1) (to := 0) (lo := 1) (hi := 3) (h2 := 2) (H := H) (kd := kd0) (un := un) (nk := kd) (nu := nu) (me := metQ 0 f2 f3 f4) (op := op) (de := de) (fo := fo) (bs := bs) (bu := bu) (Z := [wd, ht, rm, mo, sd, bo]) (td := td) (ns := ns) hB hn ha ⟨by omega, by omega⟩ ⟨by omega, by omega⟩ rfl hm.1 h0 (by omega) (by omega) h1
          have hv := M_tlNo1 (nu := nu) (it := it) hB hn hp (by omega) (by omega) (M_item_w hB hn (by omega) hs hc2 (Or.inl rfl) h)
          exact ⟨_, mEnd_mk (by simp [up_len]) rT.1 rN, hv⟩
    · have hz := (skq_bd (tx := tx) (n := n) (p := (skq tx n p + 1)) (by omega)).2
      refine Or.inl ⟨skq tx n (skq tx n p + 1), hz, ?_, ?_⟩
      · intro H nu hB
        rw [hP, hT]
        obtain ⟨a1, a2, a3, h⟩ := (C_it_w (H := H) (tb := tb) (kd := kd) (wd := wd) (ht := ht) (rm := rm) (mo := mo) (sd := sd) (bo := bo) (ed := ed) (hu := hu) (sk := sk) (tp := ((skq tx n p : Nat) : Int)) (nu := nu) (f2 := f2) (f3 := f3) (f4 := f4) hB hn (by omega)).2.2.2 h0
        exact ⟨((kd, wd, ht, rm, mo, sd, bo), (ed, hu, sk), (1, f2, f3, f4)), _, _, _, ⟨r1, r2, r3, r4, r5, r6, r7, ⟨b1, b2, b3, l1, l2, l3⟩, Or.inr rfl, g2, g3, g4⟩, h⟩
      · intro H nu it hB
        obtain ⟨nu2, h⟩ := M_onceN (bt := 1) (to := 0) (lo := 1) (hi := 3) (h2 := 2) (H := H) (kd := kd0) (un := un) (nk := kd) (nu := nu) (me := metQ 0 f2 f3 f4) (op := op) (de := de) (fo := fo) (bs := bs) (bu := bu) (Z := [wd, ht, rm, mo, sd, bo]) (td := td) (ns := ns) hB hn ha ⟨by omega, by omega⟩ ⟨by omega, by omega⟩ rfl hm.1 h0
        have hv := M_tlNo1 (nu := nu) (it := it) hB hn hp (by omega) (by omega) (M_item_w hB hn (by omega) hs hc2 (Or.inl rfl) h)
        exact ⟨_, mEnd_mk rfl rT.1 rN, hv⟩
  · refine Or.inl ⟨skq tx n p, by omega, ?_, ?_⟩
    · intro H nu hB
      rw [hP, hT]
      exact ⟨((kd, wd, ht, rm, mo, sd, bo), (ed, hu, sk), (1, f2, f3, f4)), _, _, _, ⟨r1, r2, r3, r4, r5, r6, r7, ⟨b1, b2, b3, l1, l2, l3⟩, Or.inr rfl, g2, g3, g4⟩, C_it_wT hB⟩
    · intro H nu it hB
      have h := M_onceT (H := H) (kd := kd0) (un := un) (nk := kd) (nu := nu) (me := metQ 1 f2 f3 f4) (op := op) (de := de) (fo := fo) (bs := bs) (bu := bu) (Z := [wd, ht, rm, mo, sd, bo]) (td := td) (ns := ns) (n := n) (p := skq tx n p) (bt := 1) (to := 0) (lo := 1) (hi := 3) (h2 := 2) hB hm.2.2
      have hv := M_tlNo1 (nu := nu) (it := it) hB hn hp (by omega) (by omega) (M_item_w hB hn (by omega) hs hc2 (Or.inl rfl) h)
      exact ⟨_, mEnd_mk rfl rT.1 rN, hv⟩
theorem it_s (hn : n ≤ 120) (hO : tOk S) (hR : tRel S td ns) (hp : p ≤ n) (hc : hrc tx n p = 115) : itR (kd0, un, op, de, fo, bs, bu) tb tx n p S td ns := by
  obtain ⟨⟨kd, wd, ht, rm, mo, sd, bo⟩, ⟨ed, hu, sk⟩, f1, f2, f3, f4⟩ := S
  obtain ⟨r1, r2, r3, r4, r5, r6, r7, ⟨b1, b2, b3, l1, l2, l3⟩, g1, g2, g3, g4⟩ := hO
  obtain ⟨rT, rN, rS⟩ := hR
  dsimp only at r1 r2 r3 r4 r5 r6 r7 b1 b2 b3 l1 l2 l3 g1 g2 g3 g4 rT rN rS
  have hmet := met_w g1 g2 g3 g4
  obtain ⟨ha, hT, hP⟩ := tk_hr (by unfold isSg; omega) hc
  have hs := skq_id (tx := tx) (n := n) (p := p)
  have hc2 : hrc tx n (skq tx n p) = 115 := by unfold hrc at hc ⊢; rw [hs]; exact hc
  have hm := hmet.2.2.2
  have hb := tkP_bd (tx := tx) (n := n) (p := (skq tx n p + 1)) (by omega)
  have hb2 := tkP_bd (tx := tx) hb.2
  rcases g4 with rfl | rfl
  · by_cases h0 : nOk tx n 1 9 (skq tx n p + 1)
    · have hv9 := (nOk_facts h0).2.2
      by_cases h1 : nOk tx n 1 4 (tkP tx n (skq tx n p + 1))
      · have hv8 := (nOk_facts h1).2.2
        have hO2 : tOk ((kd, wd, ht, rm, mo, nV tx n (skq tx n p + 1), nV tx n (tkP tx n (skq tx n p + 1))), (ed, hu, sk), (f1, f2, f3, 1)) := ⟨r1, r2, r3, r4, r5, hv9, hv8, ⟨b1, b2, b3, l1, l2, l3⟩, g1, g2, g3, Or.inr rfl⟩
        by_cases h59 : tkT tx n (tkP tx n (tkP tx n (skq tx n p + 1))) = 59
        · refine Or.inr ⟨(tkP tx n (tkP tx n (skq tx n p + 1))), ((kd, wd, ht, rm, mo, nV tx n (skq tx n p + 1), nV tx n (tkP tx n (skq tx n p + 1))), (ed, hu, sk), (f1, f2, f3, 1)), td, ns, by omega, hb2.2, hr_tk sg59 h59, hO2, ⟨rT, rN, rS⟩, ?_, ?_⟩
          · intro H nu hB
            rw [hP, hT]
            exact (C_it_s (H := H) (tb := tb) (kd := kd) (wd := wd) (ht := ht) (rm := rm) (mo := mo) (sd := sd) (bo := bo) (ed := ed) (hu := hu) (sk := sk) (tp := ((skq tx n p : Nat) : Int)) (nu := nu) (f1 := f1) (f2 := f2) (f3 := f3) hB hn (by omega)).1 h0 h1 h59
          · intro H nu hB
            have h := M_once2Y (bt := 8) (to := 4) (lo := 1) (hi := 9) (h2 := 4) (H := H) (kd := kd0) (un := un) (nk := kd) (nu := nu) (me := metQ f1 f2 f3 0) (op := op) (de := de) (fo := fo) (bs := bs) (bu := bu) (Z := [wd, ht, rm, mo, sd, bo]) (td := td) (ns := ns) hB hn ha ⟨by omega, by omega⟩ ⟨by omega, by omega⟩ rfl hm.1 h0 (by omega) (by omega) h1
            rw [hm.2.1] at h
            exact ⟨_, M_item_s hB hn (by omega) hs hc2 (Or.inr rfl) h⟩
        · refine Or.inl ⟨skq tx n (tkP tx n (tkP tx n (skq tx n p + 1))), (skq_bd hb2.2).2, ?_, ?_⟩
          · intro H nu hB
            rw [hP, hT]
            obtain ⟨a1, a2, a3, h⟩ := (C_it_s (H := H) (tb := tb) (kd := kd) (wd := wd) (ht := ht) (rm := rm) (mo := mo) (sd := sd) (bo := bo) (ed := ed) (hu := hu) (sk := sk) (tp := ((skq tx n p : Nat) : Int)) (nu := nu) (f1 := f1) (f2 := f2) (f3 := f3) hB hn (by omega)).2.1 h0 h1 h59
            exact ⟨((kd, wd, ht, rm, mo, nV tx n (skq tx n p + 1), nV tx n (tkP tx n (skq tx n p + 1))), (ed, hu, sk), (f1, f2, f3, 1)), _, _, _, hO2, h⟩
          · intro H nu it hB
            have h := M_once2Y (bt := 8) (to := 4) (lo := 1) (hi := 9) (h2 := 4) (H := H) (kd := kd0) (un := un) (nk := kd) (nu := nu) (me := metQ f1 f2 f3 0) (op := op) (de := de) (fo := fo) (bs := bs) (bu := bu) (Z := [wd, ht, rm, mo, sd, bo]) (td := td) (ns := ns) hB hn ha ⟨by omega, by omega⟩ ⟨by omega, by omega⟩ rfl hm.1 h0 (by omega) (by omega) h1
            have hv := M_tlNo2 (nu := nu) (it := it) hB hn hp (by omega) hb2.2 (M_item_s hB hn (by omega) hs hc2 (Or.inr rfl) h) (not59 h59)
            exact ⟨_, mEnd_mk (by simp [up_len]) rT.1 rN, hv⟩
      · have hz := (skq_bd (tx := tx) hb.2).2
        refine Or.inl ⟨skq tx n (tkP tx n (skq tx n p + 1)), hz, ?_, ?_⟩
        · intro H nu hB
          rw [hP, hT]
          obtain ⟨a1, a2, a3, h⟩ := (C_it_s (H := H) (tb := tb) (kd := kd) (wd := wd) (ht := ht) (rm := rm) (mo := mo) (sd := sd) (bo := bo) (ed := ed) (hu := hu) (sk := sk) (tp := ((skq tx n p : Nat) : Int)) (nu := nu) (f1 := f1) (f2 := f2) (f3 := f3) hB hn (by omega)).2.2.1 h0 h1
          exact ⟨((kd, wd, ht, rm, mo, nV tx n (skq tx n p + 1), bo), (ed, hu, sk), (f1, f2, f3, 1)), _, _, _, ⟨r1, r2, r3, r4, r5, hv9, r7, ⟨b1, b2, b3, l1, l2, l3⟩, g1, g2, g3, Or.inr rfl⟩, h⟩
        · intro H nu it hB
          obtain ⟨nu2, h⟩ := M_once2N (bt := 8) (to := 4) (lo := 1) (hi := 9) (h2 := 4) (H := H) (kd := kd0) (un := un) (nk := kd) (nu := nu) (me := metQ f1 f2 f3 0) (op := op) (de := de) (fo := fo) (bs := bs) (bu := bu) (Z := [wd, ht, rm, mo, sd, bo]) (td := td) (ns := ns) hB hn ha ⟨by omega, by omega⟩ ⟨by omega, by omega⟩ rfl hm.1 h0 (by omega) (by omega) h1
          have hv := M_tlNo1 (nu := nu) (it := it) hB hn hp (by omega) (by omega) (M_item_s hB hn (by omega) hs hc2 (Or.inl rfl) h)
          exact ⟨_, mEnd_mk (by simp [up_len]) rT.1 rN, hv⟩
    · have hz := (skq_bd (tx := tx) (n := n) (p := (skq tx n p + 1)) (by omega)).2
      refine Or.inl ⟨skq tx n (skq tx n p + 1), hz, ?_, ?_⟩
      · intro H nu hB
        rw [hP, hT]
        obtain ⟨a1, a2, a3, h⟩ := (C_it_s (H := H) (tb := tb) (kd := kd) (wd := wd) (ht := ht) (rm := rm) (mo := mo) (sd := sd) (bo := bo) (ed := ed) (hu := hu) (sk := sk) (tp := ((skq tx n p : Nat) : Int)) (nu := nu) (f1 := f1) (f2 := f2) (f3 := f3) hB hn (by omega)).2.2.2 h0
        exact ⟨((kd, wd, ht, rm, mo, sd, bo), (ed, hu, sk), (f1, f2, f3, 1)), _, _, _, ⟨r1, r2, r3, r4, r5, r6, r7, ⟨b1, b2, b3, l1, l2, l3⟩, g1, g2, g3, Or.inr rfl⟩, h⟩
      · intro H nu it hB
        obtain ⟨nu2, h⟩ := M_onceN (bt := 8) (to := 4) (lo := 1) (hi := 9) (h2 := 4) (H := H) (kd := kd0) (un := un) (nk := kd) (nu := nu) (me := metQ f1 f2 f3 0) (op := op) (de := de) (fo := fo) (bs := bs) (bu := bu) (Z := [wd, ht, rm, mo, sd, bo]) (td := td) (ns := ns) hB hn ha ⟨by omega, by omega⟩ ⟨by omega, by omega⟩ rfl hm.1 h0
        have hv := M_tlNo1 (nu := nu) (it := it) hB hn hp (by omega) (by omega) (M_item_s hB hn (by omega) hs hc2 (Or.inl rfl) h)
        exact ⟨_, mEnd_mk rfl rT.1 rN, hv⟩
  · refine Or.inl ⟨skq tx n p, by omega, ?_, ?_⟩
    · intro H nu hB
      rw [hP, hT]
      exact ⟨((kd, wd, ht, rm, mo, sd, bo), (ed, hu, sk), (f1, f2, f3, 1)), _, _, _, ⟨r1, r2, r3, r4, r5, r6, r7, ⟨b1, b2, b3, l1, l2, l3⟩, g1, g2, g3, Or.inr rfl⟩, C_it_sT hB⟩
    · intro H nu it hB
      have h := M_onceT (H := H) (kd := kd0) (un := un) (nk := kd) (nu := nu) (me := metQ f1 f2 f3 1) (op := op) (de := de) (fo := fo) (bs := bs) (bu := bu) (Z := [wd, ht, rm, mo, sd, bo]) (td := td) (ns := ns) (n := n) (p := skq tx n p) (bt := 8) (to := 4) (lo := 1) (hi := 9) (h2 := 4) hB hm.2.2
      have hv := M_tlNo1 (nu := nu) (it := it) hB hn hp (by omega) (by omega) (M_item_s hB hn (by omega) hs hc2 (Or.inl rfl) h)
      exact ⟨_, mEnd_mk rfl rT.1 rN, hv⟩
theorem firstN (P : Nat → Prop) : ∀ N : Nat, (∀ j, j < N → P j) ∨ ∃ i, i < N ∧ (∀ j, j < i → P j) ∧ ¬ P i
  | 0 => Or.inl (fun j hj => by omega)
  | N + 1 => by
    rcases firstN P N with h | ⟨i, h1, h2, h3⟩
    · by_cases e : P N
      · refine Or.inl (fun j hj => ?_)
        rcases Nat.lt_or_ge j N with q | q
        · exact h j q
        · rw [show j = N by omega]; exact e
      · exact Or.inr ⟨N, by omega, h, e⟩
    · exact Or.inr ⟨i, by omega, h2, h3⟩
theorem kE_bet {ed : List Int} {kd : Int} {f : Nat → Int} (hb : bet ed 0 9) (hl : ed.length = 24) (hk : 0 ≤ kd ∧ kd < 6) : ∀ i : Nat, (∀ j, j < i → 0 ≤ f j ∧ f j ≤ kHi j) → bet (kE ed kd f i) 0 9
  | 0, _ => hb
  | i + 1, h => by
    have ih := kE_bet hb hl hk i (fun j hj => h j (by omega))
    have h9 : kHi i ≤ 9 := by unfold kHi; split <;> omega
    have hi := h i (by omega)
    simp only [kE]
    split
    · exact bet_up ih (by omega) (by rw [kE_len]; omega) (by omega)
    · exact ih
theorem kU_bet {hu : List Int} {kd : Int} {f : Nat → Int} (hb : bet hu 0 5) (hl : hu.length = 6) (hk : 0 ≤ kd ∧ kd < 6) : ∀ i : Nat, (∀ j, j < i → 0 ≤ f j ∧ f j ≤ kHi j) → bet (kU hu kd f i) 0 5
  | 0, _ => hb
  | i + 1, h => by
    have ih := kU_bet hb hl hk i (fun j hj => h j (by omega))
    have hi := h i (by omega)
    simp only [kU]
    split
    · rename_i e
      have h5 : kHi i = 5 := by unfold kHi; rw [if_pos (by omega)]
      exact bet_up ih (by omega) (by rw [kU_len]; omega) (by omega)
    · exact ih
theorem kS_bet {sk : List Int} {kd : Int} {f : Nat → Int} (hb : bet sk 0 9) (hl : sk.length = 6) (hk : 0 ≤ kd ∧ kd < 6) : ∀ i : Nat, (∀ j, j < i → 0 ≤ f j ∧ f j ≤ kHi j) → bet (kS sk kd f i) 0 9
  | 0, _ => hb
  | i + 1, h => by
    have ih := kS_bet hb hl hk i (fun j hj => h j (by omega))
    have h9 : kHi i ≤ 9 := by unfold kHi; split <;> omega
    have hi := h i (by omega)
    simp only [kS]
    split
    · exact bet_up ih (by omega) (by rw [kS_len]; omega) (by omega)
    · exact ih
theorem kE_6 {ed : List Int} {kd : Int} {f : Nat → Int} : kE ed kd f 6 = fil ed (kd * 4) f 4 := by simp [kE, fil]
theorem kU_6 {hu : List Int} {kd : Int} {f : Nat → Int} : kU hu kd f 6 = up hu kd (f 4) := by simp [kU]
theorem kS_6 {sk : List Int} {kd : Int} {f : Nat → Int} : kS sk kd f 6 = up sk kd (f 5) := by simp [kS]
theorem mT_6 {td : List Int} {kd : Int} {f : Nat → Int} : mT td kd f 6 = fil td (5 * kd) f 5 := by simp [mT, fil]
theorem mS_6 {ns : List Int} {kd : Int} {f : Nat → Int} : mS ns kd f 6 = up ns kd (f 5) := by simp [mS]
theorem k_rel {ed hu sk : List Int} {kd : Int} {f : Nat → Int} (hk : 0 ≤ kd ∧ kd < 6) (l1 : ed.length = 24) (l2 : hu.length = 6) (l3 : sk.length = 6) (rT : relT td ed hu kd) (rN : ns.length = 6) (rS : ∀ k : Int, 0 ≤ k → k < kd → ix ns k = ix sk k) : relT (mT td kd f 6) (kE ed kd f 6) (kU hu kd f 6) (kd + 1) ∧ (mS ns kd f 6).length = 6 ∧ ∀ k : Int, 0 ≤ k → k < kd + 1 → ix (mS ns kd f 6) k = ix (kS sk kd f 6) k := by
  obtain ⟨t1, t2, t3⟩ := rT
  rw [kE_6, kU_6, kS_6, mT_6, mS_6]
  refine ⟨⟨by rw [fil_len]; exact t1, fun k h k0 k1 h0 h1 => ?_, fun k k0 k1 => ?_⟩, by rw [up_len]; exact rN, fun k k0 k1 => ?_⟩
  · rw [fil_ix (by omega) (by omega) (by omega), fil_ix (by omega) (by omega) (by omega)]
    by_cases e : k = kd
    · subst e
      rw [if_pos (by omega), if_pos (by omega), show (5 * k + h - 5 * k).toNat = (k * 4 + h - k * 4).toNat by omega]
    · rw [if_neg (by omega), if_neg (by omega)]
      exact t2 k h k0 (by omega) h0 h1
  · rw [fil_ix (by omega) (by omega) (by omega), ix_up (by omega) (by omega) k0]
    by_cases e : k = kd
    · subst e
      rw [if_pos (by omega), if_pos rfl, show (5 * k + 4 - 5 * k).toNat = 4 by omega]
    · rw [if_neg (by omega), if_neg (by omega)]
      exact t3 k k0 (by omega)
  · rw [ix_up (by omega) (by omega) k0, ix_up (by omega) (by omega) k0]
    by_cases e : kd = k
    · rw [if_pos e, if_pos e]
    · rw [if_neg e, if_neg e]
      exact rS k k0 (by omega)
theorem it_k (hn : n ≤ 120) (hO : tOk S) (hR : tRel S td ns) (hp : p ≤ n) (hc : hrc tx n p = 107) : itR (kd0, un, op, de, fo, bs, bu) tb tx n p S td ns := by
  obtain ⟨⟨kd, wd, ht, rm, mo, sd, bo⟩, ⟨ed, hu, sk⟩, f1, f2, f3, f4⟩ := S
  obtain ⟨r1, r2, r3, r4, r5, r6, r7, ⟨b1, b2, b3, l1, l2, l3⟩, g1, g2, g3, g4⟩ := hO
  obtain ⟨rT, rN, rS⟩ := hR
  dsimp only at r1 r2 r3 r4 r5 r6 r7 b1 b2 b3 l1 l2 l3 g1 g2 g3 g4 rT rN rS
  have hmet := met_w g1 g2 g3 g4
  obtain ⟨ha, hT, hP⟩ := tk_hr (by unfold isSg; omega) hc
  have hs := skq_id (tx := tx) (n := n) (p := p)
  have hc2 : hrc tx n (skq tx n p) = 107 := by unfold hrc at hc ⊢; rw [hs]; exact hc
  by_cases hk6 : kd < 6
  · have hk : 0 ≤ kd ∧ kd < 6 := ⟨r1.1, hk6⟩
    have hfb : ∀ i : Nat, (∀ j, j < i → nOk tx n 0 (kHi j) (plq tx n (skq tx n p + 1) j)) → ∀ j, j < i → 0 ≤ (fun j => nV tx n (plq tx n (skq tx n p + 1) j)) j ∧ (fun j => nV tx n (plq tx n (skq tx n p + 1) j)) j ≤ kHi j := fun i h j hj => (nOk_facts (h j hj)).2.2
    rcases firstN (fun j => nOk tx n 0 (kHi j) (plq tx n (skq tx n p + 1) j)) 6 with hok | ⟨i, hi, hok, hno⟩
    · have hb := plq_bd (tx := tx) (n := n) (p := (skq tx n p + 1)) (by omega) 6
      have hf := hfb 6 hok
      by_cases h59 : tkT tx n (plq tx n (skq tx n p + 1) 6) = 59
      · refine Or.inr ⟨plq tx n (skq tx n p + 1) 6, ((kd + 1, wd, ht, rm, mo, sd, bo), (kE ed kd (fun j => nV tx n (plq tx n (skq tx n p + 1) j)) 6, kU hu kd (fun j => nV tx n (plq tx n (skq tx n p + 1) j)) 6, kS sk kd (fun j => nV tx n (plq tx n (skq tx n p + 1) j)) 6), (f1, f2, f3, f4)), mT td kd (fun j => nV tx n (plq tx n (skq tx n p + 1) j)) 6, mS ns kd (fun j => nV tx n (plq tx n (skq tx n p + 1) j)) 6, by omega, hb.2, hr_tk sg59 h59, ⟨⟨by dsimp only; omega, by dsimp only; omega⟩, r2, r3, r4, r5, r6, r7, ⟨kE_bet b1 l1 hk 6 hf, kU_bet b2 l2 hk 6 hf, kS_bet b3 l3 hk 6 hf, by rw [kE_len]; exact l1, by rw [kU_len]; exact l2, by rw [kS_len]; exact l3⟩, g1, g2, g3, g4⟩, k_rel hk l1 l2 l3 rT rN rS, ?_, ?_⟩
        · intro H nu hB
          rw [hP, hT]
          exact (C_it_k (H := H) (tb := tb) (kd := kd) (wd := wd) (ht := ht) (rm := rm) (mo := mo) (sd := sd) (bo := bo) (ed := ed) (hu := hu) (sk := sk) (tp := ((skq tx n p : Nat) : Int)) (nu := nu) (f1 := f1) (f2 := f2) (f3 := f3) (f4 := f4) hB hn (by omega) hk l1 l2 l3).1 hok h59
        · intro H nu hB
          obtain ⟨nu', h⟩ := (M_kind_ (H := H) (kd := kd0) (un := un) (nk := kd) (nu := nu) (me := metQ f1 f2 f3 f4) (op := op) (de := de) (fo := fo) (bs := bs) (bu := bu) (Z := [wd, ht, rm, mo, sd, bo]) (td := td) (ns := ns) hB hn ha hk rT.1 rN).1 hok
          exact ⟨_, M_item_k hB hn (by omega) hs hc2 (Or.inr rfl) h⟩
      · refine Or.inl ⟨skq tx n (plq tx n (skq tx n p + 1) 6), (skq_bd hb.2).2, ?_, ?_⟩
        · intro H nu hB
          rw [hP, hT]
          obtain ⟨a1, a2, a3, h⟩ := (C_it_k (H := H) (tb := tb) (kd := kd) (wd := wd) (ht := ht) (rm := rm) (mo := mo) (sd := sd) (bo := bo) (ed := ed) (hu := hu) (sk := sk) (tp := ((skq tx n p : Nat) : Int)) (nu := nu) (f1 := f1) (f2 := f2) (f3 := f3) (f4 := f4) hB hn (by omega) hk l1 l2 l3).2.1 hok h59
          exact ⟨((kd, wd, ht, rm, mo, sd, bo), (kE ed kd (fun j => nV tx n (plq tx n (skq tx n p + 1) j)) 6, kU hu kd (fun j => nV tx n (plq tx n (skq tx n p + 1) j)) 6, kS sk kd (fun j => nV tx n (plq tx n (skq tx n p + 1) j)) 6), (f1, f2, f3, f4)), _, _, _, ⟨r1, r2, r3, r4, r5, r6, r7, ⟨kE_bet b1 l1 hk 6 hf, kU_bet b2 l2 hk 6 hf, kS_bet b3 l3 hk 6 hf, by rw [kE_len]; exact l1, by rw [kU_len]; exact l2, by rw [kS_len]; exact l3⟩, g1, g2, g3, g4⟩, h⟩
        · intro H nu it hB
          obtain ⟨nu', h⟩ := (M_kind_ (H := H) (kd := kd0) (un := un) (nk := kd) (nu := nu) (me := metQ f1 f2 f3 f4) (op := op) (de := de) (fo := fo) (bs := bs) (bu := bu) (Z := [wd, ht, rm, mo, sd, bo]) (td := td) (ns := ns) hB hn ha hk rT.1 rN).1 hok
          have hv := M_tlNo2 (nu := nu) (it := it) hB hn hp (by omega) hb.2 (M_item_k hB hn (by omega) hs hc2 (Or.inr rfl) h) (not59 h59)
          exact ⟨_, mEnd_mk rfl (by rw [mT_len]; exact rT.1) (by rw [mS_len]; exact rN), hv⟩
    · have hb := plq_bd (tx := tx) (n := n) (p := (skq tx n p + 1)) (by omega) i
      have hf := hfb i hok
      have hz := (skq_bd (tx := tx) hb.2).2
      refine Or.inl ⟨skq tx n (plq tx n (skq tx n p + 1) i), hz, ?_, ?_⟩
      · intro H nu hB
        rw [hP, hT]
        obtain ⟨a1, a2, a3, h⟩ := (C_it_k (H := H) (tb := tb) (kd := kd) (wd := wd) (ht := ht) (rm := rm) (mo := mo) (sd := sd) (bo := bo) (ed := ed) (hu := hu) (sk := sk) (tp := ((skq tx n p : Nat) : Int)) (nu := nu) (f1 := f1) (f2 := f2) (f3 := f3) (f4 := f4) hB hn (by omega) hk l1 l2 l3).2.2 i hi hok hno
        exact ⟨((kd, wd, ht, rm, mo, sd, bo), (kE ed kd (fun j => nV tx n (plq tx n (skq tx n p + 1) j)) i, kU hu kd (fun j => nV tx n (plq tx n (skq tx n p + 1) j)) i, kS sk kd (fun j => nV tx n (plq tx n (skq tx n p + 1) j)) i), (f1, f2, f3, f4)), _, _, _, ⟨r1, r2, r3, r4, r5, r6, r7, ⟨kE_bet b1 l1 hk i hf, kU_bet b2 l2 hk i hf, kS_bet b3 l3 hk i hf, by rw [kE_len]; exact l1, by rw [kU_len]; exact l2, by rw [kS_len]; exact l3⟩, g1, g2, g3, g4⟩, h⟩
      · intro H nu it hB
        obtain ⟨nu', h⟩ := (M_kind_ (H := H) (kd := kd0) (un := un) (nk := kd) (nu := nu) (me := metQ f1 f2 f3 f4) (op := op) (de := de) (fo := fo) (bs := bs) (bu := bu) (Z := [wd, ht, rm, mo, sd, bo]) (td := td) (ns := ns) hB hn ha hk rT.1 rN).2 i hi hok hno
        have hv := M_tlNo1 (nu := nu) (it := it) hB hn hp (by omega) (by omega) (M_item_k hB hn (by omega) hs hc2 (Or.inl rfl) h)
        exact ⟨_, mEnd_mk rfl (by rw [mT_len]; exact rT.1) (by rw [mS_len]; exact rN), hv⟩
  · refine Or.inl ⟨skq tx n p, by omega, ?_, ?_⟩
    · intro H nu hB
      rw [hP, hT]
      exact ⟨((kd, wd, ht, rm, mo, sd, bo), (ed, hu, sk), (f1, f2, f3, f4)), _, _, _, ⟨r1, r2, r3, r4, r5, r6, r7, ⟨b1, b2, b3, l1, l2, l3⟩, g1, g2, g3, g4⟩, C_it_kT hB hk6⟩
    · intro H nu it hB
      have h := M_kindT (H := H) (kd := kd0) (un := un) (nk := kd) (nu := nu) (me := metQ f1 f2 f3 f4) (op := op) (de := de) (fo := fo) (bs := bs) (bu := bu) (Z := [wd, ht, rm, mo, sd, bo]) (td := td) (ns := ns) (n := n) (p := skq tx n p) hB (by omega)
      have hv := M_tlNo1 (nu := nu) (it := it) hB hn hp (by omega) (by omega) (M_item_k hB hn (by omega) hs hc2 (Or.inl rfl) h)
      exact ⟨_, mEnd_mk rfl rT.1 rN, hv⟩
theorem it_no (hn : n ≤ 120) (hO : tOk S) (hR : tRel S td ns) (hp : p ≤ n) (he : ¬ hrc tx n p = -1) (h1 : ¬ hrc tx n p = 101) (h2 : ¬ hrc tx n p = 107) (h3 : ¬ hrc tx n p = 109) (h4 : ¬ hrc tx n p = 115) (h5 : ¬ hrc tx n p = 119) : itR (kd0, un, op, de, fo, bs, bu) tb tx n p S td ns := by
  obtain ⟨⟨kd, wd, ht, rm, mo, sd, bo⟩, ⟨ed, hu, sk⟩, f1, f2, f3, f4⟩ := S
  have hO0 := hO
  obtain ⟨rT, rN, rS⟩ := hR
  dsimp only at rT rN rS
  have hs := skq_id (tx := tx) (n := n) (p := p)
  have hsb := skq_bd (tx := tx) hp
  have hc2 : hrc tx n (skq tx n p) = hrc tx n p := by unfold hrc; rw [hs]
  have n1 : ¬ (101 : Int) = tkT tx n p := fun z => h1 (hr_tk (by unfold isSg; omega) z.symm)
  have n2 : ¬ (107 : Int) = tkT tx n p := fun z => h2 (hr_tk (by unfold isSg; omega) z.symm)
  have n3 : ¬ (109 : Int) = tkT tx n p := fun z => h3 (hr_tk (by unfold isSg; omega) z.symm)
  have n4 : ¬ (115 : Int) = tkT tx n p := fun z => h4 (hr_tk (by unfold isSg; omega) z.symm)
  have n5 : ¬ (119 : Int) = tkT tx n p := fun z => h5 (hr_tk (by unfold isSg; omega) z.symm)
  refine Or.inl ⟨skq tx n p, hsb.2, ?_, ?_⟩
  · intro H nu hB
    exact ⟨((kd, wd, ht, rm, mo, sd, bo), (ed, hu, sk), (f1, f2, f3, f4)), _, _, _, hO0, C_headNo hB (C_may_no n1 n2 n3 n4 n5)⟩
  · intro H nu it hB
    have h := M_item_no (H := H) (kd := kd0) (un := un) (nk := kd) (nu := nu) (me := metQ f1 f2 f3 f4) (op := op) (de := de) (fo := fo) (bs := bs) (bu := bu) (Z := [wd, ht, rm, mo, sd, bo]) (td := td) (ns := ns) hB hn hsb.2 hs (by rw [hc2]; omega) (by rw [hc2]; omega) (by rw [hc2]; omega) (by rw [hc2]; omega) (by rw [hc2]; omega)
    have hv := M_tlNo1 (nu := nu) (it := it) hB hn hp he (by omega) h
    exact ⟨_, mEnd_mk rfl rT.1 rN, hv⟩
theorem it_all (hn : n ≤ 120) (hO : tOk S) (hR : tRel S td ns) (hp : p ≤ n) (he : ¬ hrc tx n p = -1) : itR (kd0, un, op, de, fo, bs, bu) tb tx n p S td ns := by
  by_cases h1 : hrc tx n p = 101
  · exact it_e hn hO hR hp h1
  by_cases h2 : hrc tx n p = 107
  · exact it_k hn hO hR hp h2
  by_cases h3 : hrc tx n p = 109
  · exact it_m hn hO hR hp h3
  by_cases h4 : hrc tx n p = 115
  · exact it_s hn hO hR hp h4
  by_cases h5 : hrc tx n p = 119
  · exact it_w hn hO hR hp h5
  exact it_no hn hO hR hp he h1 h2 h3 h4 h5
end ITM
section WHT
variable {H : mH} {kd un nk nu me op de fo bs bu : Int} {tx Z td ns : List Int} {n p tb : Nat} {kd0 : Int}
theorem M_tlEnd (hB : qBase H tx) (hn : n ≤ 120) (hp : p ≤ n) {it : Int} (he : hrc tx n p = -1) {r : mV} {H1 : mH} (h : Ev 4 108 64 [mR 74, mI it] [] (qH H Z td ns (mdL kd un nk (n : Int) ((skq tx n p : Nat) : Int) nu me op de fo bs bu)) r H1) : Ev 4 108 16 [mR 74, mI it] [] (qH H Z td ns (mdL kd un nk (n : Int) (p : Int) nu me op de fo bs bu)) r H1 := by
  have hh := M_hr (kd := kd) (un := un) (nk := nk) (nu := nu) (me := me) (op := op) (de := de) (fo := fo) (bs := bs) (bu := bu) (Z := Z) (td := td) (ns := ns) hB hn hp
  rw [he] at hh
  refine E_aload_n (pc' := 17) g108_16 rfl rfl ?_
  refine E_cV0i (pc' := 20) g108_17 k108_91 na103 rfl ow103 rfl (Nat.le_of_ble_eq_true rfl) (qH_74 hB) hh (by decide) ?_
  refine E_iconst (pc' := 21) g108_20 (by decide) rfl ?_
  refine E_iceq (pc' := 24) (pt := 64) g108_21 rfl rfl (fun c0 => ?_) (fun c0 => ?_)
  · first
    | (exfalso; omega)
    | (exact h)
  · first
    | (exfalso; omega)
    | (exfalso; omega)
theorem both (hn : n ≤ 120) (hx : ∀ i : Int, 0 ≤ ix tx i) : ∀ (M p : Nat) (it : Int) (S : tS) (td ns : List Int), n - p ≤ M → p ≤ n → 0 ≤ it ∧ it ≤ p → tOk S → tRel S td ns →
    (∃ q : Nat, q ≤ n ∧ (∀ (H : mH) (nu : Int), rBase H tb tx → ∃ (S' : tS) (a c d : Int), tOk S' ∧ Ev 4 21 23 [mR 2, mR tb, mR 1, mI (n : Int), mI (n : Int), mI it] [] (cS H tb S ((tkP tx n p : Nat) : Int) ((skq tx n p : Nat) : Int) (tkT tx n p) nu) (mI (-10 - (q : Int))) (cS H tb S' a (q : Int) c d)) ∧ ∀ (H : mH) (nu : Int), qBase H tx → ∃ H2, mEnd (kd0, un, op, de, fo, bs, bu) n H H2 ∧ Ev 4 108 16 [mR 74, mI it] [] (mQ (kd0, un, op, de, fo, bs, bu) n H S td ns (p : Int) nu) (mI (-10 - (q : Int))) H2) ∨
    ∃ (v : Int) (S' : tS) (td' ns' : List Int), 0 ≤ v ∧ tOk S' ∧ tRel S' td' ns' ∧ (∀ (H : mH) (nu : Int), rBase H tb tx → ∃ (a b c d : Int), Ev 4 21 23 [mR 2, mR tb, mR 1, mI (n : Int), mI (n : Int), mI it] [] (cS H tb S ((tkP tx n p : Nat) : Int) ((skq tx n p : Nat) : Int) (tkT tx n p) nu) (mI v) (cS H tb S' a b c d)) ∧ ∀ (H : mH) (nu : Int), qBase H tx → ∃ ap' nu', ∀ (r : mV) (H1 : mH), Ev 4 108 64 [mR 74, mI v] [] (mQ (kd0, un, op, de, fo, bs, bu) n H S' td' ns' ap' nu') r H1 → Ev 4 108 16 [mR 74, mI it] [] (mQ (kd0, un, op, de, fo, bs, bu) n H S td ns (p : Int) nu) r H1 := by
  intro M
  induction M with
  | zero =>
    intro p it S td ns hM hp hit hO hR
    have hsb := skq_bd (tx := tx) hp
    have he : hrc tx n p = -1 := by unfold hrc; rw [if_neg (by omega)]
    refine Or.inr ⟨it, S, td, ns, hit.1, hO, hR, fun H nu hB => ?_, fun H nu hB => ⟨_, _, fun r H1 h => M_tlEnd hB hn hp he h⟩⟩
    rw [(hr_end hx).mp he]
    exact ⟨_, _, _, _, C_intoEnd hB⟩
  | succ M ih =>
    intro p it S td ns hM hp hit hO hR
    by_cases he : hrc tx n p = -1
    · refine Or.inr ⟨it, S, td, ns, hit.1, hO, hR, fun H nu hB => ?_, fun H nu hB => ⟨_, _, fun r H1 h => M_tlEnd hB hn hp he h⟩⟩
      rw [(hr_end hx).mp he]
      exact ⟨_, _, _, _, C_intoEnd hB⟩
    · have hne : ¬ tkT tx n p = -1 := fun z => he ((hr_end hx).mpr z)
      have hsb := skq_bd (tx := tx) hp
      rcases it_all (tb := tb) (kd0 := kd0) (un := un) (op := op) (de := de) (fo := fo) (bs := bs) (bu := bu) hn hO hR hp he with ⟨q, hq, hc, hm⟩ | ⟨q, S', td', ns', hq1, hq2, h59, hO', hR', hc, hm⟩
      · refine Or.inl ⟨q, hq, fun H nu hB => ?_, fun H nu hB => hm H nu it hB⟩
        obtain ⟨S', a, c, d, hO', h⟩ := hc H nu hB
        exact ⟨S', a, c, d, hO', C_intoNo hB (by omega) hne (by omega) h⟩
      · have hqb := tkP_bd (tx := tx) hq2
        obtain ⟨z1, z2, z3⟩ := tk_hr sg59 h59
        have hsb2 := skq_bd (tx := tx) hq2
        rcases ih (tkP tx n q) (it + 1) S' td' ns' (by omega) hqb.2 (by omega) hO' hR' with ⟨q2, hq3, hc2, hm2⟩ | ⟨v, S2, td2, ns2, hv, hO2, hR2, hc2, hm2⟩
        · refine Or.inl ⟨q2, hq3, fun H nu hB => ?_, fun H nu hB => ?_⟩
          · obtain ⟨tp', nu', h⟩ := hc H nu hB
            obtain ⟨S3, a, c, d, hO3, h3⟩ := hc2 H (tkN tx n (tkP tx n q) nu') hB
            exact ⟨S3, a, c, d, hO3, C_intoOk hB hn hqb.2 (by omega) hne h h3⟩
          · obtain ⟨nu', h⟩ := hm H nu hB
            obtain ⟨H2, e2, h2⟩ := hm2 H nu' hB
            rw [z3] at h2
            exact ⟨H2, e2, M_tlOk hB hn hp (by omega) he hq2 h h59 h2⟩
        · refine Or.inr ⟨v, S2, td2, ns2, hv, hO2, hR2, fun H nu hB => ?_, fun H nu hB => ?_⟩
          · obtain ⟨tp', nu', h⟩ := hc H nu hB
            obtain ⟨a, b, c, d, h3⟩ := hc2 H (tkN tx n (tkP tx n q) nu') hB
            exact ⟨a, b, c, d, C_intoOk hB hn hqb.2 (by omega) hne h h3⟩
          · obtain ⟨nu', h⟩ := hm H nu hB
            obtain ⟨ap', nu2, h2⟩ := hm2 H nu' hB
            rw [z3] at h2
            exact ⟨ap', nu2, fun r H1 h5 => M_tlOk hB hn hp (by omega) he hq2 h h59 (h2 r H1 h5)⟩
end WHT
