/-! the model's search: its states -/
def inMs (a : Nat) : Prop := a = 74 ∨ a = 85 ∨ a = 87 ∨ a = 88
def mOut (H H2 : mH) (kd un nk le ap nu me : Int) : Prop := Fr inMs H H2 ∧ ∃ op de fo bs bu, H2[74]? = some (7, mdL kd un nk le ap nu me op de fo bs bu)
def mLen (H : mH) : Prop := (∃ q, H[74]? = some (7, q) ∧ q.length = 30) ∧ (∃ q, H[85]? = some (8, q) ∧ q.length = 15) ∧ ∃ q, H[88]? = some (8, q) ∧ q.length = 9
/-- nothing is tried yet; a quilt is found, and what is still to come -/
def fre (H0 : mH) (bl sl td ed hu : List Int) (kd wd ht rm mo sd bo un nk le ap nu me bs bu : Int) (n : Nat) (H2 : mH) : Prop := ∃ (H : mH) (oa : List Int) (N : Nat) (tt tr : List Int), Fr inMs H0 H ∧ mLen H ∧ mBase H bl td ed hu oa kd wd ht rm mo sd bo n N ∧ H2 = sH H kd un nk le ap nu me (N : Int) 0 0 bs bu tt tr ∧ tt.length = 15 ∧ tr.length = 9 ∧ ix tr 0 = -1 ∧ relS tt bl sl kd
def fou (H0 : mH) (bl sl td ed hu : List Int) (kd wd ht rm mo sd bo un nk le ap nu me bs bu : Int) (n : Nat) (R : List (List Int)) (x : List Int) (H2 : mH) : Prop := ∃ (H : mH) (oa : List Int) (N : Nat) (tt tr : List Int), Fr inMs H0 H ∧ mLen H ∧ mBase H bl td ed hu oa kd wd ht rm mo sd bo n N ∧ H2 = sH H kd un nk le ap nu me (N : Int) (N : Int) 1 bs bu tt tr ∧ tt.length = 15 ∧ tr.length = 9 ∧ relS tt x sl kd ∧ x = PP bl n tr n ∧ rmn (okM sl ed hu kd wd ht rm mo bs bu) bl n tr n = R ∧ ∀ j : Nat, j < N → 0 ≤ ix tr j ∧ ix tr j < kd * 4
def sst (H0 : mH) (bl sl td ed hu : List Int) (kd wd ht rm mo sd bo un nk le ap nu me bs bu : Int) (n : Nat) (R : List (List Int)) (H2 : mH) : Prop := (fre H0 bl sl td ed hu kd wd ht rm mo sd bo un nk le ap nu me bs bu n H2 ∧ R = qts bl sl ed hu kd wd ht rm mo bs bu n) ∨ ∃ x, fou H0 bl sl td ed hu kd wd ht rm mo sd bo un nk le ap nu me bs bu n R x H2
section NR
variable {H0 H : mH} {kd un nk le ap nu me op de fo bs bu wd ht rm mo sd bo : Int} {ed hu bl sl td tt ss : List Int} {A W oa tr T : List Int} {n N : Nat}
theorem sH_fr (hl : mLen H) (htt : tt.length = 15) (htr : tr.length = 9) : Fr inMs H (sH H kd un nk le ap nu me op de fo bs bu tt tr) := by
  obtain ⟨⟨q1, a1, b1⟩, ⟨q2, a2, b2⟩, q3, a3, b3⟩ := hl
  unfold sH
  exact Fr_and (Fr_and (Fr_pt (A := inMs) (by unfold inMs; omega) a2 (by omega)) (by unfold inMs; omega) a3 (by omega)) (by unfold inMs; omega) a1 (by rw [b1]; rfl)
theorem N_head (hB : mBase H bl td ed hu oa kd wd ht rm mo sd bo n N) {r : mV} {H1 : mH} (hd : -1000 ≤ de ∧ de ≤ 1000) (hfo : fo = 0 ∨ fo = 1) (h : Ev 4 141 26 [mR 74, none, none] [] (sH H kd un nk le ap nu me (N : Int) (de - fo) 0 bs bu tt tr) r H1) : Call 4 141 [mR 74] (sH H kd un nk le ap nu me (N : Int) de fo bs bu tt tr) r H1 := by
  have g74 : ∀ {de fo : Int} {tt tr : List Int}, (sH H kd un nk le ap nu me (N : Int) de fo bs bu tt tr)[74]? = some (7, mdL kd un nk le ap nu me N de fo bs bu) := sH_74 hB
  rcases hfo with rfl | rfl
  · refine Call_of rfl ?_
    refine E_aload_n (pc' := 1) g141_0 rfl rfl ?_
    refine E_dup (pc' := 2) g141_1 rfl ?_
    refine E_getI (pc' := 5) g141_2 f141_179 tg7_22 (by decide) rfl g74 rfl ?_
    refine E_aload_n (pc' := 6) g141_5 rfl rfl ?_
    refine E_getI (pc' := 9) g141_6 f141_182 tg7_23 (by decide) rfl g74 rfl ?_
    refine E_ifeq (pc' := 12) (pt := 16) g141_9 rfl rfl (fun c0 => ?_) (fun c0 => ?_)
    · first
      | (exfalso; omega)
      | (refine E_iconst (pc' := 17) g141_16 (by decide) rfl ?_
         refine E_isub (pc' := 18) g141_17 (m_in_iff.mpr (by omega)) rfl ?_
         refine E_putf (pc' := 21) g141_18 f141_179 tg7_22 fn7_22 rfl rfl g74 (Nat.le_of_ble_eq_true rfl) ?_
         refine Ev_cast (H := (sH H kd un nk le ap nu me (N : Int) (de - 0) 0 bs bu tt tr)) ?_ rfl (sH_md (de2 := de - 0) (fo2 := 0))
         refine E_aload_n (pc' := 22) g141_21 rfl rfl ?_
         refine E_iconst (pc' := 23) g141_22 (by decide) rfl ?_
         refine E_putf (pc' := 26) g141_23 f141_182 tg7_23 fn7_23 rfl rfl g74 (Nat.le_of_ble_eq_true rfl) ?_
         refine Ev_cast (H := (sH H kd un nk le ap nu me (N : Int) (de - 0) 0 bs bu tt tr)) ?_ rfl (sH_md (de2 := de - 0) (fo2 := 0))
         exact h)
    · first
      | (exfalso; omega)
      | (refine E_iconst (pc' := 13) g141_12 (by decide) rfl ?_
         refine E_goto (pc' := 17) g141_13 rfl ?_
         refine E_isub (pc' := 18) g141_17 (m_in_iff.mpr (by omega)) rfl ?_
         refine E_putf (pc' := 21) g141_18 f141_179 tg7_22 fn7_22 rfl rfl g74 (Nat.le_of_ble_eq_true rfl) ?_
         refine Ev_cast (H := (sH H kd un nk le ap nu me (N : Int) (de - 0) 0 bs bu tt tr)) ?_ rfl (sH_md (de2 := de - 0) (fo2 := 0))
         refine E_aload_n (pc' := 22) g141_21 rfl rfl ?_
         refine E_iconst (pc' := 23) g141_22 (by decide) rfl ?_
         refine E_putf (pc' := 26) g141_23 f141_182 tg7_23 fn7_23 rfl rfl g74 (Nat.le_of_ble_eq_true rfl) ?_
         refine Ev_cast (H := (sH H kd un nk le ap nu me (N : Int) (de - 0) 0 bs bu tt tr)) ?_ rfl (sH_md (de2 := de - 0) (fo2 := 0))
         exact h)
  · refine Call_of rfl ?_
    refine E_aload_n (pc' := 1) g141_0 rfl rfl ?_
    refine E_dup (pc' := 2) g141_1 rfl ?_
    refine E_getI (pc' := 5) g141_2 f141_179 tg7_22 (by decide) rfl g74 rfl ?_
    refine E_aload_n (pc' := 6) g141_5 rfl rfl ?_
    refine E_getI (pc' := 9) g141_6 f141_182 tg7_23 (by decide) rfl g74 rfl ?_
    refine E_ifeq (pc' := 12) (pt := 16) g141_9 rfl rfl (fun c0 => ?_) (fun c0 => ?_)
    · first
      | (exfalso; omega)
      | (refine E_iconst (pc' := 17) g141_16 (by decide) rfl ?_
         refine E_isub (pc' := 18) g141_17 (m_in_iff.mpr (by omega)) rfl ?_
         refine E_putf (pc' := 21) g141_18 f141_179 tg7_22 fn7_22 rfl rfl g74 (Nat.le_of_ble_eq_true rfl) ?_
         refine Ev_cast (H := (sH H kd un nk le ap nu me (N : Int) (de - 1) 1 bs bu tt tr)) ?_ rfl (sH_md (de2 := de - 1) (fo2 := 1))
         refine E_aload_n (pc' := 22) g141_21 rfl rfl ?_
         refine E_iconst (pc' := 23) g141_22 (by decide) rfl ?_
         refine E_putf (pc' := 26) g141_23 f141_182 tg7_23 fn7_23 rfl rfl g74 (Nat.le_of_ble_eq_true rfl) ?_
         refine Ev_cast (H := (sH H kd un nk le ap nu me (N : Int) (de - 1) 0 bs bu tt tr)) ?_ rfl (sH_md (de2 := de - 1) (fo2 := 0))
         exact h)
    · first
      | (exfalso; omega)
      | (refine E_iconst (pc' := 13) g141_12 (by decide) rfl ?_
         refine E_goto (pc' := 17) g141_13 rfl ?_
         refine E_isub (pc' := 18) g141_17 (m_in_iff.mpr (by omega)) rfl ?_
         refine E_putf (pc' := 21) g141_18 f141_179 tg7_22 fn7_22 rfl rfl g74 (Nat.le_of_ble_eq_true rfl) ?_
         refine Ev_cast (H := (sH H kd un nk le ap nu me (N : Int) (de - 1) 1 bs bu tt tr)) ?_ rfl (sH_md (de2 := de - 1) (fo2 := 1))
         refine E_aload_n (pc' := 22) g141_21 rfl rfl ?_
         refine E_iconst (pc' := 23) g141_22 (by decide) rfl ?_
         refine E_putf (pc' := 26) g141_23 f141_182 tg7_23 fn7_23 rfl rfl g74 (Nat.le_of_ble_eq_true rfl) ?_
         refine Ev_cast (H := (sH H kd un nk le ap nu me (N : Int) (de - 1) 0 bs bu tt tr)) ?_ rfl (sH_md (de2 := de - 1) (fo2 := 0))
         exact h)
theorem fre_out {H2 : mH} (h : fre H0 bl sl td ed hu kd wd ht rm mo sd bo un nk le ap nu me bs bu n H2) : mOut H0 H2 kd un nk le ap nu me := by
  obtain ⟨H, oa, N, tt, tr, hF, hLn, hB, rfl, htl, htr, -⟩ := h
  exact ⟨Fr_trans hF (sH_fr hLn htl htr), _, _, _, _, _, sH_74 hB⟩
theorem fou_out {R : List (List Int)} {x : List Int} {H2 : mH} (h : fou H0 bl sl td ed hu kd wd ht rm mo sd bo un nk le ap nu me bs bu n R x H2) : mOut H0 H2 kd un nk le ap nu me ∧ ∃ tt, H2[85]? = some (8, tt) ∧ relS tt x sl kd := by
  obtain ⟨H, oa, N, tt, tr, hF, hLn, hB, rfl, htl, htr, hx, -⟩ := h
  exact ⟨⟨Fr_trans hF (sH_fr hLn htl htr), _, _, _, _, _, sH_74 hB⟩, tt, sH_85 hB, hx⟩
theorem sst_out {R : List (List Int)} {H2 : mH} (h : sst H0 bl sl td ed hu kd wd ht rm mo sd bo un nk le ap nu me bs bu n R H2) : mOut H0 H2 kd un nk le ap nu me := by
  rcases h with h | ⟨x, h⟩
  · exact fre_out h.1
  · exact (fou_out h).1
theorem fre_fr {H1 H2 : mH} (hF : Fr inMs H0 H1) (h : fre H1 bl sl td ed hu kd wd ht rm mo sd bo un nk le ap nu me bs bu n H2) : fre H0 bl sl td ed hu kd wd ht rm mo sd bo un nk le ap nu me bs bu n H2 := by
  obtain ⟨H, oa, N, tt, tr, hF1, h⟩ := h
  exact ⟨H, oa, N, tt, tr, Fr_trans hF hF1, h⟩
theorem fre_but {H2 : mH} {bs2 bu2 : Int} (h : fre H0 bl sl td ed hu kd wd ht rm mo sd bo un nk le ap nu me bs bu n H2) : ∃ op, H2[74]? = some (7, mdL kd un nk le ap nu me op 0 0 bs bu) ∧ fre H0 bl sl td ed hu kd wd ht rm mo sd bo un nk le ap nu me bs2 bu2 n (pt H2 74 (mdL kd un nk le ap nu me op 0 0 bs2 bu2)) := by
  obtain ⟨H, oa, N, tt, tr, hF, hLn, hB, rfl, h⟩ := h
  refine ⟨N, sH_74 hB, H, oa, N, tt, tr, hF, hLn, hB, ?_, h⟩
  unfold sH
  rw [pt_pt]
theorem M_nq1 {H2 : mH} (h : fre H0 bl sl td ed hu kd wd ht rm mo sd bo un nk le ap nu me bs bu n H2) : ((qts bl sl ed hu kd wd ht rm mo bs bu n) = [] ∧ ∃ H3, mOut H0 H3 kd un nk le ap nu me ∧ Call 4 141 [mR 74] H2 (mI 0) H3) ∨ ∃ x xs H3, (qts bl sl ed hu kd wd ht rm mo bs bu n) = x :: xs ∧ fou H0 bl sl td ed hu kd wd ht rm mo sd bo un nk le ap nu me bs bu n xs x H3 ∧ Call 4 141 [mR 74] H2 (mI 1) H3 := by
  obtain ⟨H, oa, N, tt, tr, hF, hLn, hB, rfl, htl, htr, ht0, hrS⟩ := h
  have hB0 := hB
  obtain ⟨-, -, -, hz, htd, hrT, h87, hol, hoa, hD, hn, hbl, hN⟩ := hB
  obtain ⟨r1, r2, r3, r4, r5, r6, r7, b1, b2⟩ := hD
  have hw := wh_bd r2.1 r2.2 r3.1 r3.2
  have hcb := cn_bd (opn bl n) n
  have hout : ∀ {de fo : Int} {tt tr : List Int}, tt.length = 15 → tr.length = 9 → mOut H0 (sH H kd un nk le ap nu me (N : Int) de fo bs bu tt tr) kd un nk le ap nu me := fun a b => ⟨Fr_trans hF (sH_fr hLn a b), _, _, _, _, _, sH_74 hB0⟩
  rcases next_open (bl := bl) (n := n) (k := n) (s := 0) (by omega) with hno | ⟨q, hq1, hq2, hq3, hq4⟩
  · have sk := skip_all (ok := (okM sl ed hu kd wd ht rm mo bs bu)) (bl := bl) (n := n) (tr := tr) (s := 0) (k := n) (fun j h1 h2 => hno j (by omega) (by omega))
    rw [Nat.zero_add] at sk
    have sk3 : cn (opn bl n) n = 0 := sk.2.2
    have qk := qs_skip (ok := (okM sl ed hu kd wd ht rm mo bs bu)) (bl := bl) (n := n) (T := bl) (s := 0) (k := n) (by omega) (fun j h1 h2 => hno j (by omega) (by omega))
    rw [Nat.zero_add, Nat.sub_self, Nat.sub_zero] at qk
    obtain rfl : N = 0 := by omega
    refine Or.inr ⟨bl, [], _, qk, ⟨H, oa, 0, tt, tr, hF, hLn, hB0, rfl, htl, htr, hrS, sk.2.1.symm, sk.1, fun j hj => absurd hj (by omega)⟩, ?_⟩
    exact N_head (de := 0) (fo := 0) hB0 (by omega) (Or.inl rfl) (N_leaf (N := 0) hB0)
  · have sk := skip_all (ok := (okM sl ed hu kd wd ht rm mo bs bu)) (bl := bl) (n := n) (tr := tr) (s := 0) (k := q) (fun j h1 h2 => hq4 j (by omega) (by omega))
    rw [Nat.zero_add] at sk
    have hcq : cn (opn bl n) q = 0 := sk.2.2
    have hP : PP bl n tr q = bl := sk.2.1
    have hR : rmn (okM sl ed hu kd wd ht rm mo bs bu) bl n tr (q + 1) = (qts bl sl ed hu kd wd ht rm mo bs bu n) := by
      have qk := qs_skip (ok := (okM sl ed hu kd wd ht rm mo bs bu)) (bl := bl) (n := n) (T := bl) (s := 0) (k := q) (by omega) (fun j h1 h2 => hq4 j (by omega) (by omega))
      rw [Nat.zero_add, Nat.sub_zero] at qk
      simp only [rmn, if_pos hq3]
      rw [hcq, ht0, hP, sk.1, show 24 - ((-1 : Int) + 1).toNat = 24 by decide, gg_all hq3]
      show _ ++ [] = _
      rw [List.append_nil]
      exact qk.symm
    obtain ⟨de2, fo2, tt2, tr2, x1, hev⟩ := N_work (un := un) (nk := nk) (le := le) (ap := ap) (nu := nu) (me := me) (bs := bs) (bu := bu) hB0 (mu tr (0 + 1)) q 0 tt tr bl none none hq3 hcq.symm htr hrS hbl (fun j _ _ => by rw [hP]) (fun j hj => absurd hj (by omega)) (Or.inr ht0) (Nat.le_refl _)
    rw [hR] at x1
    obtain ⟨y1, y2, ⟨z1, z2⟩ | ⟨x, xs, z1, z2, z3, z4, z5, z6, z7⟩⟩ := x1
    · subst z2
      exact Or.inl ⟨z1, _, hout y1 y2, N_head (de := 0) (fo := 0) hB0 (by omega) (Or.inl rfl) hev⟩
    · subst z2
      subst z3
      exact Or.inr ⟨x, xs, _, z1, ⟨H, oa, N, tt2, tr2, hF, hLn, hB0, rfl, y1, y2, z4, z5, z6, z7⟩, N_head (de := 0) (fo := 0) hB0 (by omega) (Or.inl rfl) hev⟩
theorem M_nq2 {R : List (List Int)} {x : List Int} {H2 : mH} (h : fou H0 bl sl td ed hu kd wd ht rm mo sd bo un nk le ap nu me bs bu n R x H2) : (R = [] ∧ ∃ H3, mOut H0 H3 kd un nk le ap nu me ∧ Call 4 141 [mR 74] H2 (mI 0) H3) ∨ ∃ x xs H3, R = x :: xs ∧ fou H0 bl sl td ed hu kd wd ht rm mo sd bo un nk le ap nu me bs bu n xs x H3 ∧ Call 4 141 [mR 74] H2 (mI 1) H3 := by
  obtain ⟨H, oa, N, tt, tr, hF, hLn, hB, rfl, htl, htr, hrS, hx, hR, hb⟩ := h
  have hB0 := hB
  obtain ⟨-, -, -, hz, htd, hrT, h87, hol, hoa, hD, hn, hbl, hN⟩ := hB
  obtain ⟨r1, r2, r3, r4, r5, r6, r7, b1, b2⟩ := hD
  have hw := wh_bd r2.1 r2.2 r3.1 r3.2
  have hcb := cn_bd (opn bl n) n
  have hout : ∀ {de fo : Int} {tt tr : List Int}, tt.length = 15 → tr.length = 9 → mOut H0 (sH H kd un nk le ap nu me (N : Int) de fo bs bu tt tr) kd un nk le ap nu me := fun a b => ⟨Fr_trans hF (sH_fr hLn a b), _, _, _, _, _, sH_74 hB0⟩
  rcases pop_rem (ok := (okM sl ed hu kd wd ht rm mo bs bu)) (bl := bl) (n := n) (tr := tr) (s := n) (Nat.le_refl _) with ⟨z1, z2, z3⟩ | ⟨q, hq1, hq3, hq5, hq6, hq7⟩
  · exact Or.inl ⟨by rw [← hR, z3], _, hout htl htr, N_head (de := N) (fo := 1) hB0 (by omega) (Or.inr rfl) (N_none hB0 (by omega))⟩
  · have hcq := cn_bd (opn bl n) q
    obtain ⟨de2, fo2, tt2, tr2, x1, hev⟩ := N_work (un := un) (nk := nk) (le := le) (ap := ap) (nu := nu) (me := me) (bs := bs) (bu := bu) hB0 (mu tr (N - 1 + 1)) q (N - 1) tt tr x none none hq3 (by omega) htr hrS (by rw [hx]; exact PP_len hbl n) (fun j hj hjq => by
      rw [hx, hq7]
      simp only [PP, if_pos hq3]
      rw [ix_upn (PP_len hbl q) (by omega), if_neg (fun z => hjq z.symm)]) (fun j hj => hb j (by omega)) (Or.inl (by have := hb (N - 1) (by omega); omega)) (Nat.le_refl _)
    rw [← hq6, hR] at x1
    rw [show ((N - 1 : Nat) : Int) = (N : Int) - 1 by omega] at hev
    obtain ⟨y1, y2, ⟨z1, z2⟩ | ⟨x, xs, z1, z2, z3, z4, z5, z6, z7⟩⟩ := x1
    · subst z2
      exact Or.inl ⟨z1, _, hout y1 y2, N_head (de := N) (fo := 1) hB0 (by omega) (Or.inr rfl) hev⟩
    · subst z2
      subst z3
      exact Or.inr ⟨x, xs, _, z1, ⟨H, oa, N, tt2, tr2, hF, hLn, hB0, rfl, y1, y2, z4, z5, z6, z7⟩, N_head (de := N) (fo := 1) hB0 (by omega) (Or.inr rfl) hev⟩
theorem M_nq {R : List (List Int)} {H2 : mH} (h : sst H0 bl sl td ed hu kd wd ht rm mo sd bo un nk le ap nu me bs bu n R H2) : (R = [] ∧ ∃ H3, mOut H0 H3 kd un nk le ap nu me ∧ Call 4 141 [mR 74] H2 (mI 0) H3) ∨ ∃ x xs H3, R = x :: xs ∧ fou H0 bl sl td ed hu kd wd ht rm mo sd bo un nk le ap nu me bs bu n xs x H3 ∧ Call 4 141 [mR 74] H2 (mI 1) H3 := by
  rcases h with ⟨h, rfl⟩ | ⟨x, h⟩
  · exact M_nq1 h
  · exact M_nq2 h
end NR
/-- where the open squares are -/
def oaf (bl : List Int) (n : Nat) (oa : List Int) : Nat → List Int
  | 0 => oa
  | i + 1 => if opn bl n i = true then up (oaf bl n oa i) (cn (opn bl n) i) i else oaf bl n oa i
def stH (H : mH) (oa tr m : List Int) : mH := pt (pt (pt H 87 oa) 88 tr) 74 m
section NS
variable {H0 H : mH} {kd un nk le ap nu me op de fo bs bu wd ht rm mo sd bo : Int} {ed hu bl sl td tt ss : List Int} {A W oa tr T : List Int} {n N : Nat} {m m2 oa2 tr2 : List Int}
theorem oaf_len (bl : List Int) (n : Nat) (oa : List Int) : ∀ i, (oaf bl n oa i).length = oa.length
  | 0 => rfl
  | i + 1 => by
    simp only [oaf]
    split
    · rw [up_len]; exact oaf_len bl n oa i
    · exact oaf_len bl n oa i
theorem oaf_ix (hl : oa.length = 9) : ∀ {i : Nat}, i ≤ 9 → ∀ s : Nat, s < i → opn bl n s = true → ix (oaf bl n oa i) (cn (opn bl n) s) = s
  | 0, _, s, hs, _ => absurd hs (by omega)
  | i + 1, hi, s, hs, ho => by
    have hb := cn_bd (opn bl n) i
    have hb2 := cn_bd (opn bl n) s
    have hlen := oaf_len bl n oa i
    by_cases e : s = i
    · subst e
      simp only [oaf, if_pos ho]
      rw [ix_up (by omega) (by omega) (by omega), if_pos rfl]
    · have ih := oaf_ix hl (i := i) (by omega) s (by omega) ho
      have hm := cn_mono (p := opn bl n) (show s + 1 ≤ i by omega)
      rw [cn_t ho] at hm
      simp only [oaf]
      split
      · rw [ix_up (by omega) (by omega) (by omega), if_neg (by omega)]
        exact ih
      · exact ih
theorem stH_74 (h : ∃ q, H[74]? = some (7, q)) : (stH H oa tr m)[74]? = some (7, m) := by
  obtain ⟨q, h⟩ := h
  exact pt_self (pt_nx (by decide) (pt_nx (by decide) h))
theorem stH_87 (h : H[87]? = some (8, T)) : (stH H oa tr m)[87]? = some (8, oa) := pt_nx (by decide) (pt_nx (by decide) (pt_self h))
theorem stH_88 (h : H[88]? = some (8, T)) : (stH H oa tr m)[88]? = some (8, tr) := pt_nx (by decide) (pt_self (pt_nx (by decide) h))
theorem stH_ne {a : Nat} {c : Option (Nat × List Int)} (h1 : 74 ≠ a) (h2 : 87 ≠ a) (h3 : 88 ≠ a) (h : H[a]? = c) : (stH H oa tr m)[a]? = c := pt_nx h1 (pt_nx h3 (pt_nx h2 h))
theorem stH_m : pt (stH H oa tr m) 74 m2 = stH H oa tr m2 := by
  unfold stH
  rw [pt_pt]
theorem stH_tr : pt (stH H oa tr m) 88 tr2 = stH H oa tr2 m := by
  unfold stH
  rw [pt_swap (a := 74) (b := 88) (by decide), pt_pt]
theorem stH_oa : pt (stH H oa tr m) 87 oa2 = stH H oa2 tr m := by
  unfold stH
  rw [pt_swap (a := 74) (b := 87) (by decide), pt_swap (a := 88) (b := 87) (by decide), pt_pt]
theorem M_starts (hM : H[74]? = some (7, mdL kd un nk le ap nu me op de fo bs bu)) (hD : okD kd wd ht rm mo sd bo ed hu) (hz : H[75]? = some (8, [wd, ht, rm, mo, sd, bo])) (htd : H[76]? = some (8, td)) (hrT : relT td ed hu kd) (htt : H[85]? = some (8, tt)) (hrS : relS tt bl sl kd) (h87 : H[87]? = some (8, oa)) (hol : oa.length = 9) (h88 : H[88]? = some (8, tr)) (htl : tr.length = 9) (hn : (n : Int) = wd * ht) (hbl : bl.length = 6) : ∃ H2, fre H bl sl td ed hu kd wd ht rm mo sd bo un nk le ap nu me (-9) (-9) n H2 ∧ Call 1 139 [mR 74] H none H2 := by
  have hD0 := hD
  have hrS0 := hrS
  obtain ⟨r1, r2, r3, r4, r5, r6, r7, b1, b2⟩ := hD
  obtain ⟨nt, q1, q2, q3, q4, q5⟩ := hrS
  have hw := wh_bd r2.1 r2.2 r3.1 r3.2
  have hcb := cn_bd (opn bl n) n
  obtain ⟨N, hN⟩ : ∃ N : Nat, (N : Int) = cn (opn bl n) n := ⟨(cn (opn bl n) n).toNat, by omega⟩
  have hlE := oaf_len bl n oa n
  have f87 : Fr inMs H (pt H 87 (oaf bl n oa n)) := Fr_pt (by unfold inMs; omega) h87 hlE
  have hst : H = (stH H oa tr (mdL kd un nk le ap nu me op de fo bs bu)) := by
    unfold stH
    rw [pt_same h87, pt_same h88, pt_same hM]
  have g74 : ∀ {oa2 tr2 m2 : List Int}, (stH H oa2 tr2 m2)[74]? = some (7, m2) := stH_74 ⟨_, hM⟩
  have g87 : ∀ {oa2 tr2 m2 : List Int}, (stH H oa2 tr2 m2)[87]? = some (8, oa2) := stH_87 h87
  have g88 : ∀ {oa2 tr2 m2 : List Int}, (stH H oa2 tr2 m2)[88]? = some (8, tr2) := stH_88 h88
  have gz : ∀ {oa2 tr2 m2 : List Int}, (stH H oa2 tr2 m2)[75]? = some (8, [wd, ht, rm, mo, sd, bo]) := stH_ne (by decide) (by decide) (by decide) hz
  have g85 : ∀ {oa2 tr2 m2 : List Int}, (stH H oa2 tr2 m2)[85]? = some (8, tt) := stH_ne (by decide) (by decide) (by decide) htt
  refine ⟨sH (pt H 87 (oaf bl n oa n)) kd un nk le ap nu me (N : Int) 0 0 (-9) (-9) tt (up tr 0 (-1)), ⟨pt H 87 (oaf bl n oa n), oaf bl n oa n, N, tt, up tr 0 (-1), f87, ⟨⟨_, pt_nx (by decide) hM, rfl⟩, ⟨_, pt_nx (by decide) htt, nt⟩, _, pt_nx (by decide) h88, htl⟩, ⟨⟨_, pt_nx (by decide) hM⟩, ⟨_, pt_nx (by decide) htt⟩, ⟨_, pt_nx (by decide) h88⟩, pt_nx (by decide) hz, pt_nx (by decide) htd, hrT, pt_self h87, by omega, fun s ho => oaf_ix hol (by omega) s (opn_t.mp ho).1 ho, hD0, hn, hbl, hN⟩, rfl, nt, by rw [up_len]; exact htl, by rw [ix_up (by omega) (by omega) (by omega), if_pos rfl], hrS0⟩, ?_⟩
  have hend : sH (pt H 87 (oaf bl n oa n)) kd un nk le ap nu me (N : Int) 0 0 (-9) (-9) tt (up tr 0 (-1)) = (stH H (oaf bl n oa n) (up tr 0 (-1)) (mdL kd un nk le ap nu me (cn (opn bl n) n) 0 0 (-9) (-9))) := by
    unfold sH stH
    rw [pt_same (a := 85) (pt_nx (by decide) htt), hN]
  rw [hend]
  refine Call_of rfl ?_
  refine Ev_cast (H := (stH H oa tr (mdL kd un nk le ap nu me op de fo bs bu))) ?_ rfl hst
  refine E_aload_n (pc' := 1) g139_0 rfl rfl ?_
  refine E_iconst (pc' := 2) g139_1 (by decide) rfl ?_
  refine E_putf (pc' := 5) g139_2 f139_176 tg7_19 fn7_19 rfl rfl g74 (Nat.le_of_ble_eq_true rfl) ?_
  refine Ev_cast (H := (stH H oa tr (mdL kd un nk le ap nu me 0 de fo bs bu))) ?_ rfl stH_m
  refine E_iconst (pc' := 6) g139_5 (by decide) rfl ?_
  refine E_st1 (pc' := 7) g139_6 rfl ?_
  refine E_loop (n := n) (fun i => Ev 1 139 7 [mR 74, mI (i : Int)] [] (stH H (oaf bl n oa i) tr (mdL kd un nk le ap nu me (cn (opn bl n) i) de fo bs bu)) none (stH H (oaf bl n oa n) (up tr 0 (-1)) (mdL kd un nk le ap nu me (cn (opn bl n) n) 0 0 (-9) (-9)))) ?_ ?_ 0 (by omega)
  · intro i hi hh
    have hbi := cn_bd (opn bl n) i
    refine E_iload_n (pc' := 8) g139_7 rfl rfl ?_
    refine E_aload_n (pc' := 9) g139_8 rfl rfl ?_
    refine E_cV0i (pc' := 12) g139_9 k139_116 na111 rfl ow111 rfl (Nat.le_of_ble_eq_true rfl) g74 (M_squares g74 hD0 gz) (by decide) ?_
    refine E_icge (pc' := 15) (pt := 52) g139_12 rfl rfl (fun c0 => ?_) (fun c0 => ?_)
    · exact absurd c0 (by omega)
    · refine E_aload_n (pc' := 16) g139_15 rfl rfl ?_
      refine E_getR (pc' := 19) g139_16 f139_41 tg7_17 rfl g74 rfl ?_
      refine E_iload_n (pc' := 20) g139_19 rfl rfl ?_
      refine E_iald (pc' := 21) (v := ix bl i) g139_20 rfl g85 (by omega) (by omega) (q1 i (by omega) (by omega)) ?_
      refine E_bipush (pc' := 23) g139_21 (by decide) rfl ?_
      refine E_icne (pc' := 26) (pt := 46) g139_23 rfl rfl (fun c1 => ?_) (fun c1 => ?_)
      · first | (refine Ev_cast (H := (stH H (up (oaf bl n oa i) (cn (opn bl n) i) i) tr (mdL kd un nk le ap nu me (cn (opn bl n) i + 1) de fo bs bu))) ?_ rfl stH_m) | skip
        refine E_in1 (pc' := 49) g139_46 rfl (m_in_iff.mpr (by omega)) ?_
        refine E_goto (pc' := 7) g139_49 rfl ?_
        first
        | (have ho : opn bl n i = true := opn_t.mpr ⟨hi, by omega⟩
           exact Ev_cast hh rfl (by simp only [oaf, if_pos ho]; rw [cn_t ho]))
        | (have ho : opn bl n i = false := by
             cases q : opn bl n i with
             | false => rfl
             | true => exact absurd (opn_t.mp q).2 (by omega)
           exact Ev_cast hh rfl (by simp only [oaf, ho]; rw [cn_f ho]; rfl))
      · refine E_aload_n (pc' := 27) g139_26 rfl rfl ?_
        refine E_getR (pc' := 30) g139_27 f139_47 tg7_20 rfl g74 rfl ?_
        refine E_aload_n (pc' := 31) g139_30 rfl rfl ?_
        refine E_getI (pc' := 34) g139_31 f139_176 tg7_19 (by decide) rfl g74 rfl ?_
        refine E_iload_n (pc' := 35) g139_34 rfl rfl ?_
        refine E_iastore (pc' := 36) g139_35 rfl g87 (by omega) (by rw [oaf_len]; omega) ?_
        rw [stH_oa]
        refine E_aload_n (pc' := 37) g139_36 rfl rfl ?_
        refine E_dup (pc' := 38) g139_37 rfl ?_
        refine E_getI (pc' := 41) g139_38 f139_176 tg7_19 (by decide) rfl g74 rfl ?_
        refine E_iconst (pc' := 42) g139_41 (by decide) rfl ?_
        refine E_iadd (pc' := 43) g139_42 (m_in_iff.mpr (by omega)) rfl ?_
        refine E_putf (pc' := 46) g139_43 f139_176 tg7_19 fn7_19 rfl rfl g74 (Nat.le_of_ble_eq_true rfl) ?_
        first | (refine Ev_cast (H := (stH H (up (oaf bl n oa i) (cn (opn bl n) i) i) tr (mdL kd un nk le ap nu me (cn (opn bl n) i + 1) de fo bs bu))) ?_ rfl stH_m) | skip
        refine E_in1 (pc' := 49) g139_46 rfl (m_in_iff.mpr (by omega)) ?_
        refine E_goto (pc' := 7) g139_49 rfl ?_
        first
        | (have ho : opn bl n i = true := opn_t.mpr ⟨hi, by omega⟩
           exact Ev_cast hh rfl (by simp only [oaf, if_pos ho]; rw [cn_t ho]))
        | (have ho : opn bl n i = false := by
             cases q : opn bl n i with
             | false => rfl
             | true => exact absurd (opn_t.mp q).2 (by omega)
           exact Ev_cast hh rfl (by simp only [oaf, ho]; rw [cn_f ho]; rfl))
  · refine E_iload_n (pc' := 8) g139_7 rfl rfl ?_
    refine E_aload_n (pc' := 9) g139_8 rfl rfl ?_
    refine E_cV0i (pc' := 12) g139_9 k139_116 na111 rfl ow111 rfl (Nat.le_of_ble_eq_true rfl) g74 (M_squares g74 hD0 gz) (by decide) ?_
    refine E_icge (pc' := 15) (pt := 52) g139_12 rfl rfl (fun c2 => ?_) (fun c2 => ?_)
    · refine E_aload_n (pc' := 53) g139_52 rfl rfl ?_
      refine E_iconst (pc' := 54) g139_53 (by decide) rfl ?_
      refine E_putf (pc' := 57) g139_54 f139_179 tg7_22 fn7_22 rfl rfl g74 (Nat.le_of_ble_eq_true rfl) ?_
      refine Ev_cast (H := (stH H (oaf bl n oa n) tr (mdL kd un nk le ap nu me (cn (opn bl n) n) 0 fo bs bu))) ?_ rfl stH_m
      refine E_aload_n (pc' := 58) g139_57 rfl rfl ?_
      refine E_getR (pc' := 61) g139_58 f139_50 tg7_21 rfl g74 rfl ?_
      refine E_iconst (pc' := 62) g139_61 (by decide) rfl ?_
      refine E_iconst (pc' := 63) g139_62 (by decide) rfl ?_
      refine E_iastore (pc' := 64) g139_63 rfl g88 (by omega) (by omega) ?_
      rw [stH_tr]
      refine E_aload_n (pc' := 65) g139_64 rfl rfl ?_
      refine E_iconst (pc' := 66) g139_65 (by decide) rfl ?_
      refine E_putf (pc' := 69) g139_66 f139_182 tg7_23 fn7_23 rfl rfl g74 (Nat.le_of_ble_eq_true rfl) ?_
      refine Ev_cast (H := (stH H (oaf bl n oa n) (up tr 0 (-1)) (mdL kd un nk le ap nu me (cn (opn bl n) n) 0 0 bs bu))) ?_ rfl stH_m
      refine E_aload_n (pc' := 70) g139_69 rfl rfl ?_
      refine E_bipush (pc' := 72) g139_70 (by decide) rfl ?_
      refine E_putf (pc' := 75) g139_72 f139_186 tg7_24 fn7_24 rfl rfl g74 (Nat.le_of_ble_eq_true rfl) ?_
      refine Ev_cast (H := (stH H (oaf bl n oa n) (up tr 0 (-1)) (mdL kd un nk le ap nu me (cn (opn bl n) n) 0 0 (-9) bu))) ?_ rfl stH_m
      refine E_aload_n (pc' := 76) g139_75 rfl rfl ?_
      refine E_bipush (pc' := 78) g139_76 (by decide) rfl ?_
      refine E_putf (pc' := 81) g139_78 f139_189 tg7_25 fn7_25 rfl rfl g74 (Nat.le_of_ble_eq_true rfl) ?_
      refine Ev_cast (H := (stH H (oaf bl n oa n) (up tr 0 (-1)) (mdL kd un nk le ap nu me (cn (opn bl n) n) 0 0 (-9) (-9)))) ?_ rfl stH_m
      exact E_ret g139_81 rt139 rfl rfl
    · exact absurd c2 (by omega)
end NS
