/-! the finder: the room in all, find -/
theorem pt_get (H : mH) (a b : Nat) (gs : List Int) : (pt H a gs)[b]? = if a = b then (H[b]?).map (fun c => (c.1, gs)) else H[b]? := by
  simp only [pt, List.getElem?_modify]
  by_cases e : a = b
  · simp [e]
  · simp [e]
theorem sm_bd {f : Nat → Int} {c : Int} : ∀ {n : Nat}, (∀ k, k < n → 0 ≤ f k ∧ f k ≤ c) → 0 ≤ sm f n ∧ sm f n ≤ c * n
  | 0, _ => by simp [sm]
  | n + 1, h => by
    have h1 := sm_bd (f := f) (c := c) (n := n) (fun k hk => h k (by omega))
    have h2 := h n (by omega)
    have h3 : c * ((n + 1 : Nat) : Int) = c * n + c := by rw [Int.natCast_add, Int.mul_add]; simp
    simp only [sm]
    omega
section FK
variable {H : mH} {ta : Nat} {bl sl : List Int} {kd wd ht rm mo sd bo : Int} {ed hu sk : List Int} {W gv la tr T x : List Int} {n s : Nat} {fo L : Int}
theorem C_room (hT : isTold H ta kd wd ht rm mo sd bo ed hu sk (hvs ed (4 * kd).toNat)) {sq f0 L0 : Int} (h24 : H[24]? = some (1, fdL sq f0 L0)) (h29 : H[29]? = some (8, krL sl bl kd)) (h30 : H[30]? = some (8, hrL bl hu mo)) (hsl : sml sl) : Call 1 11 [mR 24, mR ta] H (mI (sm (hroom bl sl hu mo kd.toNat) 6)) H := by
  obtain ⟨t0, t1, t2, t3, t4, ⟨r1, r2, r3, r4, r5, r6, r7, b1, b2, b3, b4, n1, n2, n3, n4⟩⟩ := hT
  have k1 := krL_len sl bl kd
  have k2 := hrL_len bl hu mo
  obtain ⟨m, hm⟩ : ∃ m : Nat, (m : Int) = kd := ⟨kd.toNat, by omega⟩
  rw [show kd.toNat = m by omega]
  have hk0 : ∀ (h : Nat) (k : Nat), 0 ≤ (if ix hu k = (h : Int) then max (ix sl k - nK bl k 6) 0 else 0) ∧ (if ix hu k = (h : Int) then max (ix sl k - nK bl k 6) 0 else 0) ≤ 1000 := by
    intro h k
    have s1 := hsl k
    have s2 := nK_bd bl k
    split <;> omega
  have hh0 : ∀ h : Nat, 0 ≤ hroom bl sl hu mo m h ∧ hroom bl sl hu mo m h ≤ 9 := by
    intro h
    have s2 := nH_bd bl hu h
    unfold hroom
    omega
  refine Call_of rfl ?_
  refine E_iconst (pc' := 1) g11_0 (by decide) rfl ?_
  refine E_st2 (pc' := 2) g11_1 rfl ?_
  refine E_iconst (pc' := 3) g11_2 (by decide) rfl ?_
  refine E_st3 (pc' := 4) g11_3 rfl ?_
  refine (E_loop (n := 6) (fun h => ∀ u v : mV, Ev 1 11 4 [mR 24, mR ta, mI (sm (hroom bl sl hu mo m) h), mI (h : Int), u, v] [] H (mI (sm (hroom bl sl hu mo m) 6)) H) ?_ ?_ 0 (by omega)) none none
  · intro h hi hh u v
    have hb := sm_bd (f := hroom bl sl hu mo m) (c := 9) (n := h) (fun k _ => hh0 k)
    refine E_iload_n (pc' := 5) g11_4 rfl rfl ?_
    refine E_bipush (pc' := 7) g11_5 (by decide) rfl ?_
    refine E_icge (pc' := 10) (pt := 86) g11_7 rfl rfl (fun c0 => ?_) (fun c0 => ?_)
    · exact absurd c0 (by omega)
    · refine E_iconst (pc' := 11) g11_10 (by decide) rfl ?_
      refine E_st4 (pc' := 13) g11_11 rfl ?_
      refine E_iconst (pc' := 14) g11_13 (by decide) rfl ?_
      refine E_st5 (pc' := 16) g11_14 rfl ?_
      refine E_loop (n := m) (fun k => Ev 1 11 16 [mR 24, mR ta, mI (sm (hroom bl sl hu mo m) h), mI (h : Int), mI (sm (fun (k : Nat) => if ix hu k = (h : Int) then max (ix sl k - nK bl k 6) 0 else 0) k), mI (k : Int)] [] H (mI (sm (hroom bl sl hu mo m) 6)) H) ?_ ?_ 0 (by omega)
      · intro k hk hh2
        have hb2 := sm_bd (f := (fun (k : Nat) => if ix hu k = (h : Int) then max (ix sl k - nK bl k 6) 0 else 0)) (c := 1000) (n := k) (fun k _ => hk0 h k)
        have hs1 := hsl k
        have hs2 := nK_bd bl k
        have hs3 : ix (krL sl bl kd) k = ix sl k - nK bl k 6 := by rw [krL_ix (by omega) (by omega), if_pos (by omega)]
        refine E_iload (pc' := 18) g11_16 rfl rfl ?_
        refine E_aload_n (pc' := 19) g11_18 rfl rfl ?_
        refine E_getI (pc' := 22) g11_19 f11_49 tg4_0 (by decide) rfl (by assumption) rfl ?_
        refine E_icge (pc' := 25) (pt := 62) g11_22 rfl rfl (fun c0 => ?_) (fun c0 => ?_)
        · exact absurd c0 (by omega)
        · refine E_iload (pc' := 27) g11_25 rfl rfl ?_
          refine E_aload_n (pc' := 28) g11_27 rfl rfl ?_
          refine E_getR (pc' := 31) g11_28 f11_90 tg4_8 rfl (by assumption) rfl ?_
          refine E_iload (pc' := 33) g11_31 rfl rfl ?_
          refine E_iaload (pc' := 34) g11_33 rfl (by assumption) (by omega) (by omega) ?_
          refine E_iload_n (pc' := 35) g11_34 rfl rfl ?_
          refine E_icne (pc' := 38) (pt := 52) g11_35 rfl rfl (fun c1 => ?_) (fun c1 => ?_)
          · refine E_iconst (pc' := 53) g11_52 (by decide) rfl ?_
            refine E_iadd (pc' := 54) g11_53 (m_in_iff.mpr (by omega)) rfl ?_
            refine E_st4 (pc' := 56) g11_54 rfl ?_
            refine E_in5 (pc' := 59) g11_56 rfl (m_in_iff.mpr (by omega)) ?_
            refine E_goto (pc' := 16) g11_59 rfl ?_
            first | exact Ev_cast hh2 (by show _ = [_, _, _, _, mI (sm _ k + (if ix hu k = (h : Int) then max (ix sl k - nK bl k 6) 0 else 0)), _]; rw [if_pos (by omega), krL_ix (by omega) (by omega), if_pos (by omega)]; rfl) rfl | exact Ev_cast hh2 (by show _ = [_, _, _, _, mI (sm _ k + (if ix hu k = (h : Int) then max (ix sl k - nK bl k 6) 0 else 0)), _]; rw [if_neg (by omega)]; rfl) rfl
          · refine E_aload_n (pc' := 39) g11_38 rfl rfl ?_
            refine E_getR (pc' := 42) g11_39 f11_25 tg1_4 rfl (by assumption) rfl ?_
            refine E_iload (pc' := 44) g11_42 rfl rfl ?_
            refine E_iaload (pc' := 45) g11_44 rfl (by assumption) (by omega) (by omega) ?_
            refine E_iconst (pc' := 46) g11_45 (by decide) rfl ?_
            refine E_max (pc' := 49) g11_46 k11_93 rfl (Nat.le_of_ble_eq_true rfl) ?_
            refine E_goto (pc' := 53) g11_49 rfl ?_
            refine E_iadd (pc' := 54) g11_53 (m_in_iff.mpr (by omega)) rfl ?_
            refine E_st4 (pc' := 56) g11_54 rfl ?_
            refine E_in5 (pc' := 59) g11_56 rfl (m_in_iff.mpr (by omega)) ?_
            refine E_goto (pc' := 16) g11_59 rfl ?_
            first | exact Ev_cast hh2 (by show _ = [_, _, _, _, mI (sm _ k + (if ix hu k = (h : Int) then max (ix sl k - nK bl k 6) 0 else 0)), _]; rw [if_pos (by omega), krL_ix (by omega) (by omega), if_pos (by omega)]; rfl) rfl | exact Ev_cast hh2 (by show _ = [_, _, _, _, mI (sm _ k + (if ix hu k = (h : Int) then max (ix sl k - nK bl k 6) 0 else 0)), _]; rw [if_neg (by omega)]; rfl) rfl
      · have hb2 := sm_bd (f := (fun (k : Nat) => if ix hu k = (h : Int) then max (ix sl k - nK bl k 6) 0 else 0)) (c := 1000) (n := m) (fun k _ => hk0 h k)
        have hs3 : ix (hrL bl hu mo) h = mo - nH bl hu h 6 := hrL_ix (by omega) (by omega)
        have hs4 := nH_bd bl hu h
        refine E_iload (pc' := 18) g11_16 rfl rfl ?_
        refine E_aload_n (pc' := 19) g11_18 rfl rfl ?_
        refine E_getI (pc' := 22) g11_19 f11_49 tg4_0 (by decide) rfl (by assumption) rfl ?_
        refine E_icge (pc' := 25) (pt := 62) g11_22 rfl rfl (fun c0 => ?_) (fun c0 => ?_)
        · refine E_iload_n (pc' := 63) g11_62 rfl rfl ?_
          refine E_iload (pc' := 65) g11_63 rfl rfl ?_
          refine E_aload_n (pc' := 66) g11_65 rfl rfl ?_
          refine E_getR (pc' := 69) g11_66 f11_28 tg1_5 rfl (by assumption) rfl ?_
          refine E_iload_n (pc' := 70) g11_69 rfl rfl ?_
          refine E_iaload (pc' := 71) g11_70 rfl (by assumption) (by omega) (by omega) ?_
          refine E_min (pc' := 74) g11_71 k11_99 rfl (Nat.le_of_ble_eq_true rfl) ?_
          refine E_iconst (pc' := 75) g11_74 (by decide) rfl ?_
          refine E_max (pc' := 78) g11_75 k11_93 rfl (Nat.le_of_ble_eq_true rfl) ?_
          refine E_iadd (pc' := 79) g11_78 (m_in_iff.mpr (by omega)) rfl ?_
          refine E_st2 (pc' := 80) g11_79 rfl ?_
          refine E_in3 (pc' := 83) g11_80 rfl (m_in_iff.mpr (by omega)) ?_
          refine E_goto (pc' := 4) g11_83 rfl ?_
          refine Ev_cast (hh (mI (sm (fun (k : Nat) => if ix hu k = (h : Int) then max (ix sl k - nK bl k 6) 0 else 0) m)) (mI (m : Int))) ?_ rfl
          show _ = [_, _, mI (sm _ h + hroom bl sl hu mo m h), _, _, _]
          unfold hroom
          rw [hrL_ix (by omega) (by omega)]
          rfl
        · exact absurd c0 (by omega)
  · intro u v
    refine E_iload_n (pc' := 5) g11_4 rfl rfl ?_
    refine E_bipush (pc' := 7) g11_5 (by decide) rfl ?_
    refine E_icge (pc' := 10) (pt := 86) g11_7 rfl rfl (fun c0 => ?_) (fun c0 => ?_)
    · refine E_iload_n (pc' := 87) g11_86 rfl rfl ?_
      exact E_iret g11_87 ro11 rfl rfl
    · exact absurd c0 (by omega)
/-- the finder's cells -/
def isFS (H : mH) (la : List Int) : Prop := (∃ sq f L, H[24]? = some (1, fdL sq f L)) ∧ (H[25]? = some (8, la) ∧ la.length = 6) ∧ (∃ q, H[26]? = some (8, q) ∧ q.length = 6) ∧ (∃ q, H[27]? = some (9, q) ∧ q.length = 6) ∧ (∃ q, H[28]? = some (8, q) ∧ q.length = 6) ∧ (∃ q, H[29]? = some (8, q) ∧ q.length = 6) ∧ (∃ q, H[30]? = some (8, q) ∧ q.length = 6)
def gH (H : mH) (sq f L : Int) (tr gv ch kr hr : List Int) : mH := pt (pt (pt (pt (pt (pt H 26 tr) 27 gv) 28 ch) 29 kr) 30 hr) 24 (fdL sq f L)
section GH
variable {H : mH} {la tr tr2 gv gv2 ch ch2 kr kr2 hr hr2 : List Int} {sq f L sq2 f2 L2 : Int}
theorem gH_24 (hF : isFS H la) : (gH H sq f L tr gv ch kr hr)[24]? = some (1, fdL sq f L) := by
  obtain ⟨⟨_, _, _, h⟩, -⟩ := hF
  exact pt_self (pt_nx (by decide) (pt_nx (by decide) (pt_nx (by decide) (pt_nx (by decide) (pt_nx (by decide) h)))))
theorem gH_26 (hF : isFS H la) : (gH H sq f L tr gv ch kr hr)[26]? = some (8, tr) := by
  obtain ⟨-, -, ⟨_, h, -⟩, -⟩ := hF
  exact pt_nx (by decide) (pt_nx (by decide) (pt_nx (by decide) (pt_nx (by decide) (pt_nx (by decide) (pt_self h)))))
theorem gH_27 (hF : isFS H la) : (gH H sq f L tr gv ch kr hr)[27]? = some (9, gv) := by
  obtain ⟨-, -, -, ⟨_, h, -⟩, -⟩ := hF
  exact pt_nx (by decide) (pt_nx (by decide) (pt_nx (by decide) (pt_nx (by decide) (pt_self (pt_nx (by decide) h)))))
theorem gH_28 (hF : isFS H la) : (gH H sq f L tr gv ch kr hr)[28]? = some (8, ch) := by
  obtain ⟨-, -, -, -, ⟨_, h, -⟩, -⟩ := hF
  exact pt_nx (by decide) (pt_nx (by decide) (pt_nx (by decide) (pt_self (pt_nx (by decide) (pt_nx (by decide) h)))))
theorem gH_29 (hF : isFS H la) : (gH H sq f L tr gv ch kr hr)[29]? = some (8, kr) := by
  obtain ⟨-, -, -, -, -, ⟨_, h, -⟩, -⟩ := hF
  exact pt_nx (by decide) (pt_nx (by decide) (pt_self (pt_nx (by decide) (pt_nx (by decide) (pt_nx (by decide) h)))))
theorem gH_30 (hF : isFS H la) : (gH H sq f L tr gv ch kr hr)[30]? = some (8, hr) := by
  obtain ⟨-, -, -, -, -, -, ⟨_, h, -⟩⟩ := hF
  exact pt_nx (by decide) (pt_self (pt_nx (by decide) (pt_nx (by decide) (pt_nx (by decide) (pt_nx (by decide) h)))))
theorem gH_ne {a : Nat} {c : Option (Nat × List Int)} (ha : a < 24) (h : H[a]? = c) : (gH H sq f L tr gv ch kr hr)[a]? = c :=
  pt_nx (by omega) (pt_nx (by omega) (pt_nx (by omega) (pt_nx (by omega) (pt_nx (by omega) (pt_nx (by omega) h)))))
theorem gH_tr : pt (gH H sq f L tr gv ch kr hr) 26 tr2 = gH H sq f L tr2 gv ch kr hr := by
  unfold gH
  rw [pt_swap (a := 24) (b := 26) (by decide), pt_swap (a := 30) (b := 26) (by decide), pt_swap (a := 29) (b := 26) (by decide), pt_swap (a := 28) (b := 26) (by decide), pt_swap (a := 27) (b := 26) (by decide), pt_pt]
theorem gH_gv : pt (gH H sq f L tr gv ch kr hr) 27 gv2 = gH H sq f L tr gv2 ch kr hr := by
  unfold gH
  rw [pt_swap (a := 24) (b := 27) (by decide), pt_swap (a := 30) (b := 27) (by decide), pt_swap (a := 29) (b := 27) (by decide), pt_swap (a := 28) (b := 27) (by decide), pt_pt]
theorem gH_ch : pt (gH H sq f L tr gv ch kr hr) 28 ch2 = gH H sq f L tr gv ch2 kr hr := by
  unfold gH
  rw [pt_swap (a := 24) (b := 28) (by decide), pt_swap (a := 30) (b := 28) (by decide), pt_swap (a := 29) (b := 28) (by decide), pt_pt]
theorem gH_kr : pt (gH H sq f L tr gv ch kr hr) 29 kr2 = gH H sq f L tr gv ch kr2 hr := by
  unfold gH
  rw [pt_swap (a := 24) (b := 29) (by decide), pt_swap (a := 30) (b := 29) (by decide), pt_pt]
theorem gH_hr : pt (gH H sq f L tr gv ch kr hr) 30 hr2 = gH H sq f L tr gv ch kr hr2 := by
  unfold gH
  rw [pt_swap (a := 24) (b := 30) (by decide), pt_pt]
theorem gH_f : pt (gH H sq f L tr gv ch kr hr) 24 (fdL sq2 f2 L2) = gH H sq2 f2 L2 tr gv ch kr hr := by
  unfold gH
  rw [pt_pt]
end GH
def inF (a : Nat) : Prop := 24 ≤ a ∧ a ≤ 30
theorem adv_nil {L : Int} {q : Int × List Int} : adv L q [] = q := rfl
theorem lay_g {lay : Nat} {sq f L : Int} {tr gv ch kr hr : List Int} (hL : isLay H lay bl sl) (h : lay + 2 < 24) : isLay (gH H sq f L tr gv ch kr hr) lay bl sl := lay_keep (lay_keep (lay_keep (lay_keep (lay_keep (lay_keep hL (by omega)) (by omega)) (by omega)) (by omega)) (by omega)) (by omega)
theorem told_g {hv : List Int} {sq f L : Int} {tr gv ch kr hr : List Int} (hT : isTold H ta kd wd ht rm mo sd bo ed hu sk hv) (h : ta + 4 < 24) : isTold (gH H sq f L tr gv ch kr hr) ta kd wd ht rm mo sd bo ed hu sk hv := told_keep (told_keep (told_keep (told_keep (told_keep (told_keep hT (by omega)) (by omega)) (by omega)) (by omega)) (by omega)) (by omega)
theorem lay_f {lay : Nat} {a : Nat} {g : List Int} (hL : isLay H lay bl sl) (h : lay + 2 < a) : isLay (pt H a g) lay bl sl := lay_keep hL (by omega)
set_option maxHeartbeats 4000000 in
theorem C_find (hT : isTold H ta kd wd ht rm mo sd bo ed hu sk (hvs ed (4 * kd).toNat)) (hta : ta = 3 ∨ ta = 8) {lay : Nat} (hla : lay = 13 ∨ lay = 16) (hLy : isLay H lay bl sl) (hFS : isFS H la) (h23 : H[23]? = some (8, W)) (hWl : W.length = 6) (hW : bet W 0 16777215) (hn : (n : Int) = wd * ht) (hB : ∀ j : Nat, j < 6 → ix bl j = -9 ∨ (0 ≤ ix bl j ∧ ix bl j < kd * 4)) {bs bu : Int} (hG : gfam bl ed wd ht (iniF bl sl ed hu kd wd ht rm mo bs bu n) W) (hL : 1 ≤ L ∧ L ≤ 1000) :
    ∃ H2, Fr inF H H2 ∧ isFS H2 (adv L (0, la) (qts bl sl ed hu kd wd ht rm mo bs bu n)).2 ∧ Call 16 8 [mR 24, mR ta, mR lay, mR 23, mI L] H (mI (adv L (0, la) (qts bl sl ed hu kd wd ht rm mo bs bu n)).1) H2 := by
  have hT1 := hT
  have hL1 := hLy
  have hFS0 := hFS
  obtain ⟨⟨sq0, f0, L0, h24⟩, ⟨h25, l25⟩, ⟨tr0, h26, l26⟩, ⟨gv0, h27, l27⟩, ⟨ch0, h28, l28⟩, ⟨kr0, h29, l29⟩, ⟨hr0, h30, l30⟩⟩ := hFS
  obtain ⟨t0, t1, t2, t3, t4, ⟨r1, r2, r3, r4, r5, r6, r7, b1, b2, b3, b4, n1, n2, n3, n4⟩⟩ := hT
  obtain ⟨y0, y1, y2, l1, l2, ob, hsl⟩ := hLy
  have hw := wh_bd r2.1 r2.2 r3.1 r3.2
  have hGl : ((List.range 6).map (fun j => b01 (opn bl n j))).length = 6 := by simp
  have eq0 : qs (okC W sl ed hu wd ht mo) (opn bl n) n 0 bl = qts bl sl ed hu kd wd ht rm mo bs bu n := qts_eq r2 r3 hn l1 hG
  have hWI : ∀ s b : Nat, inW W s b → (b : Int) < kd * 4 ∧ plB ed b = true := fun s b h => by
    have := hG.1 s b h
    exact ⟨this.2.1, this.2.2.1⟩
  have hF : isFin (pt (pt H 27 ((List.range 6).map (fun j => b01 (opn bl n j)))) 28 W) ((List.range 6).map (fun j => b01 (opn bl n j))) W := ⟨⟨_, pt_nx (by decide) (pt_nx (by decide) h24)⟩, ⟨_, pt_nx (by decide) (pt_nx (by decide) h25)⟩, ⟨_, pt_nx (by decide) (pt_nx (by decide) h26)⟩, pt_nx (by decide) (pt_self h27), pt_self (pt_nx (by decide) h28), ⟨_, pt_nx (by decide) (pt_nx (by decide) h29)⟩, ⟨_, pt_nx (by decide) (pt_nx (by decide) h30)⟩⟩
  have hT2 : isTold (pt (pt H 27 ((List.range 6).map (fun j => b01 (opn bl n j)))) 28 W) ta kd wd ht rm mo sd bo ed hu sk (hvs ed (4 * kd).toNat) := told_keep (told_keep hT1 (by omega)) (by omega)
  generalize hGV : (List.range 6).map (fun j => b01 (opn bl n j)) = GV at *
  have hGi : ∀ j : Nat, j < 6 → ix GV j = b01 (opn bl n j) := fun j hj => by rw [← hGV, mp6_ix (by omega) (by omega)]; rfl
  obtain ⟨tr2, htr2, hc⟩ := C_give (H := pt (pt H 27 GV) 28 W) (bl := bl) (gv := GV) hT2 hta hF hn hsl (L := L) (by omega) hW hWl hWI hGl hGi n 0 bl la bl 0 (by omega) l1 (fun j _ h => (opn_t.mp h).2) ⟨l1, fun _ _ _ => rfl⟩ l25 (by omega) (by omega)
  rw [eq0] at hc
  have k1 := krL_len sl bl kd
  have k2 := hrL_len bl hu mo
  have hF3 : ∀ {la3 tr3 : List Int} {f3 : Int}, la3.length = 6 → tr3.length = 6 → Fr inF H (fH (pt (pt H 27 GV) 28 W) n la3 tr3 f3 L (krL sl bl kd) (hrL bl hu mo)) ∧ isFS (fH (pt (pt H 27 GV) 28 W) n la3 tr3 f3 L (krL sl bl kd) (hrL bl hu mo)) la3 := by
    intro la3 tr3 f3 q1 q2
    refine ⟨?_, ⟨_, _, _, fH_24 hF⟩, ⟨fH_25 hF, q1⟩, ⟨_, fH_26 hF, q2⟩, ⟨_, fH_27 hF, hGl⟩, ⟨_, fH_28 hF, hWl⟩, ⟨_, fH_29 hF, k1⟩, ⟨_, fH_30 hF, k2⟩⟩
    unfold fH
    exact Fr_and (Fr_and (Fr_and (Fr_and (Fr_and (Fr_and (Fr_pt ⟨by decide, by decide⟩ h27 (by omega)) ⟨by decide, by decide⟩ h28 (by omega)) ⟨by decide, by decide⟩ h25 (by omega)) ⟨by decide, by decide⟩ h26 (by omega)) ⟨by decide, by decide⟩ h29 (by omega)) ⟨by decide, by decide⟩ h30 (by omega)) ⟨by decide, by decide⟩ h24 rfl
  have hroomC : Call 1 11 [mR 24, mR ta] (fH (pt (pt H 27 GV) 28 W) n la bl 0 L (krL sl bl kd) (hrL bl hu mo)) (mI (sm (hroom bl sl hu mo kd.toNat) 6)) (fH (pt (pt H 27 GV) 28 W) n la bl 0 L (krL sl bl kd) (hrL bl hu mo)) := C_room (fH_told hT2 hta) (fH_24 hF) (fH_29 hF) (fH_30 hF) hsl
  have heapE : gH H n 0 L bl GV W (krL sl bl kd) (hrL bl hu mo) = fH (pt (pt H 27 GV) 28 W) n la bl 0 L (krL sl bl kd) (hrL bl hu mo) := by
    unfold gH
    unfold fH
    apply List.ext_getElem?
    intro j
    simp only [pt_get]
    by_cases e24 : 24 = j
    · subst e24; simp
    by_cases e25 : 25 = j
    · subst e25; simp [h25]
    by_cases e26 : 26 = j
    · subst e26; simp
    by_cases e27 : 27 = j
    · subst e27; simp
    by_cases e28 : 28 = j
    · subst e28; simp
    by_cases e29 : 29 = j
    · subst e29; simp
    by_cases e30 : 30 = j
    · subst e30; simp
    simp [e24, e25, e26, e27, e28, e29, e30]
  have h18 : ∀ {H2 : mH} {k : Nat}, isLay H2 lay bl sl → k < 6 → Call 0 18 [mR lay, mI (k : Int)] H2 (mI (ix sl k - nK bl k 6)) H2 := fun hq hk => C_leftOf hq (by omega)
  have hGV6 : fil gv0 0 (fun k => b01 (opn bl n k)) 6 = GV := by
    apply ix_ext (by rw [fil_len, l27, hGl])
    intro j h0 h1
    rw [fil_len] at h1
    rw [fil_ix (by omega) (by omega) h0, if_pos (by omega)]
    have := hGi j.toNat (by omega)
    rw [show ((j.toNat : Nat) : Int) = j by omega] at this
    rw [this, show (j - 0).toNat = j.toNat by omega]
  by_cases hroom : cn (opn bl n) 6 ≤ sm (hroom bl sl hu mo kd.toNat) 6
  · obtain ⟨x1, x2⟩ := hF3 (la3 := (adv L (0, la) (qts bl sl ed hu kd wd ht rm mo bs bu n)).2) (tr3 := tr2) (f3 := (adv L (0, la) (qts bl sl ed hu kd wd ht rm mo bs bu n)).1) (adv_len (q := (0, la)) l25 (fun x hx => qs_len l1 hx)) htr2.1
    refine ⟨_, x1, x2, ?_⟩
    refine Call_of rfl ?_
    refine E_aload_n (pc' := 1) g8_0 rfl rfl ?_
    refine E_aload_n (pc' := 2) g8_1 rfl rfl ?_
    refine E_cV0i (pc' := 5) g8_2 k8_31 na36 rfl ow36 rfl (Nat.le_of_ble_eq_true rfl) t0 (C_squares hT1) (by decide) ?_
    refine E_putf (pc' := 8) g8_5 f8_37 tg1_6 fn1_6 rfl rfl (by assumption) (Nat.le_of_ble_eq_true rfl) ?_
    refine Ev_cast (H := gH H n f0 L0 tr0 gv0 ch0 kr0 hr0) ?_ rfl ((show _ = pt H 24 (fdL n f0 L0) by rw [hn]; rfl).trans (by unfold gH; rw [pt_same h26, pt_same h27, pt_same h28, pt_same h29, pt_same h30]))
    refine E_iconst (pc' := 9) g8_8 (by decide) rfl ?_
    refine E_st5 (pc' := 11) g8_9 rfl ?_
    refine E_iconst (pc' := 12) g8_11 (by decide) rfl ?_
    refine E_st6 (pc' := 14) g8_12 rfl ?_
    refine Ev_cast (ls := [mR 24, mR ta, mR lay, mR 23, mI L, mI (cn (opn bl n) 0), mI (((0 : Nat) : Int))]) (H := (gH H n f0 L0 (fil tr0 0 (fun k => ix bl k) 0) (fil gv0 0 (fun k => b01 (opn bl n k)) 0) (fil ch0 0 (fun k => ix W k) 0) kr0 hr0)) ?_ (by simp [cn]) (by simp only [fil])
    refine E_loop (n := 6) (fun i => Ev 16 8 14 [mR 24, mR ta, mR lay, mR 23, mI L, mI (cn (opn bl n) i), mI ((i : Int))] [] (gH H n f0 L0 (fil tr0 0 (fun k => ix bl k) i) (fil gv0 0 (fun k => b01 (opn bl n k)) i) (fil ch0 0 (fun k => ix W k) i) kr0 hr0) (mI (adv L (0, la) (qts bl sl ed hu kd wd ht rm mo bs bu n)).1) (fH (pt (pt H 27 GV) 28 W) n (adv L (0, la) (qts bl sl ed hu kd wd ht rm mo bs bu n)).2 tr2 (adv L (0, la) (qts bl sl ed hu kd wd ht rm mo bs bu n)).1 L (krL sl bl kd) (hrL bl hu mo))) ?_ ?_ 0 (by omega)
    · intro i hi hh
      have hcb := cn_bd (opn bl n) i
      have e3 := isO_or bl i
      by_cases hoo : i < n ∧ ix bl i = -9
      · have ho : opn bl n i = true := opn_t.mpr hoo
        refine E_iload (pc' := 16) g8_14 rfl rfl ?_
        refine E_bipush (pc' := 18) g8_16 (by decide) rfl ?_
        refine E_icge (pc' := 21) (pt := 113) g8_18 rfl rfl (fun c0 => ?_) (fun c0 => ?_)
        · exact absurd c0 (by omega)
        · first
          | (exfalso; omega)
          | (refine E_aload_n (pc' := 22) g8_21 rfl rfl ?_
             refine E_getR (pc' := 25) g8_22 f8_15 tg1_1 rfl (gH_24 hFS0) rfl ?_
             refine E_iload (pc' := 27) g8_25 rfl rfl ?_
             refine E_aload_n (pc' := 28) g8_27 rfl rfl ?_
             refine E_getR (pc' := 31) g8_28 f8_40 tg2_0 rfl (gH_ne (by omega) y0) rfl ?_
             refine E_iload (pc' := 33) g8_31 rfl rfl ?_
             refine E_iaload (pc' := 34) g8_33 rfl (gH_ne (by omega) y1) (by omega) (by omega) ?_
             refine E_iastore (pc' := 35) g8_34 rfl (gH_26 hFS0) (by omega) (by rw [fil_len]; omega) ?_
             rw [gH_tr]
             refine E_aload_n (pc' := 36) g8_35 rfl rfl ?_
             refine E_getR (pc' := 39) g8_36 f8_18 tg1_2 rfl (gH_24 hFS0) rfl ?_
             refine E_iload (pc' := 41) g8_39 rfl rfl ?_
             refine E_iload (pc' := 43) g8_41 rfl rfl ?_
             refine E_aload_n (pc' := 44) g8_43 rfl rfl ?_
             refine E_getI (pc' := 47) g8_44 f8_37 tg1_6 (by decide) rfl (gH_24 hFS0) rfl ?_
             refine E_icge (pc' := 50) (pt := 63) g8_47 rfl rfl (fun c1 => ?_) (fun c1 => ?_)
             · first
               | (exfalso; omega)
               | (refine E_iconst (pc' := 64) g8_63 (by decide) rfl ?_
                  refine E_bastore (pc' := 65) g8_64 rfl (by omega) (gH_27 hFS0) (by omega) (by rw [fil_len]; omega) ?_
                  rw [gH_gv]
                  refine E_aload_n (pc' := 66) g8_65 rfl rfl ?_
                  refine E_getR (pc' := 69) g8_66 f8_22 tg1_3 rfl (gH_24 hFS0) rfl ?_
                  refine E_iload (pc' := 71) g8_69 rfl rfl ?_
                  refine E_iload (pc' := 73) g8_71 rfl rfl ?_
                  refine E_aload_n (pc' := 74) g8_73 rfl rfl ?_
                  refine E_alen (pc' := 75) g8_74 rfl (gH_ne (by decide) h23) (by decide) (m_in_iff.mpr (by omega)) ?_
                  refine E_icge (pc' := 78) (pt := 85) g8_75 rfl rfl (fun c2 => ?_) (fun c2 => ?_)
                  · first
                    | (exfalso; omega)
                    | (refine E_iconst (pc' := 86) g8_85 (by decide) rfl ?_
                       refine E_iastore (pc' := 87) g8_86 rfl (gH_28 hFS0) (by omega) (by rw [fil_len]; omega) ?_
                       rw [gH_ch]
                       refine E_iload (pc' := 89) g8_87 rfl rfl ?_
                       refine E_aload_n (pc' := 90) g8_89 rfl rfl ?_
                       refine E_getR (pc' := 93) g8_90 f8_18 tg1_2 rfl (gH_24 hFS0) rfl ?_
                       refine E_iload (pc' := 95) g8_93 rfl rfl ?_
                       refine E_baload (pc' := 96) g8_95 rfl (gH_27 hFS0) (by omega) (by rw [up_len, fil_len]; omega) ?_
                       rw [ix_up (by omega) (by rw [fil_len]; omega) (by omega), if_pos rfl]
                       refine E_ifeq (pc' := 99) (pt := 103) g8_96 rfl rfl (fun c3 => ?_) (fun c3 => ?_)
                       · first
                         | (exfalso; omega)
                         | (refine E_iconst (pc' := 104) g8_103 (by decide) rfl ?_
                            refine E_iadd (pc' := 105) g8_104 (m_in_iff.mpr (by omega)) rfl ?_
                            refine E_st5 (pc' := 107) g8_105 rfl ?_
                            refine E_in6 (pc' := 110) g8_107 rfl (m_in_iff.mpr (by omega)) ?_
                            refine E_goto (pc' := 14) g8_110 rfl ?_
                            first
                            | (exact Ev_cast hh (by rw [cn_t ho]; first | done | rfl) (by simp only [fil]; rw [ho, Int.zero_add]; rfl))
                            | (exact Ev_cast hh (by rw [cn_f ho, Int.add_zero]; first | done | rfl) (by simp only [fil]; rw [ho, Int.zero_add]; rfl)))
                       · first
                         | (exfalso; omega)
                         | (refine E_iconst (pc' := 100) g8_99 (by decide) rfl ?_
                            refine E_goto (pc' := 104) g8_100 rfl ?_
                            refine E_iadd (pc' := 105) g8_104 (m_in_iff.mpr (by omega)) rfl ?_
                            refine E_st5 (pc' := 107) g8_105 rfl ?_
                            refine E_in6 (pc' := 110) g8_107 rfl (m_in_iff.mpr (by omega)) ?_
                            refine E_goto (pc' := 14) g8_110 rfl ?_
                            first
                            | (exact Ev_cast hh (by rw [cn_t ho]; first | done | rfl) (by simp only [fil]; rw [ho, Int.zero_add]; rfl))
                            | (exact Ev_cast hh (by rw [cn_f ho, Int.add_zero]; first | done | rfl) (by simp only [fil]; rw [ho, Int.zero_add]; rfl))))
                  · first
                    | (exfalso; omega)
                    | (refine E_aload_n (pc' := 79) g8_78 rfl rfl ?_
                       refine E_iload (pc' := 81) g8_79 rfl rfl ?_
                       refine E_iaload (pc' := 82) g8_81 rfl (gH_ne (by decide) h23) (by omega) (by omega) ?_
                       refine E_goto (pc' := 86) g8_82 rfl ?_
                       refine E_iastore (pc' := 87) g8_86 rfl (gH_28 hFS0) (by omega) (by rw [fil_len]; omega) ?_
                       rw [gH_ch]
                       refine E_iload (pc' := 89) g8_87 rfl rfl ?_
                       refine E_aload_n (pc' := 90) g8_89 rfl rfl ?_
                       refine E_getR (pc' := 93) g8_90 f8_18 tg1_2 rfl (gH_24 hFS0) rfl ?_
                       refine E_iload (pc' := 95) g8_93 rfl rfl ?_
                       refine E_baload (pc' := 96) g8_95 rfl (gH_27 hFS0) (by omega) (by rw [up_len, fil_len]; omega) ?_
                       rw [ix_up (by omega) (by rw [fil_len]; omega) (by omega), if_pos rfl]
                       refine E_ifeq (pc' := 99) (pt := 103) g8_96 rfl rfl (fun c4 => ?_) (fun c4 => ?_)
                       · first
                         | (exfalso; omega)
                         | (refine E_iconst (pc' := 104) g8_103 (by decide) rfl ?_
                            refine E_iadd (pc' := 105) g8_104 (m_in_iff.mpr (by omega)) rfl ?_
                            refine E_st5 (pc' := 107) g8_105 rfl ?_
                            refine E_in6 (pc' := 110) g8_107 rfl (m_in_iff.mpr (by omega)) ?_
                            refine E_goto (pc' := 14) g8_110 rfl ?_
                            first
                            | (exact Ev_cast hh (by rw [cn_t ho]; first | done | rfl) (by simp only [fil]; rw [ho, Int.zero_add]; rfl))
                            | (exact Ev_cast hh (by rw [cn_f ho, Int.add_zero]; first | done | rfl) (by simp only [fil]; rw [ho, Int.zero_add]; rfl)))
                       · first
                         | (exfalso; omega)
                         | (refine E_iconst (pc' := 100) g8_99 (by decide) rfl ?_
                            refine E_goto (pc' := 104) g8_100 rfl ?_
                            refine E_iadd (pc' := 105) g8_104 (m_in_iff.mpr (by omega)) rfl ?_
                            refine E_st5 (pc' := 107) g8_105 rfl ?_
                            refine E_in6 (pc' := 110) g8_107 rfl (m_in_iff.mpr (by omega)) ?_
                            refine E_goto (pc' := 14) g8_110 rfl ?_
                            first
                            | (exact Ev_cast hh (by rw [cn_t ho]; first | done | rfl) (by simp only [fil]; rw [ho, Int.zero_add]; rfl))
                            | (exact Ev_cast hh (by rw [cn_f ho, Int.add_zero]; first | done | rfl) (by simp only [fil]; rw [ho, Int.zero_add]; rfl)))))
             · first
               | (exfalso; omega)
               | (refine E_aload_n (pc' := 51) g8_50 rfl rfl ?_
                  refine E_iload (pc' := 53) g8_51 rfl rfl ?_
                  refine E_cV1i (pc' := 56) g8_53 k8_45 na17 rfl ow17 rfl (Nat.le_of_ble_eq_true rfl) (gH_ne (by omega) y0) (C_isOpen (lay_g hL1 (by omega))) (by decide) ?_
                  refine E_ifeq (pc' := 59) (pt := 63) g8_56 rfl rfl (fun c5 => ?_) (fun c5 => ?_)
                  · first
                    | (exfalso; omega)
                    | (refine E_iconst (pc' := 64) g8_63 (by decide) rfl ?_
                       refine E_bastore (pc' := 65) g8_64 rfl (by omega) (gH_27 hFS0) (by omega) (by rw [fil_len]; omega) ?_
                       rw [gH_gv]
                       refine E_aload_n (pc' := 66) g8_65 rfl rfl ?_
                       refine E_getR (pc' := 69) g8_66 f8_22 tg1_3 rfl (gH_24 hFS0) rfl ?_
                       refine E_iload (pc' := 71) g8_69 rfl rfl ?_
                       refine E_iload (pc' := 73) g8_71 rfl rfl ?_
                       refine E_aload_n (pc' := 74) g8_73 rfl rfl ?_
                       refine E_alen (pc' := 75) g8_74 rfl (gH_ne (by decide) h23) (by decide) (m_in_iff.mpr (by omega)) ?_
                       refine E_icge (pc' := 78) (pt := 85) g8_75 rfl rfl (fun c6 => ?_) (fun c6 => ?_)
                       · first
                         | (exfalso; omega)
                         | (refine E_iconst (pc' := 86) g8_85 (by decide) rfl ?_
                            refine E_iastore (pc' := 87) g8_86 rfl (gH_28 hFS0) (by omega) (by rw [fil_len]; omega) ?_
                            rw [gH_ch]
                            refine E_iload (pc' := 89) g8_87 rfl rfl ?_
                            refine E_aload_n (pc' := 90) g8_89 rfl rfl ?_
                            refine E_getR (pc' := 93) g8_90 f8_18 tg1_2 rfl (gH_24 hFS0) rfl ?_
                            refine E_iload (pc' := 95) g8_93 rfl rfl ?_
                            refine E_baload (pc' := 96) g8_95 rfl (gH_27 hFS0) (by omega) (by rw [up_len, fil_len]; omega) ?_
                            rw [ix_up (by omega) (by rw [fil_len]; omega) (by omega), if_pos rfl]
                            refine E_ifeq (pc' := 99) (pt := 103) g8_96 rfl rfl (fun c7 => ?_) (fun c7 => ?_)
                            · first
                              | (exfalso; omega)
                              | (refine E_iconst (pc' := 104) g8_103 (by decide) rfl ?_
                                 refine E_iadd (pc' := 105) g8_104 (m_in_iff.mpr (by omega)) rfl ?_
                                 refine E_st5 (pc' := 107) g8_105 rfl ?_
                                 refine E_in6 (pc' := 110) g8_107 rfl (m_in_iff.mpr (by omega)) ?_
                                 refine E_goto (pc' := 14) g8_110 rfl ?_
                                 first
                                 | (exact Ev_cast hh (by rw [cn_t ho]; first | done | rfl) (by simp only [fil]; rw [ho, Int.zero_add]; rfl))
                                 | (exact Ev_cast hh (by rw [cn_f ho, Int.add_zero]; first | done | rfl) (by simp only [fil]; rw [ho, Int.zero_add]; rfl)))
                            · first
                              | (exfalso; omega)
                              | (refine E_iconst (pc' := 100) g8_99 (by decide) rfl ?_
                                 refine E_goto (pc' := 104) g8_100 rfl ?_
                                 refine E_iadd (pc' := 105) g8_104 (m_in_iff.mpr (by omega)) rfl ?_
                                 refine E_st5 (pc' := 107) g8_105 rfl ?_
                                 refine E_in6 (pc' := 110) g8_107 rfl (m_in_iff.mpr (by omega)) ?_
                                 refine E_goto (pc' := 14) g8_110 rfl ?_
                                 first
                                 | (exact Ev_cast hh (by rw [cn_t ho]; first | done | rfl) (by simp only [fil]; rw [ho, Int.zero_add]; rfl))
                                 | (exact Ev_cast hh (by rw [cn_f ho, Int.add_zero]; first | done | rfl) (by simp only [fil]; rw [ho, Int.zero_add]; rfl))))
                       · first
                         | (exfalso; omega)
                         | (refine E_aload_n (pc' := 79) g8_78 rfl rfl ?_
                            refine E_iload (pc' := 81) g8_79 rfl rfl ?_
                            refine E_iaload (pc' := 82) g8_81 rfl (gH_ne (by decide) h23) (by omega) (by omega) ?_
                            refine E_goto (pc' := 86) g8_82 rfl ?_
                            refine E_iastore (pc' := 87) g8_86 rfl (gH_28 hFS0) (by omega) (by rw [fil_len]; omega) ?_
                            rw [gH_ch]
                            refine E_iload (pc' := 89) g8_87 rfl rfl ?_
                            refine E_aload_n (pc' := 90) g8_89 rfl rfl ?_
                            refine E_getR (pc' := 93) g8_90 f8_18 tg1_2 rfl (gH_24 hFS0) rfl ?_
                            refine E_iload (pc' := 95) g8_93 rfl rfl ?_
                            refine E_baload (pc' := 96) g8_95 rfl (gH_27 hFS0) (by omega) (by rw [up_len, fil_len]; omega) ?_
                            rw [ix_up (by omega) (by rw [fil_len]; omega) (by omega), if_pos rfl]
                            refine E_ifeq (pc' := 99) (pt := 103) g8_96 rfl rfl (fun c8 => ?_) (fun c8 => ?_)
                            · first
                              | (exfalso; omega)
                              | (refine E_iconst (pc' := 104) g8_103 (by decide) rfl ?_
                                 refine E_iadd (pc' := 105) g8_104 (m_in_iff.mpr (by omega)) rfl ?_
                                 refine E_st5 (pc' := 107) g8_105 rfl ?_
                                 refine E_in6 (pc' := 110) g8_107 rfl (m_in_iff.mpr (by omega)) ?_
                                 refine E_goto (pc' := 14) g8_110 rfl ?_
                                 first
                                 | (exact Ev_cast hh (by rw [cn_t ho]; first | done | rfl) (by simp only [fil]; rw [ho, Int.zero_add]; rfl))
                                 | (exact Ev_cast hh (by rw [cn_f ho, Int.add_zero]; first | done | rfl) (by simp only [fil]; rw [ho, Int.zero_add]; rfl)))
                            · first
                              | (exfalso; omega)
                              | (refine E_iconst (pc' := 100) g8_99 (by decide) rfl ?_
                                 refine E_goto (pc' := 104) g8_100 rfl ?_
                                 refine E_iadd (pc' := 105) g8_104 (m_in_iff.mpr (by omega)) rfl ?_
                                 refine E_st5 (pc' := 107) g8_105 rfl ?_
                                 refine E_in6 (pc' := 110) g8_107 rfl (m_in_iff.mpr (by omega)) ?_
                                 refine E_goto (pc' := 14) g8_110 rfl ?_
                                 first
                                 | (exact Ev_cast hh (by rw [cn_t ho]; first | done | rfl) (by simp only [fil]; rw [ho, Int.zero_add]; rfl))
                                 | (exact Ev_cast hh (by rw [cn_f ho, Int.add_zero]; first | done | rfl) (by simp only [fil]; rw [ho, Int.zero_add]; rfl)))))
                  · first
                    | (exfalso; omega)
                    | (refine E_iconst (pc' := 60) g8_59 (by decide) rfl ?_
                       refine E_goto (pc' := 64) g8_60 rfl ?_
                       refine E_bastore (pc' := 65) g8_64 rfl (by omega) (gH_27 hFS0) (by omega) (by rw [fil_len]; omega) ?_
                       rw [gH_gv]
                       refine E_aload_n (pc' := 66) g8_65 rfl rfl ?_
                       refine E_getR (pc' := 69) g8_66 f8_22 tg1_3 rfl (gH_24 hFS0) rfl ?_
                       refine E_iload (pc' := 71) g8_69 rfl rfl ?_
                       refine E_iload (pc' := 73) g8_71 rfl rfl ?_
                       refine E_aload_n (pc' := 74) g8_73 rfl rfl ?_
                       refine E_alen (pc' := 75) g8_74 rfl (gH_ne (by decide) h23) (by decide) (m_in_iff.mpr (by omega)) ?_
                       refine E_icge (pc' := 78) (pt := 85) g8_75 rfl rfl (fun c9 => ?_) (fun c9 => ?_)
                       · first
                         | (exfalso; omega)
                         | (refine E_iconst (pc' := 86) g8_85 (by decide) rfl ?_
                            refine E_iastore (pc' := 87) g8_86 rfl (gH_28 hFS0) (by omega) (by rw [fil_len]; omega) ?_
                            rw [gH_ch]
                            refine E_iload (pc' := 89) g8_87 rfl rfl ?_
                            refine E_aload_n (pc' := 90) g8_89 rfl rfl ?_
                            refine E_getR (pc' := 93) g8_90 f8_18 tg1_2 rfl (gH_24 hFS0) rfl ?_
                            refine E_iload (pc' := 95) g8_93 rfl rfl ?_
                            refine E_baload (pc' := 96) g8_95 rfl (gH_27 hFS0) (by omega) (by rw [up_len, fil_len]; omega) ?_
                            rw [ix_up (by omega) (by rw [fil_len]; omega) (by omega), if_pos rfl]
                            refine E_ifeq (pc' := 99) (pt := 103) g8_96 rfl rfl (fun c10 => ?_) (fun c10 => ?_)
                            · first
                              | (exfalso; omega)
                              | (refine E_iconst (pc' := 104) g8_103 (by decide) rfl ?_
                                 refine E_iadd (pc' := 105) g8_104 (m_in_iff.mpr (by omega)) rfl ?_
                                 refine E_st5 (pc' := 107) g8_105 rfl ?_
                                 refine E_in6 (pc' := 110) g8_107 rfl (m_in_iff.mpr (by omega)) ?_
                                 refine E_goto (pc' := 14) g8_110 rfl ?_
                                 first
                                 | (exact Ev_cast hh (by rw [cn_t ho]; first | done | rfl) (by simp only [fil]; rw [ho, Int.zero_add]; rfl))
                                 | (exact Ev_cast hh (by rw [cn_f ho, Int.add_zero]; first | done | rfl) (by simp only [fil]; rw [ho, Int.zero_add]; rfl)))
                            · first
                              | (exfalso; omega)
                              | (refine E_iconst (pc' := 100) g8_99 (by decide) rfl ?_
                                 refine E_goto (pc' := 104) g8_100 rfl ?_
                                 refine E_iadd (pc' := 105) g8_104 (m_in_iff.mpr (by omega)) rfl ?_
                                 refine E_st5 (pc' := 107) g8_105 rfl ?_
                                 refine E_in6 (pc' := 110) g8_107 rfl (m_in_iff.mpr (by omega)) ?_
                                 refine E_goto (pc' := 14) g8_110 rfl ?_
                                 first
                                 | (exact Ev_cast hh (by rw [cn_t ho]; first | done | rfl) (by simp only [fil]; rw [ho, Int.zero_add]; rfl))
                                 | (exact Ev_cast hh (by rw [cn_f ho, Int.add_zero]; first | done | rfl) (by simp only [fil]; rw [ho, Int.zero_add]; rfl))))
                       · first
                         | (exfalso; omega)
                         | (refine E_aload_n (pc' := 79) g8_78 rfl rfl ?_
                            refine E_iload (pc' := 81) g8_79 rfl rfl ?_
                            refine E_iaload (pc' := 82) g8_81 rfl (gH_ne (by decide) h23) (by omega) (by omega) ?_
                            refine E_goto (pc' := 86) g8_82 rfl ?_
                            refine E_iastore (pc' := 87) g8_86 rfl (gH_28 hFS0) (by omega) (by rw [fil_len]; omega) ?_
                            rw [gH_ch]
                            refine E_iload (pc' := 89) g8_87 rfl rfl ?_
                            refine E_aload_n (pc' := 90) g8_89 rfl rfl ?_
                            refine E_getR (pc' := 93) g8_90 f8_18 tg1_2 rfl (gH_24 hFS0) rfl ?_
                            refine E_iload (pc' := 95) g8_93 rfl rfl ?_
                            refine E_baload (pc' := 96) g8_95 rfl (gH_27 hFS0) (by omega) (by rw [up_len, fil_len]; omega) ?_
                            rw [ix_up (by omega) (by rw [fil_len]; omega) (by omega), if_pos rfl]
                            refine E_ifeq (pc' := 99) (pt := 103) g8_96 rfl rfl (fun c11 => ?_) (fun c11 => ?_)
                            · first
                              | (exfalso; omega)
                              | (refine E_iconst (pc' := 104) g8_103 (by decide) rfl ?_
                                 refine E_iadd (pc' := 105) g8_104 (m_in_iff.mpr (by omega)) rfl ?_
                                 refine E_st5 (pc' := 107) g8_105 rfl ?_
                                 refine E_in6 (pc' := 110) g8_107 rfl (m_in_iff.mpr (by omega)) ?_
                                 refine E_goto (pc' := 14) g8_110 rfl ?_
                                 first
                                 | (exact Ev_cast hh (by rw [cn_t ho]; first | done | rfl) (by simp only [fil]; rw [ho, Int.zero_add]; rfl))
                                 | (exact Ev_cast hh (by rw [cn_f ho, Int.add_zero]; first | done | rfl) (by simp only [fil]; rw [ho, Int.zero_add]; rfl)))
                            · first
                              | (exfalso; omega)
                              | (refine E_iconst (pc' := 100) g8_99 (by decide) rfl ?_
                                 refine E_goto (pc' := 104) g8_100 rfl ?_
                                 refine E_iadd (pc' := 105) g8_104 (m_in_iff.mpr (by omega)) rfl ?_
                                 refine E_st5 (pc' := 107) g8_105 rfl ?_
                                 refine E_in6 (pc' := 110) g8_107 rfl (m_in_iff.mpr (by omega)) ?_
                                 refine E_goto (pc' := 14) g8_110 rfl ?_
                                 first
                                 | (exact Ev_cast hh (by rw [cn_t ho]; first | done | rfl) (by simp only [fil]; rw [ho, Int.zero_add]; rfl))
                                 | (exact Ev_cast hh (by rw [cn_f ho, Int.add_zero]; first | done | rfl) (by simp only [fil]; rw [ho, Int.zero_add]; rfl)))))))
      · have ho : opn bl n i = false := by
          cases q : opn bl n i with
          | false => rfl
          | true => exact absurd (opn_t.mp q) hoo
        refine E_iload (pc' := 16) g8_14 rfl rfl ?_
        refine E_bipush (pc' := 18) g8_16 (by decide) rfl ?_
        refine E_icge (pc' := 21) (pt := 113) g8_18 rfl rfl (fun c0 => ?_) (fun c0 => ?_)
        · exact absurd c0 (by omega)
        · first
          | (exfalso; omega)
          | (refine E_aload_n (pc' := 22) g8_21 rfl rfl ?_
             refine E_getR (pc' := 25) g8_22 f8_15 tg1_1 rfl (gH_24 hFS0) rfl ?_
             refine E_iload (pc' := 27) g8_25 rfl rfl ?_
             refine E_aload_n (pc' := 28) g8_27 rfl rfl ?_
             refine E_getR (pc' := 31) g8_28 f8_40 tg2_0 rfl (gH_ne (by omega) y0) rfl ?_
             refine E_iload (pc' := 33) g8_31 rfl rfl ?_
             refine E_iaload (pc' := 34) g8_33 rfl (gH_ne (by omega) y1) (by omega) (by omega) ?_
             refine E_iastore (pc' := 35) g8_34 rfl (gH_26 hFS0) (by omega) (by rw [fil_len]; omega) ?_
             rw [gH_tr]
             refine E_aload_n (pc' := 36) g8_35 rfl rfl ?_
             refine E_getR (pc' := 39) g8_36 f8_18 tg1_2 rfl (gH_24 hFS0) rfl ?_
             refine E_iload (pc' := 41) g8_39 rfl rfl ?_
             refine E_iload (pc' := 43) g8_41 rfl rfl ?_
             refine E_aload_n (pc' := 44) g8_43 rfl rfl ?_
             refine E_getI (pc' := 47) g8_44 f8_37 tg1_6 (by decide) rfl (gH_24 hFS0) rfl ?_
             refine E_icge (pc' := 50) (pt := 63) g8_47 rfl rfl (fun c1 => ?_) (fun c1 => ?_)
             · first
               | (exfalso; omega)
               | (refine E_iconst (pc' := 64) g8_63 (by decide) rfl ?_
                  refine E_bastore (pc' := 65) g8_64 rfl (by omega) (gH_27 hFS0) (by omega) (by rw [fil_len]; omega) ?_
                  rw [gH_gv]
                  refine E_aload_n (pc' := 66) g8_65 rfl rfl ?_
                  refine E_getR (pc' := 69) g8_66 f8_22 tg1_3 rfl (gH_24 hFS0) rfl ?_
                  refine E_iload (pc' := 71) g8_69 rfl rfl ?_
                  refine E_iload (pc' := 73) g8_71 rfl rfl ?_
                  refine E_aload_n (pc' := 74) g8_73 rfl rfl ?_
                  refine E_alen (pc' := 75) g8_74 rfl (gH_ne (by decide) h23) (by decide) (m_in_iff.mpr (by omega)) ?_
                  refine E_icge (pc' := 78) (pt := 85) g8_75 rfl rfl (fun c2 => ?_) (fun c2 => ?_)
                  · first
                    | (exfalso; omega)
                    | (refine E_iconst (pc' := 86) g8_85 (by decide) rfl ?_
                       refine E_iastore (pc' := 87) g8_86 rfl (gH_28 hFS0) (by omega) (by rw [fil_len]; omega) ?_
                       rw [gH_ch]
                       refine E_iload (pc' := 89) g8_87 rfl rfl ?_
                       refine E_aload_n (pc' := 90) g8_89 rfl rfl ?_
                       refine E_getR (pc' := 93) g8_90 f8_18 tg1_2 rfl (gH_24 hFS0) rfl ?_
                       refine E_iload (pc' := 95) g8_93 rfl rfl ?_
                       refine E_baload (pc' := 96) g8_95 rfl (gH_27 hFS0) (by omega) (by rw [up_len, fil_len]; omega) ?_
                       rw [ix_up (by omega) (by rw [fil_len]; omega) (by omega), if_pos rfl]
                       refine E_ifeq (pc' := 99) (pt := 103) g8_96 rfl rfl (fun c3 => ?_) (fun c3 => ?_)
                       · first
                         | (exfalso; omega)
                         | (refine E_iconst (pc' := 104) g8_103 (by decide) rfl ?_
                            refine E_iadd (pc' := 105) g8_104 (m_in_iff.mpr (by omega)) rfl ?_
                            refine E_st5 (pc' := 107) g8_105 rfl ?_
                            refine E_in6 (pc' := 110) g8_107 rfl (m_in_iff.mpr (by omega)) ?_
                            refine E_goto (pc' := 14) g8_110 rfl ?_
                            first
                            | (exact Ev_cast hh (by rw [cn_t ho]; first | done | rfl) (by simp only [fil]; rw [ho, Int.zero_add]; rfl))
                            | (exact Ev_cast hh (by rw [cn_f ho, Int.add_zero]; first | done | rfl) (by simp only [fil]; rw [ho, Int.zero_add]; rfl)))
                       · first
                         | (exfalso; omega)
                         | (refine E_iconst (pc' := 100) g8_99 (by decide) rfl ?_
                            refine E_goto (pc' := 104) g8_100 rfl ?_
                            refine E_iadd (pc' := 105) g8_104 (m_in_iff.mpr (by omega)) rfl ?_
                            refine E_st5 (pc' := 107) g8_105 rfl ?_
                            refine E_in6 (pc' := 110) g8_107 rfl (m_in_iff.mpr (by omega)) ?_
                            refine E_goto (pc' := 14) g8_110 rfl ?_
                            first
                            | (exact Ev_cast hh (by rw [cn_t ho]; first | done | rfl) (by simp only [fil]; rw [ho, Int.zero_add]; rfl))
                            | (exact Ev_cast hh (by rw [cn_f ho, Int.add_zero]; first | done | rfl) (by simp only [fil]; rw [ho, Int.zero_add]; rfl))))
                  · first
                    | (exfalso; omega)
                    | (refine E_aload_n (pc' := 79) g8_78 rfl rfl ?_
                       refine E_iload (pc' := 81) g8_79 rfl rfl ?_
                       refine E_iaload (pc' := 82) g8_81 rfl (gH_ne (by decide) h23) (by omega) (by omega) ?_
                       refine E_goto (pc' := 86) g8_82 rfl ?_
                       refine E_iastore (pc' := 87) g8_86 rfl (gH_28 hFS0) (by omega) (by rw [fil_len]; omega) ?_
                       rw [gH_ch]
                       refine E_iload (pc' := 89) g8_87 rfl rfl ?_
                       refine E_aload_n (pc' := 90) g8_89 rfl rfl ?_
                       refine E_getR (pc' := 93) g8_90 f8_18 tg1_2 rfl (gH_24 hFS0) rfl ?_
                       refine E_iload (pc' := 95) g8_93 rfl rfl ?_
                       refine E_baload (pc' := 96) g8_95 rfl (gH_27 hFS0) (by omega) (by rw [up_len, fil_len]; omega) ?_
                       rw [ix_up (by omega) (by rw [fil_len]; omega) (by omega), if_pos rfl]
                       refine E_ifeq (pc' := 99) (pt := 103) g8_96 rfl rfl (fun c4 => ?_) (fun c4 => ?_)
                       · first
                         | (exfalso; omega)
                         | (refine E_iconst (pc' := 104) g8_103 (by decide) rfl ?_
                            refine E_iadd (pc' := 105) g8_104 (m_in_iff.mpr (by omega)) rfl ?_
                            refine E_st5 (pc' := 107) g8_105 rfl ?_
                            refine E_in6 (pc' := 110) g8_107 rfl (m_in_iff.mpr (by omega)) ?_
                            refine E_goto (pc' := 14) g8_110 rfl ?_
                            first
                            | (exact Ev_cast hh (by rw [cn_t ho]; first | done | rfl) (by simp only [fil]; rw [ho, Int.zero_add]; rfl))
                            | (exact Ev_cast hh (by rw [cn_f ho, Int.add_zero]; first | done | rfl) (by simp only [fil]; rw [ho, Int.zero_add]; rfl)))
                       · first
                         | (exfalso; omega)
                         | (refine E_iconst (pc' := 100) g8_99 (by decide) rfl ?_
                            refine E_goto (pc' := 104) g8_100 rfl ?_
                            refine E_iadd (pc' := 105) g8_104 (m_in_iff.mpr (by omega)) rfl ?_
                            refine E_st5 (pc' := 107) g8_105 rfl ?_
                            refine E_in6 (pc' := 110) g8_107 rfl (m_in_iff.mpr (by omega)) ?_
                            refine E_goto (pc' := 14) g8_110 rfl ?_
                            first
                            | (exact Ev_cast hh (by rw [cn_t ho]; first | done | rfl) (by simp only [fil]; rw [ho, Int.zero_add]; rfl))
                            | (exact Ev_cast hh (by rw [cn_f ho, Int.add_zero]; first | done | rfl) (by simp only [fil]; rw [ho, Int.zero_add]; rfl)))))
             · first
               | (exfalso; omega)
               | (refine E_aload_n (pc' := 51) g8_50 rfl rfl ?_
                  refine E_iload (pc' := 53) g8_51 rfl rfl ?_
                  refine E_cV1i (pc' := 56) g8_53 k8_45 na17 rfl ow17 rfl (Nat.le_of_ble_eq_true rfl) (gH_ne (by omega) y0) (C_isOpen (lay_g hL1 (by omega))) (by decide) ?_
                  refine E_ifeq (pc' := 59) (pt := 63) g8_56 rfl rfl (fun c5 => ?_) (fun c5 => ?_)
                  · first
                    | (exfalso; omega)
                    | (refine E_iconst (pc' := 64) g8_63 (by decide) rfl ?_
                       refine E_bastore (pc' := 65) g8_64 rfl (by omega) (gH_27 hFS0) (by omega) (by rw [fil_len]; omega) ?_
                       rw [gH_gv]
                       refine E_aload_n (pc' := 66) g8_65 rfl rfl ?_
                       refine E_getR (pc' := 69) g8_66 f8_22 tg1_3 rfl (gH_24 hFS0) rfl ?_
                       refine E_iload (pc' := 71) g8_69 rfl rfl ?_
                       refine E_iload (pc' := 73) g8_71 rfl rfl ?_
                       refine E_aload_n (pc' := 74) g8_73 rfl rfl ?_
                       refine E_alen (pc' := 75) g8_74 rfl (gH_ne (by decide) h23) (by decide) (m_in_iff.mpr (by omega)) ?_
                       refine E_icge (pc' := 78) (pt := 85) g8_75 rfl rfl (fun c6 => ?_) (fun c6 => ?_)
                       · first
                         | (exfalso; omega)
                         | (refine E_iconst (pc' := 86) g8_85 (by decide) rfl ?_
                            refine E_iastore (pc' := 87) g8_86 rfl (gH_28 hFS0) (by omega) (by rw [fil_len]; omega) ?_
                            rw [gH_ch]
                            refine E_iload (pc' := 89) g8_87 rfl rfl ?_
                            refine E_aload_n (pc' := 90) g8_89 rfl rfl ?_
                            refine E_getR (pc' := 93) g8_90 f8_18 tg1_2 rfl (gH_24 hFS0) rfl ?_
                            refine E_iload (pc' := 95) g8_93 rfl rfl ?_
                            refine E_baload (pc' := 96) g8_95 rfl (gH_27 hFS0) (by omega) (by rw [up_len, fil_len]; omega) ?_
                            rw [ix_up (by omega) (by rw [fil_len]; omega) (by omega), if_pos rfl]
                            refine E_ifeq (pc' := 99) (pt := 103) g8_96 rfl rfl (fun c7 => ?_) (fun c7 => ?_)
                            · first
                              | (exfalso; omega)
                              | (refine E_iconst (pc' := 104) g8_103 (by decide) rfl ?_
                                 refine E_iadd (pc' := 105) g8_104 (m_in_iff.mpr (by omega)) rfl ?_
                                 refine E_st5 (pc' := 107) g8_105 rfl ?_
                                 refine E_in6 (pc' := 110) g8_107 rfl (m_in_iff.mpr (by omega)) ?_
                                 refine E_goto (pc' := 14) g8_110 rfl ?_
                                 first
                                 | (exact Ev_cast hh (by rw [cn_t ho]; first | done | rfl) (by simp only [fil]; rw [ho, Int.zero_add]; rfl))
                                 | (exact Ev_cast hh (by rw [cn_f ho, Int.add_zero]; first | done | rfl) (by simp only [fil]; rw [ho, Int.zero_add]; rfl)))
                            · first
                              | (exfalso; omega)
                              | (refine E_iconst (pc' := 100) g8_99 (by decide) rfl ?_
                                 refine E_goto (pc' := 104) g8_100 rfl ?_
                                 refine E_iadd (pc' := 105) g8_104 (m_in_iff.mpr (by omega)) rfl ?_
                                 refine E_st5 (pc' := 107) g8_105 rfl ?_
                                 refine E_in6 (pc' := 110) g8_107 rfl (m_in_iff.mpr (by omega)) ?_
                                 refine E_goto (pc' := 14) g8_110 rfl ?_
                                 first
                                 | (exact Ev_cast hh (by rw [cn_t ho]; first | done | rfl) (by simp only [fil]; rw [ho, Int.zero_add]; rfl))
                                 | (exact Ev_cast hh (by rw [cn_f ho, Int.add_zero]; first | done | rfl) (by simp only [fil]; rw [ho, Int.zero_add]; rfl))))
                       · first
                         | (exfalso; omega)
                         | (refine E_aload_n (pc' := 79) g8_78 rfl rfl ?_
                            refine E_iload (pc' := 81) g8_79 rfl rfl ?_
                            refine E_iaload (pc' := 82) g8_81 rfl (gH_ne (by decide) h23) (by omega) (by omega) ?_
                            refine E_goto (pc' := 86) g8_82 rfl ?_
                            refine E_iastore (pc' := 87) g8_86 rfl (gH_28 hFS0) (by omega) (by rw [fil_len]; omega) ?_
                            rw [gH_ch]
                            refine E_iload (pc' := 89) g8_87 rfl rfl ?_
                            refine E_aload_n (pc' := 90) g8_89 rfl rfl ?_
                            refine E_getR (pc' := 93) g8_90 f8_18 tg1_2 rfl (gH_24 hFS0) rfl ?_
                            refine E_iload (pc' := 95) g8_93 rfl rfl ?_
                            refine E_baload (pc' := 96) g8_95 rfl (gH_27 hFS0) (by omega) (by rw [up_len, fil_len]; omega) ?_
                            rw [ix_up (by omega) (by rw [fil_len]; omega) (by omega), if_pos rfl]
                            refine E_ifeq (pc' := 99) (pt := 103) g8_96 rfl rfl (fun c8 => ?_) (fun c8 => ?_)
                            · first
                              | (exfalso; omega)
                              | (refine E_iconst (pc' := 104) g8_103 (by decide) rfl ?_
                                 refine E_iadd (pc' := 105) g8_104 (m_in_iff.mpr (by omega)) rfl ?_
                                 refine E_st5 (pc' := 107) g8_105 rfl ?_
                                 refine E_in6 (pc' := 110) g8_107 rfl (m_in_iff.mpr (by omega)) ?_
                                 refine E_goto (pc' := 14) g8_110 rfl ?_
                                 first
                                 | (exact Ev_cast hh (by rw [cn_t ho]; first | done | rfl) (by simp only [fil]; rw [ho, Int.zero_add]; rfl))
                                 | (exact Ev_cast hh (by rw [cn_f ho, Int.add_zero]; first | done | rfl) (by simp only [fil]; rw [ho, Int.zero_add]; rfl)))
                            · first
                              | (exfalso; omega)
                              | (refine E_iconst (pc' := 100) g8_99 (by decide) rfl ?_
                                 refine E_goto (pc' := 104) g8_100 rfl ?_
                                 refine E_iadd (pc' := 105) g8_104 (m_in_iff.mpr (by omega)) rfl ?_
                                 refine E_st5 (pc' := 107) g8_105 rfl ?_
                                 refine E_in6 (pc' := 110) g8_107 rfl (m_in_iff.mpr (by omega)) ?_
                                 refine E_goto (pc' := 14) g8_110 rfl ?_
                                 first
                                 | (exact Ev_cast hh (by rw [cn_t ho]; first | done | rfl) (by simp only [fil]; rw [ho, Int.zero_add]; rfl))
                                 | (exact Ev_cast hh (by rw [cn_f ho, Int.add_zero]; first | done | rfl) (by simp only [fil]; rw [ho, Int.zero_add]; rfl)))))
                  · first
                    | (exfalso; omega)
                    | (refine E_iconst (pc' := 60) g8_59 (by decide) rfl ?_
                       refine E_goto (pc' := 64) g8_60 rfl ?_
                       refine E_bastore (pc' := 65) g8_64 rfl (by omega) (gH_27 hFS0) (by omega) (by rw [fil_len]; omega) ?_
                       rw [gH_gv]
                       refine E_aload_n (pc' := 66) g8_65 rfl rfl ?_
                       refine E_getR (pc' := 69) g8_66 f8_22 tg1_3 rfl (gH_24 hFS0) rfl ?_
                       refine E_iload (pc' := 71) g8_69 rfl rfl ?_
                       refine E_iload (pc' := 73) g8_71 rfl rfl ?_
                       refine E_aload_n (pc' := 74) g8_73 rfl rfl ?_
                       refine E_alen (pc' := 75) g8_74 rfl (gH_ne (by decide) h23) (by decide) (m_in_iff.mpr (by omega)) ?_
                       refine E_icge (pc' := 78) (pt := 85) g8_75 rfl rfl (fun c9 => ?_) (fun c9 => ?_)
                       · first
                         | (exfalso; omega)
                         | (refine E_iconst (pc' := 86) g8_85 (by decide) rfl ?_
                            refine E_iastore (pc' := 87) g8_86 rfl (gH_28 hFS0) (by omega) (by rw [fil_len]; omega) ?_
                            rw [gH_ch]
                            refine E_iload (pc' := 89) g8_87 rfl rfl ?_
                            refine E_aload_n (pc' := 90) g8_89 rfl rfl ?_
                            refine E_getR (pc' := 93) g8_90 f8_18 tg1_2 rfl (gH_24 hFS0) rfl ?_
                            refine E_iload (pc' := 95) g8_93 rfl rfl ?_
                            refine E_baload (pc' := 96) g8_95 rfl (gH_27 hFS0) (by omega) (by rw [up_len, fil_len]; omega) ?_
                            rw [ix_up (by omega) (by rw [fil_len]; omega) (by omega), if_pos rfl]
                            refine E_ifeq (pc' := 99) (pt := 103) g8_96 rfl rfl (fun c10 => ?_) (fun c10 => ?_)
                            · first
                              | (exfalso; omega)
                              | (refine E_iconst (pc' := 104) g8_103 (by decide) rfl ?_
                                 refine E_iadd (pc' := 105) g8_104 (m_in_iff.mpr (by omega)) rfl ?_
                                 refine E_st5 (pc' := 107) g8_105 rfl ?_
                                 refine E_in6 (pc' := 110) g8_107 rfl (m_in_iff.mpr (by omega)) ?_
                                 refine E_goto (pc' := 14) g8_110 rfl ?_
                                 first
                                 | (exact Ev_cast hh (by rw [cn_t ho]; first | done | rfl) (by simp only [fil]; rw [ho, Int.zero_add]; rfl))
                                 | (exact Ev_cast hh (by rw [cn_f ho, Int.add_zero]; first | done | rfl) (by simp only [fil]; rw [ho, Int.zero_add]; rfl)))
                            · first
                              | (exfalso; omega)
                              | (refine E_iconst (pc' := 100) g8_99 (by decide) rfl ?_
                                 refine E_goto (pc' := 104) g8_100 rfl ?_
                                 refine E_iadd (pc' := 105) g8_104 (m_in_iff.mpr (by omega)) rfl ?_
                                 refine E_st5 (pc' := 107) g8_105 rfl ?_
                                 refine E_in6 (pc' := 110) g8_107 rfl (m_in_iff.mpr (by omega)) ?_
                                 refine E_goto (pc' := 14) g8_110 rfl ?_
                                 first
                                 | (exact Ev_cast hh (by rw [cn_t ho]; first | done | rfl) (by simp only [fil]; rw [ho, Int.zero_add]; rfl))
                                 | (exact Ev_cast hh (by rw [cn_f ho, Int.add_zero]; first | done | rfl) (by simp only [fil]; rw [ho, Int.zero_add]; rfl))))
                       · first
                         | (exfalso; omega)
                         | (refine E_aload_n (pc' := 79) g8_78 rfl rfl ?_
                            refine E_iload (pc' := 81) g8_79 rfl rfl ?_
                            refine E_iaload (pc' := 82) g8_81 rfl (gH_ne (by decide) h23) (by omega) (by omega) ?_
                            refine E_goto (pc' := 86) g8_82 rfl ?_
                            refine E_iastore (pc' := 87) g8_86 rfl (gH_28 hFS0) (by omega) (by rw [fil_len]; omega) ?_
                            rw [gH_ch]
                            refine E_iload (pc' := 89) g8_87 rfl rfl ?_
                            refine E_aload_n (pc' := 90) g8_89 rfl rfl ?_
                            refine E_getR (pc' := 93) g8_90 f8_18 tg1_2 rfl (gH_24 hFS0) rfl ?_
                            refine E_iload (pc' := 95) g8_93 rfl rfl ?_
                            refine E_baload (pc' := 96) g8_95 rfl (gH_27 hFS0) (by omega) (by rw [up_len, fil_len]; omega) ?_
                            rw [ix_up (by omega) (by rw [fil_len]; omega) (by omega), if_pos rfl]
                            refine E_ifeq (pc' := 99) (pt := 103) g8_96 rfl rfl (fun c11 => ?_) (fun c11 => ?_)
                            · first
                              | (exfalso; omega)
                              | (refine E_iconst (pc' := 104) g8_103 (by decide) rfl ?_
                                 refine E_iadd (pc' := 105) g8_104 (m_in_iff.mpr (by omega)) rfl ?_
                                 refine E_st5 (pc' := 107) g8_105 rfl ?_
                                 refine E_in6 (pc' := 110) g8_107 rfl (m_in_iff.mpr (by omega)) ?_
                                 refine E_goto (pc' := 14) g8_110 rfl ?_
                                 first
                                 | (exact Ev_cast hh (by rw [cn_t ho]; first | done | rfl) (by simp only [fil]; rw [ho, Int.zero_add]; rfl))
                                 | (exact Ev_cast hh (by rw [cn_f ho, Int.add_zero]; first | done | rfl) (by simp only [fil]; rw [ho, Int.zero_add]; rfl)))
                            · first
                              | (exfalso; omega)
                              | (refine E_iconst (pc' := 100) g8_99 (by decide) rfl ?_
                                 refine E_goto (pc' := 104) g8_100 rfl ?_
                                 refine E_iadd (pc' := 105) g8_104 (m_in_iff.mpr (by omega)) rfl ?_
                                 refine E_st5 (pc' := 107) g8_105 rfl ?_
                                 refine E_in6 (pc' := 110) g8_107 rfl (m_in_iff.mpr (by omega)) ?_
                                 refine E_goto (pc' := 14) g8_110 rfl ?_
                                 first
                                 | (exact Ev_cast hh (by rw [cn_t ho]; first | done | rfl) (by simp only [fil]; rw [ho, Int.zero_add]; rfl))
                                 | (exact Ev_cast hh (by rw [cn_f ho, Int.add_zero]; first | done | rfl) (by simp only [fil]; rw [ho, Int.zero_add]; rfl)))))))
    · refine E_iload (pc' := 16) g8_14 rfl rfl ?_
      refine E_bipush (pc' := 18) g8_16 (by decide) rfl ?_
      refine E_icge (pc' := 21) (pt := 113) g8_18 rfl rfl (fun c0 => ?_) (fun c0 => ?_)
      · refine E_iconst (pc' := 114) g8_113 (by decide) rfl ?_
        refine E_st6 (pc' := 116) g8_114 rfl ?_
        rw [show fil tr0 0 (fun k => ix bl k) 6 = bl from fil_all l26 l1, show fil ch0 0 (fun k => ix W k) 6 = W from fil_all l28 hWl, hGV6]
        refine Ev_cast (ls := [mR 24, mR ta, mR lay, mR 23, mI L, mI (cn (opn bl n) 6), mI (((0 : Nat) : Int))]) (H := (gH H n f0 L0 bl GV W (fil kr0 0 (fun k => ix (krL sl bl kd) k) 0) hr0)) ?_ rfl (by simp only [fil])
        refine E_loop (n := 6) (fun i => Ev 16 8 116 [mR 24, mR ta, mR lay, mR 23, mI L, mI (cn (opn bl n) 6), mI ((i : Int))] [] (gH H n f0 L0 bl GV W (fil kr0 0 (fun k => ix (krL sl bl kd) k) i) hr0) (mI (adv L (0, la) (qts bl sl ed hu kd wd ht rm mo bs bu n)).1) (fH (pt (pt H 27 GV) 28 W) n (adv L (0, la) (qts bl sl ed hu kd wd ht rm mo bs bu n)).2 tr2 (adv L (0, la) (qts bl sl ed hu kd wd ht rm mo bs bu n)).1 L (krL sl bl kd) (hrL bl hu mo))) ?_ ?_ 0 (by omega)
        · intro i hi hh
          refine E_iload (pc' := 118) g8_116 rfl rfl ?_
          refine E_bipush (pc' := 120) g8_118 (by decide) rfl ?_
          refine E_icge (pc' := 123) (pt := 155) g8_120 rfl rfl (fun c0 => ?_) (fun c0 => ?_)
          · exact absurd c0 (by omega)
          · refine E_aload_n (pc' := 124) g8_123 rfl rfl ?_
            refine E_getR (pc' := 127) g8_124 f8_25 tg1_4 rfl (gH_24 hFS0) rfl ?_
            refine E_iload (pc' := 129) g8_127 rfl rfl ?_
            refine E_iload (pc' := 131) g8_129 rfl rfl ?_
            refine E_aload_n (pc' := 132) g8_131 rfl rfl ?_
            refine E_getI (pc' := 135) g8_132 f8_49 tg4_0 (by decide) rfl (gH_ne (by omega) t0) rfl ?_
            refine E_icge (pc' := 138) (pt := 147) g8_135 rfl rfl (fun c1 => ?_) (fun c1 => ?_)
            · refine E_iconst (pc' := 148) g8_147 (by decide) rfl ?_
              refine E_iastore (pc' := 149) g8_148 rfl (gH_29 hFS0) (by omega) (by rw [fil_len]; omega) ?_
              refine E_in6 (pc' := 152) g8_149 rfl (m_in_iff.mpr (by omega)) ?_
              refine E_goto (pc' := 116) g8_152 rfl ?_
              refine Ev_cast hh rfl ?_
              rw [gH_kr]
              simp only [fil]
              rw [Int.zero_add, krL_ix (by omega) (by omega)]
              first | rw [if_pos (by omega)] | rw [if_neg (by omega)]
            · refine E_aload_n (pc' := 139) g8_138 rfl rfl ?_
              refine E_iload (pc' := 141) g8_139 rfl rfl ?_
              refine E_cV1i (pc' := 144) g8_141 k8_52 na18 rfl ow18 rfl (Nat.le_of_ble_eq_true rfl) (gH_ne (by omega) y0) (h18 (lay_g hL1 (by omega)) (by omega)) (by decide) ?_
              refine E_goto (pc' := 148) g8_144 rfl ?_
              refine E_iastore (pc' := 149) g8_148 rfl (gH_29 hFS0) (by omega) (by rw [fil_len]; omega) ?_
              refine E_in6 (pc' := 152) g8_149 rfl (m_in_iff.mpr (by omega)) ?_
              refine E_goto (pc' := 116) g8_152 rfl ?_
              refine Ev_cast hh rfl ?_
              rw [gH_kr]
              simp only [fil]
              rw [Int.zero_add, krL_ix (by omega) (by omega)]
              first | rw [if_pos (by omega)] | rw [if_neg (by omega)]
        · refine E_iload (pc' := 118) g8_116 rfl rfl ?_
          refine E_bipush (pc' := 120) g8_118 (by decide) rfl ?_
          refine E_icge (pc' := 123) (pt := 155) g8_120 rfl rfl (fun c2 => ?_) (fun c2 => ?_)
          · refine E_iconst (pc' := 156) g8_155 (by decide) rfl ?_
            refine E_st6 (pc' := 158) g8_156 rfl ?_
            rw [show fil kr0 0 (fun k => ix (krL sl bl kd) k) 6 = krL sl bl kd from fil_all l29 k1]
            refine Ev_cast (ls := [mR 24, mR ta, mR lay, mR 23, mI L, mI (cn (opn bl n) 6), mI (((0 : Nat) : Int))]) (H := (gH H n f0 L0 bl GV W (krL sl bl kd) (fil hr0 0 (fun k => ix (hrL bl hu mo) k) 0))) ?_ rfl (by simp only [fil])
            refine E_loop (n := 6) (fun i => Ev 16 8 158 [mR 24, mR ta, mR lay, mR 23, mI L, mI (cn (opn bl n) 6), mI ((i : Int))] [] (gH H n f0 L0 bl GV W (krL sl bl kd) (fil hr0 0 (fun k => ix (hrL bl hu mo) k) i)) (mI (adv L (0, la) (qts bl sl ed hu kd wd ht rm mo bs bu n)).1) (fH (pt (pt H 27 GV) 28 W) n (adv L (0, la) (qts bl sl ed hu kd wd ht rm mo bs bu n)).2 tr2 (adv L (0, la) (qts bl sl ed hu kd wd ht rm mo bs bu n)).1 L (krL sl bl kd) (hrL bl hu mo))) ?_ ?_ 0 (by omega)
            · intro i hi hh
              have hx1 := nH_bd bl hu i
              refine E_iload (pc' := 160) g8_158 rfl rfl ?_
              refine E_bipush (pc' := 162) g8_160 (by decide) rfl ?_
              refine E_icge (pc' := 165) (pt := 190) g8_162 rfl rfl (fun c0 => ?_) (fun c0 => ?_)
              · exact absurd c0 (by omega)
              · refine E_aload_n (pc' := 166) g8_165 rfl rfl ?_
                refine E_getR (pc' := 169) g8_166 f8_28 tg1_5 rfl (gH_24 hFS0) rfl ?_
                refine E_iload (pc' := 171) g8_169 rfl rfl ?_
                refine E_aload_n (pc' := 172) g8_171 rfl rfl ?_
                refine E_getI (pc' := 175) g8_172 f8_56 tg4_4 (by decide) rfl (gH_ne (by omega) t0) rfl ?_
                refine E_aload_n (pc' := 176) g8_175 rfl rfl ?_
                refine E_aload_n (pc' := 177) g8_176 rfl rfl ?_
                refine E_iload (pc' := 179) g8_177 rfl rfl ?_
                refine E_cV2i (pc' := 182) g8_179 k8_59 na19 rfl ow19 rfl (Nat.le_of_ble_eq_true rfl) (gH_ne (by omega) y0) (C_sqHue (lay_g hL1 (by omega)) (told_g hT1 (by omega))) (by decide) ?_
                refine E_isub (pc' := 183) g8_182 (m_in_iff.mpr (by omega)) rfl ?_
                refine E_iastore (pc' := 184) g8_183 rfl (gH_30 hFS0) (by omega) (by rw [fil_len]; omega) ?_
                refine E_in6 (pc' := 187) g8_184 rfl (m_in_iff.mpr (by omega)) ?_
                refine E_goto (pc' := 158) g8_187 rfl ?_
                refine Ev_cast hh rfl ?_
                rw [gH_hr]
                simp only [fil]
                rw [Int.zero_add, hrL_ix (by omega) (by omega)]
            · refine E_iload (pc' := 160) g8_158 rfl rfl ?_
              refine E_bipush (pc' := 162) g8_160 (by decide) rfl ?_
              refine E_icge (pc' := 165) (pt := 190) g8_162 rfl rfl (fun c1 => ?_) (fun c1 => ?_)
              · rw [show fil hr0 0 (fun k => ix (hrL bl hu mo) k) 6 = hrL bl hu mo from fil_all l30 k2]
                refine E_aload_n (pc' := 191) g8_190 rfl rfl ?_
                refine E_iconst (pc' := 192) g8_191 (by decide) rfl ?_
                refine E_putf (pc' := 195) g8_192 f8_63 tg1_7 fn1_7 rfl rfl (gH_24 hFS0) (Nat.le_of_ble_eq_true rfl) ?_
                refine Ev_cast (H := gH H n 0 L0 bl GV W (krL sl bl kd) (hrL bl hu mo)) ?_ rfl (gH_f (sq2 := n) (f2 := 0) (L2 := L0))
                refine E_aload_n (pc' := 196) g8_195 rfl rfl ?_
                refine E_iload (pc' := 198) g8_196 rfl rfl ?_
                refine E_putf (pc' := 201) g8_198 f8_66 tg1_8 fn1_8 rfl rfl (gH_24 hFS0) (Nat.le_of_ble_eq_true rfl) ?_
                refine Ev_cast (H := gH H n 0 L bl GV W (krL sl bl kd) (hrL bl hu mo)) ?_ rfl (gH_f (sq2 := n) (f2 := 0) (L2 := L))
                rw [heapE]
                refine E_aload_n (pc' := 202) g8_201 rfl rfl ?_
                refine E_aload_n (pc' := 203) g8_202 rfl rfl ?_
                refine E_cV1i (pc' := 206) g8_203 k8_69 na11 rfl ow11 rfl (Nat.le_of_ble_eq_true rfl) (fH_24 hF) hroomC (by omega) ?_
                refine E_iload (pc' := 208) g8_206 rfl rfl ?_
                refine E_iclt (pc' := 211) (pt := 217) g8_208 rfl rfl (fun c0 => ?_) (fun c0 => ?_)
                · exact absurd c0 (by omega)
                · first
                  | (exfalso; omega)
                  | (refine E_aload_n (pc' := 212) g8_211 rfl rfl ?_
                     refine E_aload_n (pc' := 213) g8_212 rfl rfl ?_
                     refine E_iconst (pc' := 214) g8_213 (by decide) rfl ?_
                     refine E_cV2v (pc' := 217) g8_214 k8_73 na9 rfl ow9 rfl (Nat.le_of_ble_eq_true rfl) (fH_24 hF) hc (by omega) ?_
                     refine E_aload_n (pc' := 218) g8_217 rfl rfl ?_
                     refine E_getI (pc' := 221) g8_218 f8_63 tg1_7 (by decide) rfl (fH_24 hF) rfl ?_
                     exact E_iret g8_221 ro8 rfl rfl)
              · exact absurd c1 (by omega)
          · exact absurd c2 (by omega)
      · exact absurd c0 (by omega)
  · have hq0 : qts bl sl ed hu kd wd ht rm mo bs bu n = [] := by
      cases hq : qts bl sl ed hu kd wd ht rm mo bs bu n with
      | nil => rfl
      | cons x xs => exact absurd (room_ok r2 r3 hn l1 r1.1 b2 hB (x := x) (by rw [hq]; exact List.mem_cons_self)) hroom
    rw [hq0]
    obtain ⟨x1, x2⟩ := hF3 (la3 := la) (tr3 := bl) (f3 := 0) l25 l1
    refine ⟨_, x1, x2, ?_⟩
    refine Call_of rfl ?_
    refine E_aload_n (pc' := 1) g8_0 rfl rfl ?_
    refine E_aload_n (pc' := 2) g8_1 rfl rfl ?_
    refine E_cV0i (pc' := 5) g8_2 k8_31 na36 rfl ow36 rfl (Nat.le_of_ble_eq_true rfl) t0 (C_squares hT1) (by decide) ?_
    refine E_putf (pc' := 8) g8_5 f8_37 tg1_6 fn1_6 rfl rfl (by assumption) (Nat.le_of_ble_eq_true rfl) ?_
    refine Ev_cast (H := gH H n f0 L0 tr0 gv0 ch0 kr0 hr0) ?_ rfl ((show _ = pt H 24 (fdL n f0 L0) by rw [hn]; rfl).trans (by unfold gH; rw [pt_same h26, pt_same h27, pt_same h28, pt_same h29, pt_same h30]))
    refine E_iconst (pc' := 9) g8_8 (by decide) rfl ?_
    refine E_st5 (pc' := 11) g8_9 rfl ?_
    refine E_iconst (pc' := 12) g8_11 (by decide) rfl ?_
    refine E_st6 (pc' := 14) g8_12 rfl ?_
    refine Ev_cast (ls := [mR 24, mR ta, mR lay, mR 23, mI L, mI (cn (opn bl n) 0), mI (((0 : Nat) : Int))]) (H := (gH H n f0 L0 (fil tr0 0 (fun k => ix bl k) 0) (fil gv0 0 (fun k => b01 (opn bl n k)) 0) (fil ch0 0 (fun k => ix W k) 0) kr0 hr0)) ?_ (by simp [cn]) (by simp only [fil])
    refine E_loop (n := 6) (fun i => Ev 16 8 14 [mR 24, mR ta, mR lay, mR 23, mI L, mI (cn (opn bl n) i), mI ((i : Int))] [] (gH H n f0 L0 (fil tr0 0 (fun k => ix bl k) i) (fil gv0 0 (fun k => b01 (opn bl n k)) i) (fil ch0 0 (fun k => ix W k) i) kr0 hr0) (mI (adv L (0, la) []).1) (fH (pt (pt H 27 GV) 28 W) n la bl 0 L (krL sl bl kd) (hrL bl hu mo))) ?_ ?_ 0 (by omega)
    · intro i hi hh
      have hcb := cn_bd (opn bl n) i
      have e3 := isO_or bl i
      by_cases hoo : i < n ∧ ix bl i = -9
      · have ho : opn bl n i = true := opn_t.mpr hoo
        refine E_iload (pc' := 16) g8_14 rfl rfl ?_
        refine E_bipush (pc' := 18) g8_16 (by decide) rfl ?_
        refine E_icge (pc' := 21) (pt := 113) g8_18 rfl rfl (fun c0 => ?_) (fun c0 => ?_)
        · exact absurd c0 (by omega)
        · first
          | (exfalso; omega)
          | (refine E_aload_n (pc' := 22) g8_21 rfl rfl ?_
             refine E_getR (pc' := 25) g8_22 f8_15 tg1_1 rfl (gH_24 hFS0) rfl ?_
             refine E_iload (pc' := 27) g8_25 rfl rfl ?_
             refine E_aload_n (pc' := 28) g8_27 rfl rfl ?_
             refine E_getR (pc' := 31) g8_28 f8_40 tg2_0 rfl (gH_ne (by omega) y0) rfl ?_
             refine E_iload (pc' := 33) g8_31 rfl rfl ?_
             refine E_iaload (pc' := 34) g8_33 rfl (gH_ne (by omega) y1) (by omega) (by omega) ?_
             refine E_iastore (pc' := 35) g8_34 rfl (gH_26 hFS0) (by omega) (by rw [fil_len]; omega) ?_
             rw [gH_tr]
             refine E_aload_n (pc' := 36) g8_35 rfl rfl ?_
             refine E_getR (pc' := 39) g8_36 f8_18 tg1_2 rfl (gH_24 hFS0) rfl ?_
             refine E_iload (pc' := 41) g8_39 rfl rfl ?_
             refine E_iload (pc' := 43) g8_41 rfl rfl ?_
             refine E_aload_n (pc' := 44) g8_43 rfl rfl ?_
             refine E_getI (pc' := 47) g8_44 f8_37 tg1_6 (by decide) rfl (gH_24 hFS0) rfl ?_
             refine E_icge (pc' := 50) (pt := 63) g8_47 rfl rfl (fun c1 => ?_) (fun c1 => ?_)
             · first
               | (exfalso; omega)
               | (refine E_iconst (pc' := 64) g8_63 (by decide) rfl ?_
                  refine E_bastore (pc' := 65) g8_64 rfl (by omega) (gH_27 hFS0) (by omega) (by rw [fil_len]; omega) ?_
                  rw [gH_gv]
                  refine E_aload_n (pc' := 66) g8_65 rfl rfl ?_
                  refine E_getR (pc' := 69) g8_66 f8_22 tg1_3 rfl (gH_24 hFS0) rfl ?_
                  refine E_iload (pc' := 71) g8_69 rfl rfl ?_
                  refine E_iload (pc' := 73) g8_71 rfl rfl ?_
                  refine E_aload_n (pc' := 74) g8_73 rfl rfl ?_
                  refine E_alen (pc' := 75) g8_74 rfl (gH_ne (by decide) h23) (by decide) (m_in_iff.mpr (by omega)) ?_
                  refine E_icge (pc' := 78) (pt := 85) g8_75 rfl rfl (fun c2 => ?_) (fun c2 => ?_)
                  · first
                    | (exfalso; omega)
                    | (refine E_iconst (pc' := 86) g8_85 (by decide) rfl ?_
                       refine E_iastore (pc' := 87) g8_86 rfl (gH_28 hFS0) (by omega) (by rw [fil_len]; omega) ?_
                       rw [gH_ch]
                       refine E_iload (pc' := 89) g8_87 rfl rfl ?_
                       refine E_aload_n (pc' := 90) g8_89 rfl rfl ?_
                       refine E_getR (pc' := 93) g8_90 f8_18 tg1_2 rfl (gH_24 hFS0) rfl ?_
                       refine E_iload (pc' := 95) g8_93 rfl rfl ?_
                       refine E_baload (pc' := 96) g8_95 rfl (gH_27 hFS0) (by omega) (by rw [up_len, fil_len]; omega) ?_
                       rw [ix_up (by omega) (by rw [fil_len]; omega) (by omega), if_pos rfl]
                       refine E_ifeq (pc' := 99) (pt := 103) g8_96 rfl rfl (fun c3 => ?_) (fun c3 => ?_)
                       · first
                         | (exfalso; omega)
                         | (refine E_iconst (pc' := 104) g8_103 (by decide) rfl ?_
                            refine E_iadd (pc' := 105) g8_104 (m_in_iff.mpr (by omega)) rfl ?_
                            refine E_st5 (pc' := 107) g8_105 rfl ?_
                            refine E_in6 (pc' := 110) g8_107 rfl (m_in_iff.mpr (by omega)) ?_
                            refine E_goto (pc' := 14) g8_110 rfl ?_
                            first
                            | (exact Ev_cast hh (by rw [cn_t ho]; first | done | rfl) (by simp only [fil]; rw [ho, Int.zero_add]; rfl))
                            | (exact Ev_cast hh (by rw [cn_f ho, Int.add_zero]; first | done | rfl) (by simp only [fil]; rw [ho, Int.zero_add]; rfl)))
                       · first
                         | (exfalso; omega)
                         | (refine E_iconst (pc' := 100) g8_99 (by decide) rfl ?_
                            refine E_goto (pc' := 104) g8_100 rfl ?_
                            refine E_iadd (pc' := 105) g8_104 (m_in_iff.mpr (by omega)) rfl ?_
                            refine E_st5 (pc' := 107) g8_105 rfl ?_
                            refine E_in6 (pc' := 110) g8_107 rfl (m_in_iff.mpr (by omega)) ?_
                            refine E_goto (pc' := 14) g8_110 rfl ?_
                            first
                            | (exact Ev_cast hh (by rw [cn_t ho]; first | done | rfl) (by simp only [fil]; rw [ho, Int.zero_add]; rfl))
                            | (exact Ev_cast hh (by rw [cn_f ho, Int.add_zero]; first | done | rfl) (by simp only [fil]; rw [ho, Int.zero_add]; rfl))))
                  · first
                    | (exfalso; omega)
                    | (refine E_aload_n (pc' := 79) g8_78 rfl rfl ?_
                       refine E_iload (pc' := 81) g8_79 rfl rfl ?_
                       refine E_iaload (pc' := 82) g8_81 rfl (gH_ne (by decide) h23) (by omega) (by omega) ?_
                       refine E_goto (pc' := 86) g8_82 rfl ?_
                       refine E_iastore (pc' := 87) g8_86 rfl (gH_28 hFS0) (by omega) (by rw [fil_len]; omega) ?_
                       rw [gH_ch]
                       refine E_iload (pc' := 89) g8_87 rfl rfl ?_
                       refine E_aload_n (pc' := 90) g8_89 rfl rfl ?_
                       refine E_getR (pc' := 93) g8_90 f8_18 tg1_2 rfl (gH_24 hFS0) rfl ?_
                       refine E_iload (pc' := 95) g8_93 rfl rfl ?_
                       refine E_baload (pc' := 96) g8_95 rfl (gH_27 hFS0) (by omega) (by rw [up_len, fil_len]; omega) ?_
                       rw [ix_up (by omega) (by rw [fil_len]; omega) (by omega), if_pos rfl]
                       refine E_ifeq (pc' := 99) (pt := 103) g8_96 rfl rfl (fun c4 => ?_) (fun c4 => ?_)
                       · first
                         | (exfalso; omega)
                         | (refine E_iconst (pc' := 104) g8_103 (by decide) rfl ?_
                            refine E_iadd (pc' := 105) g8_104 (m_in_iff.mpr (by omega)) rfl ?_
                            refine E_st5 (pc' := 107) g8_105 rfl ?_
                            refine E_in6 (pc' := 110) g8_107 rfl (m_in_iff.mpr (by omega)) ?_
                            refine E_goto (pc' := 14) g8_110 rfl ?_
                            first
                            | (exact Ev_cast hh (by rw [cn_t ho]; first | done | rfl) (by simp only [fil]; rw [ho, Int.zero_add]; rfl))
                            | (exact Ev_cast hh (by rw [cn_f ho, Int.add_zero]; first | done | rfl) (by simp only [fil]; rw [ho, Int.zero_add]; rfl)))
                       · first
                         | (exfalso; omega)
                         | (refine E_iconst (pc' := 100) g8_99 (by decide) rfl ?_
                            refine E_goto (pc' := 104) g8_100 rfl ?_
                            refine E_iadd (pc' := 105) g8_104 (m_in_iff.mpr (by omega)) rfl ?_
                            refine E_st5 (pc' := 107) g8_105 rfl ?_
                            refine E_in6 (pc' := 110) g8_107 rfl (m_in_iff.mpr (by omega)) ?_
                            refine E_goto (pc' := 14) g8_110 rfl ?_
                            first
                            | (exact Ev_cast hh (by rw [cn_t ho]; first | done | rfl) (by simp only [fil]; rw [ho, Int.zero_add]; rfl))
                            | (exact Ev_cast hh (by rw [cn_f ho, Int.add_zero]; first | done | rfl) (by simp only [fil]; rw [ho, Int.zero_add]; rfl)))))
             · first
               | (exfalso; omega)
               | (refine E_aload_n (pc' := 51) g8_50 rfl rfl ?_
                  refine E_iload (pc' := 53) g8_51 rfl rfl ?_
                  refine E_cV1i (pc' := 56) g8_53 k8_45 na17 rfl ow17 rfl (Nat.le_of_ble_eq_true rfl) (gH_ne (by omega) y0) (C_isOpen (lay_g hL1 (by omega))) (by decide) ?_
                  refine E_ifeq (pc' := 59) (pt := 63) g8_56 rfl rfl (fun c5 => ?_) (fun c5 => ?_)
                  · first
                    | (exfalso; omega)
                    | (refine E_iconst (pc' := 64) g8_63 (by decide) rfl ?_
                       refine E_bastore (pc' := 65) g8_64 rfl (by omega) (gH_27 hFS0) (by omega) (by rw [fil_len]; omega) ?_
                       rw [gH_gv]
                       refine E_aload_n (pc' := 66) g8_65 rfl rfl ?_
                       refine E_getR (pc' := 69) g8_66 f8_22 tg1_3 rfl (gH_24 hFS0) rfl ?_
                       refine E_iload (pc' := 71) g8_69 rfl rfl ?_
                       refine E_iload (pc' := 73) g8_71 rfl rfl ?_
                       refine E_aload_n (pc' := 74) g8_73 rfl rfl ?_
                       refine E_alen (pc' := 75) g8_74 rfl (gH_ne (by decide) h23) (by decide) (m_in_iff.mpr (by omega)) ?_
                       refine E_icge (pc' := 78) (pt := 85) g8_75 rfl rfl (fun c6 => ?_) (fun c6 => ?_)
                       · first
                         | (exfalso; omega)
                         | (refine E_iconst (pc' := 86) g8_85 (by decide) rfl ?_
                            refine E_iastore (pc' := 87) g8_86 rfl (gH_28 hFS0) (by omega) (by rw [fil_len]; omega) ?_
                            rw [gH_ch]
                            refine E_iload (pc' := 89) g8_87 rfl rfl ?_
                            refine E_aload_n (pc' := 90) g8_89 rfl rfl ?_
                            refine E_getR (pc' := 93) g8_90 f8_18 tg1_2 rfl (gH_24 hFS0) rfl ?_
                            refine E_iload (pc' := 95) g8_93 rfl rfl ?_
                            refine E_baload (pc' := 96) g8_95 rfl (gH_27 hFS0) (by omega) (by rw [up_len, fil_len]; omega) ?_
                            rw [ix_up (by omega) (by rw [fil_len]; omega) (by omega), if_pos rfl]
                            refine E_ifeq (pc' := 99) (pt := 103) g8_96 rfl rfl (fun c7 => ?_) (fun c7 => ?_)
                            · first
                              | (exfalso; omega)
                              | (refine E_iconst (pc' := 104) g8_103 (by decide) rfl ?_
                                 refine E_iadd (pc' := 105) g8_104 (m_in_iff.mpr (by omega)) rfl ?_
                                 refine E_st5 (pc' := 107) g8_105 rfl ?_
                                 refine E_in6 (pc' := 110) g8_107 rfl (m_in_iff.mpr (by omega)) ?_
                                 refine E_goto (pc' := 14) g8_110 rfl ?_
                                 first
                                 | (exact Ev_cast hh (by rw [cn_t ho]; first | done | rfl) (by simp only [fil]; rw [ho, Int.zero_add]; rfl))
                                 | (exact Ev_cast hh (by rw [cn_f ho, Int.add_zero]; first | done | rfl) (by simp only [fil]; rw [ho, Int.zero_add]; rfl)))
                            · first
                              | (exfalso; omega)
                              | (refine E_iconst (pc' := 100) g8_99 (by decide) rfl ?_
                                 refine E_goto (pc' := 104) g8_100 rfl ?_
                                 refine E_iadd (pc' := 105) g8_104 (m_in_iff.mpr (by omega)) rfl ?_
                                 refine E_st5 (pc' := 107) g8_105 rfl ?_
                                 refine E_in6 (pc' := 110) g8_107 rfl (m_in_iff.mpr (by omega)) ?_
                                 refine E_goto (pc' := 14) g8_110 rfl ?_
                                 first
                                 | (exact Ev_cast hh (by rw [cn_t ho]; first | done | rfl) (by simp only [fil]; rw [ho, Int.zero_add]; rfl))
                                 | (exact Ev_cast hh (by rw [cn_f ho, Int.add_zero]; first | done | rfl) (by simp only [fil]; rw [ho, Int.zero_add]; rfl))))
                       · first
                         | (exfalso; omega)
                         | (refine E_aload_n (pc' := 79) g8_78 rfl rfl ?_
                            refine E_iload (pc' := 81) g8_79 rfl rfl ?_
                            refine E_iaload (pc' := 82) g8_81 rfl (gH_ne (by decide) h23) (by omega) (by omega) ?_
                            refine E_goto (pc' := 86) g8_82 rfl ?_
                            refine E_iastore (pc' := 87) g8_86 rfl (gH_28 hFS0) (by omega) (by rw [fil_len]; omega) ?_
                            rw [gH_ch]
                            refine E_iload (pc' := 89) g8_87 rfl rfl ?_
                            refine E_aload_n (pc' := 90) g8_89 rfl rfl ?_
                            refine E_getR (pc' := 93) g8_90 f8_18 tg1_2 rfl (gH_24 hFS0) rfl ?_
                            refine E_iload (pc' := 95) g8_93 rfl rfl ?_
                            refine E_baload (pc' := 96) g8_95 rfl (gH_27 hFS0) (by omega) (by rw [up_len, fil_len]; omega) ?_
                            rw [ix_up (by omega) (by rw [fil_len]; omega) (by omega), if_pos rfl]
                            refine E_ifeq (pc' := 99) (pt := 103) g8_96 rfl rfl (fun c8 => ?_) (fun c8 => ?_)
                            · first
                              | (exfalso; omega)
                              | (refine E_iconst (pc' := 104) g8_103 (by decide) rfl ?_
                                 refine E_iadd (pc' := 105) g8_104 (m_in_iff.mpr (by omega)) rfl ?_
                                 refine E_st5 (pc' := 107) g8_105 rfl ?_
                                 refine E_in6 (pc' := 110) g8_107 rfl (m_in_iff.mpr (by omega)) ?_
                                 refine E_goto (pc' := 14) g8_110 rfl ?_
                                 first
                                 | (exact Ev_cast hh (by rw [cn_t ho]; first | done | rfl) (by simp only [fil]; rw [ho, Int.zero_add]; rfl))
                                 | (exact Ev_cast hh (by rw [cn_f ho, Int.add_zero]; first | done | rfl) (by simp only [fil]; rw [ho, Int.zero_add]; rfl)))
                            · first
                              | (exfalso; omega)
                              | (refine E_iconst (pc' := 100) g8_99 (by decide) rfl ?_
                                 refine E_goto (pc' := 104) g8_100 rfl ?_
                                 refine E_iadd (pc' := 105) g8_104 (m_in_iff.mpr (by omega)) rfl ?_
                                 refine E_st5 (pc' := 107) g8_105 rfl ?_
                                 refine E_in6 (pc' := 110) g8_107 rfl (m_in_iff.mpr (by omega)) ?_
                                 refine E_goto (pc' := 14) g8_110 rfl ?_
                                 first
                                 | (exact Ev_cast hh (by rw [cn_t ho]; first | done | rfl) (by simp only [fil]; rw [ho, Int.zero_add]; rfl))
                                 | (exact Ev_cast hh (by rw [cn_f ho, Int.add_zero]; first | done | rfl) (by simp only [fil]; rw [ho, Int.zero_add]; rfl)))))
                  · first
                    | (exfalso; omega)
                    | (refine E_iconst (pc' := 60) g8_59 (by decide) rfl ?_
                       refine E_goto (pc' := 64) g8_60 rfl ?_
                       refine E_bastore (pc' := 65) g8_64 rfl (by omega) (gH_27 hFS0) (by omega) (by rw [fil_len]; omega) ?_
                       rw [gH_gv]
                       refine E_aload_n (pc' := 66) g8_65 rfl rfl ?_
                       refine E_getR (pc' := 69) g8_66 f8_22 tg1_3 rfl (gH_24 hFS0) rfl ?_
                       refine E_iload (pc' := 71) g8_69 rfl rfl ?_
                       refine E_iload (pc' := 73) g8_71 rfl rfl ?_
                       refine E_aload_n (pc' := 74) g8_73 rfl rfl ?_
                       refine E_alen (pc' := 75) g8_74 rfl (gH_ne (by decide) h23) (by decide) (m_in_iff.mpr (by omega)) ?_
                       refine E_icge (pc' := 78) (pt := 85) g8_75 rfl rfl (fun c9 => ?_) (fun c9 => ?_)
                       · first
                         | (exfalso; omega)
                         | (refine E_iconst (pc' := 86) g8_85 (by decide) rfl ?_
                            refine E_iastore (pc' := 87) g8_86 rfl (gH_28 hFS0) (by omega) (by rw [fil_len]; omega) ?_
                            rw [gH_ch]
                            refine E_iload (pc' := 89) g8_87 rfl rfl ?_
                            refine E_aload_n (pc' := 90) g8_89 rfl rfl ?_
                            refine E_getR (pc' := 93) g8_90 f8_18 tg1_2 rfl (gH_24 hFS0) rfl ?_
                            refine E_iload (pc' := 95) g8_93 rfl rfl ?_
                            refine E_baload (pc' := 96) g8_95 rfl (gH_27 hFS0) (by omega) (by rw [up_len, fil_len]; omega) ?_
                            rw [ix_up (by omega) (by rw [fil_len]; omega) (by omega), if_pos rfl]
                            refine E_ifeq (pc' := 99) (pt := 103) g8_96 rfl rfl (fun c10 => ?_) (fun c10 => ?_)
                            · first
                              | (exfalso; omega)
                              | (refine E_iconst (pc' := 104) g8_103 (by decide) rfl ?_
                                 refine E_iadd (pc' := 105) g8_104 (m_in_iff.mpr (by omega)) rfl ?_
                                 refine E_st5 (pc' := 107) g8_105 rfl ?_
                                 refine E_in6 (pc' := 110) g8_107 rfl (m_in_iff.mpr (by omega)) ?_
                                 refine E_goto (pc' := 14) g8_110 rfl ?_
                                 first
                                 | (exact Ev_cast hh (by rw [cn_t ho]; first | done | rfl) (by simp only [fil]; rw [ho, Int.zero_add]; rfl))
                                 | (exact Ev_cast hh (by rw [cn_f ho, Int.add_zero]; first | done | rfl) (by simp only [fil]; rw [ho, Int.zero_add]; rfl)))
                            · first
                              | (exfalso; omega)
                              | (refine E_iconst (pc' := 100) g8_99 (by decide) rfl ?_
                                 refine E_goto (pc' := 104) g8_100 rfl ?_
                                 refine E_iadd (pc' := 105) g8_104 (m_in_iff.mpr (by omega)) rfl ?_
                                 refine E_st5 (pc' := 107) g8_105 rfl ?_
                                 refine E_in6 (pc' := 110) g8_107 rfl (m_in_iff.mpr (by omega)) ?_
                                 refine E_goto (pc' := 14) g8_110 rfl ?_
                                 first
                                 | (exact Ev_cast hh (by rw [cn_t ho]; first | done | rfl) (by simp only [fil]; rw [ho, Int.zero_add]; rfl))
                                 | (exact Ev_cast hh (by rw [cn_f ho, Int.add_zero]; first | done | rfl) (by simp only [fil]; rw [ho, Int.zero_add]; rfl))))
                       · first
                         | (exfalso; omega)
                         | (refine E_aload_n (pc' := 79) g8_78 rfl rfl ?_
                            refine E_iload (pc' := 81) g8_79 rfl rfl ?_
                            refine E_iaload (pc' := 82) g8_81 rfl (gH_ne (by decide) h23) (by omega) (by omega) ?_
                            refine E_goto (pc' := 86) g8_82 rfl ?_
                            refine E_iastore (pc' := 87) g8_86 rfl (gH_28 hFS0) (by omega) (by rw [fil_len]; omega) ?_
                            rw [gH_ch]
                            refine E_iload (pc' := 89) g8_87 rfl rfl ?_
                            refine E_aload_n (pc' := 90) g8_89 rfl rfl ?_
                            refine E_getR (pc' := 93) g8_90 f8_18 tg1_2 rfl (gH_24 hFS0) rfl ?_
                            refine E_iload (pc' := 95) g8_93 rfl rfl ?_
                            refine E_baload (pc' := 96) g8_95 rfl (gH_27 hFS0) (by omega) (by rw [up_len, fil_len]; omega) ?_
                            rw [ix_up (by omega) (by rw [fil_len]; omega) (by omega), if_pos rfl]
                            refine E_ifeq (pc' := 99) (pt := 103) g8_96 rfl rfl (fun c11 => ?_) (fun c11 => ?_)
                            · first
                              | (exfalso; omega)
                              | (refine E_iconst (pc' := 104) g8_103 (by decide) rfl ?_
                                 refine E_iadd (pc' := 105) g8_104 (m_in_iff.mpr (by omega)) rfl ?_
                                 refine E_st5 (pc' := 107) g8_105 rfl ?_
                                 refine E_in6 (pc' := 110) g8_107 rfl (m_in_iff.mpr (by omega)) ?_
                                 refine E_goto (pc' := 14) g8_110 rfl ?_
                                 first
                                 | (exact Ev_cast hh (by rw [cn_t ho]; first | done | rfl) (by simp only [fil]; rw [ho, Int.zero_add]; rfl))
                                 | (exact Ev_cast hh (by rw [cn_f ho, Int.add_zero]; first | done | rfl) (by simp only [fil]; rw [ho, Int.zero_add]; rfl)))
                            · first
                              | (exfalso; omega)
                              | (refine E_iconst (pc' := 100) g8_99 (by decide) rfl ?_
                                 refine E_goto (pc' := 104) g8_100 rfl ?_
                                 refine E_iadd (pc' := 105) g8_104 (m_in_iff.mpr (by omega)) rfl ?_
                                 refine E_st5 (pc' := 107) g8_105 rfl ?_
                                 refine E_in6 (pc' := 110) g8_107 rfl (m_in_iff.mpr (by omega)) ?_
                                 refine E_goto (pc' := 14) g8_110 rfl ?_
                                 first
                                 | (exact Ev_cast hh (by rw [cn_t ho]; first | done | rfl) (by simp only [fil]; rw [ho, Int.zero_add]; rfl))
                                 | (exact Ev_cast hh (by rw [cn_f ho, Int.add_zero]; first | done | rfl) (by simp only [fil]; rw [ho, Int.zero_add]; rfl)))))))
      · have ho : opn bl n i = false := by
          cases q : opn bl n i with
          | false => rfl
          | true => exact absurd (opn_t.mp q) hoo
        refine E_iload (pc' := 16) g8_14 rfl rfl ?_
        refine E_bipush (pc' := 18) g8_16 (by decide) rfl ?_
        refine E_icge (pc' := 21) (pt := 113) g8_18 rfl rfl (fun c0 => ?_) (fun c0 => ?_)
        · exact absurd c0 (by omega)
        · first
          | (exfalso; omega)
          | (refine E_aload_n (pc' := 22) g8_21 rfl rfl ?_
             refine E_getR (pc' := 25) g8_22 f8_15 tg1_1 rfl (gH_24 hFS0) rfl ?_
             refine E_iload (pc' := 27) g8_25 rfl rfl ?_
             refine E_aload_n (pc' := 28) g8_27 rfl rfl ?_
             refine E_getR (pc' := 31) g8_28 f8_40 tg2_0 rfl (gH_ne (by omega) y0) rfl ?_
             refine E_iload (pc' := 33) g8_31 rfl rfl ?_
             refine E_iaload (pc' := 34) g8_33 rfl (gH_ne (by omega) y1) (by omega) (by omega) ?_
             refine E_iastore (pc' := 35) g8_34 rfl (gH_26 hFS0) (by omega) (by rw [fil_len]; omega) ?_
             rw [gH_tr]
             refine E_aload_n (pc' := 36) g8_35 rfl rfl ?_
             refine E_getR (pc' := 39) g8_36 f8_18 tg1_2 rfl (gH_24 hFS0) rfl ?_
             refine E_iload (pc' := 41) g8_39 rfl rfl ?_
             refine E_iload (pc' := 43) g8_41 rfl rfl ?_
             refine E_aload_n (pc' := 44) g8_43 rfl rfl ?_
             refine E_getI (pc' := 47) g8_44 f8_37 tg1_6 (by decide) rfl (gH_24 hFS0) rfl ?_
             refine E_icge (pc' := 50) (pt := 63) g8_47 rfl rfl (fun c1 => ?_) (fun c1 => ?_)
             · first
               | (exfalso; omega)
               | (refine E_iconst (pc' := 64) g8_63 (by decide) rfl ?_
                  refine E_bastore (pc' := 65) g8_64 rfl (by omega) (gH_27 hFS0) (by omega) (by rw [fil_len]; omega) ?_
                  rw [gH_gv]
                  refine E_aload_n (pc' := 66) g8_65 rfl rfl ?_
                  refine E_getR (pc' := 69) g8_66 f8_22 tg1_3 rfl (gH_24 hFS0) rfl ?_
                  refine E_iload (pc' := 71) g8_69 rfl rfl ?_
                  refine E_iload (pc' := 73) g8_71 rfl rfl ?_
                  refine E_aload_n (pc' := 74) g8_73 rfl rfl ?_
                  refine E_alen (pc' := 75) g8_74 rfl (gH_ne (by decide) h23) (by decide) (m_in_iff.mpr (by omega)) ?_
                  refine E_icge (pc' := 78) (pt := 85) g8_75 rfl rfl (fun c2 => ?_) (fun c2 => ?_)
                  · first
                    | (exfalso; omega)
                    | (refine E_iconst (pc' := 86) g8_85 (by decide) rfl ?_
                       refine E_iastore (pc' := 87) g8_86 rfl (gH_28 hFS0) (by omega) (by rw [fil_len]; omega) ?_
                       rw [gH_ch]
                       refine E_iload (pc' := 89) g8_87 rfl rfl ?_
                       refine E_aload_n (pc' := 90) g8_89 rfl rfl ?_
                       refine E_getR (pc' := 93) g8_90 f8_18 tg1_2 rfl (gH_24 hFS0) rfl ?_
                       refine E_iload (pc' := 95) g8_93 rfl rfl ?_
                       refine E_baload (pc' := 96) g8_95 rfl (gH_27 hFS0) (by omega) (by rw [up_len, fil_len]; omega) ?_
                       rw [ix_up (by omega) (by rw [fil_len]; omega) (by omega), if_pos rfl]
                       refine E_ifeq (pc' := 99) (pt := 103) g8_96 rfl rfl (fun c3 => ?_) (fun c3 => ?_)
                       · first
                         | (exfalso; omega)
                         | (refine E_iconst (pc' := 104) g8_103 (by decide) rfl ?_
                            refine E_iadd (pc' := 105) g8_104 (m_in_iff.mpr (by omega)) rfl ?_
                            refine E_st5 (pc' := 107) g8_105 rfl ?_
                            refine E_in6 (pc' := 110) g8_107 rfl (m_in_iff.mpr (by omega)) ?_
                            refine E_goto (pc' := 14) g8_110 rfl ?_
                            first
                            | (exact Ev_cast hh (by rw [cn_t ho]; first | done | rfl) (by simp only [fil]; rw [ho, Int.zero_add]; rfl))
                            | (exact Ev_cast hh (by rw [cn_f ho, Int.add_zero]; first | done | rfl) (by simp only [fil]; rw [ho, Int.zero_add]; rfl)))
                       · first
                         | (exfalso; omega)
                         | (refine E_iconst (pc' := 100) g8_99 (by decide) rfl ?_
                            refine E_goto (pc' := 104) g8_100 rfl ?_
                            refine E_iadd (pc' := 105) g8_104 (m_in_iff.mpr (by omega)) rfl ?_
                            refine E_st5 (pc' := 107) g8_105 rfl ?_
                            refine E_in6 (pc' := 110) g8_107 rfl (m_in_iff.mpr (by omega)) ?_
                            refine E_goto (pc' := 14) g8_110 rfl ?_
                            first
                            | (exact Ev_cast hh (by rw [cn_t ho]; first | done | rfl) (by simp only [fil]; rw [ho, Int.zero_add]; rfl))
                            | (exact Ev_cast hh (by rw [cn_f ho, Int.add_zero]; first | done | rfl) (by simp only [fil]; rw [ho, Int.zero_add]; rfl))))
                  · first
                    | (exfalso; omega)
                    | (refine E_aload_n (pc' := 79) g8_78 rfl rfl ?_
                       refine E_iload (pc' := 81) g8_79 rfl rfl ?_
                       refine E_iaload (pc' := 82) g8_81 rfl (gH_ne (by decide) h23) (by omega) (by omega) ?_
                       refine E_goto (pc' := 86) g8_82 rfl ?_
                       refine E_iastore (pc' := 87) g8_86 rfl (gH_28 hFS0) (by omega) (by rw [fil_len]; omega) ?_
                       rw [gH_ch]
                       refine E_iload (pc' := 89) g8_87 rfl rfl ?_
                       refine E_aload_n (pc' := 90) g8_89 rfl rfl ?_
                       refine E_getR (pc' := 93) g8_90 f8_18 tg1_2 rfl (gH_24 hFS0) rfl ?_
                       refine E_iload (pc' := 95) g8_93 rfl rfl ?_
                       refine E_baload (pc' := 96) g8_95 rfl (gH_27 hFS0) (by omega) (by rw [up_len, fil_len]; omega) ?_
                       rw [ix_up (by omega) (by rw [fil_len]; omega) (by omega), if_pos rfl]
                       refine E_ifeq (pc' := 99) (pt := 103) g8_96 rfl rfl (fun c4 => ?_) (fun c4 => ?_)
                       · first
                         | (exfalso; omega)
                         | (refine E_iconst (pc' := 104) g8_103 (by decide) rfl ?_
                            refine E_iadd (pc' := 105) g8_104 (m_in_iff.mpr (by omega)) rfl ?_
                            refine E_st5 (pc' := 107) g8_105 rfl ?_
                            refine E_in6 (pc' := 110) g8_107 rfl (m_in_iff.mpr (by omega)) ?_
                            refine E_goto (pc' := 14) g8_110 rfl ?_
                            first
                            | (exact Ev_cast hh (by rw [cn_t ho]; first | done | rfl) (by simp only [fil]; rw [ho, Int.zero_add]; rfl))
                            | (exact Ev_cast hh (by rw [cn_f ho, Int.add_zero]; first | done | rfl) (by simp only [fil]; rw [ho, Int.zero_add]; rfl)))
                       · first
                         | (exfalso; omega)
                         | (refine E_iconst (pc' := 100) g8_99 (by decide) rfl ?_
                            refine E_goto (pc' := 104) g8_100 rfl ?_
                            refine E_iadd (pc' := 105) g8_104 (m_in_iff.mpr (by omega)) rfl ?_
                            refine E_st5 (pc' := 107) g8_105 rfl ?_
                            refine E_in6 (pc' := 110) g8_107 rfl (m_in_iff.mpr (by omega)) ?_
                            refine E_goto (pc' := 14) g8_110 rfl ?_
                            first
                            | (exact Ev_cast hh (by rw [cn_t ho]; first | done | rfl) (by simp only [fil]; rw [ho, Int.zero_add]; rfl))
                            | (exact Ev_cast hh (by rw [cn_f ho, Int.add_zero]; first | done | rfl) (by simp only [fil]; rw [ho, Int.zero_add]; rfl)))))
             · first
               | (exfalso; omega)
               | (refine E_aload_n (pc' := 51) g8_50 rfl rfl ?_
                  refine E_iload (pc' := 53) g8_51 rfl rfl ?_
                  refine E_cV1i (pc' := 56) g8_53 k8_45 na17 rfl ow17 rfl (Nat.le_of_ble_eq_true rfl) (gH_ne (by omega) y0) (C_isOpen (lay_g hL1 (by omega))) (by decide) ?_
                  refine E_ifeq (pc' := 59) (pt := 63) g8_56 rfl rfl (fun c5 => ?_) (fun c5 => ?_)
                  · first
                    | (exfalso; omega)
                    | (refine E_iconst (pc' := 64) g8_63 (by decide) rfl ?_
                       refine E_bastore (pc' := 65) g8_64 rfl (by omega) (gH_27 hFS0) (by omega) (by rw [fil_len]; omega) ?_
                       rw [gH_gv]
                       refine E_aload_n (pc' := 66) g8_65 rfl rfl ?_
                       refine E_getR (pc' := 69) g8_66 f8_22 tg1_3 rfl (gH_24 hFS0) rfl ?_
                       refine E_iload (pc' := 71) g8_69 rfl rfl ?_
                       refine E_iload (pc' := 73) g8_71 rfl rfl ?_
                       refine E_aload_n (pc' := 74) g8_73 rfl rfl ?_
                       refine E_alen (pc' := 75) g8_74 rfl (gH_ne (by decide) h23) (by decide) (m_in_iff.mpr (by omega)) ?_
                       refine E_icge (pc' := 78) (pt := 85) g8_75 rfl rfl (fun c6 => ?_) (fun c6 => ?_)
                       · first
                         | (exfalso; omega)
                         | (refine E_iconst (pc' := 86) g8_85 (by decide) rfl ?_
                            refine E_iastore (pc' := 87) g8_86 rfl (gH_28 hFS0) (by omega) (by rw [fil_len]; omega) ?_
                            rw [gH_ch]
                            refine E_iload (pc' := 89) g8_87 rfl rfl ?_
                            refine E_aload_n (pc' := 90) g8_89 rfl rfl ?_
                            refine E_getR (pc' := 93) g8_90 f8_18 tg1_2 rfl (gH_24 hFS0) rfl ?_
                            refine E_iload (pc' := 95) g8_93 rfl rfl ?_
                            refine E_baload (pc' := 96) g8_95 rfl (gH_27 hFS0) (by omega) (by rw [up_len, fil_len]; omega) ?_
                            rw [ix_up (by omega) (by rw [fil_len]; omega) (by omega), if_pos rfl]
                            refine E_ifeq (pc' := 99) (pt := 103) g8_96 rfl rfl (fun c7 => ?_) (fun c7 => ?_)
                            · first
                              | (exfalso; omega)
                              | (refine E_iconst (pc' := 104) g8_103 (by decide) rfl ?_
                                 refine E_iadd (pc' := 105) g8_104 (m_in_iff.mpr (by omega)) rfl ?_
                                 refine E_st5 (pc' := 107) g8_105 rfl ?_
                                 refine E_in6 (pc' := 110) g8_107 rfl (m_in_iff.mpr (by omega)) ?_
                                 refine E_goto (pc' := 14) g8_110 rfl ?_
                                 first
                                 | (exact Ev_cast hh (by rw [cn_t ho]; first | done | rfl) (by simp only [fil]; rw [ho, Int.zero_add]; rfl))
                                 | (exact Ev_cast hh (by rw [cn_f ho, Int.add_zero]; first | done | rfl) (by simp only [fil]; rw [ho, Int.zero_add]; rfl)))
                            · first
                              | (exfalso; omega)
                              | (refine E_iconst (pc' := 100) g8_99 (by decide) rfl ?_
                                 refine E_goto (pc' := 104) g8_100 rfl ?_
                                 refine E_iadd (pc' := 105) g8_104 (m_in_iff.mpr (by omega)) rfl ?_
                                 refine E_st5 (pc' := 107) g8_105 rfl ?_
                                 refine E_in6 (pc' := 110) g8_107 rfl (m_in_iff.mpr (by omega)) ?_
                                 refine E_goto (pc' := 14) g8_110 rfl ?_
                                 first
                                 | (exact Ev_cast hh (by rw [cn_t ho]; first | done | rfl) (by simp only [fil]; rw [ho, Int.zero_add]; rfl))
                                 | (exact Ev_cast hh (by rw [cn_f ho, Int.add_zero]; first | done | rfl) (by simp only [fil]; rw [ho, Int.zero_add]; rfl))))
                       · first
                         | (exfalso; omega)
                         | (refine E_aload_n (pc' := 79) g8_78 rfl rfl ?_
                            refine E_iload (pc' := 81) g8_79 rfl rfl ?_
                            refine E_iaload (pc' := 82) g8_81 rfl (gH_ne (by decide) h23) (by omega) (by omega) ?_
                            refine E_goto (pc' := 86) g8_82 rfl ?_
                            refine E_iastore (pc' := 87) g8_86 rfl (gH_28 hFS0) (by omega) (by rw [fil_len]; omega) ?_
                            rw [gH_ch]
                            refine E_iload (pc' := 89) g8_87 rfl rfl ?_
                            refine E_aload_n (pc' := 90) g8_89 rfl rfl ?_
                            refine E_getR (pc' := 93) g8_90 f8_18 tg1_2 rfl (gH_24 hFS0) rfl ?_
                            refine E_iload (pc' := 95) g8_93 rfl rfl ?_
                            refine E_baload (pc' := 96) g8_95 rfl (gH_27 hFS0) (by omega) (by rw [up_len, fil_len]; omega) ?_
                            rw [ix_up (by omega) (by rw [fil_len]; omega) (by omega), if_pos rfl]
                            refine E_ifeq (pc' := 99) (pt := 103) g8_96 rfl rfl (fun c8 => ?_) (fun c8 => ?_)
                            · first
                              | (exfalso; omega)
                              | (refine E_iconst (pc' := 104) g8_103 (by decide) rfl ?_
                                 refine E_iadd (pc' := 105) g8_104 (m_in_iff.mpr (by omega)) rfl ?_
                                 refine E_st5 (pc' := 107) g8_105 rfl ?_
                                 refine E_in6 (pc' := 110) g8_107 rfl (m_in_iff.mpr (by omega)) ?_
                                 refine E_goto (pc' := 14) g8_110 rfl ?_
                                 first
                                 | (exact Ev_cast hh (by rw [cn_t ho]; first | done | rfl) (by simp only [fil]; rw [ho, Int.zero_add]; rfl))
                                 | (exact Ev_cast hh (by rw [cn_f ho, Int.add_zero]; first | done | rfl) (by simp only [fil]; rw [ho, Int.zero_add]; rfl)))
                            · first
                              | (exfalso; omega)
                              | (refine E_iconst (pc' := 100) g8_99 (by decide) rfl ?_
                                 refine E_goto (pc' := 104) g8_100 rfl ?_
                                 refine E_iadd (pc' := 105) g8_104 (m_in_iff.mpr (by omega)) rfl ?_
                                 refine E_st5 (pc' := 107) g8_105 rfl ?_
                                 refine E_in6 (pc' := 110) g8_107 rfl (m_in_iff.mpr (by omega)) ?_
                                 refine E_goto (pc' := 14) g8_110 rfl ?_
                                 first
                                 | (exact Ev_cast hh (by rw [cn_t ho]; first | done | rfl) (by simp only [fil]; rw [ho, Int.zero_add]; rfl))
                                 | (exact Ev_cast hh (by rw [cn_f ho, Int.add_zero]; first | done | rfl) (by simp only [fil]; rw [ho, Int.zero_add]; rfl)))))
                  · first
                    | (exfalso; omega)
                    | (refine E_iconst (pc' := 60) g8_59 (by decide) rfl ?_
                       refine E_goto (pc' := 64) g8_60 rfl ?_
                       refine E_bastore (pc' := 65) g8_64 rfl (by omega) (gH_27 hFS0) (by omega) (by rw [fil_len]; omega) ?_
                       rw [gH_gv]
                       refine E_aload_n (pc' := 66) g8_65 rfl rfl ?_
                       refine E_getR (pc' := 69) g8_66 f8_22 tg1_3 rfl (gH_24 hFS0) rfl ?_
                       refine E_iload (pc' := 71) g8_69 rfl rfl ?_
                       refine E_iload (pc' := 73) g8_71 rfl rfl ?_
                       refine E_aload_n (pc' := 74) g8_73 rfl rfl ?_
                       refine E_alen (pc' := 75) g8_74 rfl (gH_ne (by decide) h23) (by decide) (m_in_iff.mpr (by omega)) ?_
                       refine E_icge (pc' := 78) (pt := 85) g8_75 rfl rfl (fun c9 => ?_) (fun c9 => ?_)
                       · first
                         | (exfalso; omega)
                         | (refine E_iconst (pc' := 86) g8_85 (by decide) rfl ?_
                            refine E_iastore (pc' := 87) g8_86 rfl (gH_28 hFS0) (by omega) (by rw [fil_len]; omega) ?_
                            rw [gH_ch]
                            refine E_iload (pc' := 89) g8_87 rfl rfl ?_
                            refine E_aload_n (pc' := 90) g8_89 rfl rfl ?_
                            refine E_getR (pc' := 93) g8_90 f8_18 tg1_2 rfl (gH_24 hFS0) rfl ?_
                            refine E_iload (pc' := 95) g8_93 rfl rfl ?_
                            refine E_baload (pc' := 96) g8_95 rfl (gH_27 hFS0) (by omega) (by rw [up_len, fil_len]; omega) ?_
                            rw [ix_up (by omega) (by rw [fil_len]; omega) (by omega), if_pos rfl]
                            refine E_ifeq (pc' := 99) (pt := 103) g8_96 rfl rfl (fun c10 => ?_) (fun c10 => ?_)
                            · first
                              | (exfalso; omega)
                              | (refine E_iconst (pc' := 104) g8_103 (by decide) rfl ?_
                                 refine E_iadd (pc' := 105) g8_104 (m_in_iff.mpr (by omega)) rfl ?_
                                 refine E_st5 (pc' := 107) g8_105 rfl ?_
                                 refine E_in6 (pc' := 110) g8_107 rfl (m_in_iff.mpr (by omega)) ?_
                                 refine E_goto (pc' := 14) g8_110 rfl ?_
                                 first
                                 | (exact Ev_cast hh (by rw [cn_t ho]; first | done | rfl) (by simp only [fil]; rw [ho, Int.zero_add]; rfl))
                                 | (exact Ev_cast hh (by rw [cn_f ho, Int.add_zero]; first | done | rfl) (by simp only [fil]; rw [ho, Int.zero_add]; rfl)))
                            · first
                              | (exfalso; omega)
                              | (refine E_iconst (pc' := 100) g8_99 (by decide) rfl ?_
                                 refine E_goto (pc' := 104) g8_100 rfl ?_
                                 refine E_iadd (pc' := 105) g8_104 (m_in_iff.mpr (by omega)) rfl ?_
                                 refine E_st5 (pc' := 107) g8_105 rfl ?_
                                 refine E_in6 (pc' := 110) g8_107 rfl (m_in_iff.mpr (by omega)) ?_
                                 refine E_goto (pc' := 14) g8_110 rfl ?_
                                 first
                                 | (exact Ev_cast hh (by rw [cn_t ho]; first | done | rfl) (by simp only [fil]; rw [ho, Int.zero_add]; rfl))
                                 | (exact Ev_cast hh (by rw [cn_f ho, Int.add_zero]; first | done | rfl) (by simp only [fil]; rw [ho, Int.zero_add]; rfl))))
                       · first
                         | (exfalso; omega)
                         | (refine E_aload_n (pc' := 79) g8_78 rfl rfl ?_
                            refine E_iload (pc' := 81) g8_79 rfl rfl ?_
                            refine E_iaload (pc' := 82) g8_81 rfl (gH_ne (by decide) h23) (by omega) (by omega) ?_
                            refine E_goto (pc' := 86) g8_82 rfl ?_
                            refine E_iastore (pc' := 87) g8_86 rfl (gH_28 hFS0) (by omega) (by rw [fil_len]; omega) ?_
                            rw [gH_ch]
                            refine E_iload (pc' := 89) g8_87 rfl rfl ?_
                            refine E_aload_n (pc' := 90) g8_89 rfl rfl ?_
                            refine E_getR (pc' := 93) g8_90 f8_18 tg1_2 rfl (gH_24 hFS0) rfl ?_
                            refine E_iload (pc' := 95) g8_93 rfl rfl ?_
                            refine E_baload (pc' := 96) g8_95 rfl (gH_27 hFS0) (by omega) (by rw [up_len, fil_len]; omega) ?_
                            rw [ix_up (by omega) (by rw [fil_len]; omega) (by omega), if_pos rfl]
                            refine E_ifeq (pc' := 99) (pt := 103) g8_96 rfl rfl (fun c11 => ?_) (fun c11 => ?_)
                            · first
                              | (exfalso; omega)
                              | (refine E_iconst (pc' := 104) g8_103 (by decide) rfl ?_
                                 refine E_iadd (pc' := 105) g8_104 (m_in_iff.mpr (by omega)) rfl ?_
                                 refine E_st5 (pc' := 107) g8_105 rfl ?_
                                 refine E_in6 (pc' := 110) g8_107 rfl (m_in_iff.mpr (by omega)) ?_
                                 refine E_goto (pc' := 14) g8_110 rfl ?_
                                 first
                                 | (exact Ev_cast hh (by rw [cn_t ho]; first | done | rfl) (by simp only [fil]; rw [ho, Int.zero_add]; rfl))
                                 | (exact Ev_cast hh (by rw [cn_f ho, Int.add_zero]; first | done | rfl) (by simp only [fil]; rw [ho, Int.zero_add]; rfl)))
                            · first
                              | (exfalso; omega)
                              | (refine E_iconst (pc' := 100) g8_99 (by decide) rfl ?_
                                 refine E_goto (pc' := 104) g8_100 rfl ?_
                                 refine E_iadd (pc' := 105) g8_104 (m_in_iff.mpr (by omega)) rfl ?_
                                 refine E_st5 (pc' := 107) g8_105 rfl ?_
                                 refine E_in6 (pc' := 110) g8_107 rfl (m_in_iff.mpr (by omega)) ?_
                                 refine E_goto (pc' := 14) g8_110 rfl ?_
                                 first
                                 | (exact Ev_cast hh (by rw [cn_t ho]; first | done | rfl) (by simp only [fil]; rw [ho, Int.zero_add]; rfl))
                                 | (exact Ev_cast hh (by rw [cn_f ho, Int.add_zero]; first | done | rfl) (by simp only [fil]; rw [ho, Int.zero_add]; rfl)))))))
    · refine E_iload (pc' := 16) g8_14 rfl rfl ?_
      refine E_bipush (pc' := 18) g8_16 (by decide) rfl ?_
      refine E_icge (pc' := 21) (pt := 113) g8_18 rfl rfl (fun c0 => ?_) (fun c0 => ?_)
      · refine E_iconst (pc' := 114) g8_113 (by decide) rfl ?_
        refine E_st6 (pc' := 116) g8_114 rfl ?_
        rw [show fil tr0 0 (fun k => ix bl k) 6 = bl from fil_all l26 l1, show fil ch0 0 (fun k => ix W k) 6 = W from fil_all l28 hWl, hGV6]
        refine Ev_cast (ls := [mR 24, mR ta, mR lay, mR 23, mI L, mI (cn (opn bl n) 6), mI (((0 : Nat) : Int))]) (H := (gH H n f0 L0 bl GV W (fil kr0 0 (fun k => ix (krL sl bl kd) k) 0) hr0)) ?_ rfl (by simp only [fil])
        refine E_loop (n := 6) (fun i => Ev 16 8 116 [mR 24, mR ta, mR lay, mR 23, mI L, mI (cn (opn bl n) 6), mI ((i : Int))] [] (gH H n f0 L0 bl GV W (fil kr0 0 (fun k => ix (krL sl bl kd) k) i) hr0) (mI (adv L (0, la) []).1) (fH (pt (pt H 27 GV) 28 W) n la bl 0 L (krL sl bl kd) (hrL bl hu mo))) ?_ ?_ 0 (by omega)
        · intro i hi hh
          refine E_iload (pc' := 118) g8_116 rfl rfl ?_
          refine E_bipush (pc' := 120) g8_118 (by decide) rfl ?_
          refine E_icge (pc' := 123) (pt := 155) g8_120 rfl rfl (fun c0 => ?_) (fun c0 => ?_)
          · exact absurd c0 (by omega)
          · refine E_aload_n (pc' := 124) g8_123 rfl rfl ?_
            refine E_getR (pc' := 127) g8_124 f8_25 tg1_4 rfl (gH_24 hFS0) rfl ?_
            refine E_iload (pc' := 129) g8_127 rfl rfl ?_
            refine E_iload (pc' := 131) g8_129 rfl rfl ?_
            refine E_aload_n (pc' := 132) g8_131 rfl rfl ?_
            refine E_getI (pc' := 135) g8_132 f8_49 tg4_0 (by decide) rfl (gH_ne (by omega) t0) rfl ?_
            refine E_icge (pc' := 138) (pt := 147) g8_135 rfl rfl (fun c1 => ?_) (fun c1 => ?_)
            · refine E_iconst (pc' := 148) g8_147 (by decide) rfl ?_
              refine E_iastore (pc' := 149) g8_148 rfl (gH_29 hFS0) (by omega) (by rw [fil_len]; omega) ?_
              refine E_in6 (pc' := 152) g8_149 rfl (m_in_iff.mpr (by omega)) ?_
              refine E_goto (pc' := 116) g8_152 rfl ?_
              refine Ev_cast hh rfl ?_
              rw [gH_kr]
              simp only [fil]
              rw [Int.zero_add, krL_ix (by omega) (by omega)]
              first | rw [if_pos (by omega)] | rw [if_neg (by omega)]
            · refine E_aload_n (pc' := 139) g8_138 rfl rfl ?_
              refine E_iload (pc' := 141) g8_139 rfl rfl ?_
              refine E_cV1i (pc' := 144) g8_141 k8_52 na18 rfl ow18 rfl (Nat.le_of_ble_eq_true rfl) (gH_ne (by omega) y0) (h18 (lay_g hL1 (by omega)) (by omega)) (by decide) ?_
              refine E_goto (pc' := 148) g8_144 rfl ?_
              refine E_iastore (pc' := 149) g8_148 rfl (gH_29 hFS0) (by omega) (by rw [fil_len]; omega) ?_
              refine E_in6 (pc' := 152) g8_149 rfl (m_in_iff.mpr (by omega)) ?_
              refine E_goto (pc' := 116) g8_152 rfl ?_
              refine Ev_cast hh rfl ?_
              rw [gH_kr]
              simp only [fil]
              rw [Int.zero_add, krL_ix (by omega) (by omega)]
              first | rw [if_pos (by omega)] | rw [if_neg (by omega)]
        · refine E_iload (pc' := 118) g8_116 rfl rfl ?_
          refine E_bipush (pc' := 120) g8_118 (by decide) rfl ?_
          refine E_icge (pc' := 123) (pt := 155) g8_120 rfl rfl (fun c2 => ?_) (fun c2 => ?_)
          · refine E_iconst (pc' := 156) g8_155 (by decide) rfl ?_
            refine E_st6 (pc' := 158) g8_156 rfl ?_
            rw [show fil kr0 0 (fun k => ix (krL sl bl kd) k) 6 = krL sl bl kd from fil_all l29 k1]
            refine Ev_cast (ls := [mR 24, mR ta, mR lay, mR 23, mI L, mI (cn (opn bl n) 6), mI (((0 : Nat) : Int))]) (H := (gH H n f0 L0 bl GV W (krL sl bl kd) (fil hr0 0 (fun k => ix (hrL bl hu mo) k) 0))) ?_ rfl (by simp only [fil])
            refine E_loop (n := 6) (fun i => Ev 16 8 158 [mR 24, mR ta, mR lay, mR 23, mI L, mI (cn (opn bl n) 6), mI ((i : Int))] [] (gH H n f0 L0 bl GV W (krL sl bl kd) (fil hr0 0 (fun k => ix (hrL bl hu mo) k) i)) (mI (adv L (0, la) []).1) (fH (pt (pt H 27 GV) 28 W) n la bl 0 L (krL sl bl kd) (hrL bl hu mo))) ?_ ?_ 0 (by omega)
            · intro i hi hh
              have hx1 := nH_bd bl hu i
              refine E_iload (pc' := 160) g8_158 rfl rfl ?_
              refine E_bipush (pc' := 162) g8_160 (by decide) rfl ?_
              refine E_icge (pc' := 165) (pt := 190) g8_162 rfl rfl (fun c0 => ?_) (fun c0 => ?_)
              · exact absurd c0 (by omega)
              · refine E_aload_n (pc' := 166) g8_165 rfl rfl ?_
                refine E_getR (pc' := 169) g8_166 f8_28 tg1_5 rfl (gH_24 hFS0) rfl ?_
                refine E_iload (pc' := 171) g8_169 rfl rfl ?_
                refine E_aload_n (pc' := 172) g8_171 rfl rfl ?_
                refine E_getI (pc' := 175) g8_172 f8_56 tg4_4 (by decide) rfl (gH_ne (by omega) t0) rfl ?_
                refine E_aload_n (pc' := 176) g8_175 rfl rfl ?_
                refine E_aload_n (pc' := 177) g8_176 rfl rfl ?_
                refine E_iload (pc' := 179) g8_177 rfl rfl ?_
                refine E_cV2i (pc' := 182) g8_179 k8_59 na19 rfl ow19 rfl (Nat.le_of_ble_eq_true rfl) (gH_ne (by omega) y0) (C_sqHue (lay_g hL1 (by omega)) (told_g hT1 (by omega))) (by decide) ?_
                refine E_isub (pc' := 183) g8_182 (m_in_iff.mpr (by omega)) rfl ?_
                refine E_iastore (pc' := 184) g8_183 rfl (gH_30 hFS0) (by omega) (by rw [fil_len]; omega) ?_
                refine E_in6 (pc' := 187) g8_184 rfl (m_in_iff.mpr (by omega)) ?_
                refine E_goto (pc' := 158) g8_187 rfl ?_
                refine Ev_cast hh rfl ?_
                rw [gH_hr]
                simp only [fil]
                rw [Int.zero_add, hrL_ix (by omega) (by omega)]
            · refine E_iload (pc' := 160) g8_158 rfl rfl ?_
              refine E_bipush (pc' := 162) g8_160 (by decide) rfl ?_
              refine E_icge (pc' := 165) (pt := 190) g8_162 rfl rfl (fun c1 => ?_) (fun c1 => ?_)
              · rw [show fil hr0 0 (fun k => ix (hrL bl hu mo) k) 6 = hrL bl hu mo from fil_all l30 k2]
                refine E_aload_n (pc' := 191) g8_190 rfl rfl ?_
                refine E_iconst (pc' := 192) g8_191 (by decide) rfl ?_
                refine E_putf (pc' := 195) g8_192 f8_63 tg1_7 fn1_7 rfl rfl (gH_24 hFS0) (Nat.le_of_ble_eq_true rfl) ?_
                refine Ev_cast (H := gH H n 0 L0 bl GV W (krL sl bl kd) (hrL bl hu mo)) ?_ rfl (gH_f (sq2 := n) (f2 := 0) (L2 := L0))
                refine E_aload_n (pc' := 196) g8_195 rfl rfl ?_
                refine E_iload (pc' := 198) g8_196 rfl rfl ?_
                refine E_putf (pc' := 201) g8_198 f8_66 tg1_8 fn1_8 rfl rfl (gH_24 hFS0) (Nat.le_of_ble_eq_true rfl) ?_
                refine Ev_cast (H := gH H n 0 L bl GV W (krL sl bl kd) (hrL bl hu mo)) ?_ rfl (gH_f (sq2 := n) (f2 := 0) (L2 := L))
                rw [heapE]
                refine E_aload_n (pc' := 202) g8_201 rfl rfl ?_
                refine E_aload_n (pc' := 203) g8_202 rfl rfl ?_
                refine E_cV1i (pc' := 206) g8_203 k8_69 na11 rfl ow11 rfl (Nat.le_of_ble_eq_true rfl) (fH_24 hF) hroomC (by omega) ?_
                refine E_iload (pc' := 208) g8_206 rfl rfl ?_
                refine E_iclt (pc' := 211) (pt := 217) g8_208 rfl rfl (fun c0 => ?_) (fun c0 => ?_)
                · first
                  | (exfalso; omega)
                  | (refine E_aload_n (pc' := 218) g8_217 rfl rfl ?_
                     refine E_getI (pc' := 221) g8_218 f8_63 tg1_7 (by decide) rfl (fH_24 hF) rfl ?_
                     exact E_iret g8_221 ro8 rfl rfl)
                · exact absurd c0 (by omega)
              · exact absurd c1 (by omega)
          · exact absurd c2 (by omega)
      · exact absurd c0 (by omega)
end FK
