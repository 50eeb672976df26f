/-! the finder -/
def fdL (sq f L : Int) : List Int := [((25 : Nat) : Int), ((26 : Nat) : Int), ((27 : Nat) : Int), ((28 : Nat) : Int), ((29 : Nat) : Int), ((30 : Nat) : Int), sq, f, L]
def fH (H : mH) (sq : Int) (la tr : List Int) (f L : Int) (kr hr : List Int) : mH := pt (pt (pt (pt (pt H 25 la) 26 tr) 29 kr) 30 hr) 24 (fdL sq f L)
def isFin (H : mH) (gv W : List Int) : Prop := (∃ q, H[24]? = some (1, q)) ∧ (∃ q, H[25]? = some (8, q)) ∧ (∃ q, H[26]? = some (8, q)) ∧ H[27]? = some (9, gv) ∧ H[28]? = some (8, W) ∧ (∃ q, H[29]? = some (8, q)) ∧ (∃ q, H[30]? = some (8, q))
section FH
variable {H : mH} {gv W la la2 tr tr2 kr kr2 hr hr2 : List Int} {sq f f2 L : Int}
theorem fH_24 (hF : isFin H gv W) : (fH H sq la tr f L kr hr)[24]? = some (1, fdL sq f L) := by
  obtain ⟨⟨q, h⟩, -⟩ := hF
  exact pt_self (pt_nx (by decide) (pt_nx (by decide) (pt_nx (by decide) (pt_nx (by decide) h))))
theorem fH_25 (hF : isFin H gv W) : (fH H sq la tr f L kr hr)[25]? = some (8, la) := by
  obtain ⟨-, ⟨q, h⟩, -⟩ := hF
  exact pt_nx (by decide) (pt_nx (by decide) (pt_nx (by decide) (pt_nx (by decide) (pt_self h))))
theorem fH_26 (hF : isFin H gv W) : (fH H sq la tr f L kr hr)[26]? = some (8, tr) := by
  obtain ⟨-, -, ⟨q, h⟩, -⟩ := hF
  exact pt_nx (by decide) (pt_nx (by decide) (pt_nx (by decide) (pt_self (pt_nx (by decide) h))))
theorem fH_27 (hF : isFin H gv W) : (fH H sq la tr f L kr hr)[27]? = some (9, gv) := by
  obtain ⟨-, -, -, h, -⟩ := hF
  exact pt_nx (by decide) (pt_nx (by decide) (pt_nx (by decide) (pt_nx (by decide) (pt_nx (by decide) h))))
theorem fH_28 (hF : isFin H gv W) : (fH H sq la tr f L kr hr)[28]? = some (8, W) := by
  obtain ⟨-, -, -, -, h, -⟩ := hF
  exact pt_nx (by decide) (pt_nx (by decide) (pt_nx (by decide) (pt_nx (by decide) (pt_nx (by decide) h))))
theorem fH_29 (hF : isFin H gv W) : (fH H sq la tr f L kr hr)[29]? = some (8, kr) := by
  obtain ⟨-, -, -, -, -, ⟨q, h⟩, -⟩ := hF
  exact pt_nx (by decide) (pt_nx (by decide) (pt_self (pt_nx (by decide) (pt_nx (by decide) h))))
theorem fH_30 (hF : isFin H gv W) : (fH H sq la tr f L kr hr)[30]? = some (8, hr) := by
  obtain ⟨-, -, -, -, -, -, ⟨q, h⟩⟩ := hF
  exact pt_nx (by decide) (pt_self (pt_nx (by decide) (pt_nx (by decide) (pt_nx (by decide) h))))
theorem fH_la : pt (fH H sq la tr f L kr hr) 25 la2 = fH H sq la2 tr f L kr hr := by
  unfold fH
  rw [pt_swap (a := 24) (b := 25) (by decide), pt_swap (a := 30) (b := 25) (by decide), pt_swap (a := 29) (b := 25) (by decide), pt_swap (a := 26) (b := 25) (by decide), pt_pt]
theorem fH_tr : pt (fH H sq la tr f L kr hr) 26 tr2 = fH H sq la tr2 f L kr hr := by
  unfold fH
  rw [pt_swap (a := 24) (b := 26) (by decide), pt_swap (a := 30) (b := 26) (by decide), pt_swap (a := 29) (b := 26) (by decide), pt_pt]
theorem fH_kr : pt (fH H sq la tr f L kr hr) 29 kr2 = fH H sq la tr f L kr2 hr := by
  unfold fH
  rw [pt_swap (a := 24) (b := 29) (by decide), pt_swap (a := 30) (b := 29) (by decide), pt_pt]
theorem fH_hr : pt (fH H sq la tr f L kr hr) 30 hr2 = fH H sq la tr f L kr hr2 := by
  unfold fH
  rw [pt_swap (a := 24) (b := 30) (by decide), pt_pt]
theorem fH_f : pt (fH H sq la tr f L kr hr) 24 (fdL sq f2 L) = fH H sq la tr f2 L kr hr := by
  unfold fH
  rw [pt_pt]
theorem fH_told {ta : Nat} {kd wd ht rm mo sd bo : Int} {ed hu sk hv : List Int} (hT : isTold H ta kd wd ht rm mo sd bo ed hu sk hv) (hta : ta = 3 ∨ ta = 8) : isTold (fH H sq la tr f L kr hr) ta kd wd ht rm mo sd bo ed hu sk hv :=
  told_keep (told_keep (told_keep (told_keep (told_keep hT (by omega)) (by omega)) (by omega)) (by omega)) (by omega)
end FH
/-- what is left of kinds and hues on a trial -/
def krL (sl T : List Int) (kd : Int) : List Int := (List.range 6).map (fun (k : Nat) => if (k : Int) < kd then ix sl k - nK T k 6 else 0)
def hrL (T hu : List Int) (mo : Int) : List Int := (List.range 6).map (fun (h : Nat) => mo - nH T hu h 6)
theorem mp6_ix {g : Nat → Int} {j : Int} (h0 : 0 ≤ j) (h : j < 6) : ix ((List.range 6).map g) j = g j.toNat := by
  rw [ix, List.getD_eq_getElem?_getD, List.getElem?_map, List.getElem?_range (by omega)]
  rfl
theorem krL_ix {sl T : List Int} {kd j : Int} (h0 : 0 ≤ j) (h : j < 6) : ix (krL sl T kd) j = if j < kd then ix sl j - nK T j 6 else 0 := by
  unfold krL
  rw [mp6_ix h0 h, show ((j.toNat : Nat) : Int) = j by omega]
theorem hrL_ix {T hu : List Int} {mo j : Int} (h0 : 0 ≤ j) (h : j < 6) : ix (hrL T hu mo) j = mo - nH T hu j 6 := by
  unfold hrL
  rw [mp6_ix h0 h, show ((j.toNat : Nat) : Int) = j by omega]
theorem krL_len (sl T : List Int) (kd : Int) : (krL sl T kd).length = 6 := by simp [krL]
theorem hrL_len (T hu : List Int) (mo : Int) : (hrL T hu mo).length = 6 := by simp [hrL]
section KR
variable {sl T hu : List Int} {kd mo : Int} {s b : Nat}
theorem krL_up (hl : T.length = 6) (hs : s < 6) (h9 : ix T s = -9) (hk : (b : Int).tdiv 4 < kd) (hk6 : kd ≤ 6) : up (krL sl T kd) ((b : Int).tdiv 4) (ix (krL sl T kd) ((b : Int).tdiv 4) - 1) = krL sl (up T s b) kd := by
  have hb : 0 ≤ (b : Int).tdiv 4 := by rw [Int.tdiv_eq_ediv_of_nonneg (by omega)]; omega
  apply ix_ext (by rw [up_len, krL_len, krL_len])
  intro j h0 h1
  rw [up_len, krL_len] at h1
  rw [ix_up hb (by rw [krL_len]; omega) h0, krL_ix (T := up T s b) h0 (by omega), krL_ix hb (by omega), krL_ix h0 (by omega), nK_up hl hs h9]
  by_cases e : (b : Int).tdiv 4 = j
  · rw [if_pos e, e, if_pos (by omega), if_pos rfl]; omega
  · rw [if_neg e, if_neg e]; simp
theorem krL_dn (hl : T.length = 6) (hs : s < 6) (h9 : ix T s = -9) (hk : (b : Int).tdiv 4 < kd) (hk6 : kd ≤ 6) : up (krL sl (up T s b) kd) ((b : Int).tdiv 4) (ix (krL sl (up T s b) kd) ((b : Int).tdiv 4) + 1) = krL sl T kd := by
  have hb : 0 ≤ (b : Int).tdiv 4 := by rw [Int.tdiv_eq_ediv_of_nonneg (by omega)]; omega
  apply ix_ext (by rw [up_len, krL_len, krL_len])
  intro j h0 h1
  rw [up_len, krL_len] at h1
  rw [ix_up hb (by rw [krL_len]; omega) h0, krL_ix (T := T) h0 (by omega), krL_ix hb (by omega), krL_ix h0 (by omega), nK_up hl hs h9, nK_up hl hs h9]
  by_cases e : (b : Int).tdiv 4 = j
  · rw [if_pos e, e, if_pos (by omega), if_pos rfl]; omega
  · rw [if_neg e, if_neg e]; simp
theorem hrL_up (hl : T.length = 6) (hs : s < 6) (h9 : ix T s = -9) (hh : 0 ≤ ix hu ((b : Int).tdiv 4) ∧ ix hu ((b : Int).tdiv 4) < 6) : up (hrL T hu mo) (ix hu ((b : Int).tdiv 4)) (ix (hrL T hu mo) (ix hu ((b : Int).tdiv 4)) - 1) = hrL (up T s b) hu mo := by
  apply ix_ext (by rw [up_len, hrL_len, hrL_len])
  intro j h0 h1
  rw [up_len, hrL_len] at h1
  rw [ix_up hh.1 (by rw [hrL_len]; omega) h0, hrL_ix (T := up T s b) h0 (by omega), hrL_ix hh.1 (by omega), hrL_ix h0 (by omega), nH_up hl hs h9]
  by_cases e : ix hu ((b : Int).tdiv 4) = j
  · rw [if_pos e, e, if_pos rfl]; omega
  · rw [if_neg e, if_neg e]; omega
theorem hrL_dn (hl : T.length = 6) (hs : s < 6) (h9 : ix T s = -9) (hh : 0 ≤ ix hu ((b : Int).tdiv 4) ∧ ix hu ((b : Int).tdiv 4) < 6) : up (hrL (up T s b) hu mo) (ix hu ((b : Int).tdiv 4)) (ix (hrL (up T s b) hu mo) (ix hu ((b : Int).tdiv 4)) + 1) = hrL T hu mo := by
  apply ix_ext (by rw [up_len, hrL_len, hrL_len])
  intro j h0 h1
  rw [up_len, hrL_len] at h1
  rw [ix_up hh.1 (by rw [hrL_len]; omega) h0, hrL_ix (T := T) h0 (by omega), hrL_ix hh.1 (by omega), hrL_ix h0 (by omega), nH_up hl hs h9, nH_up hl hs h9]
  by_cases e : ix hu ((b : Int).tdiv 4) = j
  · rw [if_pos e, e, if_pos rfl]; omega
  · rw [if_neg e, if_neg e]; omega
end KR
/-- the finder's trial holds what is given so far -/
def trR (bl : List Int) (n s : Nat) (tr T : List Int) : Prop := tr.length = 6 ∧ ∀ j : Nat, j < 6 → (j < s ∨ opn bl n j = false) → ix tr j = ix T j
/-- what is found and the latest, over a list -/
def adv (L : Int) (q : Int × List Int) (Q : List (List Int)) : Int × List Int := Q.foldl (fun q x => if q.1 < L then (q.1 + 1, x) else q) q
theorem adv_app {L : Int} {q : Int × List Int} {A B : List (List Int)} : adv L q (A ++ B) = adv L (adv L q A) B := by simp [adv, List.foldl_append]
theorem adv_full {L : Int} {q : Int × List Int} (h : ¬ q.1 < L) : ∀ Q : List (List Int), adv L q Q = q
  | [] => rfl
  | x :: Q => by
    simp only [adv, List.foldl_cons, if_neg h]
    exact adv_full h Q
theorem adv_bd {L : Int} : ∀ {Q : List (List Int)} {q : Int × List Int}, q.1 ≤ L → q.1 ≤ (adv L q Q).1 ∧ (adv L q Q).1 ≤ L
  | [], q, h => ⟨Int.le_refl _, h⟩
  | x :: Q, q, h => by
    simp only [adv, List.foldl_cons]
    by_cases e : q.1 < L
    · rw [if_pos e]
      have := adv_bd (Q := Q) (q := (q.1 + 1, x)) (L := L) (by simp; omega)
      simp only [adv] at this
      omega
    · rw [if_neg e]
      exact adv_bd h
theorem adv_len {L : Int} : ∀ {Q : List (List Int)} {q : Int × List Int}, q.2.length = 6 → (∀ x ∈ Q, x.length = 6) → (adv L q Q).2.length = 6
  | [], q, h, _ => h
  | x :: Q, q, h, hQ => by
    simp only [adv, List.foldl_cons]
    split
    · exact adv_len (Q := Q) (hQ x List.mem_cons_self) (fun y hy => hQ y (List.mem_cons_of_mem _ hy))
    · exact adv_len h (fun y hy => hQ y (List.mem_cons_of_mem _ hy))
/-- the blocks that meet above and to the left -/
def mE (W ed tr : List Int) (kd wd ht : Int) (s : Int) : Int :=
  m_and (m_and (ix W s) (if bsd wd ht s 0 < 0 then ix W s else pw (hvs ed (4 * kd).toNat) 0 (eo ed (ix tr (bsd wd ht s 0)) 2))) (if bsd wd ht s 3 < 0 then ix W s else pw (hvs ed (4 * kd).toNat) 3 (eo ed (ix tr (bsd wd ht s 3)) 1))
theorem and_self {x : Int} (hx : 0 ≤ x ∧ x ≤ 16777215) : m_and x x = x := by
  refine bit_ext (m_and_in hx hx) hx (fun b _ _ => ?_)
  rw [bit_and hx hx, Bool.and_self]
theorem and_abs {x z : Int} (hx : 0 ≤ x ∧ x ≤ 16777215) (hz : 0 ≤ z ∧ z ≤ 16777215) : m_and (m_and x z) x = m_and x z := by
  refine bit_ext (m_and_in (m_and_in hx hz) hx) (m_and_in hx hz) (fun b _ _ => ?_)
  rw [bit_and (m_and_in hx hz) hx, bit_and hx hz]
  cases bit x b <;> cases bit z b <;> rfl
section FI
variable {H : mH} {ta : Nat} {bl sl : List Int} {kd wd ht rm mo sd bo : Int} {ed hu sk : List Int} {W gv la tr T x : List Int} {n s : Nat} {fo L : Int}
theorem C_meetE (hT : isTold H ta kd wd ht rm mo sd bo ed hu sk (hvs ed (4 * kd).toNat)) (hta : ta = 3 ∨ ta = 8) (hF : isFin H gv W) (hW : bet W 0 16777215) (hWl : W.length = 6) (htr : tr.length = 6) {kr hr : List Int} {sq : Int} (hs : 0 ≤ (s : Int) ∧ (s : Int) < wd * ht) : Call 1 12 [mR 24, mR ta, mI (s : Int)] (fH H sq la tr fo L kr hr) (mI (mE W ed tr kd wd ht s)) (fH H sq la tr fo L kr hr) := by
  have hT0 := fH_told (sq := sq) (la := la) (tr := tr) (f := fo) (L := L) (kr := kr) (hr := hr) hT hta
  obtain ⟨t0, t1, t2, t3, t4, ⟨r1, r2, r3, r4, r5, r6, r7, b1, b2, b3, b4, n1, n2, n3, n4⟩⟩ := hT0
  have hw := wh_bd r2.1 r2.2 r3.1 r3.2
  have hT0 := fH_told (sq := sq) (la := la) (tr := tr) (f := fo) (L := L) (kr := kr) (hr := hr) hT hta
  have x0 := (bs_at r2 r3 hs (h := 0) (by omega)).2
  have x3 := (bs_at r2 r3 hs (h := 3) (by omega)).2
  have p0 := pw_in b1 (m := (4 * kd).toNat) (by omega) (h := 0) (e := eo ed (ix tr (bsd wd ht s 0)) 2)
  have hWs := hW s
  unfold mE
  refine Call_of rfl ?_
  refine E_aload_n (pc' := 1) g12_0 rfl rfl ?_
  refine E_getR (pc' := 4) g12_1 f12_22 tg1_3 rfl (by first | exact fH_24 hF | exact fH_25 hF | exact fH_26 hF | exact fH_27 hF | exact fH_28 hF | exact fH_29 hF | exact fH_30 hF | exact t0 | exact t2) rfl ?_
  refine E_iload_n (pc' := 5) g12_4 rfl rfl ?_
  refine E_iaload (pc' := 6) g12_5 rfl (by first | exact fH_24 hF | exact fH_25 hF | exact fH_26 hF | exact fH_27 hF | exact fH_28 hF | exact fH_29 hF | exact fH_30 hF | exact t0 | exact t2) (by omega) (by omega) ?_
  refine E_st3 (pc' := 7) g12_6 rfl ?_
  refine E_aload_n (pc' := 8) g12_7 rfl rfl ?_
  refine E_iload_n (pc' := 9) g12_8 rfl rfl ?_
  refine E_iconst (pc' := 10) g12_9 (by decide) rfl ?_
  refine E_cV2i (pc' := 13) g12_10 k12_102 na42 rfl ow42 rfl (Nat.le_of_ble_eq_true rfl) (by first | exact fH_24 hF | exact fH_25 hF | exact fH_26 hF | exact fH_27 hF | exact fH_28 hF | exact fH_29 hF | exact fH_30 hF | exact t0 | exact t2) (C_beside hT0 (by omega)) (by decide) ?_
  refine E_st4 (pc' := 15) g12_13 rfl ?_
  refine E_iload (pc' := 17) g12_15 rfl rfl ?_
  refine E_iflt (pc' := 20) (pt := 47) g12_17 rfl rfl (fun c0 => ?_) (fun c0 => ?_)
  · first
    | (exfalso; omega)
    | (refine E_aload_n (pc' := 48) g12_47 rfl rfl ?_
       refine E_iload_n (pc' := 49) g12_48 rfl rfl ?_
       refine E_iconst (pc' := 50) g12_49 (by decide) rfl ?_
       refine E_cV2i (pc' := 53) g12_50 k12_102 na42 rfl ow42 rfl (Nat.le_of_ble_eq_true rfl) (by first | exact fH_24 hF | exact fH_25 hF | exact fH_26 hF | exact fH_27 hF | exact fH_28 hF | exact fH_29 hF | exact fH_30 hF | exact t0 | exact t2) (C_beside hT0 (by omega)) (by decide) ?_
       refine E_st5 (pc' := 55) g12_53 rfl ?_
       refine E_iload (pc' := 57) g12_55 rfl rfl ?_
       refine E_iflt (pc' := 60) (pt := 87) g12_57 rfl rfl (fun c1 => ?_) (fun c1 => ?_)
       · first
         | (exfalso; omega)
         | (refine E_iload_n (pc' := 88) g12_87 rfl rfl ?_
            exact E_iret g12_88 ro12 (by first | rw [if_pos (by omega), if_pos (by omega), and_self hWs, and_self hWs] | rw [if_pos (by omega), if_neg (by omega), and_self hWs] | rw [if_neg (by omega), if_pos (by omega), and_abs hWs p0] | rw [if_neg (by omega), if_neg (by omega)]) rfl)
       · first
         | (exfalso; omega)
         | (refine E_iload (pc' := 62) g12_60 rfl rfl ?_
            refine E_bipush (pc' := 64) g12_62 (by decide) rfl ?_
            refine E_icge (pc' := 67) (pt := 87) g12_64 rfl rfl (fun c2 => ?_) (fun c2 => ?_)
            · first
              | (exfalso; omega)
              | (refine E_iload_n (pc' := 88) g12_87 rfl rfl ?_
                 exact E_iret g12_88 ro12 (by first | rw [if_pos (by omega), if_pos (by omega), and_self hWs, and_self hWs] | rw [if_pos (by omega), if_neg (by omega), and_self hWs] | rw [if_neg (by omega), if_pos (by omega), and_abs hWs p0] | rw [if_neg (by omega), if_neg (by omega)]) rfl)
            · first
              | (exfalso; omega)
              | (refine E_iload_n (pc' := 68) g12_67 rfl rfl ?_
                 refine E_aload_n (pc' := 69) g12_68 rfl rfl ?_
                 refine E_iconst (pc' := 70) g12_69 (by decide) rfl ?_
                 refine E_aload_n (pc' := 71) g12_70 rfl rfl ?_
                 refine E_aload_n (pc' := 72) g12_71 rfl rfl ?_
                 refine E_getR (pc' := 75) g12_72 f12_15 tg1_1 rfl (by first | exact fH_24 hF | exact fH_25 hF | exact fH_26 hF | exact fH_27 hF | exact fH_28 hF | exact fH_29 hF | exact fH_30 hF | exact t0 | exact t2) rfl ?_
                 refine E_iload (pc' := 77) g12_75 rfl rfl ?_
                 refine E_iaload (pc' := 78) g12_77 rfl (by first | exact fH_24 hF | exact fH_25 hF | exact fH_26 hF | exact fH_27 hF | exact fH_28 hF | exact fH_29 hF | exact fH_30 hF | exact t0 | exact t2) (by omega) (by omega) ?_
                 refine E_iconst (pc' := 79) g12_78 (by decide) rfl ?_
                 refine E_cV2i (pc' := 82) g12_79 k12_105 na37 rfl ow37 rfl (Nat.le_of_ble_eq_true rfl) (by first | exact fH_24 hF | exact fH_25 hF | exact fH_26 hF | exact fH_27 hF | exact fH_28 hF | exact fH_29 hF | exact fH_30 hF | exact t0 | exact t2) (C_edgeOf hT0) (by decide) ?_
                 refine E_cV2i (pc' := 85) g12_82 k12_108 na41 rfl ow41 rfl (Nat.le_of_ble_eq_true rfl) (by first | exact fH_24 hF | exact fH_25 hF | exact fH_26 hF | exact fH_27 hF | exact fH_28 hF | exact fH_29 hF | exact fH_30 hF | exact t0 | exact t2) (C_plainWith hT0) (by decide) ?_
                 refine E_iand (pc' := 86) g12_85 rfl ?_
                 refine E_st3 (pc' := 87) g12_86 rfl ?_
                 refine E_iload_n (pc' := 88) g12_87 rfl rfl ?_
                 exact E_iret g12_88 ro12 (by first | rw [if_pos (by omega), if_pos (by omega), and_self hWs, and_self hWs] | rw [if_pos (by omega), if_neg (by omega), and_self hWs] | rw [if_neg (by omega), if_pos (by omega), and_abs hWs p0] | rw [if_neg (by omega), if_neg (by omega)]) rfl)))
  · first
    | (exfalso; omega)
    | (refine E_iload (pc' := 22) g12_20 rfl rfl ?_
       refine E_bipush (pc' := 24) g12_22 (by decide) rfl ?_
       refine E_icge (pc' := 27) (pt := 47) g12_24 rfl rfl (fun c3 => ?_) (fun c3 => ?_)
       · first
         | (exfalso; omega)
         | (refine E_aload_n (pc' := 48) g12_47 rfl rfl ?_
            refine E_iload_n (pc' := 49) g12_48 rfl rfl ?_
            refine E_iconst (pc' := 50) g12_49 (by decide) rfl ?_
            refine E_cV2i (pc' := 53) g12_50 k12_102 na42 rfl ow42 rfl (Nat.le_of_ble_eq_true rfl) (by first | exact fH_24 hF | exact fH_25 hF | exact fH_26 hF | exact fH_27 hF | exact fH_28 hF | exact fH_29 hF | exact fH_30 hF | exact t0 | exact t2) (C_beside hT0 (by omega)) (by decide) ?_
            refine E_st5 (pc' := 55) g12_53 rfl ?_
            refine E_iload (pc' := 57) g12_55 rfl rfl ?_
            refine E_iflt (pc' := 60) (pt := 87) g12_57 rfl rfl (fun c4 => ?_) (fun c4 => ?_)
            · first
              | (exfalso; omega)
              | (refine E_iload_n (pc' := 88) g12_87 rfl rfl ?_
                 exact E_iret g12_88 ro12 (by first | rw [if_pos (by omega), if_pos (by omega), and_self hWs, and_self hWs] | rw [if_pos (by omega), if_neg (by omega), and_self hWs] | rw [if_neg (by omega), if_pos (by omega), and_abs hWs p0] | rw [if_neg (by omega), if_neg (by omega)]) rfl)
            · first
              | (exfalso; omega)
              | (refine E_iload (pc' := 62) g12_60 rfl rfl ?_
                 refine E_bipush (pc' := 64) g12_62 (by decide) rfl ?_
                 refine E_icge (pc' := 67) (pt := 87) g12_64 rfl rfl (fun c5 => ?_) (fun c5 => ?_)
                 · first
                   | (exfalso; omega)
                   | (refine E_iload_n (pc' := 88) g12_87 rfl rfl ?_
                      exact E_iret g12_88 ro12 (by first | rw [if_pos (by omega), if_pos (by omega), and_self hWs, and_self hWs] | rw [if_pos (by omega), if_neg (by omega), and_self hWs] | rw [if_neg (by omega), if_pos (by omega), and_abs hWs p0] | rw [if_neg (by omega), if_neg (by omega)]) rfl)
                 · first
                   | (exfalso; omega)
                   | (refine E_iload_n (pc' := 68) g12_67 rfl rfl ?_
                      refine E_aload_n (pc' := 69) g12_68 rfl rfl ?_
                      refine E_iconst (pc' := 70) g12_69 (by decide) rfl ?_
                      refine E_aload_n (pc' := 71) g12_70 rfl rfl ?_
                      refine E_aload_n (pc' := 72) g12_71 rfl rfl ?_
                      refine E_getR (pc' := 75) g12_72 f12_15 tg1_1 rfl (by first | exact fH_24 hF | exact fH_25 hF | exact fH_26 hF | exact fH_27 hF | exact fH_28 hF | exact fH_29 hF | exact fH_30 hF | exact t0 | exact t2) rfl ?_
                      refine E_iload (pc' := 77) g12_75 rfl rfl ?_
                      refine E_iaload (pc' := 78) g12_77 rfl (by first | exact fH_24 hF | exact fH_25 hF | exact fH_26 hF | exact fH_27 hF | exact fH_28 hF | exact fH_29 hF | exact fH_30 hF | exact t0 | exact t2) (by omega) (by omega) ?_
                      refine E_iconst (pc' := 79) g12_78 (by decide) rfl ?_
                      refine E_cV2i (pc' := 82) g12_79 k12_105 na37 rfl ow37 rfl (Nat.le_of_ble_eq_true rfl) (by first | exact fH_24 hF | exact fH_25 hF | exact fH_26 hF | exact fH_27 hF | exact fH_28 hF | exact fH_29 hF | exact fH_30 hF | exact t0 | exact t2) (C_edgeOf hT0) (by decide) ?_
                      refine E_cV2i (pc' := 85) g12_82 k12_108 na41 rfl ow41 rfl (Nat.le_of_ble_eq_true rfl) (by first | exact fH_24 hF | exact fH_25 hF | exact fH_26 hF | exact fH_27 hF | exact fH_28 hF | exact fH_29 hF | exact fH_30 hF | exact t0 | exact t2) (C_plainWith hT0) (by decide) ?_
                      refine E_iand (pc' := 86) g12_85 rfl ?_
                      refine E_st3 (pc' := 87) g12_86 rfl ?_
                      refine E_iload_n (pc' := 88) g12_87 rfl rfl ?_
                      exact E_iret g12_88 ro12 (by first | rw [if_pos (by omega), if_pos (by omega), and_self hWs, and_self hWs] | rw [if_pos (by omega), if_neg (by omega), and_self hWs] | rw [if_neg (by omega), if_pos (by omega), and_abs hWs p0] | rw [if_neg (by omega), if_neg (by omega)]) rfl)))
       · first
         | (exfalso; omega)
         | (refine E_iload_n (pc' := 28) g12_27 rfl rfl ?_
            refine E_aload_n (pc' := 29) g12_28 rfl rfl ?_
            refine E_iconst (pc' := 30) g12_29 (by decide) rfl ?_
            refine E_aload_n (pc' := 31) g12_30 rfl rfl ?_
            refine E_aload_n (pc' := 32) g12_31 rfl rfl ?_
            refine E_getR (pc' := 35) g12_32 f12_15 tg1_1 rfl (by first | exact fH_24 hF | exact fH_25 hF | exact fH_26 hF | exact fH_27 hF | exact fH_28 hF | exact fH_29 hF | exact fH_30 hF | exact t0 | exact t2) rfl ?_
            refine E_iload (pc' := 37) g12_35 rfl rfl ?_
            refine E_iaload (pc' := 38) g12_37 rfl (by first | exact fH_24 hF | exact fH_25 hF | exact fH_26 hF | exact fH_27 hF | exact fH_28 hF | exact fH_29 hF | exact fH_30 hF | exact t0 | exact t2) (by omega) (by omega) ?_
            refine E_iconst (pc' := 39) g12_38 (by decide) rfl ?_
            refine E_cV2i (pc' := 42) g12_39 k12_105 na37 rfl ow37 rfl (Nat.le_of_ble_eq_true rfl) (by first | exact fH_24 hF | exact fH_25 hF | exact fH_26 hF | exact fH_27 hF | exact fH_28 hF | exact fH_29 hF | exact fH_30 hF | exact t0 | exact t2) (C_edgeOf hT0) (by decide) ?_
            refine E_cV2i (pc' := 45) g12_42 k12_108 na41 rfl ow41 rfl (Nat.le_of_ble_eq_true rfl) (by first | exact fH_24 hF | exact fH_25 hF | exact fH_26 hF | exact fH_27 hF | exact fH_28 hF | exact fH_29 hF | exact fH_30 hF | exact t0 | exact t2) (C_plainWith hT0) (by decide) ?_
            refine E_iand (pc' := 46) g12_45 rfl ?_
            refine E_st3 (pc' := 47) g12_46 rfl ?_
            refine E_aload_n (pc' := 48) g12_47 rfl rfl ?_
            refine E_iload_n (pc' := 49) g12_48 rfl rfl ?_
            refine E_iconst (pc' := 50) g12_49 (by decide) rfl ?_
            refine E_cV2i (pc' := 53) g12_50 k12_102 na42 rfl ow42 rfl (Nat.le_of_ble_eq_true rfl) (by first | exact fH_24 hF | exact fH_25 hF | exact fH_26 hF | exact fH_27 hF | exact fH_28 hF | exact fH_29 hF | exact fH_30 hF | exact t0 | exact t2) (C_beside hT0 (by omega)) (by decide) ?_
            refine E_st5 (pc' := 55) g12_53 rfl ?_
            refine E_iload (pc' := 57) g12_55 rfl rfl ?_
            refine E_iflt (pc' := 60) (pt := 87) g12_57 rfl rfl (fun c6 => ?_) (fun c6 => ?_)
            · first
              | (exfalso; omega)
              | (refine E_iload_n (pc' := 88) g12_87 rfl rfl ?_
                 exact E_iret g12_88 ro12 (by first | rw [if_pos (by omega), if_pos (by omega), and_self hWs, and_self hWs] | rw [if_pos (by omega), if_neg (by omega), and_self hWs] | rw [if_neg (by omega), if_pos (by omega), and_abs hWs p0] | rw [if_neg (by omega), if_neg (by omega)]) rfl)
            · first
              | (exfalso; omega)
              | (refine E_iload (pc' := 62) g12_60 rfl rfl ?_
                 refine E_bipush (pc' := 64) g12_62 (by decide) rfl ?_
                 refine E_icge (pc' := 67) (pt := 87) g12_64 rfl rfl (fun c7 => ?_) (fun c7 => ?_)
                 · first
                   | (exfalso; omega)
                   | (refine E_iload_n (pc' := 88) g12_87 rfl rfl ?_
                      exact E_iret g12_88 ro12 (by first | rw [if_pos (by omega), if_pos (by omega), and_self hWs, and_self hWs] | rw [if_pos (by omega), if_neg (by omega), and_self hWs] | rw [if_neg (by omega), if_pos (by omega), and_abs hWs p0] | rw [if_neg (by omega), if_neg (by omega)]) rfl)
                 · first
                   | (exfalso; omega)
                   | (refine E_iload_n (pc' := 68) g12_67 rfl rfl ?_
                      refine E_aload_n (pc' := 69) g12_68 rfl rfl ?_
                      refine E_iconst (pc' := 70) g12_69 (by decide) rfl ?_
                      refine E_aload_n (pc' := 71) g12_70 rfl rfl ?_
                      refine E_aload_n (pc' := 72) g12_71 rfl rfl ?_
                      refine E_getR (pc' := 75) g12_72 f12_15 tg1_1 rfl (by first | exact fH_24 hF | exact fH_25 hF | exact fH_26 hF | exact fH_27 hF | exact fH_28 hF | exact fH_29 hF | exact fH_30 hF | exact t0 | exact t2) rfl ?_
                      refine E_iload (pc' := 77) g12_75 rfl rfl ?_
                      refine E_iaload (pc' := 78) g12_77 rfl (by first | exact fH_24 hF | exact fH_25 hF | exact fH_26 hF | exact fH_27 hF | exact fH_28 hF | exact fH_29 hF | exact fH_30 hF | exact t0 | exact t2) (by omega) (by omega) ?_
                      refine E_iconst (pc' := 79) g12_78 (by decide) rfl ?_
                      refine E_cV2i (pc' := 82) g12_79 k12_105 na37 rfl ow37 rfl (Nat.le_of_ble_eq_true rfl) (by first | exact fH_24 hF | exact fH_25 hF | exact fH_26 hF | exact fH_27 hF | exact fH_28 hF | exact fH_29 hF | exact fH_30 hF | exact t0 | exact t2) (C_edgeOf hT0) (by decide) ?_
                      refine E_cV2i (pc' := 85) g12_82 k12_108 na41 rfl ow41 rfl (Nat.le_of_ble_eq_true rfl) (by first | exact fH_24 hF | exact fH_25 hF | exact fH_26 hF | exact fH_27 hF | exact fH_28 hF | exact fH_29 hF | exact fH_30 hF | exact t0 | exact t2) (C_plainWith hT0) (by decide) ?_
                      refine E_iand (pc' := 86) g12_85 rfl ?_
                      refine E_st3 (pc' := 87) g12_86 rfl ?_
                      refine E_iload_n (pc' := 88) g12_87 rfl rfl ?_
                      exact E_iret g12_88 ro12 (by first | rw [if_pos (by omega), if_pos (by omega), and_self hWs, and_self hWs] | rw [if_pos (by omega), if_neg (by omega), and_self hWs] | rw [if_neg (by omega), if_pos (by omega), and_abs hWs p0] | rw [if_neg (by omega), if_neg (by omega)]) rfl))))
theorem mE_in (b1 : bet ed 0 9) (r1 : 0 ≤ kd ∧ kd ≤ 6) (hW : bet W 0 16777215) : 0 ≤ mE W ed tr kd wd ht s ∧ mE W ed tr kd wd ht s ≤ 16777215 := by
  unfold mE
  refine m_and_in (m_and_in (hW _) ?_) ?_
  · split
    · exact hW _
    · exact pw_in b1 (by omega)
  · split
    · exact hW _
    · exact pw_in b1 (by omega)
theorem mE_bit (b1 : bet ed 0 9) (r1 : 0 ≤ kd ∧ kd ≤ 6) (r2 : 1 ≤ wd ∧ wd ≤ 3) (r3 : 1 ≤ ht ∧ ht ≤ 2) (hn : (n : Int) = wd * ht) (hW : bet W 0 16777215) (hWI : ∀ b : Nat, bit (ix W s) b = true → (b : Int) < kd * 4 ∧ plB ed b = true) (hs : s < n) (htr : trR bl n s tr T) {b : Nat} : bit (mE W ed tr kd wd ht s) b = true ↔ (bit (ix W s) b = true ∧ ∀ h : Nat, h = 0 ∨ h = 3 → ¬ bsd wd ht s h = -9 → eo ed (ix T (bsd wd ht s h)) (((h : Int) + 2).tmod 4) = eo ed b h) := by
  have hw := wh_bd r2.1 r2.2 r3.1 r3.2
  have q1 : 0 ≤ (if bsd wd ht s 0 < 0 then ix W s else pw (hvs ed (4 * kd).toNat) 0 (eo ed (ix tr (bsd wd ht s 0)) 2)) ∧ (if bsd wd ht s 0 < 0 then ix W s else pw (hvs ed (4 * kd).toNat) 0 (eo ed (ix tr (bsd wd ht s 0)) 2)) ≤ 16777215 := by
    split
    · exact hW _
    · exact pw_in b1 (by omega)
  have q2 : 0 ≤ (if bsd wd ht s 3 < 0 then ix W s else pw (hvs ed (4 * kd).toNat) 3 (eo ed (ix tr (bsd wd ht s 3)) 1)) ∧ (if bsd wd ht s 3 < 0 then ix W s else pw (hvs ed (4 * kd).toNat) 3 (eo ed (ix tr (bsd wd ht s 3)) 1)) ≤ 16777215 := by
    split
    · exact hW _
    · exact pw_in b1 (by omega)
  unfold mE
  rw [bit_and (m_and_in (hW _) q1) q2, bit_and (hW _) q1, Bool.and_eq_true, Bool.and_eq_true]
  have key : ∀ h : Nat, h = 0 ∨ h = 3 → bit (ix W s) b = true → ((bit (if bsd wd ht s h < 0 then ix W s else pw (hvs ed (4 * kd).toNat) h (eo ed (ix tr (bsd wd ht s h)) (((h : Int) + 2).tmod 4))) b = true) ↔ (¬ bsd wd ht s h = -9 → eo ed (ix T (bsd wd ht s h)) (((h : Int) + 2).tmod 4) = eo ed b h)) := by
    intro h hh hb
    have hr := (bs_at r2 r3 (s := s) (h := h) (by omega) (by omega)).2
    by_cases e : bsd wd ht s h < 0
    · rw [if_pos e]
      exact ⟨fun _ z => absurd (by omega) z, fun _ => hb⟩
    · rw [if_neg e]
      have e5 := (bs_sym r2 r3 (s := s) (h := h) (by omega) (by omega) (by omega)).2.2.1 (by omega)
      obtain ⟨o, ho'⟩ : ∃ o : Nat, (o : Int) = bsd wd ht s h := ⟨(bsd wd ht s h).toNat, by omega⟩
      rw [← ho', htr.2 o (by omega) (Or.inl (by omega)), pw_bit b1 (by omega) (by omega)]
      have := hWI b hb
      constructor
      · rintro ⟨a1, a2, a3⟩ _; exact a3.symm
      · intro z; exact ⟨by omega, this.2, (z (by omega)).symm⟩
  have k0 := key 0 (Or.inl rfl)
  have k3 := key 3 (Or.inr rfl)
  constructor
  · rintro ⟨⟨a1, a2⟩, a3⟩
    refine ⟨a1, fun h hh => ?_⟩
    rcases hh with rfl | rfl
    · exact (k0 a1).mp a2
    · exact (k3 a1).mp a3
  · rintro ⟨a1, a2⟩
    exact ⟨⟨a1, (k0 a1).mpr (a2 0 (Or.inl rfl))⟩, (k3 a1).mpr (a2 3 (Or.inr rfl))⟩
end FI
