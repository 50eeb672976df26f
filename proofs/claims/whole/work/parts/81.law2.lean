/-! the law's walk: out of a simulation between the class and the model -/
def l_aok : Nat → Nat → Nat → Bool
  | 0, _, _ => true
  | n + 1, cn, pc => decide (l_get pc = some (.aload_n 0, 1)) && decide (l_get (pc + 1) = some (.iload_n 3, 1)) && decide (l_get (pc + 2) = some (.iconst (cn : Int), 1)) && decide (l_get (pc + 3) = some (.iadd, 1)) && decide (l_get (pc + 4) = some (.iaload, 1)) && l_aok n (cn + 1) (pc + 5)
def l_cases : List (Nat × Nat × Nat × Int) := [(152, 13, 17, 650), (175, 18, 22, 637), (188, 23, 26, 624), (201, 27, 31, 591), (234, 32, 35, 558), (267, 36, 39, 525), (300, 40, 43, 502), (323, 44, 47, 469), (356, 48, 51, 456), (369, 52, 55, 443), (382, 56, 59, 420), (405, 60, 63, 387), (438, 64, 67, 354), (471, 68, 71, 321), (504, 72, 75, 298), (527, 76, 79, 265), (560, 80, 83, 252), (573, 84, 87, 239), (586, 88, 91, 216), (609, 92, 95, 183), (642, 96, 99, 150), (675, 100, 103, 117), (708, 104, 108, 74), (751, 109, 112, 51), (774, 113, 116, 28), (797, 117, 120, 5)]
def l_cok (q : Nat × Nat × Nat × Int) (o : Nat × Nat × Nat) : Bool :=
  decide (l_get q.1 = some (.aload_n 1, 1)) && l_aok o.2.2 1 (q.1 + 1) && decide (l_get (q.1 + 1 + 5 * o.2.2) = some (.invokevirtual q.2.1, 3)) && decide (l_ml q.2.1 = some o.1)
  && decide (l_get (q.1 + 4 + 5 * o.2.2) = some (.aload_n 2, 1)) && l_aok o.2.2 1 (q.1 + 5 + 5 * o.2.2) && decide (l_get (q.1 + 5 + 10 * o.2.2) = some (.invokevirtual q.2.2.1, 3)) && decide (l_ml q.2.2.1 = some o.2.1)
  && decide (l_get (q.1 + 8 + 10 * o.2.2) = some (.if_icmp .eq q.2.2.2, 3)) && decide (((q.1 + 8 + 10 * o.2.2 : Nat) : Int) + q.2.2.2 = 820) && decide (m_na o.1 = o.2.2 + 1) && decide (m_na o.2.1 = o.2.2 + 1) && decide (m_own o.1 = 6) && decide (m_own o.2.1 = 7) && decide (o.2.2 ≤ 3) && decide (o.1 < 163) && decide (o.2.1 < 163)
set_option maxRecDepth 100000 in
theorem l_cases_ok : (List.range 26).all (fun j => l_cok (l_cases.getD j (0, 0, 0, 0)) (l_ops.getD j (0, 0, 0))) = true := by decide +kernel
/-- what the walk wants of the two classes -/
def LawSim (Sim : mH → Prop) (mo : Nat) : Prop :=
  (∃ Ha H0 : mH, Call 30 54 [mR 0] [(6, m_def 6)] none Ha ∧ mo = Ha.length ∧ Call 30 98 [mR mo] (Ha ++ [(7, m_def 7)]) none H0 ∧ H0.length ≤ 1000 ∧ m_sz H0 ≤ 100000 ∧ Sim H0) ∧
  (∀ H, Sim H → (∃ fs, H[0]? = some (6, fs)) ∧ ∃ fs, H[mo]? = some (7, fs)) ∧
  (∀ (j : Nat) (o : Nat × Nat × Nat), l_ops[j]? = some o → ∀ (H : mH) (av : List Int), Sim H → m_okH H → av.length = o.2.2 → (∀ a ∈ av, m_in a = true) → ∃ (v : Int) (H1 H2 : mH), Call 30 o.1 (mR 0 :: av.map mI) H (mI v) H1 ∧ Call 30 o.2.1 (mR mo :: av.map mI) H1 (mI v) H2 ∧ Sim H2 ∧ H1.length = H.length ∧ m_sz H1 = m_sz H ∧ H2.length = H.length ∧ m_sz H2 = m_sz H ∧ ∃ fs, H1[mo]? = some (7, fs))
def L_W (l : Launch) (D : va_G) (K : mK) (mo : Nat) (p : Program) (e : Env) (s : State) (m : MethodId) (below : List Frame) (meth : Method) (c : Code) (b : Nat) (pc i : Nat) (st : List Value) (H : mH) : Prop := ∀ (Hr : Heap) (locs : List Loc) (lsr : Array Slot), va_P D m_classes (m_ws s.heap.size K H) Hr → va_S (fun q => s.heap.size ≤ q) s.heap Hr locs → lv_has lsr 4 [(0, .ref b), (1, .ref (s.heap.size + 0)), (2, .ref (s.heap.size + mo)), (3, .int (nI i))] → W p l e room_1 s m #[Value.ref b] below meth c Hr locs H.length (m_sz H) (lw_Z below #[Value.ref b] s) (F0 m pc lsr st)
section LW
variable {l : Launch} {D : va_G} {K : mK} {kh mo : Nat} {p : Program} {e : Env} {s : State} {m : MethodId} {below : List Frame} {meth : Method} {c : Code} {b L : Nat} {xs : Nat → Int32} {pc i : Nat} {st : List Value} {H : mH}
theorem L_size {R : Room} {args : Array Value} {T : State} {Hr : Heap} {locs : List Loc} {n : Nat} (hP : va_P D m_classes (m_ws s.heap.size K H) Hr) (hS : va_S (fun q => s.heap.size ≤ q) s.heap Hr locs) (hT : T.heap = Hr) (X : Stand p l e R s m args below meth c T locs H.length n) : Hr.size = s.heap.size + H.length := by
  have h1 := X.heapSize
  rw [hT] at h1
  have h2 : s.heap.size + H.length ≤ Hr.size := by
    by_cases h0 : H.length = 0
    · have := hS.1
      omega
    · have hl : H.length - 1 < H.length := by omega
      have h3 := hP (H.length - 1) _ (m_ws_get (List.getElem?_eq_getElem hl))
      have h4 := h3.lt
      simp only at h4
      omega
  omega
theorem L_al1 (C0 : lw_At p s m meth c b L xs) (hd : l_get pc = some (.aload_n 1, 1)) (h : L_W l D K mo p e s m below meth c b (pc + 1) i (.ref (s.heap.size + 0) :: st) H) : L_W l D K mo p e s m below meth c b pc i st H :=
  fun Hr locs lsr hP hS hl => lv_aload_n C0.1 C0.2.1 (l_dec hd) rfl (lv_at hl 1 rfl) (h Hr locs lsr hP hS hl)
theorem L_al2 (C0 : lw_At p s m meth c b L xs) (hd : l_get pc = some (.aload_n 2, 1)) (h : L_W l D K mo p e s m below meth c b (pc + 1) i (.ref (s.heap.size + mo) :: st) H) : L_W l D K mo p e s m below meth c b pc i st H :=
  fun Hr locs lsr hP hS hl => lv_aload_n C0.1 C0.2.1 (l_dec hd) rfl (lv_at hl 2 rfl) (h Hr locs lsr hP hS hl)
theorem L_args (C0 : lw_At p s m meth c b L xs) (hL : L ≤ 2048) : ∀ (n cn pc : Nat) (st : List Value), l_aok n cn pc = true → i + cn + n ≤ L → L_W l D K mo p e s m below meth c b (pc + 5 * n) i (((List.range' (i + cn) n).map (fun j => Value.int (xs j))).reverse ++ st) H → L_W l D K mo p e s m below meth c b pc i st H
  | 0, cn, pc, st, _, _, h => by simpa using h
  | n + 1, cn, pc, st, ha, hi, h => by
    simp only [l_aok, Bool.and_eq_true, decide_eq_true_eq] at ha
    obtain ⟨⟨⟨⟨⟨d0, d1⟩, d2⟩, d3⟩, d4⟩, ha⟩ := ha
    have h' : L_W l D K mo p e s m below meth c b (pc + 5) i (.int (xs (i + cn)) :: st) H := by
      refine L_args C0 hL n (cn + 1) (pc + 5) _ ha (by omega) ?_
      rw [List.range'_succ, List.map_cons, List.reverse_cons, List.append_assoc] at h
      have e1 : pc + 5 * (n + 1) = pc + 5 + 5 * n := by omega
      rw [e1] at h
      exact h
    intro Hr locs lsr hP hS hl
    obtain ⟨hx, hb, hr, hml, hown, hts, hX, hbl, hlocks, hgv⟩ := C0
    refine lv_aload_n hx hb (l_dec d0) rfl (lv_at hl 0 rfl) ?_
    refine lv_iload_n hx hb (l_dec d1) rfl (lv_at hl 3 rfl) ?_
    refine lv_iconst (v := nI cn) hx hb (l_dec d2) rfl ?_
    refine lv_iadd hx hb (l_dec d3) ?_
    rw [nI_add]
    refine va_sld hx hb hX hbl (Nat.not_le.mpr hbl) hS (vp_in_nI (by omega) (by omega)) (l_dec d4) ?_
    rw [nI_clamp (by omega)]
    exact h' Hr locs lsr hP hS hl
theorem L_call (C0 : lw_At p s m meth c b L xs) (hE : m_env D K s.heap.size kh s s.heap) {x z a : Nat} {fs : List Int} {av : List mV} {v : Int} {H1 : mH} (hm : l_ml x = some z) (hd : l_get pc = some (.invokevirtual x, 3)) (hM : m_CM 30 z (mR a :: av) H (mI v) H1) (ha : H[a]? = some (m_own z, fs)) (hn : (mR a :: av).length = m_na z) (h8 : (st.map fun v => v.category).sum ≤ 8) (hlen : H1.length = H.length) (hsz : m_sz H1 = m_sz H) (hl1 : H.length ≤ 1000) (hs1 : m_sz H ≤ 100000) (h : L_W l D K mo p e s m below meth c b (pc + 3) i (.int (Int32.ofInt v) :: st) H1) : L_W l D K mo p e s m below meth c b pc i ((av.map (m_enc s.heap.size)).reverse ++ .ref (s.heap.size + a) :: st) H := by
  intro Hr locs lsr hP hS hl T hT X
  have hz := L_size hP hS hT X
  obtain ⟨hx, hb, hr, hml, hown, hts, hX, hbl, hlocks, hgv⟩ := C0
  obtain ⟨p1, p2, p3, p4, hlok⟩ := l_ml_ok hm
  simp only [l_lok, Bool.and_eq_true, decide_eq_true_eq] at hlok
  obtain ⟨⟨⟨⟨⟨⟨hz163, w1⟩, w2⟩, w3⟩, w4⟩, hpar⟩, hown8⟩ := hlok
  obtain ⟨-, hmx, -, hcl, -, hn1, hn2⟩ := m_mok_spec hz163
  have hG : GoodIn lw_tbl (wsV "QuiltPatchesLaw" x (m_nm z).cls (m_nm z) (m_w z)) := by
    intro w hw
    have hw' : w ∈ m_tbl := by
      unfold wsV at hw
      rcases List.mem_append.mp hw with hw | hw
      · simp only [List.mem_cons, List.not_mem_nil, or_false] at hw
        rcases hw with rfl | rfl | rfl | rfl
        · exact m_at_in w1
        · exact m_at_in w2
        · exact m_at_in w3
        · exact m_at_in w4
      · exact (m_good_w hz163 w hw).1
    exact ⟨m_tbl_sub hw', m_tbl_good hw'⟩
  have hws : (m_ws s.heap.size K H)[a]? = some (s.heap.size + a, .inr (m_own z, m_encO s.heap.size (m_own z) fs)) := by rw [m_ws_get ha]; simp [m_encC, hown8]
  have hrecv := va_recv hE.1 hP (m_C_get hown8) hws
  rw [← m_cR_C hown8, ← hcl] at hrecv
  have hp0 : (parseMethodDescriptor (m_nm z).desc).map (fun d => d.parameters.length) = some av.length := by
    cases hq : parseMethodDescriptor (m_nm z).desc with
    | none => rw [hq] at hpar; cases hpar
    | some sg =>
      rw [hq] at hpar
      simp only [Option.map_some, Option.some.injEq] at hpar ⊢
      simp only [List.length_cons] at hn
      omega
  have hM1 := hM l D K s.heap.size kh
  rw [hlen, hsz, Nat.sub_self, Nat.sub_self] at hM1
  have hR : (m_rm 30 0 0).frames + 1 ≤ room_1.frames ∧ 8 + (m_mx z + 11) + (m_rm 30 0 0).locals ≤ room_1.locals := by
    show 30 + 1 ≤ 2048 ∧ 8 + (m_mx z + 11) + 64 * 30 ≤ 84000
    omega
  have hrun := va_runV (g := F0 m pc lsr ((av.map (m_enc s.heap.size)).reverse ++ .ref (s.heap.size + a) :: st)) (rest := st) (As := av.map (m_enc s.heap.size)) (b := s.heap.size + a) (nL := 4) (n := av.length) (locs := locs) (cells := H.length) (slots := m_sz H) (H := Hr) (p := p) (l := l) (e := e) (R := room_1) (below := below) (meth := meth) ⟨hx, hb, hml, hown, hts⟩ hM1 (cwV av.length hts hG rfl rfl rfl ⟨rfl, hn1, hn2, hp0⟩ hR) ⟨m_blind, hrecv, fun U hU hW => (⟨rfl, by rw [hU]; exact hz, by rw [hU]; exact hP, by
      rw [hU]
      exact m_env_go hE hW hS.2.1 (Nat.le_refl _)⟩ : m_Pc D K s.heap.size kh (mR a :: av) H _ U)⟩ rfl (by simp) hl.1 rfl (lv_room h8) (l_dec hd) (by
      show H.length + 0 ≤ 600000 ∧ m_sz H + 0 ≤ 7302250
      omega)
  obtain ⟨v', st₀, t, T', Lc, h0, X', hLc, e1, e2, ⟨hv, hz1, hP1, hF1, hF2⟩, go⟩ := hrun T hT X
  cases hv
  rw [h0] at hF1 hF2
  rw [← e1] at hz1 hP1 hF1 hF2
  have hS' : va_S (fun q => s.heap.size ≤ q) s.heap T'.heap (locs ++ Lc) := by
    refine ⟨Nat.le_trans hS.1 hF1, fun q g1 g2 => ?_, fun q hq => ?_⟩
    · rw [hF2 q (Nat.lt_of_lt_of_le g1 hS.1) g2]
      exact hS.2.1 q g1 g2
    · rcases List.mem_append.mp hq with g | g
      · exact hS.2.2 q g
      · exact hLc q g
  have X2 : Stand p l e room_1 s m #[Value.ref b] below meth c T' (locs ++ Lc) H1.length (m_sz H1) := by
    rw [hlen, hsz]
    exact X'
  obtain ⟨t2, a1, b1⟩ := h T'.heap (locs ++ Lc) lsr hP1 hS' hl T' rfl X2
  exact ⟨t2, go t2 a1, b1⟩
/-- one number of the script: both are asked, both answer alike -/
theorem L_case {Sim : mH → Prop} (hSim : LawSim Sim mo) (C0 : lw_At p s m meth c b L xs) (hL : L ≤ 2048) (hE : m_env D K s.heap.size kh s s.heap) {j : Nat} (hj : j < 26) (hi : i + 4 ≤ L) (h1 : Sim H) (h2 : m_okH H) (hl1 : H.length ≤ 1000) (hs1 : m_sz H ≤ 100000)
    (h : ∀ H2, Sim H2 → m_okH H2 → H2.length = H.length → m_sz H2 = m_sz H → L_W l D K mo p e s m below meth c b 820 i [] H2) : L_W l D K mo p e s m below meth c b (l_cases.getD j (0, 0, 0, 0)).1 i [] H := by
  have hc := List.all_eq_true.mp l_cases_ok j (List.mem_range.mpr hj)
  have ho : l_ops[j]? = some (l_ops.getD j (0, 0, 0)) := by
    rw [List.getD_eq_getElem?_getD]
    have : j < l_ops.length := hj
    rw [List.getElem?_eq_getElem this]
    rfl
  generalize l_cases.getD j (0, 0, 0, 0) = q at hc ⊢
  generalize l_ops.getD j (0, 0, 0) = o at hc ho
  obtain ⟨pc0, x1, x2, off⟩ := q
  obtain ⟨yx, ym, na⟩ := o
  simp only [l_cok, Bool.and_eq_true, decide_eq_true_eq] at hc
  obtain ⟨⟨⟨⟨⟨⟨⟨⟨⟨⟨⟨⟨⟨⟨⟨⟨c1, c2⟩, c3⟩, c4⟩, c5⟩, c6⟩, c7⟩, c8⟩, c9⟩, c10⟩, n1⟩, n2⟩, o1⟩, o2⟩, hna⟩, y1⟩, y2⟩ := hc
  obtain ⟨-, hk, hstep⟩ := hSim
  obtain ⟨⟨f0, hf0⟩, ⟨f1, hf1⟩⟩ := hk H h1
  have hav : ∀ z ∈ (List.range' (i + 1) na).map (fun j => (xs j).toInt), m_in z = true := by
    intro z hz
    obtain ⟨j2, -, rfl⟩ := List.mem_map.mp hz
    exact m_in_toInt _
  obtain ⟨v, H1, H2, k1, k2, k3, k4, k5, k6, k7, f2, hf2⟩ := hstep j _ ho H ((List.range' (i + 1) na).map (fun j => (xs j).toInt)) h1 h2 (by simp) hav
  have okA : ∀ a, m_okS (mR a :: ((List.range' (i + 1) na).map (fun j => (xs j).toInt)).map mI) := by
    intro a
    refine m_okS_R (fun z hz => ?_)
    obtain ⟨w, hw, rfl⟩ := List.mem_map.mp hz
    exact ⟨m_okVI (hav w hw), by simp⟩
  obtain ⟨q1, -, -, -, qM1⟩ := Call_met k1 y1 (by simp [n1]) h2 (okA 0)
  obtain ⟨q2, -, -, -, qM2⟩ := Call_met k2 y2 (by simp [n2]) q1 (okA mo)
  have enc : (((List.range' (i + 1) na).map (fun j => (xs j).toInt)).map mI).map (m_enc s.heap.size) = (List.range' (i + 1) na).map (fun j => Value.int (xs j)) := by
    rw [List.map_map, List.map_map]
    apply List.map_congr_left
    intro j2 _
    show Value.int (Int32.ofInt (xs j2).toInt) = _
    rw [m_of_toInt]
  have hend := h H2 k3 q2 k6 k7
  refine L_al1 C0 c1 ?_
  refine L_args C0 hL na 1 (pc0 + 1) _ c2 (by omega) ?_
  rw [← enc]
  refine L_call C0 hE c4 c3 qM1 (by rw [o1]; exact hf0) (by simp [n1]) (by simp) k4 k5 hl1 hs1 ?_
  have e4 : pc0 + 1 + 5 * na + 3 = pc0 + 4 + 5 * na := by omega
  rw [e4]
  refine L_al2 C0 c5 ?_
  have e5 : pc0 + 4 + 5 * na + 1 = pc0 + 5 + 5 * na := by omega
  rw [e5]
  refine L_args C0 hL na 1 (pc0 + 5 + 5 * na) _ c6 (by omega) ?_
  rw [← enc]
  have e6 : pc0 + 5 + 5 * na + 5 * na = pc0 + 5 + 10 * na := by omega
  rw [e6]
  refine L_call C0 hE c8 c7 qM2 (by rw [o2]; exact hf2) (by simp [n2]) (by simp [Value.category]) (by omega) (by omega) (by omega) (by omega) ?_
  have e7 : pc0 + 5 + 10 * na + 3 = pc0 + 8 + 10 * na := by omega
  rw [e7]
  intro Hr locs lsr hP hS hl
  exact lv_icmp_eq (tgt := 820) C0.1 C0.2.1 (l_dec c9) c10 (fun _ => hend Hr locs lsr hP hS hl) (fun q => absurd rfl q)
/-- the loop -/
theorem L_loop {Sim : mH → Prop} (hSim : LawSim Sim mo) (C0 : lw_At p s m meth c b L xs) (hL : L ≤ 2048) (hE : m_env D K s.heap.size kh s s.heap) : ∀ (n i : Nat) (H : mH), L < i + 4 * n → i ≤ L → Sim H → m_okH H → H.length ≤ 1000 → m_sz H ≤ 100000 → L_W l D K mo p e s m below meth c b 18 i [] H := by
  intro n
  induction n with
  | zero =>
    intro i H h1 h2
    omega
  | succ n ih =>
    intro i H hn hi h1 h2 hl1 hs1
    have hnext : ∀ H2, Sim H2 → m_okH H2 → H2.length = H.length → m_sz H2 = m_sz H → i + 4 ≤ L → L_W l D K mo p e s m below meth c b 820 i [] H2 := by
      intro H2 g1 g2 g3 g4 g5 Hr locs lsr hP hS hl
      refine lv_iinc (v := nI (i + 4)) (lv' := [(3, .int (nI (i + 4))), (0, .ref b), (1, .ref (s.heap.size + 0)), (2, .ref (s.heap.size + mo))]) C0.1 C0.2.1 (l_dec (by decide +kernel : l_get 820 = some (.iinc 3 4, 3))) hl (k := 3) rfl (nI_add i 4) (by decide) rfl (fun ls' hl' => ?_)
      refine lv_goto (tgt := 18) C0.1 C0.2.1 (l_dec (by decide +kernel : l_get 823 = some (.goto (-805), 3))) (by decide) ?_
      exact ih (i + 4) H2 (by omega) g5 g1 g2 (by omega) (by omega) Hr locs ls' hP hS (lv_sub hl' [1, 2, 3, 0] rfl)
    intro Hr locs lsr hP hS hl
    have C1 := C0
    obtain ⟨hx, hb, hr, hml, hown, hts, hX, hbl, hlocks, hgv⟩ := C1
    refine lv_iload_n hx hb (l_dec (by decide +kernel : l_get 18 = some (.iload_n 3, 1))) rfl (lv_at hl 3 rfl) ?_
    refine lv_aload_n hx hb (l_dec (by decide +kernel : l_get 19 = some (.aload_n 0, 1))) rfl (lv_at hl 0 rfl) ?_
    refine va_slen hx hb hX hbl (Nat.not_le.mpr hbl) hS (l_dec (by decide +kernel : l_get 20 = some (.arraylength, 1))) ?_
    refine lv_iconst (v := nI 4) hx hb (l_dec (by decide +kernel : l_get 21 = some (.iconst 4, 1))) rfl ?_
    refine lv_isub hx hb (l_dec (by decide +kernel : l_get 22 = some (.isub, 1))) ?_
    have hcmp : nI L - nI 4 < nI i ↔ L < i + 4 := by
      rw [Int32.lt_iff_toInt_lt, pk_sub_toInt (by omega) (by omega), nI_toInt (by omega)]
      omega
    refine lv_icmp_gt (tgt := 826) hx hb (l_dec (by decide +kernel : l_get 23 = some (.if_icmp .gt 803, 3))) (by decide) (fun q => ?_) (fun q => ?_)
    · refine lv_iconst (v := 1) hx hb (l_dec (by decide +kernel : l_get 826 = some (.iconst 1, 1))) (by decide) ?_
      refine va_forget (fun q hq => hS.2.2 q hq) ?_
      refine W.widen (k := 600000) (n := 7302250) (by omega) (by omega) ?_
      exact lw_ret hx hb hr hlocks (l_dec (by decide +kernel : l_get 827 = some (.ireturn, 1)))
    · have hi4 : i + 4 ≤ L := by
        have : ¬ L < i + 4 := fun z => q (hcmp.mpr z)
        omega
      refine lv_aload_n hx hb (l_dec (by decide +kernel : l_get 26 = some (.aload_n 0, 1))) rfl (lv_at hl 0 rfl) ?_
      refine lv_iload_n hx hb (l_dec (by decide +kernel : l_get 27 = some (.iload_n 3, 1))) rfl (lv_at hl 3 rfl) ?_
      refine va_sld hx hb hX hbl (Nat.not_le.mpr hbl) hS (vp_in_nI (by omega) (by omega)) (l_dec (by decide +kernel : l_get 28 = some (.iaload, 1))) ?_
      refine lv_bipush (v := 31) hx hb (l_dec (by decide +kernel : l_get 29 = some (.bipush 31, 2))) (by decide) ?_
      refine lv_iand hx hb (l_dec (by decide +kernel : l_get 31 = some (.iand, 1))) ?_
      obtain ⟨j, hj, ej⟩ := pk_andE (xs (nI i).toNatClampNeg) (m := 31) 5 (by decide)
      rw [ej]
      have hti : (nI j).toInt = (j : Int) := nI_toInt (by omega)
      have hsw := l_dec (by decide +kernel : l_get 32 = some (.tableswitch 788 0 25 #[120, 143, 156, 169, 202, 235, 268, 291, 324, 337, 350, 373, 406, 439, 472, 495, 528, 541, 554, 577, 610, 643, 676, 719, 742, 765], 120))
      by_cases hj26 : j < 26
      · have hoff : ∃ off, (#[120, 143, 156, 169, 202, 235, 268, 291, 324, 337, 350, 373, 406, 439, 472, 495, 528, 541, 554, 577, 610, 643, 676, 719, 742, 765] : Array Int)[((j : Int) - 0).toNat]? = some off ∧ (32 : Int) + off = (((l_cases.getD j (0, 0, 0, 0)).1 : Nat) : Int) := by
          have hall : (List.range 26).all (fun j => ((#[120, 143, 156, 169, 202, 235, 268, 291, 324, 337, 350, 373, 406, 439, 472, 495, 528, 541, 554, 577, 610, 643, 676, 719, 742, 765] : Array Int)[j]?).any (fun off => decide ((32 : Int) + off = (((l_cases.getD j (0, 0, 0, 0)).1 : Nat) : Int)))) = true := by decide +kernel
          have h3 := List.all_eq_true.mp hall j (List.mem_range.mpr hj26)
          rw [show ((j : Int) - 0).toNat = j by omega]
          cases h4 : (#[120, 143, 156, 169, 202, 235, 268, 291, 324, 337, 350, 373, 406, 439, 472, 495, 528, 541, 554, 577, 610, 643, 676, 719, 742, 765] : Array Int)[j]? with
          | none => rw [h4] at h3; cases h3
          | some off =>
            rw [h4] at h3
            exact ⟨off, rfl, by simpa using h3⟩
        obtain ⟨off, ho1, ho2⟩ := hoff
        refine lv_tableIn (off := off) (tgt := (l_cases.getD j (0, 0, 0, 0)).1) hx hb hsw (by rw [hti]; omega) (by rw [hti]; omega) (by rw [hti]; exact ho1) ho2 ?_
        exact L_case hSim C0 hL hE hj26 hi4 h1 h2 hl1 hs1 (fun H2 g1 g2 g3 g4 => hnext H2 g1 g2 g3 g4 hi4) Hr locs lsr hP hS hl
      · refine lv_tableOut (tgt := 820) hx hb hsw (by rw [hti]; omega) (by decide) ?_
        exact hnext H h1 h2 rfl rfl hi4 Hr locs lsr hP hS hl
end LW
