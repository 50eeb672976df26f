/-! calls and contracts -/
def m_w (y : Nat) : List Cond := .code (m_nm y) (m_by y) (m_mx y) (m_rt y) :: m_tbl
def m_Pc (D : va_G) (K : mK) (B kh : Nat) (av : List mV) (H : mH) : Array Value → State → Prop := va_Pc (av.map (m_enc B)) (fun U => U.heap.size = B + H.length ∧ va_P D m_classes (m_ws B K H) U.heap ∧ m_env D K B kh U U.heap)
def m_Qc (D : va_G) (K : mK) (B : Nat) (r : mV) (H' : mH) : Array Value → State → Outcome → State → Prop := fun _ st oc t => oc = .returned (r.map (fun w => m_enc B (some w))) ∧ t.heap.size = B + H'.length ∧ va_P D m_classes (m_ws B K H') t.heap ∧ va_F (fun q => B ≤ q) st t
def m_Met (l : Launch) (D : va_G) (K : mK) (B kh d mc ms y : Nat) (av : List mV) (H : mH) (r : mV) (H' : mH) : Prop := Met l (m_nm y) (m_w y) (m_rm d mc ms) (m_Pc D K B kh av H) (m_Qc D K B r H') mc ms (fun q => B ≤ q)
theorem m_good_w {y : Nat} (h : y < 163) : GoodIn m_tbl (m_w y) := by
  intro w hw
  have h1 : w ∈ m_tbl := by
    rcases List.mem_cons.mp hw with rfl | hw
    · exact m_code_in h
    · exact hw
  exact ⟨h1, m_tbl_good h1⟩
theorem m_cR_C {o : Nat} (h : o < 8) : m_cR o = (m_C o).1 := by
  match o, h with
  | 0, _ => rfl
  | 1, _ => rfl
  | 2, _ => rfl
  | 3, _ => rfl
  | 4, _ => rfl
  | 5, _ => rfl
  | 6, _ => rfl
  | 7, _ => rfl
theorem m_mok_spec {y : Nat} (h : y < 163) : plainName (m_nm y).cls = true ∧ m_mx y ≤ 40 ∧ m_na y ≤ m_mx y ∧ (m_nm y).cls = m_cR (m_own y) ∧ (m_rt y = none ∨ m_rt y = some .int ∨ m_rt y = some .boolean) ∧ (m_nm y).cls ≠ "java/lang/invoke/MethodHandle" ∧ (m_nm y).cls ≠ "java/lang/invoke/VarHandle" := by
  have h1 := m_mok_at h
  simp only [m_mok, Bool.and_eq_true, Bool.or_eq_true, decide_eq_true_eq] at h1
  obtain ⟨⟨⟨⟨⟨⟨⟨-, a1⟩, a2⟩, a3⟩, a4⟩, a5⟩, a6⟩, a7⟩ := h1
  refine ⟨a1, a2, a3, a4, ?_, a6, a7⟩
  rcases a5 with (a5 | a5) | a5
  · exact Or.inl a5
  · exact Or.inr (Or.inl a5)
  · exact Or.inr (Or.inr a5)
theorem m_lg_len {B : Nat} (av : List mV) : (lg_sl (av.map (m_enc B))).length = av.length := by
  induction av with
  | nil => rfl
  | cons v av ih =>
    unfold lg_sl at ih ⊢
    simp only [List.map_cons, List.flatMap_cons, m_enc_cat, List.length_append, List.length_cons, ih]
    simp
    omega
theorem m_args_in {B : Nat} : ∀ (av : List mV) (i j : Nat) (v : mV), av[j]? = some v → (i + j, m_enc B v) ∈ lv_args i (av.map (m_enc B))
  | [], i, j, v, h => by simp at h
  | a :: av, i, j, v, h => by
    simp only [List.map_cons, lv_args, m_enc_cat]
    cases j with
    | zero =>
      simp at h
      subst h
      exact List.mem_cons_self
    | succ j =>
      have := m_args_in (B := B) av (i + 1) j v (by simpa using h)
      refine List.mem_cons_of_mem _ ?_
      simpa [Nat.add_assoc, Nat.add_comm 1 j] using this
theorem m_met_of {l : Launch} {D : va_G} {K : mK} {B kh d mc ms y : Nat} {av : List mV} {H : mH} {r : mV} {H' : mH} (hy : y < 163) (ha : av.length = m_na y)
    (h : ∀ (p : Program) (e : Env) (s : State) (m : MethodId) (A : Array Value) (below : List Frame) (meth : Method) (c : Code), m_ctx D K B kh y p s m A meth c → m_P l D K B d mc ms y p e s m A below meth c (MQ below (m_Qc D K B r H') A s mc ms (fun q => B ≤ q)) 0 (av ++ List.replicate (m_mx y - m_na y) none) [] H 0 0) : m_Met l D K B kh d mc ms y av H r H' := by
  obtain ⟨hpl, -, hna, hcl, -⟩ := m_mok_spec hy
  refine Met.ofW (cc := m_by y) (maxL := m_mx y) (ret := m_rt y) hpl rfl ?_
  intro p e s m A below meth c s₁ Bd hml hv
  obtain ⟨rfl, hz, hP, hE⟩ := hv
  have hts := atoms_spec (ws := m_w y) Bd.pre
  have hctx : m_ctx D K B kh y p s m (av.map (m_enc B)).toArray meth c := ⟨Bd.exec, Bd.bytes, Bd.returns, hml, hcl ▸ findClass_of_methodNamed Bd.named, fun w hw => hts w (List.mem_cons_of_mem _ hw), Bd.notSynchronized, (name_of_methodNamed Bd.named Bd.method).1, hE, by omega⟩
  rw [lg_entry_eq]
  have hl := lv_entry (av.map (m_enc B)) (n := m_mx y) (by rw [m_lg_len, ha]; exact hna)
  refine h p e s m _ below meth c hctx (by omega) s.heap [] _ hP va_S.rf (m_lv_of hl (fun i w hi => ?_))
  by_cases h1 : i < av.length
  · rw [List.getElem?_append_left h1] at hi
    have := m_args_in (B := B) av 0 i _ hi
    simpa using this
  · rw [List.getElem?_append_right (by omega), List.getElem?_replicate] at hi
    split at hi <;> cases hi
theorem m_blind {D : va_G} {K : mK} {B kh : Nat} {av : List mV} {H : mH} : FrameBlind (m_Pc D K B kh av H) := by
  intro a U g mk q
  obtain ⟨q0, q1, qP, qE⟩ := q
  exact ⟨q0, q1, qP, m_env_go (U := U.calling g mk a) qE (State.WarmedH.refl U) (fun _ _ _ => rfl) (by omega)⟩
theorem m_nest_of {U : State} (h : m_nests U) {o x k z : Nat} (hm : m_ml o x = some (k, z)) (hk : k = 3 ∨ k = 4) : va_Nw (.methodLinkNest (m_cR o) x (m_nm z) "QuiltPatches") U := by
  unfold m_ml at hm
  cases hf : m_mls.find? (fun q => q.1 == o && q.2.1 == x) with
  | none => rw [hf] at hm; cases hm
  | some q =>
    rw [hf] at hm
    have h2 := List.find?_some hf
    have h3 := h q (List.mem_of_find?_eq_some hf)
    obtain ⟨a, b, c2, d, p1, p2, p3, p4⟩ := q
    simp only [Bool.and_eq_true, beq_iff_eq] at h2
    obtain ⟨rfl, rfl⟩ := h2
    cases hm
    exact h3 hk
section MC
variable {l : Launch} {D : va_G} {K : mK} {B kh d mc ms y : Nat} {p : Program} {e : Env} {s : State} {m : MethodId} {args : Array Value} {below : List Frame} {meth : Method} {c : Code} {Q : State → Prop} {pc : Nat} {ls st : List mV} {H : mH} {k n : Nat}
/-- what is left on the stack behind a call -/
def m_push (r : mV) (rest : List mV) : List mV := (match r with
  | none => []
  | some v => [some v]) ++ rest
theorem m_push_enc (r : mV) (rest : List mV) : (m_push r rest).map (m_enc B) = (r.map (fun w => m_enc B (some w))).toList ++ rest.map (m_enc B) := by
  cases r <;> rfl
/-- behind a call, whatever its kind -/
theorem m_after {mc' ms' : Nat} {r : mV} {H1 : mH} {rest : List mV} {a : Array Value} {stv : List Value} {Hr : Heap} {locs : List Loc} {lsr : Array Slot} (hB : B ≤ s.heap.size) (hk : s.heap.size + k = B + H.length) (hlen : H1.length = H.length + mc') (hS : va_S (fun q => B ≤ q) s.heap Hr locs) (hl : m_lv B (m_mx y) ls lsr)
    (hr : va_Run p l e (m_rm (d + 1) mc ms) s m args below meth c Hr locs k n mc' ms' (F0 m pc lsr stv) (rest.map (m_enc B)) (m_Qc D K B r H1 a) (fun q => B ≤ q)) (h : m_P l D K B (d + 1) mc ms y p e s m args below meth c Q (pc + 3) ls (m_push r rest) H1 (k + mc') (n + ms')) {T : State} (hT : T.heap = Hr) (X : Stand p l e (m_rm (d + 1) mc ms) s m args below meth c T locs k n) : ∃ t, Steps p.tables e below (T.setTop (F0 m pc lsr stv)) t ∧ Q t := by
  obtain ⟨v, st₀, t, T', L, h0, X', hL, e1, e2, ⟨hv, hz1, hP1, hF1, hF2⟩, go⟩ := hr T hT X
  cases hv
  rw [h0] at hF1 hF2
  rw [← e1] at hz1 hP1 hF1 hF2
  have hS' : va_S (fun q => B ≤ q) s.heap T'.heap (locs ++ L) := by
    refine ⟨Nat.le_trans hS.1 hF1, fun q h1 h2 => ?_, fun q hq => ?_⟩
    · rw [hF2 q (Nat.lt_of_lt_of_le h1 hS.1) h2]
      exact hS.2.1 q h1 h2
    · rcases List.mem_append.mp hq with g | g
      · exact hS.2.2 q g
      · exact hL q g
  obtain ⟨t2, a1, b1⟩ := h (by omega) T'.heap (locs ++ L) lsr hP1 hS' hl T' rfl X'
  rw [m_push_enc] at a1
  exact ⟨t2, go t2 a1, b1⟩
/-- the callee's start, at the call -/
theorem m_pre {av : List mV} {Hr : Heap} {locs : List Loc} (hc : m_ctx D K B kh y p s m args meth c) (hz : Hr.size = B + H.length) (hP : va_P D m_classes (m_ws B K H) Hr) (hS : va_S (fun q => B ≤ q) s.heap Hr locs) (U : State) (hU : U.heap = Hr) (hW : s.WarmedH U.vm) : m_Pc D K B kh av H (av.map (m_enc B)).toArray U := by
  refine ⟨rfl, by rw [hU]; exact hz, by rw [hU]; exact hP, ?_⟩
  rw [hU]
  exact m_env_go hc.2.2.2.2.2.2.2.2.1 hW hS.2.1 hc.2.2.2.2.2.2.2.2.2
theorem m_room {mc' ms' z : Nat} (hz : z < 163) : (m_rm d mc' ms').frames + 1 ≤ (m_rm (d + 1) mc ms).frames ∧ 8 + (m_mx z + 11) + (m_rm d mc' ms').locals ≤ (m_rm (d + 1) mc ms).locals := by
  have := (m_mok_spec hz).2.1
  simp only [m_rm]
  omega
theorem s_callV (hc : m_ctx D K B kh y p s m args meth c) {x z a mc' ms' : Nat} {fs : List Int} {av : List mV} {r : mV} {H1 : mH} (hm : m_ml (m_own y) x = some (0, z)) (hd : decode (m_by y) pc = .ok (.invokevirtual x, 3)) (hM : m_Met l D K B kh d mc' ms' z (mR a :: av) H r H1) (ha : H[a]? = some (m_own z, fs)) (hn : (mR a :: av).length = m_na z) (h8 : st.length ≤ 8) (hmc : k + mc' ≤ mc) (hms : n + ms' ≤ ms) (hlen : H1.length = H.length + mc') (h : m_P l D K B (d + 1) mc ms y p e s m args below meth c Q (pc + 3) ls (m_push r st) H1 (k + mc') (n + ms')) : m_P l D K B (d + 1) mc ms y p e s m args below meth c Q pc ls (av.reverse ++ mR a :: st) H k n := by
  intro hk Hr locs lsr hP hS hl T hT X
  have hz := m_size hk hP hS hc.2.2.2.2.2.2.2.2.2 hT X
  obtain ⟨p1, p2, p3, p4, hlok⟩ := m_ml_ok hm
  simp only [m_lok, Bool.and_eq_true, decide_eq_true_eq] at hlok
  obtain ⟨⟨⟨⟨⟨⟨⟨hz163, w1⟩, w2⟩, w3⟩, w4⟩, hpar⟩, hown8⟩, -⟩ := hlok
  obtain ⟨-, -, -, hcl, -, hn1, hn2⟩ := m_mok_spec hz163
  have hG : GoodIn m_tbl (wsV (m_cR (m_own y)) x (m_nm z).cls (m_nm z) (m_w z)) := by
    intro w hw
    unfold wsV at hw
    rcases List.mem_append.mp hw with hw | hw
    · have hw' : w ∈ m_tbl := by
        simp only [List.mem_cons, List.not_mem_nil, or_false] at hw
        rcases hw with rfl | rfl | rfl | rfl
        · exact m_at_in w1
        · exact m_at_in w2
        · exact m_at_in w3
        · exact m_at_in w4
      exact ⟨hw', m_tbl_good hw'⟩
    · exact m_good_w hz163 w hw
  have hws : (m_ws B K H)[a]? = some (B + a, .inr (m_own z, m_encO B (m_own z) fs)) := by rw [m_ws_get ha]; simp [m_encC, hown8]
  have hrecv := va_recv hc.2.2.2.2.2.2.2.2.1.1 hP (m_C_get hown8) hws
  rw [← m_cR_C hown8, ← hcl] at hrecv
  have hp0 : (parseMethodDescriptor (m_nm z).desc).map (fun d => d.parameters.length) = some av.length := by
    cases hq : parseMethodDescriptor (m_nm z).desc with
    | none => rw [hq] at hpar; cases hpar
    | some sg =>
      rw [hq] at hpar
      simp only [Option.map_some, Option.some.injEq] at hpar ⊢
      simp only [List.length_cons] at hn
      omega
  refine m_after hc.2.2.2.2.2.2.2.2.2 hk hlen hS hl (a := (m_enc B (mR a) :: av.map (m_enc B)).toArray) (va_runV (As := av.map (m_enc B)) (nL := m_mx y) (n := av.length) ⟨hc.1, hc.2.1, hc.2.2.2.1, hc.2.2.2.2.1, hc.2.2.2.2.2.1⟩ hM (cwV av.length hc.2.2.2.2.2.1 hG rfl rfl rfl ⟨rfl, hn1, hn2, hp0⟩ (m_room hz163)) ⟨m_blind, hrecv, fun U hU hW => m_pre hc hz hP hS U hU hW⟩ rfl (by simp) hl.1 (by simp [m_enc]) (lv_room (by rw [m_sum8]; exact h8)) hd ⟨hmc, hms⟩) h hT X
theorem s_callS (hc : m_ctx D K B kh y p s m args meth c) {x z mc' ms' : Nat} {av : List mV} {r : mV} {H1 : mH} (hm : m_ml (m_own y) x = some (1, z)) (hd : decode (m_by y) pc = .ok (.invokestatic x, 3)) (hM : m_Met l D K B kh d mc' ms' z av H r H1) (hn : av.length = m_na z) (h8 : st.length ≤ 8) (hmc : k + mc' ≤ mc) (hms : n + ms' ≤ ms) (hlen : H1.length = H.length + mc') (h : m_P l D K B (d + 1) mc ms y p e s m args below meth c Q (pc + 3) ls (m_push r st) H1 (k + mc') (n + ms')) : m_P l D K B (d + 1) mc ms y p e s m args below meth c Q pc ls (av.reverse ++ st) H k n := by
  intro hk Hr locs lsr hP hS hl T hT X
  have hz := m_size hk hP hS hc.2.2.2.2.2.2.2.2.2 hT X
  obtain ⟨p1, p2, p3, p4, hlok⟩ := m_ml_ok hm
  simp only [m_lok, Bool.and_eq_true, decide_eq_true_eq] at hlok
  obtain ⟨⟨⟨⟨hz163, w1⟩, w2⟩, w4⟩, hpar⟩ := hlok
  obtain ⟨-, -, -, hcl, -, hn1, hn2⟩ := m_mok_spec hz163
  have hG : GoodIn m_tbl (va_wsS (m_cR (m_own y)) x (m_nm z) (m_w z)) := by
    intro w hw
    unfold va_wsS at hw
    rcases List.mem_append.mp hw with hw | hw
    · have hw' : w ∈ m_tbl := by
        simp only [List.mem_cons, List.not_mem_nil, or_false] at hw
        rcases hw with rfl | rfl | rfl
        · exact m_at_in w1
        · exact m_at_in w2
        · exact m_at_in w4
      exact ⟨hw', m_tbl_good hw'⟩
    · exact m_good_w hz163 w hw
  rw [← hn] at hpar
  refine m_after hc.2.2.2.2.2.2.2.2.2 hk hlen hS hl (a := (av.map (m_enc B)).toArray) (va_runS (As := av.map (m_enc B)) (nL := m_mx y) (n := av.length) ⟨hc.1, hc.2.1, hc.2.2.2.1, hc.2.2.2.2.1, hc.2.2.2.2.2.1⟩ hM (va_cwS av.length hc.2.2.2.2.2.1 hG rfl rfl rfl ⟨hn1, hn2, hpar⟩ (m_room hz163)) ⟨m_blind, fun U hU hW => m_pre hc hz hP hS U hU hW⟩ rfl (by simp) hl.1 (by simp) (lv_room (by rw [m_sum8]; exact h8)) hd ⟨hmc, hms⟩) h hT X
theorem s_callSN (hc : m_ctx D K B kh y p s m args meth c) {x z mc' ms' : Nat} {av : List mV} {r : mV} {H1 : mH} (hm : m_ml (m_own y) x = some (3, z)) (hd : decode (m_by y) pc = .ok (.invokestatic x, 3)) (hM : m_Met l D K B kh d mc' ms' z av H r H1) (hn : av.length = m_na z) (h8 : st.length ≤ 8) (hmc : k + mc' ≤ mc) (hms : n + ms' ≤ ms) (hlen : H1.length = H.length + mc') (h : m_P l D K B (d + 1) mc ms y p e s m args below meth c Q (pc + 3) ls (m_push r st) H1 (k + mc') (n + ms')) : m_P l D K B (d + 1) mc ms y p e s m args below meth c Q pc ls (av.reverse ++ st) H k n := by
  intro hk Hr locs lsr hP hS hl T hT X
  have hz := m_size hk hP hS hc.2.2.2.2.2.2.2.2.2 hT X
  have hnw : va_Nw (.methodLinkNest (m_cR (m_own y)) x (m_nm z) "QuiltPatches") s := m_nest_of hc.2.2.2.2.2.2.2.2.1.2.2.1 hm (Or.inl rfl)
  obtain ⟨p1, p2, p3, p4, hlok⟩ := m_ml_ok hm
  simp only [m_lok, Bool.and_eq_true, decide_eq_true_eq] at hlok
  obtain ⟨⟨⟨⟨hz163, w1⟩, w2⟩, w4⟩, hpar⟩ := hlok
  obtain ⟨-, -, -, hcl, -, hn1, hn2⟩ := m_mok_spec hz163
  rw [← hn] at hpar
  have hts := hc.2.2.2.2.2.1
  refine m_after hc.2.2.2.2.2.2.2.2.2 hk hlen hS hl (a := (av.map (m_enc B)).toArray) (va_runSN (As := av.map (m_enc B)) (nL := m_mx y) (n := av.length) ⟨hc.1, hc.2.1, hc.2.2.2.1, hc.2.2.2.2.1, hts⟩ hM ⟨va_cnB av.length hts (m_good_w hz163) rfl rfl rfl hnw (hts _ (m_at_in w4)) ⟨hn1, hn2, hpar⟩ (m_room hz163), hts _ (m_at_in w2), trivial⟩ ⟨m_blind, fun U hU hW => m_pre hc hz hP hS U hU hW⟩ rfl (by simp) hl.1 (by simp) (lv_room (by rw [m_sum8]; exact h8)) hd ⟨hmc, hms⟩) h hT X
theorem s_callI (hc : m_ctx D K B kh y p s m args meth c) {x z a mc' ms' : Nat} {av : List mV} {r : mV} {H1 : mH} (hm : m_ml (m_own y) x = some (2, z)) (hd : decode (m_by y) pc = .ok (.invokespecial x, 3)) (hM : m_Met l D K B kh d mc' ms' z (mR a :: av) H r H1) (hn : (mR a :: av).length = m_na z) (h8 : st.length ≤ 8) (hmc : k + mc' ≤ mc) (hms : n + ms' ≤ ms) (hlen : H1.length = H.length + mc') (h : m_P l D K B (d + 1) mc ms y p e s m args below meth c Q (pc + 3) ls (m_push r st) H1 (k + mc') (n + ms')) : m_P l D K B (d + 1) mc ms y p e s m args below meth c Q pc ls (av.reverse ++ mR a :: st) H k n := by
  intro hk Hr locs lsr hP hS hl T hT X
  have hz := m_size hk hP hS hc.2.2.2.2.2.2.2.2.2 hT X
  obtain ⟨p1, p2, p3, p4, hlok⟩ := m_ml_ok hm
  simp only [m_lok, Bool.and_eq_true, decide_eq_true_eq] at hlok
  obtain ⟨⟨⟨⟨⟨⟨⟨hz163, w1⟩, w2⟩, w4⟩, hpar⟩, hini⟩, hrt⟩, -⟩ := hlok
  obtain ⟨-, -, -, hcl, -, hn1, hn2⟩ := m_mok_spec hz163
  have hts := hc.2.2.2.2.2.1
  have hp0 : (parseMethodDescriptor (m_nm z).desc).map (fun d => d.parameters.length) = some av.length := by
    cases hq : parseMethodDescriptor (m_nm z).desc with
    | none => rw [hq] at hpar; cases hpar
    | some sg =>
      rw [hq] at hpar
      simp only [Option.map_some, Option.some.injEq] at hpar ⊢
      simp only [List.length_cons] at hn
      omega
  refine m_after hc.2.2.2.2.2.2.2.2.2 hk hlen hS hl (a := (m_enc B (mR a) :: av.map (m_enc B)).toArray) (va_runI (As := av.map (m_enc B)) (bytes := m_by z) (maxL := m_mx z) (nL := m_mx y) (n := av.length) ⟨hc.1, hc.2.1, hc.2.2.2.1, hc.2.2.2.2.1, hts⟩ hM (cwI (ws' := m_tbl) av.length hts (m_good_w hz163) (by unfold m_w; rw [hrt]) rfl rfl (hts _ (m_at_in w4)) (hts _ (m_at_in w1)) (hts _ (m_at_in w2)) hini ⟨hn1, hn2, hp0⟩ (m_room hz163)) ⟨m_blind, fun U hU hW => m_pre hc hz hP hS U hU hW⟩ rfl (by simp) hl.1 (by simp [m_enc]) (lv_room (by rw [m_sum8]; exact h8)) hd ⟨hmc, hms⟩) h hT X
theorem s_callIN (hc : m_ctx D K B kh y p s m args meth c) {x z a mc' ms' : Nat} {av : List mV} {r : mV} {H1 : mH} (hm : m_ml (m_own y) x = some (4, z)) (hd : decode (m_by y) pc = .ok (.invokespecial x, 3)) (hM : m_Met l D K B kh d mc' ms' z (mR a :: av) H r H1) (hn : (mR a :: av).length = m_na z) (h8 : st.length ≤ 8) (hmc : k + mc' ≤ mc) (hms : n + ms' ≤ ms) (hlen : H1.length = H.length + mc') (h : m_P l D K B (d + 1) mc ms y p e s m args below meth c Q (pc + 3) ls (m_push r st) H1 (k + mc') (n + ms')) : m_P l D K B (d + 1) mc ms y p e s m args below meth c Q pc ls (av.reverse ++ mR a :: st) H k n := by
  intro hk Hr locs lsr hP hS hl T hT X
  have hz := m_size hk hP hS hc.2.2.2.2.2.2.2.2.2 hT X
  have hnw : va_Nw (.methodLinkNest (m_cR (m_own y)) x (m_nm z) "QuiltPatches") s := m_nest_of hc.2.2.2.2.2.2.2.2.1.2.2.1 hm (Or.inr rfl)
  obtain ⟨p1, p2, p3, p4, hlok⟩ := m_ml_ok hm
  simp only [m_lok, Bool.and_eq_true, decide_eq_true_eq] at hlok
  obtain ⟨⟨⟨⟨⟨⟨⟨hz163, w1⟩, w2⟩, w4⟩, hpar⟩, hini⟩, hrt⟩, -⟩ := hlok
  obtain ⟨-, -, -, hcl, -, hn1, hn2⟩ := m_mok_spec hz163
  have hts := hc.2.2.2.2.2.1
  have hp0 : (parseMethodDescriptor (m_nm z).desc).map (fun d => d.parameters.length) = some av.length := by
    cases hq : parseMethodDescriptor (m_nm z).desc with
    | none => rw [hq] at hpar; cases hpar
    | some sg =>
      rw [hq] at hpar
      simp only [Option.map_some, Option.some.injEq] at hpar ⊢
      simp only [List.length_cons] at hn
      omega
  refine m_after hc.2.2.2.2.2.2.2.2.2 hk hlen hS hl (a := (m_enc B (mR a) :: av.map (m_enc B)).toArray) (va_runIN (As := av.map (m_enc B)) (bytes := m_by z) (maxL := m_mx z) (nL := m_mx y) (n := av.length) ⟨hc.1, hc.2.1, hc.2.2.2.1, hc.2.2.2.2.1, hts⟩ hM ⟨va_cnB (ws' := m_tbl) av.length hts (m_good_w hz163) (by unfold m_w; rw [hrt]) rfl rfl hnw (hts _ (m_at_in w4)) ⟨hn1, hn2, hp0⟩ (m_room hz163), hini, hts _ (m_at_in w2)⟩ ⟨m_blind, fun U hU hW => m_pre hc hz hP hS U hU hW⟩ rfl (by simp) hl.1 (by simp [m_enc]) (lv_room (by rw [m_sum8]; exact h8)) hd ⟨hmc, hms⟩) h hT X
theorem s_objInit (hc : m_ctx D K B kh y p s m args meth c) {x z a : Nat} (hm : m_ml (m_own y) x = some (5, z)) (hd : decode (m_by y) pc = .ok (.invokespecial x, 3)) (h8 : st.length ≤ 8) (h : m_P l D K B (d + 1) mc ms y p e s m args below meth c Q (pc + 3) ls st H k n) : m_P l D K B (d + 1) mc ms y p e s m args below meth c Q pc ls (mR a :: st) H k n := by
  intro hk Hr locs lsr hP hS hl
  obtain ⟨p1, p2, p3, p4, hlok⟩ := m_ml_ok hm
  simp only [m_lok, Bool.and_eq_true] at hlok
  have hts := hc.2.2.2.2.2.1
  exact W.objInit hc.1 hc.2.1 hc.2.2.2.2.1 (hts _ (m_at_in hlok.1.1)) (hts _ (m_at_in hlok.1.2)) (hts _ (m_at_in hlok.2)) rfl (by rw [hc.2.2.2.1]; exact hl.1) (rest := st.map (m_enc B)) rfl hd (by simp [m_rm]) (by
    show 2 * 0 + _ + 12 ≤ 64 * (d + 1)
    rw [m_sum8]; omega) (h hk Hr locs lsr hP hS hl)
theorem s_max (hc : m_ctx D K B kh y p s m args meth c) {x z : Nat} {a b : Int} (hm : m_ml (m_own y) x = some (7, z)) (hd : decode (m_by y) pc = .ok (.invokestatic x, 3)) (ha : m_in a = true) (hb : m_in b = true) (h8 : st.length ≤ 8) (hkc : k ≤ mc) (hns : n ≤ ms) (h : m_P l D K B (d + 1) mc ms y p e s m args below meth c Q (pc + 3) ls (mI (if a < b then b else a) :: st) H k n) : m_P l D K B (d + 1) mc ms y p e s m args below meth c Q pc ls (mI b :: mI a :: st) H k n := by
  intro hk Hr locs lsr hP hS hl
  obtain ⟨p1, p2, p3, p4, hlok⟩ := m_ml_ok hm
  simp only [m_lok, Bool.and_eq_true] at hlok
  have hts := hc.2.2.2.2.2.1
  refine va_mmax hc.1 hc.2.1 (by rw [hc.2.2.2.1]; exact hl.1.symm) hc.2.2.2.2.1 (hts _ (m_at_in hlok.1.1.1)) (hts _ (m_at_in hlok.1.1.2)) (hts _ (m_at_in hlok.2)) (hts _ (m_at_in hlok.1.2)) (by simp [m_rm]) (by
    show _ + 13 ≤ 64 * (d + 1)
    rw [m_sum8]; omega) hkc hns hd ?_
  have e1 : (if Int32.ofInt a < Int32.ofInt b then Int32.ofInt b else Int32.ofInt a) = Int32.ofInt (if a < b then b else a) := by
    by_cases hab : a < b
    · rw [if_pos hab, if_pos ((m_lt ha hb).mpr hab)]
    · rw [if_neg hab, if_neg (mt (m_lt ha hb).mp hab)]
  rw [e1]
  exact h hk Hr locs lsr hP hS hl
theorem s_min (hc : m_ctx D K B kh y p s m args meth c) {x z : Nat} {a b : Int} (hm : m_ml (m_own y) x = some (8, z)) (hd : decode (m_by y) pc = .ok (.invokestatic x, 3)) (ha : m_in a = true) (hb : m_in b = true) (h8 : st.length ≤ 8) (hkc : k ≤ mc) (hns : n ≤ ms) (h : m_P l D K B (d + 1) mc ms y p e s m args below meth c Q (pc + 3) ls (mI (if b < a then b else a) :: st) H k n) : m_P l D K B (d + 1) mc ms y p e s m args below meth c Q pc ls (mI b :: mI a :: st) H k n := by
  intro hk Hr locs lsr hP hS hl
  obtain ⟨p1, p2, p3, p4, hlok⟩ := m_ml_ok hm
  simp only [m_lok, Bool.and_eq_true] at hlok
  have hts := hc.2.2.2.2.2.1
  refine va_mmin hc.1 hc.2.1 (by rw [hc.2.2.2.1]; exact hl.1.symm) hc.2.2.2.2.1 (hts _ (m_at_in hlok.1.1.1)) (hts _ (m_at_in hlok.1.1.2)) (hts _ (m_at_in hlok.2)) (hts _ (m_at_in hlok.1.2)) (by simp [m_rm]) (by
    show _ + 13 ≤ 64 * (d + 1)
    rw [m_sum8]; omega) hkc hns hd ?_
  have e1 : (if Int32.ofInt b < Int32.ofInt a then Int32.ofInt b else Int32.ofInt a) = Int32.ofInt (if b < a then b else a) := by
    by_cases hab : b < a
    · rw [if_pos hab, if_pos ((m_lt hb ha).mpr hab)]
    · rw [if_neg hab, if_neg (mt (m_lt hb ha).mp hab)]
  rw [e1]
  exact h hk Hr locs lsr hP hS hl
theorem m_cpy_len {f g : List Int} {sp dp n : Nat} (h1 : sp + n ≤ f.length) (h2 : dp + n ≤ g.length) : (m_cpy f g sp dp n).length = g.length := by
  simp [m_cpy]
  omega
theorem m_cpy_va {f g : List Int} {sp dp n : Nat} (h1 : sp + n ≤ f.length) (h2 : dp + n ≤ g.length) : (fun j => Int32.ofInt ((m_cpy f g sp dp n).getD j 0)) = va_cpy (fun j => Int32.ofInt (f.getD j 0)) (fun j => Int32.ofInt (g.getD j 0)) sp dp n := by
  funext j
  have ht : (g.take dp).length = dp := by simp; omega
  have ht2 : ((f.drop sp).take n).length = n := by simp; omega
  by_cases hj : dp ≤ j ∧ j < dp + n
  · rw [pk_cpy_in hj.1 hj.2]
    congr 1
    simp only [m_cpy, List.getD_eq_getElem?_getD]
    rw [List.getElem?_append_right (by omega), List.getElem?_append_left (by omega), ht, List.getElem?_take, if_pos (by omega), List.getElem?_drop]
  · rw [pk_cpy_out (by omega)]
    congr 1
    simp only [m_cpy, List.getD_eq_getElem?_getD]
    by_cases hj2 : j < dp
    · rw [List.getElem?_append_left (by omega), List.getElem?_take, if_pos hj2]
    · rw [List.getElem?_append_right (by omega), List.getElem?_append_right (by omega), List.getElem?_drop, ht, ht2]
      congr 2
      omega
theorem s_copy (hc : m_ctx D K B kh y p s m args meth c) {x z a b : Nat} {nn dp sp : Int} {f g : List Int} (hm : m_ml (m_own y) x = some (6, z)) (hd : decode (m_by y) pc = .ok (.invokestatic x, 3)) (ha : H[a]? = some (8, f)) (hb : H[b]? = some (8, g)) (i1 : m_in nn = true) (i2 : m_in dp = true) (i3 : m_in sp = true) (hn : 0 ≤ nn) (hdp : 0 ≤ dp) (hsp : 0 ≤ sp) (h1 : sp + nn ≤ f.length) (h2 : dp + nn ≤ g.length) (h8 : st.length ≤ 8) (h : m_P l D K B (d + 1) mc ms y p e s m args below meth c Q (pc + 3) ls st (H.modify b (fun q => (q.1, m_cpy f g sp.toNat dp.toNat nn.toNat))) k n) : m_P l D K B (d + 1) mc ms y p e s m args below meth c Q pc ls (mI nn :: mI dp :: mR b :: mI sp :: mR a :: st) H k n := by
  intro hk Hr locs lsr hP hS hl
  obtain ⟨p1, p2, p3, p4, hlok⟩ := m_ml_ok hm
  simp only [m_lok, Bool.and_eq_true] at hlok
  have hts := hc.2.2.2.2.2.1
  have hwa : (m_ws B K H)[a]? = some (B + a, .inl (K.1, f.length, .inl (fun j => Int32.ofInt (f.getD j 0)))) := by rw [m_ws_get ha]; rfl
  have hwb : (m_ws B K H)[b]? = some (B + b, .inl (K.1, g.length, .inl (fun j => Int32.ofInt (g.getD j 0)))) := by rw [m_ws_get hb]; rfl
  have e1 : sp.toNat + nn.toNat ≤ f.length := by omega
  have e2 : dp.toNat + nn.toNat ≤ g.length := by omega
  have hws' : m_ws B K (H.modify b (fun q => (q.1, m_cpy f g sp.toNat dp.toNat nn.toNat))) = (m_ws B K H).set b (B + b, .inl (K.1, g.length, .inl (va_cpy (fun j => Int32.ofInt (f.getD j 0)) (fun j => Int32.ofInt (g.getD j 0)) sp.toNat dp.toNat nn.toNat))) := by
    rw [m_ws_mod _ hb, ← m_cpy_va e1 e2]
    simp [m_encC, m_cpy_len e1 e2]
  refine va_copyi hc.1 hc.2.1 (by rw [hc.2.2.2.1]; exact hl.1.symm) hc.2.2.2.2.1 (hts _ (m_at_in hlok.1.1.1)) (hts _ (m_at_in hlok.1.1.2)) (hts _ (m_at_in hlok.1.2)) (hts _ (m_at_in hlok.2)) hc.2.2.2.2.2.2.2.2.1.1 hP (m_ws_D B K H) hS a b 0 0 hwa hwb (ty := .int) rfl rfl rfl (m_nneg i3 hsp) (m_nneg i2 hdp) (m_nneg i1 hn) (by rw [m_nat i3, m_nat i1]; exact e1) (by rw [m_nat i2, m_nat i1]; exact e2) (fun i hi => rfl) (by simp [m_rm]) (by
    rw [m_sum8]
    have : nativeFrameWords "java/lang/System" "arraycopy" 5 ≤ 40 := by decide +kernel
    show _ ≤ 64 * (d + 1)
    omega) hd (fun H1 locs1 g1 g2 g3 => ?_)
  rw [m_nat i1, m_nat i2, m_nat i3, ← hws'] at g1
  exact h (by simpa using hk) H1 locs1 lsr g1 g3 hl
end MC
