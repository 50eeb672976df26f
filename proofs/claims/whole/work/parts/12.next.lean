/-! what the little machine does, the real one does: a step -/
def m_iok (pc : Nat) (i : Instr) (len : Nat) : Bool := match i with
  | .iconst _ => len == 1
  | .bipush _ => len == 2
  | .sipush _ => len == 3
  | .ldc_w _ => len == 3
  | .iload_n _ => len == 1
  | .iload _ => len == 2
  | .aload_n _ => len == 1
  | .istore_n _ => len == 1
  | .istore _ => len == 2
  | .astore_n _ => len == 1
  | .iinc _ _ => len == 3
  | .iadd => len == 1
  | .isub => len == 1
  | .imul => len == 1
  | .idiv => len == 1
  | .irem => len == 1
  | .iand => len == 1
  | .ior => len == 1
  | .ixor => len == 1
  | .ishl => len == 1
  | .ishr => len == 1
  | .iushr => len == 1
  | .dup => len == 1
  | .dup2 => len == 1
  | .ifCond _ off => len == 3 && decide (0 ≤ (pc : Int) + off)
  | .if_icmp _ off => len == 3 && decide (0 ≤ (pc : Int) + off)
  | .goto _ => len == 3
  | .tableswitch _ _ _ _ => true
  | .lookupswitch _ _ => true
  | .getfield _ => len == 3
  | .putfield _ => len == 3
  | .iaload => len == 1
  | .baload => len == 1
  | .aaload => len == 1
  | .iastore => len == 1
  | .bastore => len == 1
  | .aastore => len == 1
  | .arraylength => len == 1
  | .new _ => len == 3
  | .newarray _ => len == 2
  | .anewarray _ => len == 3
  | .ireturn => len == 1
  | .return_ => len == 1
  | _ => true
set_option maxRecDepth 100000 in
theorem m_iok_all : m_cs.all (fun l => l.all (fun q => m_iok q.1 q.2.1 q.2.2)) = true := by decide +kernel
theorem m_iok_at {y pc : Nat} {i : Instr} {len : Nat} (h : m_get y pc = some (i, len)) : m_iok pc i len = true := by
  unfold m_get at h
  cases hf : (m_cs.getD y []).find? (fun q => q.1 == pc) with
  | none => rw [hf] at h; cases h
  | some q =>
    rw [hf] at h
    have h1 := List.mem_of_find?_eq_some hf
    have h2 : (q.1 == pc) = true := by simpa using List.find?_some hf
    have h3 : q.1 = pc := by simpa using h2
    have h4 : q.2 = (i, len) := Option.some.inj h
    have h5 : m_cs.getD y [] ∈ m_cs ∨ m_cs.getD y [] = [] := by
      rw [List.getD_eq_getElem?_getD]
      cases hy : m_cs[y]? with
      | none => exact Or.inr rfl
      | some z => exact Or.inl (List.mem_of_getElem? hy)
    rcases h5 with h5 | h5
    · have h6 := List.all_eq_true.mp (List.all_eq_true.mp m_iok_all _ h5) q h1
      rw [h3, h4] at h6
      exact h6
    · rw [h5] at h1
      cases h1
theorem m_jmp_eq {pc tgt : Nat} {off : Int} (h : m_jmp pc off = some tgt) : (pc : Int) + off = (tgt : Int) := by
  unfold m_jmp at h
  split at h
  · cases h
    omega
  · cases h
theorem m_aget_spec {H : mH} {kind : Nat} {st : List mV} {q : Int × List mV} (h : m_aget H kind st = some q) : ∃ (i : Int) (a : Nat) (fs : List Int), st = mI i :: mR a :: q.2 ∧ H[a]? = some (kind, fs) ∧ 0 ≤ i ∧ fs[i.toNat]? = some q.1 := by
  unfold m_aget at h
  split at h
  · split at h
    · split at h
      · rename_i i a r _ k2 fs hH hk
        obtain ⟨v, h1, h2⟩ := Option.map_eq_some_iff.mp h
        cases h2
        obtain ⟨rfl, h0⟩ := hk
        exact ⟨i, a, fs, rfl, hH, h0, h1⟩
      · cases h
    · cases h
  · cases h
theorem m_aput_spec {H : mH} {kind t : Nat} {st : List mV} {q : List mV × mH} (h : m_aput H kind t st = some q) : ∃ (v : mV) (i : Int) (a : Nat) (fs : List Int) (x : Int), st = v :: mI i :: mR a :: q.1 ∧ H[a]? = some (kind, fs) ∧ 0 ≤ i ∧ i.toNat < fs.length ∧ m_st t v = some x ∧ q.2 = m_set H a i.toNat x := by
  unfold m_aput at h
  split at h
  · split at h
    · split at h
      · rename_i v i a r _ k2 fs hH hk
        obtain ⟨x, h1, h2⟩ := Option.map_eq_some_iff.mp h
        cases h2
        obtain ⟨rfl, h0, hl⟩ := hk
        exact ⟨v, i, a, fs, x, rfl, hH, h0, hl, h1, rfl⟩
      · cases h
    · cases h
  · cases h
theorem m_bin_spec {f : Int → Int → Int} {st st' : List mV} (h : m_bin f st = some st') : ∃ (a b : Int) (r : List mV), st = mI b :: mI a :: r ∧ m_in (f a b) = true ∧ st' = mI (f a b) :: r := by
  unfold m_bin at h
  split at h
  · split at h
    · rename_i b a r hin
      cases h
      exact ⟨a, b, r, rfl, hin, rfl⟩
    · cases h
  · cases h
theorem m_st_in {t : Nat} {v : mV} {x : Int} (h : m_st t v = some x) (hv : m_okV v) : m_in x = true := by
  unfold m_st at h
  split at h
  · rename_i z
    have hz : m_in z = true := hv z rfl
    split at h
    · cases h; exact hz
    · split at h
      · split at h
        · cases h; exact hz
        · cases h
      · cases h
  · split at h
    · rename_i hq
      cases h; exact hq.2
    · cases h
  · cases h
theorem m_ld_ok {t : Nat} {v : Int} {w : mV} (h : m_ld t v = some w) (hv : m_in v = true) : m_okV w ∧ w ≠ none := by
  unfold m_ld at h
  split at h
  · split at h
    · cases h
    · cases h; exact ⟨m_okVR _, by simp⟩
  · cases h; exact ⟨m_okVI hv, by simp⟩
theorem m_okH_get {H : mH} {a kd j : Nat} {fs : List Int} {v : Int} (h : m_okH H) (hH : H[a]? = some (kd, fs)) (hv : fs[j]? = some v) : m_in v = true := (h _ (List.mem_of_getElem? hH)).1 v (List.mem_of_getElem? hv)
/-- a step is right -/
def m_T (y pc : Nat) (ls st : List mV) (H : mH) (pc' : Nat) (ls' st' : List mV) (H' : mH) : Prop :=
  m_okH H' ∧ m_okL ls' ∧ m_okS st' ∧ ls'.length = m_mx y ∧ H.length ≤ H'.length ∧ m_sz H ≤ m_sz H' ∧
  ∀ (l : Launch) (D : va_G) (K : mK) (B kh d mc ms : Nat) (p : Program) (e : Env) (s : State) (m : MethodId) (args : Array Value) (below : List Frame) (meth : Method) (c : Code) (Q : State → Prop) (k n : Nat), m_ctx D K B kh y p s m args meth c → k + (H'.length - H.length) ≤ mc → n + (m_sz H' - m_sz H) ≤ ms →
    m_P l D K B d mc ms y p e s m args below meth c Q pc' ls' st' H' (k + (H'.length - H.length)) (n + (m_sz H' - m_sz H)) → m_P l D K B d mc ms y p e s m args below meth c Q pc ls st H k n
theorem m_T_same {y pc : Nat} {ls st : List mV} {H : mH} {pc' : Nat} {ls' st' : List mV} {H' : mH} (h1 : m_okH H') (h2 : m_okL ls') (h3 : m_okS st') (h4 : ls'.length = m_mx y) (h5 : H'.length = H.length) (h6 : m_sz H' = m_sz H)
    (h : ∀ (l : Launch) (D : va_G) (K : mK) (B kh d mc ms : Nat) (p : Program) (e : Env) (s : State) (m : MethodId) (args : Array Value) (below : List Frame) (meth : Method) (c : Code) (Q : State → Prop) (k n : Nat), m_ctx D K B kh y p s m args meth c →
      m_P l D K B d mc ms y p e s m args below meth c Q pc' ls' st' H' k n → m_P l D K B d mc ms y p e s m args below meth c Q pc ls st H k n) : m_T y pc ls st H pc' ls' st' H' := by
  refine ⟨h1, h2, h3, h4, by omega, by omega, fun l D K B kh d mc ms p e s m args below meth c Q k n hc _ _ hp => h l D K B kh d mc ms p e s m args below meth c Q k n hc ?_⟩
  rw [h5, h6, Nat.sub_self, Nat.sub_self] at hp
  exact hp
section MT
variable {y pc len : Nat} {ls st ls' st' : List mV} {H H' : mH} {pc' : Nat}
theorem m_setT {a j : Nat} {v : Int} (o1 : m_okH H) (o2 : m_okL ls) (o3 : m_okS st') (hL : ls.length = m_mx y) (hv : m_in v = true)
    (h : ∀ (l : Launch) (D : va_G) (K : mK) (B kh d mc ms : Nat) (p : Program) (e : Env) (s : State) (m : MethodId) (args : Array Value) (below : List Frame) (meth : Method) (c : Code) (Q : State → Prop) (k n : Nat), m_ctx D K B kh y p s m args meth c →
      m_P l D K B d mc ms y p e s m args below meth c Q pc' ls st' (m_set H a j v) k n → m_P l D K B d mc ms y p e s m args below meth c Q pc ls st H k n) : m_T y pc ls st H pc' ls st' (m_set H a j v) :=
  m_T_same (m_set_ok o1 hv) o2 o3 hL (m_set_len H a j v) (m_set_sz H a j v) h
theorem m_next_ok {i : Instr} (hg : m_get y pc = some (i, len)) (h : m_next y i len pc ls st H = some (pc', ls', st', H')) (o1 : m_okH H) (o2 : m_okL ls) (o3 : m_okS st) (hL : ls.length = m_mx y) : m_T y pc ls st H pc' ls' st' H' := by
  have hd := m_dec hg
  have hi := m_iok_at hg
  cases i with
  | iconst x =>
    obtain rfl : len = 1 := by simpa [m_iok] using hi
    simp only [m_next] at h
    split at h
    · cases h
      exact m_T_same o1 o2 (m_okS_I (by assumption) o3) hL rfl rfl (fun l D K B kh d mc ms p e s m args below meth c Q k n hc hp => s_iconst hc hd hp)
    · cases h
  | bipush x =>
    obtain rfl : len = 2 := by simpa [m_iok] using hi
    simp only [m_next] at h
    split at h
    · rename_i hx
      cases h
      exact m_T_same o1 o2 (m_okS_I (by rw [m_in_iff]; omega) o3) hL rfl rfl (fun l D K B kh d mc ms p e s m args below meth c Q k n hc hp => s_bipush hc hd hx hp)
    · cases h
  | sipush x =>
    obtain rfl : len = 3 := by simpa [m_iok] using hi
    simp only [m_next] at h
    split at h
    · rename_i hx
      cases h
      exact m_T_same o1 o2 (m_okS_I (by rw [m_in_iff]; omega) o3) hL rfl rfl (fun l D K B kh d mc ms p e s m args below meth c Q k n hc hp => s_sipush hc hd hx hp)
    · cases h
  | ldc_w x =>
    obtain rfl : len = 3 := by simpa [m_iok] using hi
    simp only [m_next] at h
    split at h
    · split at h
      · rename_i v hx hv
        cases h
        exact m_T_same o1 o2 (m_okS_I hv o3) hL rfl rfl (fun l D K B kh d mc ms p e s m args below meth c Q k n hc hp => s_ldc_w hc hd hx hp)
      · cases h
    · cases h
  | iload_n x =>
    obtain rfl : len = 1 := by simpa [m_iok] using hi
    simp only [m_next] at h
    split at h
    · rename_i v hx
      cases h
      exact m_T_same o1 o2 (m_okS_I (m_okL_get o2 hx) o3) hL rfl rfl (fun l D K B kh d mc ms p e s m args below meth c Q k n hc hp => s_iload_n hc hd hx hp)
    · cases h
  | iload x =>
    obtain rfl : len = 2 := by simpa [m_iok] using hi
    simp only [m_next] at h
    split at h
    · rename_i v hx
      cases h
      exact m_T_same o1 o2 (m_okS_I (m_okL_get o2 hx) o3) hL rfl rfl (fun l D K B kh d mc ms p e s m args below meth c Q k n hc hp => s_iload hc hd hx hp)
    · cases h
  | aload_n x =>
    obtain rfl : len = 1 := by simpa [m_iok] using hi
    simp only [m_next] at h
    split at h
    · rename_i v hx
      cases h
      exact m_T_same o1 o2 (m_okS_R o3) hL rfl rfl (fun l D K B kh d mc ms p e s m args below meth c Q k n hc hp => s_aload_n hc hd hx hp)
    · cases h
  | istore_n x =>
    obtain rfl : len = 1 := by simpa [m_iok] using hi
    simp only [m_next] at h
    split at h
    · split at h
      · rename_i v r hx
        cases h
        exact m_T_same o1 (m_okL_set o2 (m_okVI (m_okS_hd o3))) (m_okS_tl o3) (by simpa using hL) rfl rfl (fun l D K B kh d mc ms p e s m args below meth c Q k n hc hp => s_istore_n hc hL hd hx hp)
      · cases h
    · cases h
  | istore x =>
    obtain rfl : len = 2 := by simpa [m_iok] using hi
    simp only [m_next] at h
    split at h
    · split at h
      · rename_i v r hx
        cases h
        exact m_T_same o1 (m_okL_set o2 (m_okVI (m_okS_hd o3))) (m_okS_tl o3) (by simpa using hL) rfl rfl (fun l D K B kh d mc ms p e s m args below meth c Q k n hc hp => s_istore hc hL hd hx hp)
      · cases h
    · cases h
  | astore_n x =>
    obtain rfl : len = 1 := by simpa [m_iok] using hi
    simp only [m_next] at h
    split at h
    · split at h
      · rename_i v r hx
        cases h
        exact m_T_same o1 (m_okL_set o2 (m_okVR v)) (m_okS_tl o3) (by simpa using hL) rfl rfl (fun l D K B kh d mc ms p e s m args below meth c Q k n hc hp => s_astore_n hc hL hd hx hp)
      · cases h
    · cases h
  | iinc x a =>
    obtain rfl : len = 3 := by simpa [m_iok] using hi
    simp only [m_next] at h
    split at h
    · split at h
      · rename_i v hx hin
        cases h
        exact m_T_same o1 (m_okL_set o2 (m_okVI hin)) o3 (by simpa using hL) rfl rfl (fun l D K B kh d mc ms p e s m args below meth c Q k n hc hp => s_iinc hc hL hd hx hp)
      · cases h
    · cases h
  | iadd =>
    obtain rfl : len = 1 := by simpa [m_iok] using hi
    simp only [m_next] at h
    obtain ⟨st2, h1, h2⟩ := Option.map_eq_some_iff.mp h
    obtain ⟨a, b, r, rfl, hin, rfl⟩ := m_bin_spec h1
    cases h2
    exact m_T_same o1 o2 (m_okS_I hin (m_okS_tl (m_okS_tl o3))) hL rfl rfl (fun l D K B kh d mc ms p e s m args below meth c Q k n hc hp => s_iadd hc hd hp)
  | isub =>
    obtain rfl : len = 1 := by simpa [m_iok] using hi
    simp only [m_next] at h
    obtain ⟨st2, h1, h2⟩ := Option.map_eq_some_iff.mp h
    obtain ⟨a, b, r, rfl, hin, rfl⟩ := m_bin_spec h1
    cases h2
    exact m_T_same o1 o2 (m_okS_I hin (m_okS_tl (m_okS_tl o3))) hL rfl rfl (fun l D K B kh d mc ms p e s m args below meth c Q k n hc hp => s_isub hc hd hp)
  | imul =>
    obtain rfl : len = 1 := by simpa [m_iok] using hi
    simp only [m_next] at h
    obtain ⟨st2, h1, h2⟩ := Option.map_eq_some_iff.mp h
    obtain ⟨a, b, r, rfl, hin, rfl⟩ := m_bin_spec h1
    cases h2
    exact m_T_same o1 o2 (m_okS_I hin (m_okS_tl (m_okS_tl o3))) hL rfl rfl (fun l D K B kh d mc ms p e s m args below meth c Q k n hc hp => s_imul hc hd hp)
  | idiv =>
    obtain rfl : len = 1 := by simpa [m_iok] using hi
    simp only [m_next] at h
    split at h
    · split at h
      · cases h
      · rename_i b a r h0
        cases h
        have hb := m_okS_hd o3
        have ha := m_okS_hd (m_okS_tl o3)
        exact m_T_same o1 o2 (m_okS_I (m_div ha hb h0).1 (m_okS_tl (m_okS_tl o3))) hL rfl rfl (fun l D K B kh d mc ms p e s m args below meth c Q k n hc hp => s_idiv hc hd ha hb h0 hp)
    · cases h
  | irem =>
    obtain rfl : len = 1 := by simpa [m_iok] using hi
    simp only [m_next] at h
    split at h
    · split at h
      · cases h
      · rename_i b a r h0
        cases h
        have hb := m_okS_hd o3
        have ha := m_okS_hd (m_okS_tl o3)
        exact m_T_same o1 o2 (m_okS_I (m_rem ha hb h0).1 (m_okS_tl (m_okS_tl o3))) hL rfl rfl (fun l D K B kh d mc ms p e s m args below meth c Q k n hc hp => s_irem hc hd ha hb h0 hp)
    · cases h
  | iand =>
    obtain rfl : len = 1 := by simpa [m_iok] using hi
    simp only [m_next] at h
    split at h
    · cases h
      exact m_T_same o1 o2 (m_okS_I (m_in_toInt _) (m_okS_tl (m_okS_tl o3))) hL rfl rfl (fun l D K B kh d mc ms p e s m args below meth c Q k n hc hp => s_iand hc hd hp)
    · cases h
  | ior =>
    obtain rfl : len = 1 := by simpa [m_iok] using hi
    simp only [m_next] at h
    split at h
    · cases h
      exact m_T_same o1 o2 (m_okS_I (m_in_toInt _) (m_okS_tl (m_okS_tl o3))) hL rfl rfl (fun l D K B kh d mc ms p e s m args below meth c Q k n hc hp => s_ior hc hd hp)
    · cases h
  | ixor =>
    obtain rfl : len = 1 := by simpa [m_iok] using hi
    simp only [m_next] at h
    split at h
    · cases h
      exact m_T_same o1 o2 (m_okS_I (m_in_toInt _) (m_okS_tl (m_okS_tl o3))) hL rfl rfl (fun l D K B kh d mc ms p e s m args below meth c Q k n hc hp => s_ixor hc hd hp)
    · cases h
  | ishl =>
    obtain rfl : len = 1 := by simpa [m_iok] using hi
    simp only [m_next] at h
    split at h
    · cases h
      exact m_T_same o1 o2 (m_okS_I (m_in_toInt _) (m_okS_tl (m_okS_tl o3))) hL rfl rfl (fun l D K B kh d mc ms p e s m args below meth c Q k n hc hp => s_ishl hc hd hp)
    · cases h
  | ishr =>
    obtain rfl : len = 1 := by simpa [m_iok] using hi
    simp only [m_next] at h
    split at h
    · cases h
      exact m_T_same o1 o2 (m_okS_I (m_in_toInt _) (m_okS_tl (m_okS_tl o3))) hL rfl rfl (fun l D K B kh d mc ms p e s m args below meth c Q k n hc hp => s_ishr hc hd hp)
    · cases h
  | iushr =>
    obtain rfl : len = 1 := by simpa [m_iok] using hi
    simp only [m_next] at h
    split at h
    · cases h
      exact m_T_same o1 o2 (m_okS_I (m_in_toInt _) (m_okS_tl (m_okS_tl o3))) hL rfl rfl (fun l D K B kh d mc ms p e s m args below meth c Q k n hc hp => s_iushr hc hd hp)
    · cases h
  | dup =>
    obtain rfl : len = 1 := by simpa [m_iok] using hi
    simp only [m_next] at h
    split at h
    · cases h
      exact m_T_same o1 o2 (m_okS_cons (o3 _ List.mem_cons_self).1 (by simp) o3) hL rfl rfl (fun l D K B kh d mc ms p e s m args below meth c Q k n hc hp => s_dup hc hd hp)
    · cases h
  | dup2 =>
    obtain rfl : len = 1 := by simpa [m_iok] using hi
    simp only [m_next] at h
    split at h
    · cases h
      exact m_T_same o1 o2 (m_okS_cons (o3 _ List.mem_cons_self).1 (by simp) (m_okS_cons (o3 _ (List.mem_cons_of_mem _ List.mem_cons_self)).1 (by simp) o3)) hL rfl rfl (fun l D K B kh d mc ms p e s m args below meth c Q k n hc hp => s_dup2 hc hd hp)
    · cases h
  | ifCond cd off =>
    obtain ⟨rfl, hoff⟩ : len = 3 ∧ 0 ≤ (pc : Int) + off := by simpa [m_iok] using hi
    have htgt : (pc : Int) + off = ((((pc : Int) + off).toNat : Nat) : Int) := by omega
    simp only [m_next] at h
    split at h
    · rename_i a r
      have ha := m_okS_hd o3
      split at h
      · rename_i hcm
        obtain ⟨t, h1, h2⟩ := Option.map_eq_some_iff.mp h
        cases h2
        exact m_T_same o1 o2 (m_okS_tl o3) hL rfl rfl (fun l D K B kh d mc ms p e s m args below meth c Q k n hc hp => s_if hc hd (m_jmp_eq h1) ha (fun _ => hp) (fun q => absurd hcm (by rw [q]; decide)))
      · rename_i hcm
        cases h
        exact m_T_same o1 o2 (m_okS_tl o3) hL rfl rfl (fun l D K B kh d mc ms p e s m args below meth c Q k n hc hp => s_if hc hd htgt ha (fun q => absurd q hcm) (fun _ => hp))
    · cases h
  | if_icmp cd off =>
    obtain ⟨rfl, hoff⟩ : len = 3 ∧ 0 ≤ (pc : Int) + off := by simpa [m_iok] using hi
    have htgt : (pc : Int) + off = ((((pc : Int) + off).toNat : Nat) : Int) := by omega
    simp only [m_next] at h
    split at h
    · rename_i b a r
      have hb := m_okS_hd o3
      have ha := m_okS_hd (m_okS_tl o3)
      split at h
      · rename_i hcm
        obtain ⟨t, h1, h2⟩ := Option.map_eq_some_iff.mp h
        cases h2
        exact m_T_same o1 o2 (m_okS_tl (m_okS_tl o3)) hL rfl rfl (fun l D K B kh d mc ms p e s m args below meth c Q k n hc hp => s_icmp hc hd (m_jmp_eq h1) ha hb (fun _ => hp) (fun q => absurd hcm (by rw [q]; decide)))
      · rename_i hcm
        cases h
        exact m_T_same o1 o2 (m_okS_tl (m_okS_tl o3)) hL rfl rfl (fun l D K B kh d mc ms p e s m args below meth c Q k n hc hp => s_icmp hc hd htgt ha hb (fun q => absurd q hcm) (fun _ => hp))
    · cases h
  | goto off =>
    obtain rfl : len = 3 := by simpa [m_iok] using hi
    simp only [m_next] at h
    obtain ⟨t, h1, h2⟩ := Option.map_eq_some_iff.mp h
    cases h2
    exact m_T_same o1 o2 o3 hL rfl rfl (fun l D K B kh d mc ms p e s m args below meth c Q k n hc hp => s_goto hc hd (m_jmp_eq h1) hp)
  | tableswitch dd lo hi2 offs =>
    simp only [m_next] at h
    split at h
    · obtain ⟨t, h1, h2⟩ := Option.map_eq_some_iff.mp h
      cases h2
      exact m_T_same o1 o2 (m_okS_tl o3) hL rfl rfl (fun l D K B kh d mc ms p e s m args below meth c Q k n hc hp => s_table hc hd (m_okS_hd o3) h1 hp)
    · cases h
  | lookupswitch dd ps =>
    simp only [m_next] at h
    split at h
    · split at h
      · rename_i hps
        obtain ⟨t, h1, h2⟩ := Option.map_eq_some_iff.mp h
        cases h2
        exact m_T_same o1 o2 (m_okS_tl o3) hL rfl rfl (fun l D K B kh d mc ms p e s m args below meth c Q k n hc hp => s_lookup hc hd (m_okS_hd o3) hps h1 hp)
      · cases h
    · cases h
  | getfield x =>
    obtain rfl : len = 3 := by simpa [m_iok] using hi
    simp only [m_next] at h
    split at h
    · split at h
      · split at h
        · split at h
          · rename_i ci kf a r hfl _ kd fs hH hkd _ _ v t hv ht
            obtain ⟨w, h1, h2⟩ := Option.map_eq_some_iff.mp h
            cases h2
            subst hkd
            obtain ⟨g1, g2⟩ := m_ld_ok h1 (m_okH_get o1 hH hv)
            exact m_T_same o1 o2 (m_okS_cons g1 g2 (m_okS_tl o3)) hL rfl rfl (fun l D K B kh d mc ms p e s m args below meth c Q k n hc hp => s_getfield hc hd hfl hH hv ht h1 hp)
          · cases h
        · cases h
      · cases h
    · cases h
  | putfield x =>
    obtain rfl : len = 3 := by simpa [m_iok] using hi
    simp only [m_next] at h
    split at h
    · split at h
      · split at h
        · split at h
          · rename_i ci kf v a r hfl _ kd fs hH hkd _ t ht
            obtain ⟨w, h1, h2⟩ := Option.map_eq_some_iff.mp h
            cases h2
            obtain ⟨rfl, hkl, hfin⟩ := hkd
            obtain ⟨h8, -⟩ := m_fl_ok hfl
            exact m_setT o1 o2 (m_okS_tl (m_okS_tl o3)) hL (m_st_in h1 (o3 _ List.mem_cons_self).1) (fun l D K B kh d mc ms p e s m args below meth c Q k n hc hp => s_putfield hc hd hfl hH hkl ((o1 _ (List.mem_of_getElem? hH)).2.2 h8) hfin ht h1 hp)
          · cases h
        · cases h
      · cases h
    · cases h
  | iaload =>
    obtain rfl : len = 1 := by simpa [m_iok] using hi
    simp only [m_next] at h
    obtain ⟨q, h1, h2⟩ := Option.map_eq_some_iff.mp h
    obtain ⟨i, a, fs, rfl, hH, h0, hv⟩ := m_aget_spec h1
    cases h2
    exact m_T_same o1 o2 (m_okS_I (m_okH_get o1 hH hv) (m_okS_tl (m_okS_tl o3))) hL rfl rfl (fun l D K B kh d mc ms p e s m args below meth c Q k n hc hp => s_iaload hc hd hH (m_okS_hd o3) h0 hv hp)
  | baload =>
    obtain rfl : len = 1 := by simpa [m_iok] using hi
    simp only [m_next] at h
    obtain ⟨q, h1, h2⟩ := Option.map_eq_some_iff.mp h
    obtain ⟨i, a, fs, rfl, hH, h0, hv⟩ := m_aget_spec h1
    cases h2
    exact m_T_same o1 o2 (m_okS_I (m_okH_get o1 hH hv) (m_okS_tl (m_okS_tl o3))) hL rfl rfl (fun l D K B kh d mc ms p e s m args below meth c Q k n hc hp => s_baload hc hd hH (m_okS_hd o3) h0 hv hp)
  | aaload =>
    obtain rfl : len = 1 := by simpa [m_iok] using hi
    simp only [m_next] at h
    obtain ⟨q, h1, h2⟩ := Option.bind_eq_some_iff.mp h
    obtain ⟨w, h3, h4⟩ := Option.map_eq_some_iff.mp h2
    obtain ⟨i, a, fs, rfl, hH, h0, hv⟩ := m_aget_spec h1
    cases h4
    obtain ⟨g1, g2⟩ := m_ld_ok h3 (m_okH_get o1 hH hv)
    exact m_T_same o1 o2 (m_okS_cons g1 g2 (m_okS_tl (m_okS_tl o3))) hL rfl rfl (fun l D K B kh d mc ms p e s m args below meth c Q k n hc hp => s_aaload hc hd hH (m_okS_hd o3) h0 hv h3 hp)
  | iastore =>
    obtain rfl : len = 1 := by simpa [m_iok] using hi
    simp only [m_next] at h
    obtain ⟨q, h1, h2⟩ := Option.map_eq_some_iff.mp h
    obtain ⟨v, i, a, fs, x, rfl, hH, h0, hl, hst, hq⟩ := m_aput_spec h1
    cases h2
    rw [hq]
    have hx := m_st_in hst (o3 _ List.mem_cons_self).1
    have hv : v = mI x := by
      unfold m_st at hst
      split at hst
      · simp at hst; rw [hst]
      · simp at hst
      · cases hst
    subst hv
    exact m_setT o1 o2 (m_okS_tl (m_okS_tl (m_okS_tl o3))) hL hx (fun l D K B kh d mc ms p e s m args below meth c Q k n hc hp => s_iastore hc hd hH (m_okS_hd (m_okS_tl o3)) h0 hl hp)
  | bastore =>
    obtain rfl : len = 1 := by simpa [m_iok] using hi
    simp only [m_next] at h
    obtain ⟨q, h1, h2⟩ := Option.map_eq_some_iff.mp h
    obtain ⟨v, i, a, fs, x, rfl, hH, h0, hl, hst, hq⟩ := m_aput_spec h1
    cases h2
    rw [hq]
    have hx := m_st_in hst (o3 _ List.mem_cons_self).1
    obtain ⟨hv, h01⟩ : v = mI x ∧ (x = 0 ∨ x = 1) := by
      unfold m_st at hst
      split at hst
      · split at hst
        · omega
        · split at hst
          · split at hst
            · rename_i hz
              cases hst
              exact ⟨rfl, hz⟩
            · cases hst
          · omega
      · simp at hst
      · cases hst
    subst hv
    exact m_setT o1 o2 (m_okS_tl (m_okS_tl (m_okS_tl o3))) hL hx (fun l D K B kh d mc ms p e s m args below meth c Q k n hc hp => s_bastore hc hd hH (m_okS_hd (m_okS_tl o3)) h0 hl h01 hp)
  | aastore =>
    obtain rfl : len = 1 := by simpa [m_iok] using hi
    simp only [m_next] at h
    split at h
    · rename_i hisL
      obtain ⟨q, h1, h2⟩ := Option.map_eq_some_iff.mp h
      obtain ⟨v, i, a, fs, x, rfl, hH, h0, hl, hst, hq⟩ := m_aput_spec h1
      cases h2
      rw [hq]
      have hx := m_st_in hst (o3 _ List.mem_cons_self).1
      simp only [List.headD_cons] at hisL
      unfold m_isL at hisL
      split at hisL
      · rename_i b
        split at hisL
        · rename_i k2 gs hb
          have hk2 : k2 = 2 := by simpa using hisL
          subst hk2
          have hxb : x = (b : Int) := by
            unfold m_st at hst
            simp at hst
            omega
          subst hxb
          exact m_setT o1 o2 (m_okS_tl (m_okS_tl (m_okS_tl o3))) hL hx (fun l D K B kh d mc ms p e s m args below meth c Q k n hc hp => s_aastore hc hd hH hb (m_okS_hd (m_okS_tl o3)) h0 hl hp)
        · cases hisL
      · cases hisL
    · cases h
  | arraylength =>
    obtain rfl : len = 1 := by simpa [m_iok] using hi
    simp only [m_next] at h
    split at h
    · split at h
      · split at h
        · rename_i a r kd fs hH hkd
          cases h
          exact m_T_same o1 o2 (m_okS_I hkd.2 (m_okS_tl o3)) hL rfl rfl (fun l D K B kh d mc ms p e s m args below meth c Q k n hc hp => s_arraylength hc hd hH hkd.1 hp)
        · cases h
      · cases h
    · cases h
  | new x =>
    obtain rfl : len = 3 := by simpa [m_iok] using hi
    simp only [m_next] at h
    split at h
    · rename_i ci hci
      cases h
      obtain ⟨h8, -⟩ := m_cl_ok hci
      have hdl : (m_def ci).length = (m_C ci).2.2 := by simp [m_def, m_tag_len h8]
      have e1 : (H ++ [(ci, m_def ci)]).length - H.length = 1 := by simp
      have e2 : m_sz (H ++ [(ci, m_def ci)]) - m_sz H = (m_C ci).2.2 := by rw [m_sz_app, hdl]; omega
      refine ⟨m_app_ok o1 ⟨fun v hv => ?_, by simp only; omega, fun _ => hdl⟩, o2, m_okS_R o3, hL, by simp, by rw [m_sz_app]; omega, fun l D K B kh d mc ms p e s m args below meth c Q k n hc hkc hns hp => ?_⟩
      · simp only [m_def, List.mem_map] at hv
        obtain ⟨t, -, rfl⟩ := hv
        split <;> decide
      · rw [e1] at hkc hp
        rw [e2] at hns hp
        exact s_new hc hd hci hkc hns hp
    · cases h
  | newarray t =>
    obtain rfl : len = 2 := by simpa [m_iok] using hi
    simp only [m_next] at h
    split at h
    · split at h
      · rename_i x r hx
        split at h
        · cases h
          have e1 : (H ++ [(8, List.replicate x.toNat (0 : Int))]).length - H.length = 1 := by simp
          have e2 : m_sz (H ++ [(8, List.replicate x.toNat (0 : Int))]) - m_sz H = x.toNat := by rw [m_sz_app]; simp
          refine ⟨m_app_ok o1 ⟨fun v hv => ?_, by simp, fun h8 => by simp at h8⟩, o2, m_okS_R (m_okS_tl o3), hL, by simp, by rw [m_sz_app]; omega, fun l D K B kh d mc ms p e s m args below meth c Q k n hc hkc hns hp => ?_⟩
          · rw [(List.mem_replicate.mp hv).2]; decide
          · rw [e1] at hkc hp
            rw [e2] at hns hp
            exact s_newI hc hd hx hkc hns hp
        · cases h
          have e1 : (H ++ [(9, List.replicate x.toNat (0 : Int))]).length - H.length = 1 := by simp
          have e2 : m_sz (H ++ [(9, List.replicate x.toNat (0 : Int))]) - m_sz H = x.toNat := by rw [m_sz_app]; simp
          refine ⟨m_app_ok o1 ⟨fun v hv => ?_, by simp, fun h8 => by simp at h8⟩, o2, m_okS_R (m_okS_tl o3), hL, by simp, by rw [m_sz_app]; omega, fun l D K B kh d mc ms p e s m args below meth c Q k n hc hkc hns hp => ?_⟩
          · rw [(List.mem_replicate.mp hv).2]; decide
          · rw [e1] at hkc hp
            rw [e2] at hns hp
            exact s_newZ hc hd hx hkc hns hp
        · cases h
      · cases h
    · cases h
  | anewarray x =>
    obtain rfl : len = 3 := by simpa [m_iok] using hi
    simp only [m_next] at h
    split at h
    · split at h
      · rename_i ci hci2 z r hci hx
        cases h
        obtain ⟨rfl, hx⟩ := hx
        have e1 : (H ++ [(10, List.replicate z.toNat (-1 : Int))]).length - H.length = 1 := by simp
        have e2 : m_sz (H ++ [(10, List.replicate z.toNat (-1 : Int))]) - m_sz H = z.toNat := by rw [m_sz_app]; simp
        refine ⟨m_app_ok o1 ⟨fun v hv => ?_, by simp, fun h8 => by simp at h8⟩, o2, m_okS_R (m_okS_tl o3), hL, by simp, by rw [m_sz_app]; omega, fun l D K B kh d mc ms p e s m args below meth c Q k n hc hkc hns hp => ?_⟩
        · rw [(List.mem_replicate.mp hv).2]; decide
        · rw [e1] at hkc hp
          rw [e2] at hns hp
          exact s_newL hc hd hci hx hkc hns hp
      · cases h
    · cases h
  | _ => exact absurd h (by simp [m_next])
end MT
