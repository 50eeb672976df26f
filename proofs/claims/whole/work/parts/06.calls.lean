/-- what is said of every method -/
def m_mok (q : Nat × MethodName × ByteArray × Nat × Option FieldType × Nat × Nat) : Bool :=
  goodWord (.code q.2.1 q.2.2.1 q.2.2.2.1 q.2.2.2.2.1) && plainName q.2.1.cls && decide (q.2.2.2.1 ≤ 40) && decide (q.2.2.2.2.2.1 ≤ q.2.2.2.1) && decide (q.2.1.cls = m_cR q.1)
    && (decide (q.2.2.2.2.1 = none) || decide (q.2.2.2.2.1 = some .int) || decide (q.2.2.2.2.1 = some .boolean)) && decide (q.2.1.cls ≠ "java/lang/invoke/MethodHandle") && decide (q.2.1.cls ≠ "java/lang/invoke/VarHandle")
set_option maxRecDepth 100000 in
theorem m_ms_all : m_ms.all m_mok = true := by decide +kernel
theorem m_mok_at {y : Nat} (h : y < 163) : m_mok (m_md y) = true := by
  have hl : m_ms.length = 163 := rfl
  have h1 : m_ms[y]? = some (m_ms[y]'(by rw [hl]; exact h)) := List.getElem?_eq_getElem _
  have h2 : m_md y = m_ms[y]'(by rw [hl]; exact h) := by
    unfold m_md
    rw [List.getD_eq_getElem?_getD, h1]
    rfl
  rw [h2]
  exact List.all_eq_true.mp m_ms_all _ (List.getElem_mem _)
theorem m_code_in {y : Nat} (h : y < 163) : Cond.code (m_nm y) (m_by y) (m_mx y) (m_rt y) ∈ m_tbl := by
  have h1 := m_mok_at h
  simp only [m_mok, Bool.and_eq_true] at h1
  exact m_tbl_at ⟨m_cws y h, h1.1.1.1.1.1.1.1⟩
/-- what is said of every call -/
def m_lok (q : Nat × Nat × Nat × Nat × Nat × Nat × Nat × Nat) : Bool :=
  match q.2.2.1 with
  | 0 => decide (q.2.2.2.1 < 163) && m_at q.2.2.2.2.1 (.methodLink (m_cR q.1) q.2.1 (m_nm q.2.2.2.1)) && m_at q.2.2.2.2.2.1 (.instanceMethod (m_nm q.2.2.2.1)) && m_at q.2.2.2.2.2.2.1 (.selects (m_nm q.2.2.2.1).cls (m_nm q.2.2.2.1) (m_nm q.2.2.2.1)) && m_at q.2.2.2.2.2.2.2 (.initialized (m_nm q.2.2.2.1).cls)
      && decide ((parseMethodDescriptor (m_nm q.2.2.2.1).desc).map (fun d => d.parameters.length + 1) = some (m_na q.2.2.2.1)) && decide (m_own q.2.2.2.1 < 8) && !(m_prim q.2.2.2.1)
  | 1 => decide (q.2.2.2.1 < 163) && m_at q.2.2.2.2.1 (.methodLink (m_cR q.1) q.2.1 (m_nm q.2.2.2.1)) && m_at q.2.2.2.2.2.1 (.static (m_nm q.2.2.2.1)) && m_at q.2.2.2.2.2.2.2 (.initialized (m_nm q.2.2.2.1).cls)
      && decide ((parseMethodDescriptor (m_nm q.2.2.2.1).desc).map (fun d => d.parameters.length) = some (m_na q.2.2.2.1))
  | 2 => decide (q.2.2.2.1 < 163) && m_at q.2.2.2.2.1 (.methodLink (m_cR q.1) q.2.1 (m_nm q.2.2.2.1)) && m_at q.2.2.2.2.2.1 (.instanceMethod (m_nm q.2.2.2.1)) && m_at q.2.2.2.2.2.2.2 (.initialized (m_nm q.2.2.2.1).cls)
      && decide ((parseMethodDescriptor (m_nm q.2.2.2.1).desc).map (fun d => d.parameters.length + 1) = some (m_na q.2.2.2.1)) && decide ((m_nm q.2.2.2.1).name = "<init>") && decide (m_rt q.2.2.2.1 = none) && !(m_prim q.2.2.2.1)
  | 3 => decide (q.2.2.2.1 < 163) && decide (lw_tbl[q.2.2.2.2.1]? = some (.methodLinkNest (m_cR q.1) q.2.1 (m_nm q.2.2.2.1) "QuiltPatches")) && m_at q.2.2.2.2.2.1 (.static (m_nm q.2.2.2.1)) && m_at q.2.2.2.2.2.2.2 (.initialized (m_nm q.2.2.2.1).cls)
      && decide ((parseMethodDescriptor (m_nm q.2.2.2.1).desc).map (fun d => d.parameters.length) = some (m_na q.2.2.2.1))
  | 4 => decide (q.2.2.2.1 < 163) && decide (lw_tbl[q.2.2.2.2.1]? = some (.methodLinkNest (m_cR q.1) q.2.1 (m_nm q.2.2.2.1) "QuiltPatches")) && m_at q.2.2.2.2.2.1 (.instanceMethod (m_nm q.2.2.2.1)) && m_at q.2.2.2.2.2.2.2 (.initialized (m_nm q.2.2.2.1).cls)
      && decide ((parseMethodDescriptor (m_nm q.2.2.2.1).desc).map (fun d => d.parameters.length + 1) = some (m_na q.2.2.2.1)) && decide ((m_nm q.2.2.2.1).name = "<init>") && decide (m_rt q.2.2.2.1 = none) && !(m_prim q.2.2.2.1)
  | 5 => m_at q.2.2.2.2.1 (.methodLink (m_cR q.1) q.2.1 objectInit) && m_at q.2.2.2.2.2.1 (.instanceMethod objectInit) && m_at q.2.2.2.2.2.2.1 (.code objectInit ⟨#[0xb1]⟩ 1 none)
  | 6 => m_at q.2.2.2.2.1 (.methodLink (m_cR q.1) q.2.1 arraycopyName) && m_at q.2.2.2.2.2.1 (.native arraycopyName) && m_at q.2.2.2.2.2.2.1 (.static arraycopyName) && m_at q.2.2.2.2.2.2.2 (.initialized "java/lang/System")
  | 7 => m_at q.2.2.2.2.1 (.methodLink (m_cR q.1) q.2.1 Lib.Math.max.name) && m_at q.2.2.2.2.2.1 (.static Lib.Math.max.name) && m_at q.2.2.2.2.2.2.1 (.code Lib.Math.max.name Lib.Math.max.code 2 (some .int)) && m_at q.2.2.2.2.2.2.2 (.initialized "java/lang/Math")
  | 8 => m_at q.2.2.2.2.1 (.methodLink (m_cR q.1) q.2.1 Lib.Math.min.name) && m_at q.2.2.2.2.2.1 (.static Lib.Math.min.name) && m_at q.2.2.2.2.2.2.1 (.code Lib.Math.min.name Lib.Math.min.code 2 (some .int)) && m_at q.2.2.2.2.2.2.2 (.initialized "java/lang/Math")
  | _ => false
set_option maxRecDepth 100000 in
theorem m_mls_all : m_mls.all m_lok = true := by decide +kernel
theorem m_nest_all : m_mls.all (fun q => !(q.2.2.1 == 3 || q.2.2.1 == 4) || decide (lw_tbl[q.2.2.2.2.1]? = some (.methodLinkNest (m_cR q.1) q.2.1 (m_nm q.2.2.2.1) "QuiltPatches"))) = true := by decide +kernel
theorem m_ml_ok {o x k y : Nat} (h : m_ml o x = some (k, y)) : ∃ p1 p2 p3 p4, m_lok (o, x, k, y, p1, p2, p3, p4) = true := by
  unfold m_ml at h
  cases hf : m_mls.find? (fun q => q.1 == o && q.2.1 == x) with
  | none => rw [hf] at h; cases h
  | some q =>
    rw [hf] at h
    have h1 := List.all_eq_true.mp m_mls_all q (List.mem_of_find?_eq_some hf)
    have h2 := List.find?_some hf
    obtain ⟨a, b, c2, d, p1, p2, p3, p4⟩ := q
    simp only [Bool.and_eq_true, beq_iff_eq] at h2
    obtain ⟨rfl, rfl⟩ := h2
    cases h
    exact ⟨p1, p2, p3, p4, h1⟩
