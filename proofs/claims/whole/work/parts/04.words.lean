/-! the words behind the tables, by their places -/
def m_C (ci : Nat) : vw_C := m_classes.getD ci ("", fun _ => ("", "", "", false), 0)
def m_ty (ci : Nat) : Nat → FieldType := [tyX0, tyX1, tyX2, tyX3, tyX4, tyX5, tyX6, tyX7].getD ci (fun _ => .int)
def m_tg (t : FieldType) : Nat := match t with
  | .int => 0
  | .boolean => 1
  | .object _ => 2
  | .array _ => 2
  | _ => 3
def m_at (i : Nat) (w : Cond) : Bool := decide (lw_tbl[i]? = some w) && goodWord w
theorem m_at_in {i : Nat} {w : Cond} (h : m_at i w = true) : w ∈ m_tbl := by
  unfold m_at at h
  rw [Bool.and_eq_true] at h
  exact m_tbl_at ⟨of_decide_eq_true h.1, h.2⟩
theorem m_C_get {ci : Nat} (h : ci < 8) : m_classes[ci]? = some (m_C ci) := by
  match ci, h with
  | 0, _ => rfl
  | 1, _ => rfl
  | 2, _ => rfl
  | 3, _ => rfl
  | 4, _ => rfl
  | 5, _ => rfl
  | 6, _ => rfl
  | 7, _ => rfl
theorem m_ty_ok {ci : Nat} (h : ci < 8) : ∀ k, k < (m_C ci).2.2 → parseFieldDescriptor ((m_C ci).2.1 k).2.2.1 = some (m_ty ci k) := by
  match ci, h with
  | 0, _ => exact tyX0_ok
  | 1, _ => exact tyX1_ok
  | 2, _ => exact tyX2_ok
  | 3, _ => exact tyX3_ok
  | 4, _ => exact tyX4_ok
  | 5, _ => exact tyX5_ok
  | 6, _ => exact tyX6_ok
  | 7, _ => exact tyX7_ok
theorem m_nm_ok {ci : Nat} (h : ci < 8) : ∀ a, a < (m_C ci).2.2 → ∀ b, b < (m_C ci).2.2 → a ≠ b → ((m_C ci).2.1 a).2.1 ≠ ((m_C ci).2.1 b).2.1 := by
  match ci, h with
  | 0, _ => exact nmX0
  | 1, _ => exact nmX1
  | 2, _ => exact nmX2
  | 3, _ => exact nmX3
  | 4, _ => exact nmX4
  | 5, _ => exact nmX5
  | 6, _ => exact nmX6
  | 7, _ => exact nmX7
set_option maxRecDepth 100000 in
theorem m_in_all : (List.range 8).all (fun ci => (u_ws (m_C ci).1 (m_C ci).2.1 (m_C ci).2.2).all (fun w => decide (w ∈ lw_tbl) && goodWord w)) = true := by decide +kernel
theorem m_in_ok {ci : Nat} (h : ci < 8) : ∀ w ∈ u_ws (m_C ci).1 (m_C ci).2.1 (m_C ci).2.2, w ∈ m_tbl := by
  intro w hw
  have h1 := List.all_eq_true.mp (List.all_eq_true.mp m_in_all ci (List.mem_range.mpr h)) w hw
  rw [Bool.and_eq_true] at h1
  exact List.mem_filter.mpr ⟨of_decide_eq_true h1.1, h1.2⟩
theorem m_tag_all : (List.range 8).all (fun ci => decide ((m_tagL ci).length = (m_C ci).2.2) && (List.range (m_C ci).2.2).all (fun k => decide ((m_tagL ci)[k]? = some (m_tg (m_ty ci k))) && decide (((m_C ci).2.1 k).1 = (m_C ci).1))) = true := by decide +kernel
theorem m_tag_len {ci : Nat} (h : ci < 8) : (m_tagL ci).length = (m_C ci).2.2 := by
  have h1 := List.all_eq_true.mp m_tag_all ci (List.mem_range.mpr h)
  rw [Bool.and_eq_true] at h1
  exact of_decide_eq_true h1.1
theorem m_tag_at {ci k : Nat} (h : ci < 8) (hk : k < (m_C ci).2.2) : (m_tagL ci)[k]? = some (m_tg (m_ty ci k)) ∧ ((m_C ci).2.1 k).1 = (m_C ci).1 := by
  have h1 := List.all_eq_true.mp m_tag_all ci (List.mem_range.mpr h)
  rw [Bool.and_eq_true] at h1
  have h2 := List.all_eq_true.mp h1.2 k (List.mem_range.mpr hk)
  rw [Bool.and_eq_true] at h2
  exact ⟨of_decide_eq_true h2.1, of_decide_eq_true h2.2⟩
def m_insP : List Nat := [261, 226, 189, 82, 114, 214, 74, 722]
def m_iniP : List Nat := [68, 67, 64, 62, 63, 66, 61, 69]
theorem m_ins_all : (List.range 8).all (fun ci => m_at (m_insP.getD ci 0) (.instantiable (m_C ci).1 (m_C ci).2.2) && m_at (m_iniP.getD ci 0) (.initialized (m_C ci).1)) = true := by decide +kernel
theorem m_ins_ok {ci : Nat} (h : ci < 8) : Cond.instantiable (m_C ci).1 (m_C ci).2.2 ∈ m_tbl ∧ Cond.initialized (m_C ci).1 ∈ m_tbl := by
  have h1 := List.all_eq_true.mp m_ins_all ci (List.mem_range.mpr h)
  rw [Bool.and_eq_true] at h1
  exact ⟨m_at_in h1.1, m_at_in h1.2⟩
theorem m_fls_all : m_fls.all (fun q => decide (q.2.2.1 < 8) && decide (q.2.2.2.1 < (m_C q.2.2.1).2.2) && m_at q.2.2.2.2 (.fieldLink (m_cR q.1) q.2.1 (m_C q.2.2.1).1 ((m_C q.2.2.1).2.1 q.2.2.2.1).2.1 ((m_C q.2.2.1).2.1 q.2.2.2.1).2.2.1)) = true := by decide +kernel
theorem m_fl_ok {o x ci k : Nat} (h : m_fl o x = some (ci, k)) : ci < 8 ∧ k < (m_C ci).2.2 ∧ Cond.fieldLink (m_cR o) x (m_C ci).1 ((m_C ci).2.1 k).2.1 ((m_C ci).2.1 k).2.2.1 ∈ m_tbl := by
  unfold m_fl at h
  cases hf : m_fls.find? (fun q => q.1 == o && q.2.1 == x) with
  | none => rw [hf] at h; cases h
  | some q =>
    rw [hf] at h
    have h1 := List.all_eq_true.mp m_fls_all q (List.mem_of_find?_eq_some hf)
    have h2 := List.find?_some hf
    obtain ⟨a, b, c2, d, f⟩ := q
    simp only [Bool.and_eq_true, beq_iff_eq, decide_eq_true_eq] at h1 h2
    obtain ⟨rfl, rfl⟩ := h2
    cases h
    exact ⟨h1.1.1, h1.1.2, m_at_in h1.2⟩
theorem m_cls_all : m_cls.all (fun q => decide (q.2.2.1 < 8) && m_at q.2.2.2 (.classLink (m_cR q.1) q.2.1 (m_C q.2.2.1).1)) = true := by decide +kernel
theorem m_cl_ok {o x ci : Nat} (h : m_cl o x = some ci) : ci < 8 ∧ Cond.classLink (m_cR o) x (m_C ci).1 ∈ m_tbl := by
  unfold m_cl at h
  cases hf : m_cls.find? (fun q => q.1 == o && q.2.1 == x) with
  | none => rw [hf] at h; cases h
  | some q =>
    rw [hf] at h
    have h1 := List.all_eq_true.mp m_cls_all q (List.mem_of_find?_eq_some hf)
    have h2 := List.find?_some hf
    obtain ⟨a, b, c2, d⟩ := q
    simp only [Bool.and_eq_true, beq_iff_eq, decide_eq_true_eq] at h1 h2
    obtain ⟨rfl, rfl⟩ := h2
    cases h
    exact ⟨h1.1, m_at_in h1.2⟩
theorem m_cns_all : m_cns.all (fun q => m_at q.2.2.2 (.constant (m_cR q.1) q.2.1 (Int32.ofInt q.2.2.1))) = true := by decide +kernel
theorem m_cn_ok {o x : Nat} {v : Int} (h : m_cn o x = some v) : Cond.constant (m_cR o) x (Int32.ofInt v) ∈ m_tbl := by
  unfold m_cn at h
  cases hf : m_cns.find? (fun q => q.1 == o && q.2.1 == x) with
  | none => rw [hf] at h; cases h
  | some q =>
    rw [hf] at h
    have h1 := List.all_eq_true.mp m_cns_all q (List.mem_of_find?_eq_some hf)
    have h2 := List.find?_some hf
    obtain ⟨a, b, c2, d⟩ := q
    simp only [Bool.and_eq_true, beq_iff_eq, decide_eq_true_eq] at h1 h2
    obtain ⟨rfl, rfl⟩ := h2
    cases h
    exact m_at_in h1
