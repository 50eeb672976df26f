/-! the real machine's values and cells for the little one's -/
def m_enc (B : Nat) (v : mV) : Value := match v with
  | some (.inl k) => .int (Int32.ofInt k)
  | some (.inr a) => .ref (B + a)
  | none => .int 0
def m_encT (B t : Nat) (v : Int) : Value := if t = 2 then (if v < 0 then .null else .ref (B + v.toNat)) else .int (Int32.ofInt v)
def m_encO (B ci : Nat) (fs : List Int) : List Value := List.zipWith (m_encT B) (m_tagL ci) fs
abbrev mK : Type := ClassId × ClassId × ClassId
def m_encC (B : Nat) (K : mK) (c : Nat × List Int) : va_E :=
  if c.1 < 8 then .inr (c.1, m_encO B c.1 c.2)
  else if c.1 = 8 then .inl (K.1, c.2.length, .inl (fun j => Int32.ofInt (c.2.getD j 0)))
  else if c.1 = 9 then .inl (K.2.1, c.2.length, .inl (fun j => Int32.ofInt (c.2.getD j 0)))
  else .inl (K.2.2, c.2.length, .inr (.inr (.inr (.inr (fun j => if c.2.getD j (-1) < 0 then none else some (B + (c.2.getD j (-1)).toNat))))))
def m_ws (B : Nat) (K : mK) (H : mH) : va_W := H.mapIdx (fun k c => (B + k, m_encC B K c))
def m_tys (K : mK) : List (ClassId × FieldType) := [(K.1, .int), (K.2.1, .boolean), (K.2.2, .object "QuiltPatches$Layout")]
def m_okC (c : Nat × List Int) : Prop := (∀ v ∈ c.2, m_in v = true) ∧ c.1 ≤ 10 ∧ (c.1 < 8 → c.2.length = (m_C c.1).2.2)
def m_okH (H : mH) : Prop := ∀ c ∈ H, m_okC c
def m_okV (v : mV) : Prop := ∀ k, v = mI k → m_in k = true
def m_okS (st : List mV) : Prop := ∀ v ∈ st, m_okV v ∧ v ≠ none
def m_okL (ls : List mV) : Prop := ∀ v ∈ ls, m_okV v
def m_sz (H : mH) : Nat := (H.map (fun c => c.2.length)).sum
theorem m_in_iff {x : Int} : m_in x = true ↔ -2147483648 ≤ x ∧ x ≤ 2147483647 := by simp [m_in]
theorem m_toInt {a : Int} (h : m_in a = true) : (Int32.ofInt a).toInt = a := by
  rw [m_in_iff] at h
  exact Int32.toInt_ofInt_of_le (by omega) (by omega)
theorem m_in_toInt (x : Int32) : m_in x.toInt = true := by
  rw [m_in_iff]
  have h1 := Int32.le_toInt x
  have h2 := Int32.toInt_lt x
  constructor <;> omega
theorem m_of_toInt (x : Int32) : Int32.ofInt x.toInt = x := Int32.ofInt_toInt x
theorem m_lt {a b : Int} (ha : m_in a = true) (hb : m_in b = true) : Int32.ofInt a < Int32.ofInt b ↔ a < b := by
  rw [Int32.lt_iff_toInt_lt, m_toInt ha, m_toInt hb]
theorem m_le {a b : Int} (ha : m_in a = true) (hb : m_in b = true) : Int32.ofInt a ≤ Int32.ofInt b ↔ a ≤ b := by
  rw [Int32.le_iff_toInt_le, m_toInt ha, m_toInt hb]
theorem m_eq {a b : Int} (ha : m_in a = true) (hb : m_in b = true) : Int32.ofInt a = Int32.ofInt b ↔ a = b := by
  rw [← Int32.toInt_inj, m_toInt ha, m_toInt hb]
theorem m_in0 : m_in 0 = true := by decide
theorem m_of0 : Int32.ofInt 0 = 0 := rfl
theorem m_nat {i : Int} (h : m_in i = true) : (Int32.ofInt i).toNatClampNeg = i.toNat := by
  show (Int32.ofInt i).toInt.toNat = i.toNat
  rw [m_toInt h]
theorem m_vin {i : Int} {n : Nat} (h : m_in i = true) (h0 : 0 ≤ i) (hn : i.toNat < n) : vp_in (Int32.ofInt i) n := by
  rw [vp_in_iff, m_toInt h]
  omega
theorem m_nneg {i : Int} (h : m_in i = true) (h0 : 0 ≤ i) : ¬ Int32.ofInt i < 0 := by
  rw [← m_of0, m_lt h m_in0]
  omega
theorem m_div {a b : Int} (ha : m_in a = true) (hb : m_in b = true) (h0 : ¬ (b = 0 ∨ b = -1)) : m_in (a.tdiv b) = true ∧ Int32.ofInt (a.tdiv b) = Int32.ofInt a / Int32.ofInt b := by
  have hin : m_in (a.tdiv b) = true := by
    rw [m_in_iff] at ha ⊢
    have hb2 : 2 ≤ b.natAbs ∨ b = 1 := by omega
    have h1 : (a.tdiv b).natAbs = a.natAbs / b.natAbs := Int.natAbs_tdiv a b
    rcases hb2 with hb2 | rfl
    · have h2 : a.natAbs / b.natAbs ≤ a.natAbs / 2 := Nat.div_le_div_left hb2 (by omega)
      omega
    · simp; omega
  refine ⟨hin, ?_⟩
  rw [← Int32.toInt_inj, m_toInt hin, Int32.toInt_div, m_toInt ha, m_toInt hb]
  rw [m_in_iff] at hin
  exact (Int.bmod_eq_of_le (by omega) (by omega)).symm
theorem m_rem {a b : Int} (ha : m_in a = true) (hb : m_in b = true) (h0 : ¬ (b = 0 ∨ b = -1)) : m_in (a.tmod b) = true ∧ Int32.ofInt (a.tmod b) = Int32.ofInt a - Int32.ofInt a / Int32.ofInt b * Int32.ofInt b := by
  have h1 : a.tmod b = a - a.tdiv b * b := by
    have := Int.tmod_add_tdiv_mul a b
    omega
  constructor
  · have h2 : (a.tmod b).natAbs ≤ a.natAbs := by
      rw [Int.natAbs_tmod]
      exact Nat.mod_le _ _
    rw [m_in_iff] at ha ⊢
    have h3 : 0 ≤ a → 0 ≤ a.tmod b := fun h => Int.tmod_nonneg b h
    have h4 : a ≤ 0 → a.tmod b ≤ 0 := fun h => by
      have := Int.tmod_nonneg b (a := -a) (by omega)
      rw [Int.neg_tmod] at this
      omega
    omega
  · rw [h1, Int32.ofInt_sub, Int32.ofInt_mul, (m_div ha hb h0).2]
theorem m_ws_get {B : Nat} {K : mK} {H : mH} {a : Nat} {c : Nat × List Int} (h : H[a]? = some c) : (m_ws B K H)[a]? = some (B + a, m_encC B K c) := by
  simp [m_ws, List.getElem?_mapIdx, h]
theorem m_ws_inv {B : Nat} {K : mK} {H : mH} {k : Nat} {q : Nat × va_E} (h : (m_ws B K H)[k]? = some q) : ∃ c, H[k]? = some c ∧ q = (B + k, m_encC B K c) := by
  simp only [m_ws, List.getElem?_mapIdx, Option.map_eq_some_iff] at h
  obtain ⟨c, h1, h2⟩ := h
  exact ⟨c, h1, h2.symm⟩
theorem m_ws_D (B : Nat) (K : mK) (H : mH) : va_D (fun q => B ≤ q) (m_ws B K H) := by
  refine ⟨fun i j p q hi hj hpq => ?_, fun k q hk => ?_⟩
  · obtain ⟨c, h1, rfl⟩ := m_ws_inv hi
    obtain ⟨c', h1', rfl⟩ := m_ws_inv hj
    simp only at hpq
    omega
  · obtain ⟨c, h1, rfl⟩ := m_ws_inv hk
    exact Nat.le_add_right _ _
theorem m_ws_mod {B : Nat} {K : mK} {H : mH} {a : Nat} {c : Nat × List Int} (g : Nat × List Int → Nat × List Int) (h : H[a]? = some c) : m_ws B K (H.modify a g) = (m_ws B K H).set a (B + a, m_encC B K (g c)) := by
  apply List.ext_getElem?
  intro k
  simp only [m_ws, List.getElem?_mapIdx, List.getElem?_modify, List.getElem?_set, List.length_mapIdx]
  by_cases hk : a = k
  · subst hk
    obtain ⟨hl, he⟩ := List.getElem?_eq_some_iff.mp h
    simp [hl, he]
  · simp [hk]
theorem m_ws_app (B : Nat) (K : mK) (H : mH) (c : Nat × List Int) : m_ws B K (H ++ [c]) = m_ws B K H ++ [(B + H.length, m_encC B K c)] := by
  simp [m_ws, List.mapIdx_append]
theorem m_encO_get {B ci k t : Nat} {fs : List Int} {v : Int} (hv : fs[k]? = some v) (ht : (m_tagL ci)[k]? = some t) : (m_encO B ci fs)[k]? = some (m_encT B t v) := by
  simp [m_encO, List.getElem?_zipWith, hv, ht]
theorem m_encO_set {B ci k t : Nat} {fs : List Int} {w : Int} (ht : (m_tagL ci)[k]? = some t) (hk : k < fs.length) : (m_encO B ci fs).set k (m_encT B t w) = m_encO B ci (fs.set k w) := by
  apply List.ext_getElem?
  intro j
  by_cases hj : k = j
  · subst hj
    have h1 : k < (m_tagL ci).length := (List.getElem?_eq_some_iff.mp ht).1
    have h2 : (fs.set k w)[k]? = some w := by simp [hk]
    rw [m_encO_get h2 ht, List.getElem?_set_self]
    simp [m_encO]
    omega
  · rw [List.getElem?_set_ne hj]
    simp [m_encO, List.getElem?_zipWith, hj]
theorem m_encO_len {B ci : Nat} {fs : List Int} (h : fs.length = (m_tagL ci).length) : (m_encO B ci fs).length = fs.length := by
  simp [m_encO, h]
theorem m_sz_app (H : mH) (c : Nat × List Int) : m_sz (H ++ [c]) = m_sz H + c.2.length := by simp [m_sz]
theorem m_set_len (H : mH) (a k : Nat) (v : Int) : (m_set H a k v).length = H.length := by simp [m_set]
theorem m_modsz (H : mH) (a : Nat) (g : Nat × List Int → Nat × List Int) (hg : ∀ c, H[a]? = some c → (g c).2.length = c.2.length) : m_sz (H.modify a g) = m_sz H := by
  unfold m_sz
  congr 1
  apply List.ext_getElem?
  intro k
  simp only [List.getElem?_map, List.getElem?_modify]
  by_cases hk : a = k
  · subst hk
    cases h : H[a]? with
    | none => simp
    | some c => simp [hg c h]
  · simp [hk]
theorem m_set_sz (H : mH) (a k : Nat) (v : Int) : m_sz (m_set H a k v) = m_sz H := m_modsz H a _ (fun c _ => by simp)
theorem m_mod_ok {H : mH} {a : Nat} {g : Nat × List Int → Nat × List Int} (h : m_okH H) (hg : ∀ c, H[a]? = some c → m_okC c → m_okC (g c)) : m_okH (H.modify a g) := by
  intro c hc
  obtain ⟨k, hk⟩ := List.getElem?_of_mem hc
  rw [List.getElem?_modify] at hk
  by_cases e : a = k
  · subst e
    cases h1 : H[a]? with
    | none => simp [h1] at hk
    | some c0 =>
      simp [h1] at hk
      rw [← hk]
      exact hg c0 h1 (h c0 (List.mem_of_getElem? h1))
  · simp [e] at hk
    exact h c (List.mem_of_getElem? hk)
theorem m_set_ok {H : mH} {a k : Nat} {v : Int} (h : m_okH H) (hv : m_in v = true) : m_okH (m_set H a k v) := by
  refine m_mod_ok h (fun c _ hc => ⟨fun w hw => ?_, hc.2.1, fun h8 => ?_⟩)
  · rcases List.mem_or_eq_of_mem_set hw with hw | rfl
    · exact hc.1 w hw
    · exact hv
  · simpa using hc.2.2 h8
theorem m_app_ok {H : mH} {c : Nat × List Int} (h : m_okH H) (hc : m_okC c) : m_okH (H ++ [c]) := by
  intro x hx
  rcases List.mem_append.mp hx with hx | hx
  · exact h x hx
  · simp at hx
    rw [hx]
    exact hc
theorem m_enc_cat (B : Nat) (v : mV) : (m_enc B v).category = 1 := by
  match v with
  | some (.inl _) => rfl
  | some (.inr _) => rfl
  | none => rfl
/-- the locals -/
def m_lv (B nL : Nat) (ls : List mV) (lsr : Array Slot) : Prop := lsr.size = nL ∧ lv_wf lsr ∧ ∀ (i : Nat) (w : Int ⊕ Nat), ls[i]? = some (some w) → lsr[i]? = some (.val (m_enc B (some w)))
def m_lvl (B : Nat) (ls : List mV) : List (Nat × Value) := ls.zipIdx.filterMap (fun q => q.1.map (fun w => (q.2, m_enc B (some w))))
theorem m_lvl_mem {B : Nat} {ls : List mV} {q : Nat × Value} : q ∈ m_lvl B ls ↔ ∃ w, ls[q.1]? = some (some w) ∧ q.2 = m_enc B (some w) := by
  unfold m_lvl
  rw [List.mem_filterMap]
  constructor
  · rintro ⟨⟨v, i⟩, h1, h2⟩
    rw [List.mk_mem_zipIdx_iff_getElem?] at h1
    cases v with
    | none => cases h2
    | some w =>
      cases h2
      exact ⟨w, h1, rfl⟩
  · rintro ⟨w, h1, h2⟩
    refine ⟨(some w, q.1), List.mk_mem_zipIdx_iff_getElem?.mpr h1, ?_⟩
    rw [show q = (q.1, q.2) from rfl, h2]
    rfl
theorem m_lv_has {B nL : Nat} {ls : List mV} {lsr : Array Slot} (h : m_lv B nL ls lsr) : lv_has lsr nL (m_lvl B ls) := by
  refine ⟨h.1, h.2.1, fun q hq => ?_⟩
  obtain ⟨w, h1, h2⟩ := m_lvl_mem.mp hq
  rw [h2]
  exact h.2.2 q.1 w h1
theorem m_lv_of {B nL : Nat} {ls : List mV} {lsr : Array Slot} {l : List (Nat × Value)} (h : lv_has lsr nL l) (hs : ∀ (i : Nat) (w : Int ⊕ Nat), ls[i]? = some (some w) → (i, m_enc B (some w)) ∈ l) : m_lv B nL ls lsr :=
  ⟨h.1, h.2.1, fun i w hi => h.2.2 _ (hs i w hi)⟩
theorem m_lv_set {B nL k : Nat} {ls : List mV} {lsr : Array Slot} {w : Int ⊕ Nat} (hk : k < ls.length) (h : lv_has lsr nL ((k, m_enc B (some w)) :: (m_lvl B ls).filter (fun q => !(q.1 == k) && !(q.1 + 1 == k && q.2.category == 2)))) : m_lv B nL (ls.set k (some w)) lsr := by
  refine m_lv_of h (fun i v hi => ?_)
  by_cases e : k = i
  · subst e
    rw [List.getElem?_set_self hk] at hi
    cases hi
    exact List.mem_cons_self
  · rw [List.getElem?_set_ne e] at hi
    refine List.mem_cons_of_mem _ (List.mem_filter.mpr ⟨m_lvl_mem.mpr ⟨v, hi, rfl⟩, ?_⟩)
    have h1 : ((m_enc B (some v)).category == 2) = false := by rw [m_enc_cat]; rfl
    have h2 : (i == k) = false := by simp; omega
    simp [h1, h2]
theorem m_okS_cons {v : mV} {st : List mV} (hv : m_okV v) (hn : v ≠ none) (h : m_okS st) : m_okS (v :: st) := by
  intro x hx
  rcases List.mem_cons.mp hx with rfl | hx
  · exact ⟨hv, hn⟩
  · exact h x hx
theorem m_okS_tl {v : mV} {st : List mV} (h : m_okS (v :: st)) : m_okS st := fun x hx => h x (List.mem_cons_of_mem _ hx)
theorem m_okS_hd {k : Int} {st : List mV} (h : m_okS (mI k :: st)) : m_in k = true := (h _ List.mem_cons_self).1 k rfl
theorem m_okVI {k : Int} (h : m_in k = true) : m_okV (mI k) := fun j e => by
  have : k = j := by simpa [mI] using e
  exact this ▸ h
theorem m_okVR (a : Nat) : m_okV (mR a) := fun j e => by simp [mI, mR] at e
theorem m_okS_I {k : Int} {st : List mV} (hk : m_in k = true) (h : m_okS st) : m_okS (mI k :: st) := m_okS_cons (m_okVI hk) (by simp) h
theorem m_okS_R {a : Nat} {st : List mV} (h : m_okS st) : m_okS (mR a :: st) := m_okS_cons (m_okVR a) (by simp) h
theorem m_okL_set {k : Nat} {v : mV} {ls : List mV} (h : m_okL ls) (hv : m_okV v) : m_okL (ls.set k v) := by
  intro x hx
  rcases List.mem_or_eq_of_mem_set hx with hx | rfl
  · exact h x hx
  · exact hv
theorem m_okL_get {k : Nat} {v : Int} {ls : List mV} (h : m_okL ls) (hv : ls[k]? = some (some (.inl v))) : m_in v = true := h _ (List.mem_of_getElem? hv) v rfl
