/-! each instruction: what the little machine does, the real one does -/
def m_kh (j : Nat) : Int32 := if j = 4 then 5 else 9
def m_nests (U : State) : Prop := ∀ q ∈ m_mls, (q.2.2.1 = 3 ∨ q.2.2.1 = 4) → va_Nw (.methodLinkNest (m_cR q.1) q.2.1 (m_nm q.2.2.2.1) "QuiltPatches") U
def m_env (D : va_G) (K : mK) (B kh : Nat) (U : State) (Hr : Heap) : Prop := va_K D m_classes (m_tys K) U ∧ va_AO "QuiltPatches$Layout" U ∧ m_nests U ∧ va_Z RX3 "KIND_HIGHEST" "[I" (.ref kh) (fun q => B ≤ q) U Hr ∧ va_X kh 6 m_kh U Hr ∧ kh < B
theorem m_env_go {D : va_G} {K : mK} {B kh : Nat} {s U : State} {Hr : Heap} (h : m_env D K B kh s s.heap) (hW : s.WarmedH U.vm) (hH : ∀ q, q < s.heap.size → ¬ B ≤ q → Hr[q]? = s.heap[q]?) (hB : B ≤ s.heap.size) : m_env D K B kh U Hr := by
  obtain ⟨h1, h2, h3, h4, h5, h6⟩ := h
  exact ⟨va_K.moved hW.alike h1, va_AO.moved hW.alike h2, fun q hq hk => va_Nw.warmM hW (h3 q hq hk), (va_Z.moved hW.alike h4).kept hH, (va_X.moved hW.alike h5).kept (hH kh (by omega) (by omega)), h6⟩
def m_ctx (D : va_G) (K : mK) (B kh y : Nat) (p : Program) (s : State) (m : MethodId) (args : Array Value) (meth : Method) (c : Code) : Prop :=
  p.tables.exec = Jvm.exec ∧ c.code = m_by y ∧ meth.sig.returnType = m_rt y ∧ c.maxLocals = m_mx y ∧ s.vm.findClass (m_cR (m_own y)) = some m.cls ∧ (∀ w ∈ m_tbl, w.before args s = true) ∧ meth.locks = false ∧ meth.name = (m_nm y).name ∧ m_env D K B kh s s.heap ∧ B ≤ s.heap.size
def m_rm (d mc ms : Nat) : Room := { frames := d, cells := mc, slots := ms, locals := 64 * d }
/-- the real machine comes to Q from this place -/
def m_P (l : Launch) (D : va_G) (K : mK) (B d mc ms y : Nat) (p : Program) (e : Env) (s : State) (m : MethodId) (args : Array Value) (below : List Frame) (meth : Method) (c : Code) (Q : State → Prop) (pc : Nat) (ls st : List mV) (H : mH) (k n : Nat) : Prop :=
  s.heap.size + k = B + H.length → ∀ (Hr : Heap) (locs : List Loc) (lsr : Array Slot), va_P D m_classes (m_ws B K H) Hr → va_S (fun q => B ≤ q) s.heap Hr locs → m_lv B (m_mx y) ls lsr → W p l e (m_rm d mc ms) s m args below meth c Hr locs k n Q (F0 m pc lsr (st.map (m_enc B)))
section MS
variable {l : Launch} {D : va_G} {K : mK} {B kh d mc ms y : Nat} {p : Program} {e : Env} {s : State} {m : MethodId} {args : Array Value} {below : List Frame} {meth : Method} {c : Code} {Q : State → Prop} {pc : Nat} {ls st : List mV} {H : mH} {k n : Nat}
/-- how large the real heap is -/
theorem m_size {T : State} {Hr : Heap} {locs : List Loc} (hk : s.heap.size + k = B + H.length) (hP : va_P D m_classes (m_ws B K H) Hr) (hS : va_S (fun q => B ≤ q) s.heap Hr locs) (hB : B ≤ s.heap.size) (hT : T.heap = Hr) (X : Stand p l e (m_rm d mc ms) s m args below meth c T locs k n) : Hr.size = B + H.length := by
  have h1 := X.heapSize
  rw [hT] at h1
  have h2 : B + H.length ≤ Hr.size := by
    by_cases h0 : H.length = 0
    · have := hS.1
      omega
    · have hl : H.length - 1 < H.length := by omega
      have h3 := hP (H.length - 1) _ (m_ws_get (List.getElem?_eq_getElem hl))
      have h4 := h3.lt
      simp only at h4
      omega
  omega
theorem s_iconst (hc : m_ctx D K B kh y p s m args meth c) {x : Int} (hd : decode (m_by y) pc = .ok (.iconst x, 1)) (h : m_P l D K B d mc ms y p e s m args below meth c Q (pc + 1) ls (mI x :: st) H k n) : m_P l D K B d mc ms y p e s m args below meth c Q pc ls st H k n :=
  fun hk Hr locs lsr hP hS hl => lv_iconst hc.1 hc.2.1 hd rfl (h hk Hr locs lsr hP hS hl)
theorem s_bipush (hc : m_ctx D K B kh y p s m args meth c) {x : Int} (hd : decode (m_by y) pc = .ok (.bipush x, 2)) (hx : -128 ≤ x ∧ x ≤ 127) (h : m_P l D K B d mc ms y p e s m args below meth c Q (pc + 2) ls (mI x :: st) H k n) : m_P l D K B d mc ms y p e s m args below meth c Q pc ls st H k n :=
  fun hk Hr locs lsr hP hS hl => lv_bipush hc.1 hc.2.1 hd (by rw [← Int32.toInt_inj, Int8.toInt_toInt32, Int8.toInt_ofInt_of_le (by omega) (by omega), Int32.toInt_ofInt_of_le (by omega) (by omega)]) (h hk Hr locs lsr hP hS hl)
theorem s_sipush (hc : m_ctx D K B kh y p s m args meth c) {x : Int} (hd : decode (m_by y) pc = .ok (.sipush x, 3)) (hx : -32768 ≤ x ∧ x ≤ 32767) (h : m_P l D K B d mc ms y p e s m args below meth c Q (pc + 3) ls (mI x :: st) H k n) : m_P l D K B d mc ms y p e s m args below meth c Q pc ls st H k n :=
  fun hk Hr locs lsr hP hS hl => lv_sipush hc.1 hc.2.1 hd (by rw [← Int32.toInt_inj, Int16.toInt_toInt32, Int16.toInt_ofInt_of_le (by omega) (by omega), Int32.toInt_ofInt_of_le (by omega) (by omega)]) (h hk Hr locs lsr hP hS hl)
theorem s_ldc_w (hc : m_ctx D K B kh y p s m args meth c) {x : Nat} {v : Int} (hd : decode (m_by y) pc = .ok (.ldc_w x, 3)) (hx : m_cn (m_own y) x = some v) (h : m_P l D K B d mc ms y p e s m args below meth c Q (pc + 3) ls (mI v :: st) H k n) : m_P l D K B d mc ms y p e s m args below meth c Q pc ls st H k n :=
  fun hk Hr locs lsr hP hS hl => lv_ldcw hc.1 hc.2.1 hc.2.2.2.2.1 (hc.2.2.2.2.2.1 _ (m_cn_ok hx)) hd (h hk Hr locs lsr hP hS hl)
theorem s_iload_n (hc : m_ctx D K B kh y p s m args meth c) {x : Fin 4} {v : Int} (hd : decode (m_by y) pc = .ok (.iload_n x, 1)) (hx : ls[(x : Nat)]? = some (mI v)) (h : m_P l D K B d mc ms y p e s m args below meth c Q (pc + 1) ls (mI v :: st) H k n) : m_P l D K B d mc ms y p e s m args below meth c Q pc ls st H k n :=
  fun hk Hr locs lsr hP hS hl => lv_iload_n hc.1 hc.2.1 hd rfl (hl.2.2 _ _ hx) (h hk Hr locs lsr hP hS hl)
theorem s_iload (hc : m_ctx D K B kh y p s m args meth c) {x : Nat} {v : Int} (hd : decode (m_by y) pc = .ok (.iload x, 2)) (hx : ls[x]? = some (mI v)) (h : m_P l D K B d mc ms y p e s m args below meth c Q (pc + 2) ls (mI v :: st) H k n) : m_P l D K B d mc ms y p e s m args below meth c Q pc ls st H k n :=
  fun hk Hr locs lsr hP hS hl => lv_iload hc.1 hc.2.1 hd (hl.2.2 _ _ hx) (h hk Hr locs lsr hP hS hl)
theorem s_aload_n (hc : m_ctx D K B kh y p s m args meth c) {x : Fin 4} {v : Nat} (hd : decode (m_by y) pc = .ok (.aload_n x, 1)) (hx : ls[(x : Nat)]? = some (mR v)) (h : m_P l D K B d mc ms y p e s m args below meth c Q (pc + 1) ls (mR v :: st) H k n) : m_P l D K B d mc ms y p e s m args below meth c Q pc ls st H k n :=
  fun hk Hr locs lsr hP hS hl => lv_aload_n hc.1 hc.2.1 hd rfl (hl.2.2 _ _ hx) (h hk Hr locs lsr hP hS hl)
theorem s_istore_n (hc : m_ctx D K B kh y p s m args meth c) (hL : ls.length = m_mx y) {x : Fin 4} {v : Int} (hd : decode (m_by y) pc = .ok (.istore_n x, 1)) (hx : (x : Nat) < ls.length) (h : m_P l D K B d mc ms y p e s m args below meth c Q (pc + 1) (ls.set x (mI v)) st H k n) : m_P l D K B d mc ms y p e s m args below meth c Q pc ls (mI v :: st) H k n :=
  fun hk Hr locs lsr hP hS hl => lv_istore_n hc.1 hc.2.1 hd rfl (m_lv_has hl) (hL ▸ hx) rfl (fun ls' h' => h hk Hr locs ls' hP hS (m_lv_set hx h'))
theorem s_istore (hc : m_ctx D K B kh y p s m args meth c) (hL : ls.length = m_mx y) {x : Nat} {v : Int} (hd : decode (m_by y) pc = .ok (.istore x, 2)) (hx : x < ls.length) (h : m_P l D K B d mc ms y p e s m args below meth c Q (pc + 2) (ls.set x (mI v)) st H k n) : m_P l D K B d mc ms y p e s m args below meth c Q pc ls (mI v :: st) H k n :=
  fun hk Hr locs lsr hP hS hl => lv_istore hc.1 hc.2.1 hd (m_lv_has hl) (hL ▸ hx) rfl (fun ls' h' => h hk Hr locs ls' hP hS (m_lv_set hx h'))
theorem s_astore_n (hc : m_ctx D K B kh y p s m args meth c) (hL : ls.length = m_mx y) {x : Fin 4} {v : Nat} (hd : decode (m_by y) pc = .ok (.astore_n x, 1)) (hx : (x : Nat) < ls.length) (h : m_P l D K B d mc ms y p e s m args below meth c Q (pc + 1) (ls.set x (mR v)) st H k n) : m_P l D K B d mc ms y p e s m args below meth c Q pc ls (mR v :: st) H k n :=
  fun hk Hr locs lsr hP hS hl => lv_astore_n hc.1 hc.2.1 hd rfl (m_lv_has hl) (hL ▸ hx) rfl (fun ls' h' => h hk Hr locs ls' hP hS (m_lv_set hx h'))
theorem s_iinc (hc : m_ctx D K B kh y p s m args meth c) (hL : ls.length = m_mx y) {x : Nat} {v a : Int} (hd : decode (m_by y) pc = .ok (.iinc x a, 3)) (hx : ls[x]? = some (mI v)) (h : m_P l D K B d mc ms y p e s m args below meth c Q (pc + 3) (ls.set x (mI (v + a))) st H k n) : m_P l D K B d mc ms y p e s m args below meth c Q pc ls st H k n := by
  intro hk Hr locs lsr hP hS hl
  have hlt : x < ls.length := (List.getElem?_eq_some_iff.mp hx).1
  obtain ⟨j, hj⟩ := List.getElem?_of_mem (m_lvl_mem.mpr ⟨_, hx, rfl⟩ : (x, m_enc B (mI v)) ∈ m_lvl B ls)
  exact lv_iinc (v := Int32.ofInt (v + a)) hc.1 hc.2.1 hd (m_lv_has hl) (k := j) hj (Int32.ofInt_add v a).symm (hL ▸ hlt) rfl (fun ls' h' => h hk Hr locs ls' hP hS (m_lv_set hlt h'))
theorem s_iadd (hc : m_ctx D K B kh y p s m args meth c) {a b : Int} (hd : decode (m_by y) pc = .ok (.iadd, 1)) (h : m_P l D K B d mc ms y p e s m args below meth c Q (pc + 1) ls (mI (a + b) :: st) H k n) : m_P l D K B d mc ms y p e s m args below meth c Q pc ls (mI b :: mI a :: st) H k n := by
  intro hk Hr locs lsr hP hS hl
  refine lv_iadd hc.1 hc.2.1 hd ?_
  rw [← Int32.ofInt_add]
  exact h hk Hr locs lsr hP hS hl
theorem s_isub (hc : m_ctx D K B kh y p s m args meth c) {a b : Int} (hd : decode (m_by y) pc = .ok (.isub, 1)) (h : m_P l D K B d mc ms y p e s m args below meth c Q (pc + 1) ls (mI (a - b) :: st) H k n) : m_P l D K B d mc ms y p e s m args below meth c Q pc ls (mI b :: mI a :: st) H k n := by
  intro hk Hr locs lsr hP hS hl
  refine lv_isub hc.1 hc.2.1 hd ?_
  rw [← Int32.ofInt_sub]
  exact h hk Hr locs lsr hP hS hl
theorem s_imul (hc : m_ctx D K B kh y p s m args meth c) {a b : Int} (hd : decode (m_by y) pc = .ok (.imul, 1)) (h : m_P l D K B d mc ms y p e s m args below meth c Q (pc + 1) ls (mI (a * b) :: st) H k n) : m_P l D K B d mc ms y p e s m args below meth c Q pc ls (mI b :: mI a :: st) H k n := by
  intro hk Hr locs lsr hP hS hl
  refine lv_imul hc.1 hc.2.1 hd ?_
  rw [← Int32.ofInt_mul]
  exact h hk Hr locs lsr hP hS hl
theorem s_ne0 {b : Int} (hb : m_in b = true) (h0 : ¬ (b = 0 ∨ b = -1)) : ¬ Int32.ofInt b = 0 := by
  rw [← m_of0, m_eq hb m_in0]
  omega
theorem s_idiv (hc : m_ctx D K B kh y p s m args meth c) {a b : Int} (hd : decode (m_by y) pc = .ok (.idiv, 1)) (ha : m_in a = true) (hb : m_in b = true) (h0 : ¬ (b = 0 ∨ b = -1)) (h : m_P l D K B d mc ms y p e s m args below meth c Q (pc + 1) ls (mI (a.tdiv b) :: st) H k n) : m_P l D K B d mc ms y p e s m args below meth c Q pc ls (mI b :: mI a :: st) H k n := by
  intro hk Hr locs lsr hP hS hl
  refine lv_idiv hc.1 hc.2.1 hd (s_ne0 hb h0) ?_
  rw [← (m_div ha hb h0).2]
  exact h hk Hr locs lsr hP hS hl
theorem s_irem (hc : m_ctx D K B kh y p s m args meth c) {a b : Int} (hd : decode (m_by y) pc = .ok (.irem, 1)) (ha : m_in a = true) (hb : m_in b = true) (h0 : ¬ (b = 0 ∨ b = -1)) (h : m_P l D K B d mc ms y p e s m args below meth c Q (pc + 1) ls (mI (a.tmod b) :: st) H k n) : m_P l D K B d mc ms y p e s m args below meth c Q pc ls (mI b :: mI a :: st) H k n := by
  intro hk Hr locs lsr hP hS hl
  refine lv_irem hc.1 hc.2.1 hd (s_ne0 hb h0) ?_
  rw [← (m_rem ha hb h0).2]
  exact h hk Hr locs lsr hP hS hl
theorem s_iand (hc : m_ctx D K B kh y p s m args meth c) {a b : Int} (hd : decode (m_by y) pc = .ok (.iand, 1)) (h : m_P l D K B d mc ms y p e s m args below meth c Q (pc + 1) ls (mI (m_and a b) :: st) H k n) : m_P l D K B d mc ms y p e s m args below meth c Q pc ls (mI b :: mI a :: st) H k n := by
  intro hk Hr locs lsr hP hS hl
  refine lv_iand hc.1 hc.2.1 hd ?_
  rw [← m_of_toInt (_ &&& _)]
  exact h hk Hr locs lsr hP hS hl
theorem s_ior (hc : m_ctx D K B kh y p s m args meth c) {a b : Int} (hd : decode (m_by y) pc = .ok (.ior, 1)) (h : m_P l D K B d mc ms y p e s m args below meth c Q (pc + 1) ls (mI (m_or a b) :: st) H k n) : m_P l D K B d mc ms y p e s m args below meth c Q pc ls (mI b :: mI a :: st) H k n := by
  intro hk Hr locs lsr hP hS hl
  refine lv_ior hc.1 hc.2.1 hd ?_
  rw [← m_of_toInt (_ ||| _)]
  exact h hk Hr locs lsr hP hS hl
theorem s_ixor (hc : m_ctx D K B kh y p s m args meth c) {a b : Int} (hd : decode (m_by y) pc = .ok (.ixor, 1)) (h : m_P l D K B d mc ms y p e s m args below meth c Q (pc + 1) ls (mI (m_xor a b) :: st) H k n) : m_P l D K B d mc ms y p e s m args below meth c Q pc ls (mI b :: mI a :: st) H k n := by
  intro hk Hr locs lsr hP hS hl
  refine lv_ixor hc.1 hc.2.1 hd ?_
  rw [← m_of_toInt (_ ^^^ _)]
  exact h hk Hr locs lsr hP hS hl
theorem s_ishl (hc : m_ctx D K B kh y p s m args meth c) {a b : Int} (hd : decode (m_by y) pc = .ok (.ishl, 1)) (h : m_P l D K B d mc ms y p e s m args below meth c Q (pc + 1) ls (mI (m_shl a b) :: st) H k n) : m_P l D K B d mc ms y p e s m args below meth c Q pc ls (mI b :: mI a :: st) H k n := by
  intro hk Hr locs lsr hP hS hl
  refine lv_ishl hc.1 hc.2.1 hd ?_
  rw [← m_of_toInt (_ <<< _)]
  exact h hk Hr locs lsr hP hS hl
theorem s_ishr (hc : m_ctx D K B kh y p s m args meth c) {a b : Int} (hd : decode (m_by y) pc = .ok (.ishr, 1)) (h : m_P l D K B d mc ms y p e s m args below meth c Q (pc + 1) ls (mI (m_shr a b) :: st) H k n) : m_P l D K B d mc ms y p e s m args below meth c Q pc ls (mI b :: mI a :: st) H k n := by
  intro hk Hr locs lsr hP hS hl
  refine lv_ishr hc.1 hc.2.1 hd ?_
  rw [← m_of_toInt (_ >>> _)]
  exact h hk Hr locs lsr hP hS hl
theorem s_iushr (hc : m_ctx D K B kh y p s m args meth c) {a b : Int} (hd : decode (m_by y) pc = .ok (.iushr, 1)) (h : m_P l D K B d mc ms y p e s m args below meth c Q (pc + 1) ls (mI (m_ushr a b) :: st) H k n) : m_P l D K B d mc ms y p e s m args below meth c Q pc ls (mI b :: mI a :: st) H k n :=
  fun hk Hr locs lsr hP hS hl => lv_iushr (v := Int32.ofInt (m_ushr a b)) hc.1 hc.2.1 hd (m_of_toInt _).symm (h hk Hr locs lsr hP hS hl)
theorem s_dup (hc : m_ctx D K B kh y p s m args meth c) {v : mV} (hd : decode (m_by y) pc = .ok (.dup, 1)) (h : m_P l D K B d mc ms y p e s m args below meth c Q (pc + 1) ls (v :: v :: st) H k n) : m_P l D K B d mc ms y p e s m args below meth c Q pc ls (v :: st) H k n :=
  fun hk Hr locs lsr hP hS hl => lv_dup hc.1 hc.2.1 hd (m_enc_cat B v) (h hk Hr locs lsr hP hS hl)
theorem s_dup2 (hc : m_ctx D K B kh y p s m args meth c) {v w : mV} (hd : decode (m_by y) pc = .ok (.dup2, 1)) (h : m_P l D K B d mc ms y p e s m args below meth c Q (pc + 1) ls (v :: w :: v :: w :: st) H k n) : m_P l D K B d mc ms y p e s m args below meth c Q pc ls (v :: w :: st) H k n :=
  fun hk Hr locs lsr hP hS hl => lv_dup2_11 hc.1 hc.2.1 hd (m_enc_cat B v) (m_enc_cat B w) (h hk Hr locs lsr hP hS hl)
theorem s_goto (hc : m_ctx D K B kh y p s m args meth c) {off : Int} {tgt : Nat} (hd : decode (m_by y) pc = .ok (.goto off, 3)) (ht : (pc : Int) + off = (tgt : Int)) (h : m_P l D K B d mc ms y p e s m args below meth c Q tgt ls st H k n) : m_P l D K B d mc ms y p e s m args below meth c Q pc ls st H k n :=
  fun hk Hr locs lsr hP hS hl => lv_goto hc.1 hc.2.1 hd ht (h hk Hr locs lsr hP hS hl)
theorem s_if (hc : m_ctx D K B kh y p s m args meth c) {cd : ClassFile.Cond} {off a : Int} {tgt : Nat} (hd : decode (m_by y) pc = .ok (.ifCond cd off, 3)) (ht : (pc : Int) + off = (tgt : Int)) (ha : m_in a = true) (h1 : m_cmp cd a 0 = true → m_P l D K B d mc ms y p e s m args below meth c Q tgt ls st H k n) (h2 : m_cmp cd a 0 = false → m_P l D K B d mc ms y p e s m args below meth c Q (pc + 3) ls st H k n) : m_P l D K B d mc ms y p e s m args below meth c Q pc ls (mI a :: st) H k n := by
  intro hk Hr locs lsr hP hS hl
  have j1 := fun q => h1 q hk Hr locs lsr hP hS hl
  have j2 := fun q => h2 q hk Hr locs lsr hP hS hl
  have e0 : (Int32.ofInt a = 0) ↔ a = 0 := by rw [← m_of0]; exact m_eq ha m_in0
  have e1 : (Int32.ofInt a < 0) ↔ a < 0 := by rw [← m_of0]; exact m_lt ha m_in0
  have e2 : (0 ≤ Int32.ofInt a) ↔ 0 ≤ a := by rw [← m_of0]; exact m_le m_in0 ha
  have e3 : (0 < Int32.ofInt a) ↔ 0 < a := by rw [← m_of0]; exact m_lt m_in0 ha
  have e4 : (Int32.ofInt a ≤ 0) ↔ a ≤ 0 := by rw [← m_of0]; exact m_le ha m_in0
  cases cd with
  | eq => exact lv_if_eq hc.1 hc.2.1 hd ht (fun q => j1 (by simpa [m_cmp] using e0.mp q)) (fun q => j2 (by simpa [m_cmp] using fun z => q (e0.mpr z)))
  | ne => exact lv_if_ne hc.1 hc.2.1 hd ht (fun q => j1 (by simpa [m_cmp] using fun z => q (e0.mpr z))) (fun q => j2 (by simpa [m_cmp] using e0.mp q))
  | lt => exact lv_if_lt hc.1 hc.2.1 hd ht (fun q => j1 (by simpa [m_cmp] using e1.mp q)) (fun q => j2 (by have := mt e1.mpr q; simp [m_cmp]; omega))
  | ge => exact lv_if_ge hc.1 hc.2.1 hd ht (fun q => j1 (by simpa [m_cmp] using e2.mp q)) (fun q => j2 (by have := mt e2.mpr q; simp [m_cmp]; omega))
  | gt => exact lv_if_gt hc.1 hc.2.1 hd ht (fun q => j1 (by simpa [m_cmp] using e3.mp q)) (fun q => j2 (by have := mt e3.mpr q; simp [m_cmp]; omega))
  | le => exact lv_if_le hc.1 hc.2.1 hd ht (fun q => j1 (by simpa [m_cmp] using e4.mp q)) (fun q => j2 (by have := mt e4.mpr q; simp [m_cmp]; omega))
theorem s_icmp (hc : m_ctx D K B kh y p s m args meth c) {cd : ClassFile.Cond} {off a b : Int} {tgt : Nat} (hd : decode (m_by y) pc = .ok (.if_icmp cd off, 3)) (ht : (pc : Int) + off = (tgt : Int)) (ha : m_in a = true) (hb : m_in b = true) (h1 : m_cmp cd a b = true → m_P l D K B d mc ms y p e s m args below meth c Q tgt ls st H k n) (h2 : m_cmp cd a b = false → m_P l D K B d mc ms y p e s m args below meth c Q (pc + 3) ls st H k n) : m_P l D K B d mc ms y p e s m args below meth c Q pc ls (mI b :: mI a :: st) H k n := by
  intro hk Hr locs lsr hP hS hl
  have j1 := fun q => h1 q hk Hr locs lsr hP hS hl
  have j2 := fun q => h2 q hk Hr locs lsr hP hS hl
  have e0 := m_eq ha hb
  have e1 := m_lt ha hb
  have e2 := m_le hb ha
  have e3 := m_lt hb ha
  have e4 := m_le ha hb
  cases cd with
  | eq => exact lv_icmp_eq hc.1 hc.2.1 hd ht (fun q => j1 (by simpa [m_cmp] using e0.mp q)) (fun q => j2 (by simpa [m_cmp] using fun z => q (e0.mpr z)))
  | ne => exact lv_icmp_ne hc.1 hc.2.1 hd ht (fun q => j1 (by simpa [m_cmp] using fun z => q (e0.mpr z))) (fun q => j2 (by simpa [m_cmp] using e0.mp q))
  | lt => exact lv_icmp_lt hc.1 hc.2.1 hd ht (fun q => j1 (by simpa [m_cmp] using e1.mp q)) (fun q => j2 (by have := mt e1.mpr q; simp [m_cmp]; omega))
  | ge => exact lv_icmp_ge hc.1 hc.2.1 hd ht (fun q => j1 (by simpa [m_cmp] using e2.mp q)) (fun q => j2 (by have := mt e2.mpr q; simp [m_cmp]; omega))
  | gt => exact lv_icmp_gt hc.1 hc.2.1 hd ht (fun q => j1 (by simpa [m_cmp] using e3.mp q)) (fun q => j2 (by have := mt e3.mpr q; simp [m_cmp]; omega))
  | le => exact lv_icmp_le hc.1 hc.2.1 hd ht (fun q => j1 (by simpa [m_cmp] using e4.mp q)) (fun q => j2 (by have := mt e4.mpr q; simp [m_cmp]; omega))
theorem s_table (hc : m_ctx D K B kh y p s m args meth c) {dflt lo hi a : Int} {offs : Array Int} {len tgt : Nat} (hd : decode (m_by y) pc = .ok (.tableswitch dflt lo hi offs, len)) (ha : m_in a = true) (ht : (if a < lo ∨ hi < a then m_jmp pc dflt else (offs[(a - lo).toNat]?).bind (m_jmp pc)) = some tgt) (h : m_P l D K B d mc ms y p e s m args below meth c Q tgt ls st H k n) : m_P l D K B d mc ms y p e s m args below meth c Q pc ls (mI a :: st) H k n := by
  intro hk Hr locs lsr hP hS hl
  have j := h hk Hr locs lsr hP hS hl
  have jm : ∀ (off : Int), m_jmp pc off = some tgt → (pc : Int) + off = (tgt : Int) := by
    intro off q
    unfold m_jmp at q
    split at q
    · cases q
      omega
    · cases q
  split at ht
  · exact lv_tableOut hc.1 hc.2.1 hd (by rw [m_toInt ha]; assumption) (jm _ ht) j
  · rename_i hno
    obtain ⟨off, h1, h2⟩ := Option.bind_eq_some_iff.mp ht
    exact lv_tableIn (off := off) hc.1 hc.2.1 hd (by rw [m_toInt ha]; omega) (by rw [m_toInt ha]; omega) (by rw [m_toInt ha]; exact h1) (jm _ h2) j
theorem s_lookup (hc : m_ctx D K B kh y p s m args meth c) {dflt a : Int} {ps : Array (Int × Int)} {len tgt : Nat} (hd : decode (m_by y) pc = .ok (.lookupswitch dflt ps, len)) (ha : m_in a = true) (hp : (ps.toList.zip (ps.toList.drop 1)).all (fun (a, next) => a.1 < next.1) = true) (ht : m_jmp pc (Op.lookupswitch.offset ps.toList dflt a) = some tgt) (h : m_P l D K B d mc ms y p e s m args below meth c Q tgt ls st H k n) : m_P l D K B d mc ms y p e s m args below meth c Q pc ls (mI a :: st) H k n := by
  intro hk Hr locs lsr hP hS hl
  have j := h hk Hr locs lsr hP hS hl
  unfold m_jmp at ht
  split at ht
  · cases ht
    exact lv_lookup (off := Op.lookupswitch.offset ps.toList dflt a) hc.1 hc.2.1 hd hp (by rw [m_toInt ha]) (by omega) j
  · cases ht
theorem m_ld_enc {t : Nat} {v : Int} {w : mV} (h : m_ld t v = some w) : m_enc B w = m_encT B t v := by
  unfold m_ld at h
  split at h
  · split at h
    · cases h
    · cases h
      simp [m_enc, m_encT, *]
  · cases h
    simp [m_enc, m_encT, *]
theorem m_st_enc {t : Nat} {v : mV} {x : Int} (h : m_st t v = some x) : m_enc B v = m_encT B t x := by
  unfold m_st at h
  split at h
  · split at h
    · cases h
      simp [m_enc, m_encT, *]
    · split at h
      · split at h
        · cases h
          simp [m_enc, m_encT, *]
        · cases h
      · cases h
  · split at h
    · cases h
      simp [m_enc, m_encT, *]
    · cases h
  · cases h
theorem s_getfield (hc : m_ctx D K B kh y p s m args meth c) {x ci kf a t : Nat} {fs : List Int} {v : Int} {w : mV} (hd : decode (m_by y) pc = .ok (.getfield x, 3)) (hf : m_fl (m_own y) x = some (ci, kf)) (hH : H[a]? = some (ci, fs)) (hv : fs[kf]? = some v) (ht : (m_tagL ci)[kf]? = some t) (hw : m_ld t v = some w) (h : m_P l D K B d mc ms y p e s m args below meth c Q (pc + 3) ls (w :: st) H k n) : m_P l D K B d mc ms y p e s m args below meth c Q pc ls (mR a :: st) H k n := by
  intro hk Hr locs lsr hP hS hl
  obtain ⟨h8, hkN, hlk⟩ := m_fl_ok hf
  have hws : (m_ws B K H)[a]? = some (B + a, .inr (ci, m_encO B ci fs)) := by rw [m_ws_get hH]; simp [m_encC, h8]
  refine va_get (D := D) (ci := ci) (C := (m_C ci).1) (T := (m_C ci).2.1) (N := (m_C ci).2.2) hc.1 hc.2.1 hc.2.2.2.2.2.1 (m_in_ok h8) hc.2.2.2.2.1 hc.2.2.2.2.2.2.2.2.1.1 hP a hws (m_C_get h8) kf hkN (hc.2.2.2.2.2.1 _ hlk) (fun z hz => by rw [← (m_tag_at h8 hkN).2]; exact hz) (m_encO_get hv ht) hd ?_
  rw [← m_ld_enc hw]
  exact h hk Hr locs lsr hP hS hl
theorem m_fit0 {ty : FieldType} {v : mV} {x : Int} (hx : m_st (m_tg ty) v = some x) : narrow ty (m_enc B v) = m_enc B v ∧ fits ty (m_enc B v) = true := by
  cases ty with
  | int => match v, hx with
    | some (.inl z), _ => exact ⟨rfl, rfl⟩
    | some (.inr a), hx => simp [m_st, m_tg] at hx
    | none, hx => cases hx
  | boolean => match v, hx with
    | some (.inl z), hx =>
      simp only [m_st, m_tg] at hx
      split at hx
      · omega
      · split at hx
        · split at hx
          · rename_i q
            rcases q with rfl | rfl <;> exact ⟨rfl, rfl⟩
          · cases hx
        · cases hx
    | some (.inr a), hx => simp [m_st, m_tg] at hx
    | none, hx => cases hx
  | object nm => match v, hx with
    | some (.inl z), hx => simp [m_st, m_tg] at hx
    | some (.inr a), hx => exact ⟨rfl, rfl⟩
    | none, hx => cases hx
  | array tt => match v, hx with
    | some (.inl z), hx => simp [m_st, m_tg] at hx
    | some (.inr a), hx => exact ⟨rfl, rfl⟩
    | none, hx => cases hx
  | _ => match v, hx with
    | some (.inl z), hx => simp [m_st, m_tg] at hx
    | some (.inr a), hx => simp [m_st, m_tg] at hx
    | none, hx => cases hx
theorem m_fitT {ci kf t : Nat} (h8 : ci < 8) (hkN : kf < (m_C ci).2.2) (ht : (m_tagL ci)[kf]? = some t) {v : mV} {x : Int} (hx : m_st t v = some x) : narrow (m_ty ci kf) (m_enc B v) = m_enc B v ∧ fits (m_ty ci kf) (m_enc B v) = true := by
  have h1 := (m_tag_at h8 hkN).1
  rw [ht] at h1
  have h2 : t = m_tg (m_ty ci kf) := Option.some.inj h1
  rw [h2] at hx
  exact m_fit0 hx
theorem s_putfield (hc : m_ctx D K B kh y p s m args meth c) {x ci kf a t : Nat} {fs : List Int} {v : mV} {w : Int} (hd : decode (m_by y) pc = .ok (.putfield x, 3)) (hf : m_fl (m_own y) x = some (ci, kf)) (hH : H[a]? = some (ci, fs)) (hkl : kf < fs.length) (hlen : fs.length = (m_C ci).2.2) (hfin : ((m_C ci).2.1 kf).2.2.2 = true → (m_nm y).name = "<init>" ∧ m_cR (m_own y) = (m_C ci).1) (ht : (m_tagL ci)[kf]? = some t) (hw : m_st t v = some w) (h : m_P l D K B d mc ms y p e s m args below meth c Q (pc + 3) ls st (m_set H a kf w) k n) : m_P l D K B d mc ms y p e s m args below meth c Q pc ls (v :: mR a :: st) H k n := by
  intro hk Hr locs lsr hP hS hl
  obtain ⟨h8, hkN, hlk⟩ := m_fl_ok hf
  have hws : (m_ws B K H)[a]? = some (B + a, .inr (ci, m_encO B ci fs)) := by rw [m_ws_get hH]; simp [m_encC, h8]
  obtain ⟨hn, hfit⟩ := m_fitT (B := B) h8 hkN ht hw
  have hkl' : kf < (m_encO B ci fs).length := by rw [m_encO_len (by rw [hlen, m_tag_len h8])]; exact hkl
  have hws' : m_ws B K (m_set H a kf w) = (m_ws B K H).set a (B + a, .inr (ci, (m_encO B ci fs).set kf (m_enc B v))) := by
    unfold m_set
    rw [m_ws_mod _ hH, m_st_enc hw, m_encO_set ht hkl]
    simp [m_encC, h8]
  have go : ∀ (H1 : Heap) (locs1 : List Loc), va_P D m_classes ((m_ws B K H).set a (B + a, .inr (ci, (m_encO B ci fs).set kf (m_enc B v)))) H1 → va_D (fun q => B ≤ q) ((m_ws B K H).set a (B + a, .inr (ci, (m_encO B ci fs).set kf (m_enc B v)))) → va_S (fun q => B ≤ q) s.heap H1 locs1 → W p l e (m_rm d mc ms) s m args below meth c H1 locs1 k n Q (F0 m (pc + 3) lsr (st.map (m_enc B))) := by
    intro H1 locs1 g1 g2 g3
    rw [← hws'] at g1
    exact h (by rw [m_set_len]; exact hk) H1 locs1 lsr g1 g3 hl
  by_cases hF : ((m_C ci).2.1 kf).2.2.2 = true
  · obtain ⟨hi1, hi2⟩ := hfin hF
    exact va_putF (D := D) (ci := ci) (ty := m_ty ci kf) (C := (m_C ci).1) (T := (m_C ci).2.1) (N := (m_C ci).2.2) hc.1 hc.2.1 hc.2.2.2.2.2.1 (m_in_ok h8) (m_ty ci) (m_ty_ok h8) (m_nm_ok h8) hc.2.2.2.2.1 hc.2.2.2.2.2.2.2.2.1.1 hP (m_ws_D B K H) hS a hws (m_C_get h8) kf hkN (hc.2.2.2.2.2.1 _ hlk) (fun z hz => by rw [← (m_tag_at h8 hkN).2]; exact hz) hF (by rw [hc.2.2.2.2.2.2.2.1]; exact hi1) (by rw [hi2]; exact (m_tag_at h8 hkN).2) (m_ty_ok h8 kf hkN) hn hfit hkl' hd go
  · exact va_put (D := D) (ci := ci) (ty := m_ty ci kf) (C := (m_C ci).1) (T := (m_C ci).2.1) (N := (m_C ci).2.2) hc.1 hc.2.1 hc.2.2.2.2.2.1 (m_in_ok h8) (m_ty ci) (m_ty_ok h8) (m_nm_ok h8) hc.2.2.2.2.1 hc.2.2.2.2.2.2.2.2.1.1 hP (m_ws_D B K H) hS a hws (m_C_get h8) kf hkN (hc.2.2.2.2.2.1 _ hlk) (fun z hz => by rw [← (m_tag_at h8 hkN).2]; exact hz) (by simpa using hF) (m_ty_ok h8 kf hkN) hn hfit hkl' hd go
end MS
