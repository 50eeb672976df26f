/-! arrays, new cells, and the calls that no code of ours answers -/
theorem m_sum8 {B : Nat} (st : List mV) : ((st.map (m_enc B)).map fun v => v.category).sum = st.length := by
  induction st with
  | nil => rfl
  | cons v st ih =>
    simp only [List.map_cons, List.sum_cons, List.length_cons, m_enc_cat] at *
    omega
theorem m_getD {fs : List Int} {i : Nat} {v z : Int} (h : fs[i]? = some v) : fs.getD i z = v := by
  rw [List.getD_eq_getElem?_getD, h]; rfl
theorem m_updI {fs : List Int} {i : Nat} {v : Int} (hi : i < fs.length) : (fun j => Int32.ofInt ((fs.set i v).getD j 0)) = upd (fun j => Int32.ofInt (fs.getD j 0)) i (Int32.ofInt v) := by
  funext j
  unfold upd
  by_cases e : j = i
  · subst e
    rw [if_pos rfl, m_getD (v := v) (by simp [hi])]
  · rw [if_neg e]
    congr 1
    simp only [List.getD_eq_getElem?_getD]
    rw [List.getElem?_set_ne (Ne.symm e)]
theorem m_repl (N j : Nat) : (List.replicate N (0 : Int)).getD j 0 = 0 := by
  rw [List.getD_eq_getElem?_getD, List.getElem?_replicate]
  split <;> rfl
section MA
variable {l : Launch} {D : va_G} {K : mK} {B kh d mc ms y : Nat} {p : Program} {e : Env} {s : State} {m : MethodId} {args : Array Value} {below : List Frame} {meth : Method} {c : Code} {Q : State → Prop} {pc : Nat} {ls st : List mV} {H : mH} {k n : Nat}
theorem s_iaload (hc : m_ctx D K B kh y p s m args meth c) {a : Nat} {i v : Int} {fs : List Int} (hd : decode (m_by y) pc = .ok (.iaload, 1)) (hH : H[a]? = some (8, fs)) (hi : m_in i = true) (h0 : 0 ≤ i) (hv : fs[i.toNat]? = some v) (h : m_P l D K B d mc ms y p e s m args below meth c Q (pc + 1) ls (mI v :: st) H k n) : m_P l D K B d mc ms y p e s m args below meth c Q pc ls (mI i :: mR a :: st) H k n := by
  intro hk Hr locs lsr hP hS hl
  have hws : (m_ws B K H)[a]? = some (B + a, .inl (K.1, fs.length, .inl (fun j => Int32.ofInt (fs.getD j 0)))) := by rw [m_ws_get hH]; rfl
  refine va_iald hc.1 hc.2.1 hc.2.2.2.2.2.2.2.2.1.1 hP a 0 hws rfl (m_vin hi h0 (List.getElem?_eq_some_iff.mp hv).1) hd ?_
  rw [m_nat hi, m_getD hv]
  exact h hk Hr locs lsr hP hS hl
theorem s_baload (hc : m_ctx D K B kh y p s m args meth c) {a : Nat} {i v : Int} {fs : List Int} (hd : decode (m_by y) pc = .ok (.baload, 1)) (hH : H[a]? = some (9, fs)) (hi : m_in i = true) (h0 : 0 ≤ i) (hv : fs[i.toNat]? = some v) (h : m_P l D K B d mc ms y p e s m args below meth c Q (pc + 1) ls (mI v :: st) H k n) : m_P l D K B d mc ms y p e s m args below meth c Q pc ls (mI i :: mR a :: st) H k n := by
  intro hk Hr locs lsr hP hS hl
  have hws : (m_ws B K H)[a]? = some (B + a, .inl (K.2.1, fs.length, .inl (fun j => Int32.ofInt (fs.getD j 0)))) := by rw [m_ws_get hH]; rfl
  refine va_zald hc.1 hc.2.1 hc.2.2.2.2.2.2.2.2.1.1 hP a 1 hws rfl (m_vin hi h0 (List.getElem?_eq_some_iff.mp hv).1) hd ?_
  rw [m_nat hi, m_getD hv]
  exact h hk Hr locs lsr hP hS hl
theorem s_aaload (hc : m_ctx D K B kh y p s m args meth c) {a : Nat} {i v : Int} {w : mV} {fs : List Int} (hd : decode (m_by y) pc = .ok (.aaload, 1)) (hH : H[a]? = some (10, fs)) (hi : m_in i = true) (h0 : 0 ≤ i) (hv : fs[i.toNat]? = some v) (hw : m_ld 2 v = some w) (h : m_P l D K B d mc ms y p e s m args below meth c Q (pc + 1) ls (w :: st) H k n) : m_P l D K B d mc ms y p e s m args below meth c Q pc ls (mI i :: mR a :: st) H k n := by
  intro hk Hr locs lsr hP hS hl
  have hws : (m_ws B K H)[a]? = some (B + a, .inl (K.2.2, fs.length, .inr (.inr (.inr (.inr (fun j => if fs.getD j (-1) < 0 then none else some (B + (fs.getD j (-1)).toNat))))))) := by rw [m_ws_get hH]; rfl
  refine va_aldq (C := "QuiltPatches$Layout") hc.1 hc.2.1 hc.2.2.2.2.2.2.2.2.1.1 hP a 2 hws rfl (m_vin hi h0 (List.getElem?_eq_some_iff.mp hv).1) hd ?_
  rw [m_nat hi, m_getD hv]
  have := m_ld_enc (B := B) hw
  have e : va_rf (if v < 0 then none else some (B + v.toNat)) = m_enc B w := by
    rw [this]
    unfold m_encT
    by_cases hv0 : v < 0
    · simp [m_ld, hv0] at hw
    · simp [hv0, va_rf]
  rw [e]
  exact h hk Hr locs lsr hP hS hl
theorem s_iastore (hc : m_ctx D K B kh y p s m args meth c) {a : Nat} {i v : Int} {fs : List Int} (hd : decode (m_by y) pc = .ok (.iastore, 1)) (hH : H[a]? = some (8, fs)) (hi : m_in i = true) (h0 : 0 ≤ i) (hlt : i.toNat < fs.length) (h : m_P l D K B d mc ms y p e s m args below meth c Q (pc + 1) ls st (m_set H a i.toNat v) k n) : m_P l D K B d mc ms y p e s m args below meth c Q pc ls (mI v :: mI i :: mR a :: st) H k n := by
  intro hk Hr locs lsr hP hS hl
  have hws : (m_ws B K H)[a]? = some (B + a, .inl (K.1, fs.length, .inl (fun j => Int32.ofInt (fs.getD j 0)))) := by rw [m_ws_get hH]; rfl
  have hws' : m_ws B K (m_set H a i.toNat v) = (m_ws B K H).set a (B + a, .inl (K.1, fs.length, .inl (upd (fun j => Int32.ofInt (fs.getD j 0)) i.toNat (Int32.ofInt v)))) := by
    unfold m_set
    rw [m_ws_mod _ hH, ← m_updI hlt]
    simp [m_encC]
  refine va_iast hc.1 hc.2.1 hc.2.2.2.2.2.2.2.2.1.1 hP (m_ws_D B K H) hS a 0 hws rfl (m_vin hi h0 hlt) hd (fun H1 locs1 g1 g2 g3 => ?_)
  rw [m_nat hi, ← hws'] at g1
  exact h (by rw [m_set_len]; exact hk) H1 locs1 lsr g1 g3 hl
theorem s_bastore (hc : m_ctx D K B kh y p s m args meth c) {a : Nat} {i v : Int} {fs : List Int} (hd : decode (m_by y) pc = .ok (.bastore, 1)) (hH : H[a]? = some (9, fs)) (hi : m_in i = true) (h0 : 0 ≤ i) (hlt : i.toNat < fs.length) (hv : v = 0 ∨ v = 1) (h : m_P l D K B d mc ms y p e s m args below meth c Q (pc + 1) ls st (m_set H a i.toNat v) k n) : m_P l D K B d mc ms y p e s m args below meth c Q pc ls (mI v :: mI i :: mR a :: st) H k n := by
  intro hk Hr locs lsr hP hS hl
  have hws : (m_ws B K H)[a]? = some (B + a, .inl (K.2.1, fs.length, .inl (fun j => Int32.ofInt (fs.getD j 0)))) := by rw [m_ws_get hH]; rfl
  have hws' : m_ws B K (m_set H a i.toNat v) = (m_ws B K H).set a (B + a, .inl (K.2.1, fs.length, .inl (upd (fun j => Int32.ofInt (fs.getD j 0)) i.toNat (Int32.ofInt v)))) := by
    unfold m_set
    rw [m_ws_mod _ hH, ← m_updI hlt]
    simp [m_encC]
  have hnar : vp_nar .boolean (Int32.ofInt v) = Int32.ofInt v := by rcases hv with rfl | rfl <;> rfl
  refine va_zast hc.1 hc.2.1 hc.2.2.2.2.2.2.2.2.1.1 hP (m_ws_D B K H) hS a 1 hws rfl (m_vin hi h0 hlt) hd (fun H1 locs1 g1 g2 g3 => ?_)
  rw [m_nat hi, hnar, ← hws'] at g1
  exact h (by rw [m_set_len]; exact hk) H1 locs1 lsr g1 g3 hl
theorem s_aastore (hc : m_ctx D K B kh y p s m args meth c) {a b : Nat} {i : Int} {fs gs : List Int} (hd : decode (m_by y) pc = .ok (.aastore, 1)) (hH : H[a]? = some (10, fs)) (hb : H[b]? = some (2, gs)) (hi : m_in i = true) (h0 : 0 ≤ i) (hlt : i.toNat < fs.length) (h : m_P l D K B d mc ms y p e s m args below meth c Q (pc + 1) ls st (m_set H a i.toNat (b : Int)) k n) : m_P l D K B d mc ms y p e s m args below meth c Q pc ls (mR b :: mI i :: mR a :: st) H k n := by
  intro hk Hr locs lsr hP hS hl
  have hws : (m_ws B K H)[a]? = some (B + a, .inl (K.2.2, fs.length, .inr (.inr (.inr (.inr (fun j => if fs.getD j (-1) < 0 then none else some (B + (fs.getD j (-1)).toNat))))))) := by rw [m_ws_get hH]; rfl
  have hwb : (m_ws B K H)[b]? = some (B + b, .inr (2, m_encO B 2 gs)) := by rw [m_ws_get hb]; rfl
  have hws' : m_ws B K (m_set H a i.toNat (b : Int)) = (m_ws B K H).set a (B + a, .inl (K.2.2, fs.length, .inr (.inr (.inr (.inr (va_up (fun j => if fs.getD j (-1) < 0 then none else some (B + (fs.getD j (-1)).toNat)) i.toNat (some (B + b)))))))) := by
    unfold m_set
    rw [m_ws_mod _ hH]
    have e : (fun j => if (fs.set i.toNat (b : Int)).getD j (-1) < 0 then none else some (B + ((fs.set i.toNat (b : Int)).getD j (-1)).toNat)) = va_up (fun j => if fs.getD j (-1) < 0 then none else some (B + (fs.getD j (-1)).toNat)) i.toNat (some (B + b)) := by
      funext j
      unfold va_up
      by_cases e : j = i.toNat
      · rw [if_pos e, e, m_getD (v := (b : Int)) (by simp [hlt]), if_neg (by omega)]
        simp
      · rw [if_neg e]
        simp only [List.getD_eq_getElem?_getD]
        rw [List.getElem?_set_ne (Ne.symm e)]
    rw [← e]
    simp [m_encC]
  refine va_astq (r := m_C 2) hc.1 hc.2.1 hc.2.2.2.2.2.2.2.2.1.1 hP (m_ws_D B K H) hS a 2 b 2 hws rfl hwb (m_C_get (by decide)) (m_vin hi h0 hlt) hd (fun H1 locs1 g1 g2 g3 => ?_)
  rw [m_nat hi, ← hws'] at g1
  exact h (by rw [m_set_len]; exact hk) H1 locs1 lsr g1 g3 hl
theorem s_arraylength (hc : m_ctx D K B kh y p s m args meth c) {a kd : Nat} {fs : List Int} (hd : decode (m_by y) pc = .ok (.arraylength, 1)) (hH : H[a]? = some (kd, fs)) (hkd : kd = 8 ∨ kd = 9 ∨ kd = 10) (h : m_P l D K B d mc ms y p e s m args below meth c Q (pc + 1) ls (mI (fs.length : Int) :: st) H k n) : m_P l D K B d mc ms y p e s m args below meth c Q pc ls (mR a :: st) H k n := by
  intro hk Hr locs lsr hP hS hl
  have j := h hk Hr locs lsr hP hS hl
  rcases hkd with rfl | rfl | rfl
  · have hws : (m_ws B K H)[a]? = some (B + a, .inl (K.1, fs.length, .inl (fun j => Int32.ofInt (fs.getD j 0)))) := by rw [m_ws_get hH]; rfl
    exact va_alen hc.1 hc.2.1 hc.2.2.2.2.2.2.2.2.1.1 hP a 0 hws (ty := .int) rfl (v := Int32.ofInt (fs.length : Int)) rfl hd j
  · have hws : (m_ws B K H)[a]? = some (B + a, .inl (K.2.1, fs.length, .inl (fun j => Int32.ofInt (fs.getD j 0)))) := by rw [m_ws_get hH]; rfl
    exact va_alen hc.1 hc.2.1 hc.2.2.2.2.2.2.2.2.1.1 hP a 1 hws (ty := .boolean) rfl (v := Int32.ofInt (fs.length : Int)) rfl hd j
  · have hws : (m_ws B K H)[a]? = some (B + a, .inl (K.2.2, fs.length, .inr (.inr (.inr (.inr (fun j => if fs.getD j (-1) < 0 then none else some (B + (fs.getD j (-1)).toNat))))))) := by rw [m_ws_get hH]; rfl
    exact va_alen hc.1 hc.2.1 hc.2.2.2.2.2.2.2.2.1.1 hP a 2 hws (ty := .object "QuiltPatches$Layout") rfl (v := Int32.ofInt (fs.length : Int)) rfl hd j
theorem m_fresh {q n' : Nat} {E : va_E} {T : State} {H1 : Heap} {locs : List Loc} (hk : s.heap.size + k = B + H.length) (gP : va_P D m_classes (m_ws B K H ++ [(q, E)]) H1) (gD : va_D (fun q => B ≤ q) (m_ws B K H ++ [(q, E)])) (hT : T.heap = H1) (X : Stand p l e (m_rm d mc ms) s m args below meth c T locs (k + 1) n') : q = B + H.length := by
  have hlen : (m_ws B K H).length = H.length := by simp [m_ws]
  have hg : (m_ws B K H ++ [(q, E)])[H.length]? = some (q, E) := by
    rw [List.getElem?_append_right (by omega), hlen, Nat.sub_self]
    rfl
  have h1 : B ≤ q := gD.2 _ _ hg
  have h2 : q < H1.size := (gP _ _ hg).lt
  have h3 := X.heapSize
  rw [hT] at h3
  by_cases h4 : q < B + H.length
  · have h5 : q - B < H.length := by omega
    have h6 : (m_ws B K H ++ [(q, E)])[q - B]? = some (B + (q - B), m_encC B K H[q - B]) := by
      rw [List.getElem?_append_left (by omega)]
      exact m_ws_get (List.getElem?_eq_getElem h5)
    have h7 := gD.1 _ _ _ _ h6 hg (by simp only; omega)
    omega
  · omega
theorem s_new (hc : m_ctx D K B kh y p s m args meth c) {x ci : Nat} (hd : decode (m_by y) pc = .ok (.new x, 3)) (hx : m_cl (m_own y) x = some ci) (hkc : k + 1 ≤ mc) (hns : n + (m_C ci).2.2 ≤ ms) (h : m_P l D K B d mc ms y p e s m args below meth c Q (pc + 3) ls (mR H.length :: st) (H ++ [(ci, m_def ci)]) (k + 1) (n + (m_C ci).2.2)) : m_P l D K B d mc ms y p e s m args below meth c Q pc ls st H k n := by
  intro hk Hr locs lsr hP hS hl
  obtain ⟨h8, hlk⟩ := m_cl_ok hx
  obtain ⟨hi1, hi2⟩ := m_ins_ok h8
  have hts := hc.2.2.2.2.2.1
  have hfs : ∀ j, j < (m_C ci).2.2 → defaultValue (m_ty ci j) = vp_V (m_encO B ci (m_def ci)) j := by
    intro j hj
    have ht := (m_tag_at h8 hj).1
    have hv : (m_def ci)[j]? = some (if m_tg (m_ty ci j) = 2 then -1 else 0) := by
      unfold m_def
      rw [List.getElem?_map, ht]
      rfl
    unfold vp_V
    rw [List.getD_eq_getElem?_getD, m_encO_get hv ht]
    have hok : m_tg (m_ty ci j) ≠ 3 := by
      have h1 : ((List.range 8).all (fun ci => (List.range (m_C ci).2.2).all (fun j => m_tg (m_ty ci j) != 3))) = true := by decide +kernel
      have h2 := List.all_eq_true.mp (List.all_eq_true.mp h1 ci (List.mem_range.mpr h8)) j (List.mem_range.mpr hj)
      simpa using h2
    generalize m_ty ci j = ty at hok ⊢
    cases ty <;> first | rfl | exact absurd rfl hok
  refine va_new (ci := ci) (fs := m_encO B ci (m_def ci)) (C := (m_C ci).1) (T := (m_C ci).2.1) (N := (m_C ci).2.2) hc.1 hc.2.1 hts (m_in_ok h8) (m_ty ci) (m_ty_ok h8) hc.2.2.2.2.1 (hts _ hlk) (hts _ hi1) (hts _ hi2) hc.2.2.2.2.2.2.2.2.1.1 hP (m_ws_D B K H) hS (fun q hq => Nat.le_trans hc.2.2.2.2.2.2.2.2.2 hq) (m_C_get h8) hfs hkc hns hd (fun q H1 g1 g2 g3 => ?_)
  intro T hT X
  have hq := m_fresh hk g1 g2 hT X
  subst hq
  have g1' : va_P D m_classes (m_ws B K (H ++ [(ci, m_def ci)])) H1 := by
    rw [m_ws_app]
    simpa [m_encC, h8] using g1
  exact h (by rw [List.length_append]; simp; omega) H1 locs lsr g1' g3 hl T hT X
theorem m_cA {cA : ClassId} {ty : FieldType} {t0 : Nat} (hK : va_K D m_classes (m_tys K) s) (hK1 : va_K D m_classes (m_tys K ++ [(cA, ty)]) s) {cB : ClassId} (ht : (m_tys K)[t0]? = some (cB, ty)) : cA = cB := by
  have h1 := (hK.2 t0 _ ht).2
  have h2 := (hK1.2 3 (cA, ty) (by simp [m_tys])).2
  unfold va_RA at h1 h2
  cases ty <;> simp only at h1 h2
  all_goals first | exact Option.some.inj (h2.symm.trans h1) | skip
  obtain ⟨_, _, _, _, _, h3⟩ := h1
  obtain ⟨_, _, _, _, _, h4⟩ := h2
  exact Option.some.inj (h4.symm.trans h3)
theorem s_newI (hc : m_ctx D K B kh y p s m args meth c) {x : Int} (hd : decode (m_by y) pc = .ok (.newarray .int, 2)) (hx : 0 ≤ x ∧ x ≤ 100000) (hkc : k + 1 ≤ mc) (hns : n + x.toNat ≤ ms) (h : m_P l D K B d mc ms y p e s m args below meth c Q (pc + 2) ls (mR H.length :: st) (H ++ [(8, List.replicate x.toNat 0)]) (k + 1) (n + x.toNat)) : m_P l D K B d mc ms y p e s m args below meth c Q pc ls (mI x :: st) H k n := by
  intro hk Hr locs lsr hP hS hl
  have hin : m_in x = true := by rw [m_in_iff]; omega
  have hts := hc.2.2.2.2.2.1
  have hK := hc.2.2.2.2.2.2.2.2.1.1
  refine va_newa (atype := .int) hc.1 hc.2.1 (hts (.arrayClass .int) (m_at_in (i := 112) (by decide +kernel))) (ty := .int) rfl hK hP (m_ws_D B K H) hS (fun q hq => Nat.le_trans hc.2.2.2.2.2.2.2.2.2 hq) (N' := x.toNat) (a0 := (x.toNat, .inl (fun j => Int32.ofInt ((List.replicate x.toNat (0 : Int)).getD j 0)))) (fun cA => ?_) (m_nneg hin hx.1) (m_nat hin) (by show x.toNat * 4 ≤ _; omega) hkc hns hd (fun q cA H1 gK g1 g2 g3 => ?_)
  · rw [vp_cell_i]
    congr 1
    funext j
    rw [m_repl]
    rfl
  · intro T hT X
    have hq := m_fresh hk g1 g2 hT X
    have hcA := m_cA (t0 := 0) hK gK rfl
    subst hq; subst hcA
    have g1' : va_P D m_classes (m_ws B K (H ++ [(8, List.replicate x.toNat 0)])) H1 := by
      rw [m_ws_app]
      simpa [m_encC] using g1
    exact h (by rw [List.length_append]; simp; omega) H1 locs lsr g1' g3 hl T hT X
theorem s_newZ (hc : m_ctx D K B kh y p s m args meth c) {x : Int} (hd : decode (m_by y) pc = .ok (.newarray .boolean, 2)) (hx : 0 ≤ x ∧ x ≤ 100000) (hkc : k + 1 ≤ mc) (hns : n + x.toNat ≤ ms) (h : m_P l D K B d mc ms y p e s m args below meth c Q (pc + 2) ls (mR H.length :: st) (H ++ [(9, List.replicate x.toNat 0)]) (k + 1) (n + x.toNat)) : m_P l D K B d mc ms y p e s m args below meth c Q pc ls (mI x :: st) H k n := by
  intro hk Hr locs lsr hP hS hl
  have hin : m_in x = true := by rw [m_in_iff]; omega
  have hts := hc.2.2.2.2.2.1
  have hK := hc.2.2.2.2.2.2.2.2.1.1
  refine va_newa (atype := .boolean) hc.1 hc.2.1 (hts (.arrayClass .boolean) (m_at_in (i := 224) (by decide +kernel))) (ty := .boolean) rfl hK hP (m_ws_D B K H) hS (fun q hq => Nat.le_trans hc.2.2.2.2.2.2.2.2.2 hq) (N' := x.toNat) (a0 := (x.toNat, .inl (fun j => Int32.ofInt ((List.replicate x.toNat (0 : Int)).getD j 0)))) (fun cA => ?_) (m_nneg hin hx.1) (m_nat hin) (by show x.toNat * 1 ≤ _; omega) hkc hns hd (fun q cA H1 gK g1 g2 g3 => ?_)
  · rw [vp_cell_i]
    congr 1
    funext j
    rw [m_repl]
    rfl
  · intro T hT X
    have hq := m_fresh hk g1 g2 hT X
    have hcA := m_cA (t0 := 1) hK gK rfl
    subst hq; subst hcA
    have g1' : va_P D m_classes (m_ws B K (H ++ [(9, List.replicate x.toNat 0)])) H1 := by
      rw [m_ws_app]
      simpa [m_encC] using g1
    exact h (by rw [List.length_append]; simp; omega) H1 locs lsr g1' g3 hl T hT X
theorem s_newL (hc : m_ctx D K B kh y p s m args meth c) {i : Nat} {x : Int} (hd : decode (m_by y) pc = .ok (.anewarray i, 3)) (hi : m_cl (m_own y) i = some 2) (hx : 0 ≤ x ∧ x ≤ 100000) (hkc : k + 1 ≤ mc) (hns : n + x.toNat ≤ ms) (h : m_P l D K B d mc ms y p e s m args below meth c Q (pc + 3) ls (mR H.length :: st) (H ++ [(10, List.replicate x.toNat (-1))]) (k + 1) (n + x.toNat)) : m_P l D K B d mc ms y p e s m args below meth c Q pc ls (mI x :: st) H k n := by
  intro hk Hr locs lsr hP hS hl
  have hin : m_in x = true := by rw [m_in_iff]; omega
  have hts := hc.2.2.2.2.2.1
  have hK := hc.2.2.2.2.2.2.2.2.1.1
  obtain ⟨-, hlk⟩ := m_cl_ok hi
  refine va_newq (C := "QuiltPatches$Layout") hc.1 hc.2.1 hc.2.2.2.2.1 (hts _ hlk) hc.2.2.2.2.2.2.2.2.1.2.1 hK hP (m_ws_D B K H) hS (fun q hq => Nat.le_trans hc.2.2.2.2.2.2.2.2.2 hq) (N' := x.toNat) (m_nneg hin hx.1) (m_nat hin) (by omega) hkc hns hd (fun q cA H1 gK g1 g2 g3 => ?_)
  intro T hT X
  have hq := m_fresh hk g1 g2 hT X
  have hcA := m_cA (t0 := 2) hK gK rfl
  subst hq; subst hcA
  have e : (fun _ => none : Nat → Option Nat) = (fun j => if (List.replicate x.toNat (-1 : Int)).getD j (-1) < 0 then none else some (B + ((List.replicate x.toNat (-1 : Int)).getD j (-1)).toNat)) := by
    funext j
    have : (List.replicate x.toNat (-1 : Int)).getD j (-1) = -1 := by
      rw [List.getD_eq_getElem?_getD, List.getElem?_replicate]
      split <;> rfl
    rw [this]
    rfl
  have g1' : va_P D m_classes (m_ws B K (H ++ [(10, List.replicate x.toNat (-1))])) H1 := by
    rw [m_ws_app]
    have e2 : m_encC B K (10, List.replicate x.toNat (-1)) = .inl (K.2.2, x.toNat, .inr (.inr (.inr (.inr (fun _ => none))))) := by
      rw [e]
      simp [m_encC]
    rw [e2]
    exact g1
  exact h (by rw [List.length_append]; simp; omega) H1 locs lsr g1' g3 hl T hT X
end MA
