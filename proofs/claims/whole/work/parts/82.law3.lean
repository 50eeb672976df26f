/-! the law's start: the two objects are made -/
theorem m_newfs {B ci : Nat} (h8 : ci < 8) : ∀ j, j < (m_C ci).2.2 → defaultValue (m_ty ci j) = vp_V (m_encO B ci (m_def ci)) j := by
  intro j hj
  have ht := (m_tag_at h8 hj).1
  have hv : (m_def ci)[j]? = some (if m_tg (m_ty ci j) = 2 then -1 else 0) := by
    unfold m_def
    rw [List.getElem?_map, ht]
    rfl
  unfold vp_V
  rw [List.getD_eq_getElem?_getD, m_encO_get hv ht]
  have hok : m_tg (m_ty ci j) ≠ 3 := by
    have h1 : ((List.range 8).all (fun ci => (List.range (m_C ci).2.2).all (fun j => m_tg (m_ty ci j) != 3))) = true := by decide +kernel
    have h2 := List.all_eq_true.mp (List.all_eq_true.mp h1 ci (List.mem_range.mpr h8)) j (List.mem_range.mpr hj)
    simpa using h2
  generalize m_ty ci j = ty at hok ⊢
  cases ty <;> first | rfl | exact absurd rfl hok
def L_V (l : Launch) (D : va_G) (K : mK) (p : Program) (e : Env) (s : State) (m : MethodId) (below : List Frame) (meth : Method) (c : Code) (b : Nat) (lv : List (Nat × Value)) (pc : Nat) (st : List Value) (H : mH) : Prop := ∀ (Hr : Heap) (locs : List Loc) (lsr : Array Slot), va_P D m_classes (m_ws s.heap.size K H) Hr → va_S (fun q => s.heap.size ≤ q) s.heap Hr locs → lv_has lsr 4 lv → W p l e room_1 s m #[Value.ref b] below meth c Hr locs H.length (m_sz H) (lw_Z below #[Value.ref b] s) (F0 m pc lsr st)
section LV0
variable {l : Launch} {D : va_G} {K : mK} {kh : Nat} {p : Program} {e : Env} {s : State} {m : MethodId} {below : List Frame} {meth : Method} {c : Code} {b L : Nat} {xs : Nat → Int32} {pc : Nat} {st : List Value} {H : mH} {lv : List (Nat × Value)}
theorem L_fresh {R : Room} {args : Array Value} {q n' : Nat} {E : va_E} {T : State} {H1 : Heap} {locs : List Loc} (gP : va_P D m_classes (m_ws s.heap.size K H ++ [(q, E)]) H1) (gD : va_D (fun q => s.heap.size ≤ q) (m_ws s.heap.size K H ++ [(q, E)])) (hT : T.heap = H1) (X : Stand p l e R s m args below meth c T locs (H.length + 1) n') : q = s.heap.size + H.length := by
  have hlen : (m_ws s.heap.size K H).length = H.length := by simp [m_ws]
  have hg : (m_ws s.heap.size K H ++ [(q, E)])[H.length]? = some (q, E) := by
    rw [List.getElem?_append_right (by omega), hlen, Nat.sub_self]
    rfl
  have h1 : s.heap.size ≤ q := gD.2 _ _ hg
  have h2 : q < H1.size := (gP _ _ hg).lt
  have h3 := X.heapSize
  rw [hT] at h3
  by_cases h4 : q < s.heap.size + H.length
  · have h5 : q - s.heap.size < H.length := by omega
    have h6 : (m_ws s.heap.size K H ++ [(q, E)])[q - s.heap.size]? = some (s.heap.size + (q - s.heap.size), m_encC s.heap.size K H[q - s.heap.size]) := by
      rw [List.getElem?_append_left (by omega)]
      exact m_ws_get (List.getElem?_eq_getElem h5)
    have h7 := gD.1 _ _ _ _ h6 hg (by simp only; omega)
    omega
  · omega
theorem LV_new (C0 : lw_At p s m meth c b L xs) (hE : m_env D K s.heap.size kh s s.heap) {x ci : Nat} (hd : l_get pc = some (.new x, 3)) (h8 : ci < 8) (hw : Cond.classLink "QuiltPatchesLaw" x (m_C ci).1 ∈ lw_tbl) (hl1 : H.length ≤ 1000) (hs1 : m_sz H ≤ 100000) (hN : (m_C ci).2.2 ≤ 1000) (h : L_V l D K p e s m below meth c b lv (pc + 3) (.ref (s.heap.size + H.length) :: st) (H ++ [(ci, m_def ci)])) : L_V l D K p e s m below meth c b lv pc st H := by
  intro Hr locs lsr hP hS hl
  obtain ⟨hx, hb, hr, hml, hown, hts, hX, hbl, hlocks, hgv⟩ := C0
  obtain ⟨hi1, hi2⟩ := m_ins_ok h8
  refine va_new (ci := ci) (fs := m_encO s.heap.size ci (m_def ci)) (C := (m_C ci).1) (T := (m_C ci).2.1) (N := (m_C ci).2.2) hx hb hts (fun w hw => m_tbl_sub (m_in_ok h8 w hw)) (m_ty ci) (m_ty_ok h8) hown (hts _ hw) (hts _ (m_tbl_sub hi1)) (hts _ (m_tbl_sub hi2)) hE.1 hP (m_ws_D s.heap.size K H) hS (fun q hq => hq) (m_C_get h8) (m_newfs h8) (by show H.length + 1 ≤ 600000; omega) (by show m_sz H + _ ≤ 7302250; omega) (l_dec hd) (fun q H1 g1 g2 g3 => ?_)
  intro T hT X
  have hq := L_fresh g1 g2 hT X
  subst hq
  have g1' : va_P D m_classes (m_ws s.heap.size K (H ++ [(ci, m_def ci)])) H1 := by
    rw [m_ws_app]
    simpa [m_encC, h8] using g1
  have e1 : (H ++ [(ci, m_def ci)]).length = H.length + 1 := by simp
  have e2 : m_sz (H ++ [(ci, m_def ci)]) = m_sz H + (m_C ci).2.2 := by rw [m_sz_app]; simp [m_def, m_tag_len h8]
  exact h H1 locs lsr g1' g3 hl T hT (by rw [e1, e2]; exact X)
theorem LV_dup (C0 : lw_At p s m meth c b L xs) {v : Value} (hv : v.category = 1) (hd : l_get pc = some (.dup, 1)) (h : L_V l D K p e s m below meth c b lv (pc + 1) (v :: v :: st) H) : L_V l D K p e s m below meth c b lv pc (v :: st) H :=
  fun Hr locs lsr hP hS hl => lv_dup C0.1 C0.2.1 (l_dec hd) hv (h Hr locs lsr hP hS hl)
theorem LV_init (C0 : lw_At p s m meth c b L xs) (hE : m_env D K s.heap.size kh s s.heap) {x z a : Nat} {H1 : mH} (hd : l_get pc = some (.invokespecial x, 3)) (hz163 : z < 163) (w1 : Cond.methodLink "QuiltPatchesLaw" x (m_nm z) ∈ m_tbl) (w2 : Cond.instanceMethod (m_nm z) ∈ m_tbl) (w4 : Cond.initialized (m_nm z).cls ∈ m_tbl) (hini : (m_nm z).name = "<init>") (hrt : m_rt z = none) (hp0 : (parseMethodDescriptor (m_nm z).desc).map (fun d => d.parameters.length) = some 0) (hM : m_CM 30 z [mR a] H none H1) (h8 : (st.map fun v => v.category).sum ≤ 8) (hle : H.length ≤ H1.length) (hsz : m_sz H ≤ m_sz H1) (hl1 : H1.length ≤ 1000) (hs1 : m_sz H1 ≤ 100000) (h : L_V l D K p e s m below meth c b lv (pc + 3) st H1) : L_V l D K p e s m below meth c b lv pc (.ref (s.heap.size + a) :: st) H := by
  intro Hr locs lsr hP hS hl T hT X
  have hz := L_size hP hS hT X
  obtain ⟨hx, hb, hr, hml, hown, hts, hX, hbl, hlocks, hgv⟩ := C0
  obtain ⟨-, hmx, -, hcl, -, hn1, hn2⟩ := m_mok_spec hz163
  have hG : GoodIn lw_tbl (m_w z) := fun w hw => ⟨m_tbl_sub (m_good_w hz163 w hw).1, (m_good_w hz163 w hw).2⟩
  have hM1 := hM l D K s.heap.size kh
  have hR : (m_rm 30 (H1.length - H.length) (m_sz H1 - m_sz H)).frames + 1 ≤ room_1.frames ∧ 8 + (m_mx z + 11) + (m_rm 30 (H1.length - H.length) (m_sz H1 - m_sz H)).locals ≤ room_1.locals := by
    show 30 + 1 ≤ 2048 ∧ 8 + (m_mx z + 11) + 64 * 30 ≤ 84000
    omega
  have hrun := va_runI (g := F0 m pc lsr (.ref (s.heap.size + a) :: st)) (rest := st) (As := []) (b := s.heap.size + a) (nL := 4) (n := 0) (bytes := m_by z) (maxL := m_mx z) (locs := locs) (cells := H.length) (slots := m_sz H) (H := Hr) (p := p) (l := l) (e := e) (R := room_1) (below := below) (meth := meth) ⟨hx, hb, hml, hown, hts⟩ hM1 (cwI (ws' := m_tbl) 0 hts hG (by unfold m_w; rw [hrt]) rfl rfl (hts _ (m_tbl_sub w4)) (hts _ (m_tbl_sub w1)) (hts _ (m_tbl_sub w2)) hini ⟨hn1, hn2, hp0⟩ hR) ⟨m_blind, fun U hU hW => (⟨rfl, by rw [hU]; exact hz, by rw [hU]; exact hP, by
      rw [hU]
      exact m_env_go hE hW hS.2.1 (Nat.le_refl _)⟩ : m_Pc D K s.heap.size kh [mR a] H _ U)⟩ rfl rfl hl.1 rfl (lv_room h8) (l_dec hd) (by
      show H.length + (H1.length - H.length) ≤ 600000 ∧ m_sz H + (m_sz H1 - m_sz H) ≤ 7302250
      omega)
  obtain ⟨v', st₀, t, T', Lc, h0, X', hLc, e1, e2, ⟨hv, hz1, hP1, hF1, hF2⟩, go⟩ := hrun T hT X
  cases hv
  rw [h0] at hF1 hF2
  rw [← e1] at hz1 hP1 hF1 hF2
  have hS' : va_S (fun q => s.heap.size ≤ q) s.heap T'.heap (locs ++ Lc) := by
    refine ⟨Nat.le_trans hS.1 hF1, fun q g1 g2 => ?_, fun q hq => ?_⟩
    · rw [hF2 q (Nat.lt_of_lt_of_le g1 hS.1) g2]
      exact hS.2.1 q g1 g2
    · rcases List.mem_append.mp hq with g | g
      · exact hS.2.2 q g
      · exact hLc q g
  have X2 : Stand p l e room_1 s m #[Value.ref b] below meth c T' (locs ++ Lc) H1.length (m_sz H1) := by
    rw [show H1.length = H.length + (H1.length - H.length) by omega, show m_sz H1 = m_sz H + (m_sz H1 - m_sz H) by omega]
    exact X'
  obtain ⟨t2, a1, b1⟩ := h T'.heap (locs ++ Lc) lsr hP1 hS' hl T' rfl X2
  exact ⟨t2, go t2 a1, b1⟩
theorem LV_ast (C0 : lw_At p s m meth c b L xs) {k : Fin 4} {a : Nat} {lv' : List (Nat × Value)} (hd : l_get pc = some (.astore_n k, 1)) (hl' : ((k : Nat), Value.ref a) :: lv.filter (fun q => !(q.1 == (k : Nat)) && !(q.1 + 1 == (k : Nat) && q.2.category == 2)) = lv') (h : L_V l D K p e s m below meth c b lv' (pc + 1) st H) : L_V l D K p e s m below meth c b lv pc (.ref a :: st) H :=
  fun Hr locs lsr hP hS hl => lv_astore_n C0.1 C0.2.1 (l_dec hd) rfl hl k.isLt hl' (fun ls' h' => h Hr locs ls' hP hS h')
end LV0
theorem m_eqi {args : Array Value} {s : State} {t : Term} {z : Int32} (h : (Jvm.Cond.eq t (.int z)).before args s = true) : t.eval args s none [] s = some (.int z) := by
  cases hv : t.eval args s none [] s with
  | none => simp [Cond.before, Cond.holds, Cond.value, hv] at h
  | some w =>
    have hz : (Term.int z).eval args s none [] s = some (.int z) := rfl
    simp only [Cond.before, Cond.holds, Cond.value, hv, hz] at h
    cases w <;> simp_all
theorem m_lenlt {args : Array Value} {s : State} {t : Term} {a : Addr} {cell : Cell} {v : Value} (ht : t.eval args s none [] s = some (.ref a)) (harr : s.arrayAt? a = some cell) (el : (Term.length t).eval args s none [] s = some v) : cell.slots.size < 2147483648 := by
  simp only [Term.eval, ht, harr, Option.bind_eq_bind, Option.bind_some] at el
  by_cases hlt : cell.slots.size < 2147483648
  · exact hlt
  · simp [hlt] at el
/-- what holds at the start -/
theorem L_env {p : Program} {s : State} {m : MethodId} {meth : Method} {c : Code} {b L : Nat} {xs : Nat → Int32} (C0 : lw_At p s m meth c b L xs) : ∃ (D : va_G) (K : mK) (kh : Nat), m_env D K s.heap.size kh s s.heap := by
  obtain ⟨hx, hb, hr, hml, hown, hts, hX, hbl, hlocks, hgv⟩ := C0
  have hkn : ∀ ci, ci < 8 → ∃ (cC : ClassId) (iS : Nat → Nat), u_Kn s (m_C ci).1 (m_C ci).2.1 (m_C ci).2.2 cC iS := fun ci h8 => u_known hts (fun w hw => m_tbl_sub (m_in_ok h8 w hw)) (hts _ (m_tbl_sub (m_ins_ok h8).1))
  obtain ⟨D, hD⟩ : ∃ D : va_G, ∀ ci, ci < 8 → u_Kn s (m_C ci).1 (m_C ci).2.1 (m_C ci).2.2 (D.1 ci) (D.2 ci) := by
    refine ⟨(fun ci => if h : ci < 8 then Classical.choose (hkn ci h) else Classical.choose (hkn 0 (by decide)), fun ci => if h : ci < 8 then Classical.choose (Classical.choose_spec (hkn ci h)) else fun _ => 0), fun ci h8 => ?_⟩
    have h1 := Classical.choose_spec (Classical.choose_spec (hkn ci h8))
    simp only [dif_pos h8]
    exact h1
  have hwI : Cond.arrayClass .int ∈ lw_tbl := m_tbl_sub (m_at_in (i := 112) (by decide +kernel))
  have hwZ : Cond.arrayClass .boolean ∈ lw_tbl := m_tbl_sub (m_at_in (i := 224) (by decide +kernel))
  have hwL : Cond.arrayOver (.object "QuiltPatches$Layout") ∈ lw_tbl := List.mem_of_getElem? (i := 212) (by decide +kernel)
  obtain ⟨cI, kI, compI, i1, i2, i3⟩ := Cond.arrayClass_spec (hts _ hwI)
  obtain ⟨cZ, kZ, compZ, z1, z2, z3⟩ := Cond.arrayClass_spec (hts _ hwZ)
  obtain ⟨compL, cL, kL, l1, -, l2, l3, l4⟩ := Cond.arrayOver_spec (hts _ hwL)
  have hs := flat_of_before _ hgv
  have ht : ∀ i : Int32, ∀ v : Int32, (Jvm.Cond.eq (Term.elem (Term.static "QuiltPatches$Reader" "KIND_HIGHEST" "[I") (.int i)) (.int v)).before #[Value.ref b] s = true → (Term.elem (Term.static "QuiltPatches$Reader" "KIND_HIGHEST" "[I") (.int i)).eval #[Value.ref b] s none [] s = some (.int v) := fun i v h => m_eqi h
  have e0 := ht 0 9 (hs _ (by decide +kernel))
  have e1 := ht 1 9 (hs _ (by decide +kernel))
  have e2 := ht 2 9 (hs _ (by decide +kernel))
  have e3 := ht 3 9 (hs _ (by decide +kernel))
  have e4 := ht 4 5 (hs _ (by decide +kernel))
  have e5 := ht 5 9 (hs _ (by decide +kernel))
  have el := m_eqi (hs (Jvm.Cond.eq (Term.length (Term.static "QuiltPatches$Reader" "KIND_HIGHEST" "[I")) (.int 6)) (by decide +kernel))
  have ea : (Jvm.Cond.arrayOf (Term.static "QuiltPatches$Reader" "KIND_HIGHEST" "[I") .int).before #[Value.ref b] s = true := hs _ (by decide +kernel)
  obtain ⟨kh, cell, hst, harr, hlen⟩ := Term.length_spec el
  obtain ⟨hcell, -, -, -⟩ := State.arrayAt?_spec harr
  obtain ⟨hof, hkn2⟩ := Cond.arrayOf_spec ea hst hcell
  have hget : ∀ (i v : Int32), (Term.elem (Term.static "QuiltPatches$Reader" "KIND_HIGHEST" "[I") (.int i)).eval #[Value.ref b] s none [] s = some (.int v) → cell.slots[i.toNatClampNeg]? = some (.int v) := by
    intro i v h
    obtain ⟨a, j, cell', h1, h2, h3, -, h5⟩ := Term.elem_spec h
    cases h1.symm.trans hst
    cases h2
    cases h3.symm.trans harr
    exact h5
  have hsz : cell.slots.size = 6 := by
    have hlt : cell.slots.size < 2147483648 := m_lenlt hst harr el
    have h6 : nI 6 = nI cell.slots.size := Value.int.inj hlen
    exact ((nI_eq (by decide) hlt).mp h6).symm
  have hXk : va_X kh 6 m_kh s s.heap := by
    refine ⟨cell, hcell, hof, hkn2, hsz, fun j hj => ?_⟩
    match j, hj with
    | 0, _ => exact hget 0 9 e0
    | 1, _ => exact hget 1 9 e1
    | 2, _ => exact hget 2 9 e2
    | 3, _ => exact hget 3 9 e3
    | 4, _ => exact hget 4 5 e4
    | 5, _ => exact hget 5 9 e5
    | j + 6, hj => omega
  have hkhlt : kh < s.heap.size := (Array.getElem?_eq_some_iff.mp hcell).1
  have hwS : Cond.laysStatic "QuiltPatches$Reader" "KIND_HIGHEST" "[I" ∈ lw_tbl := List.mem_of_getElem? (i := 393) (by decide +kernel)
  refine ⟨D, (cI, cZ, cL), kh, ⟨fun ci q hq => ?_, fun k q hq => ?_⟩, va_AO.of (hts _ hwL), fun q hq hk => ?_, va_Zof (hts _ hwS) (hts _ (m_tbl_sub (m_ins_ok (ci := 3) (by decide)).2)) hst (fun a ha => Nat.not_le.mpr ha), hXk, hkhlt⟩
  · have h8 : ci < 8 := (List.getElem?_eq_some_iff.mp hq).1
    rw [m_C_get h8] at hq
    cases hq
    exact hD ci h8
  · match k, hq with
    | 0, hq => cases hq; exact ⟨fun n z => ⟨fun k h => (by cases h), kI, i2, compI, i3⟩, i1⟩
    | 1, hq => cases hq; exact ⟨fun n z => ⟨fun k h => (by cases h), kZ, z2, compZ, z3⟩, z1⟩
    | 2, hq => cases hq; exact ⟨fun n z => ⟨fun k h => (by cases h), kL, l2, compL, l3⟩, kL, compL, l2, l3, l1, l4⟩
    | k + 3, hq => simp [m_tys] at hq
  · have h1 := List.all_eq_true.mp m_nest_all q hq
    have h2 : (q.2.2.1 == 3 || q.2.2.1 == 4) = true := by simpa using hk
    rw [h2] at h1
    have h3 : lw_tbl[q.2.2.2.2.1]? = some (.methodLinkNest (m_cR q.1) q.2.1 (m_nm q.2.2.2.1) "QuiltPatches") := by simpa using h1
    exact va_Nw.of rfl (hts _ (List.mem_of_getElem? h3))
theorem whole_sim {Sim : mH → Prop} {mo : Nat} (hSim : LawSim Sim mo) {p : Program} {e : Env} {s : State} {m : MethodId} {below : List Frame} {meth : Method} {c : Code} (l : Launch) {b L : Nat} {xs : Nat → Int32} (hL : L ≤ 2048) (C0 : lw_At p s m meth c b L xs) : W p l e room_1 s m #[Value.ref b] below meth c s.heap [] 0 0 (lw_Z below #[Value.ref b] s) (entryFrame m ([Value.ref b] : List Value).toArray 4) := by
  obtain ⟨D, K, kh, hE⟩ := L_env C0
  have hSim0 := hSim
  obtain ⟨⟨Ha, H0, k1, rfl, k2, n1, n2, hS0⟩, -, -⟩ := hSim0
  have ok0 : m_okH [(6, m_def 6)] := by
    intro c hc
    rw [List.mem_singleton.mp hc]
    exact ⟨by decide +kernel, by decide, fun _ => by decide +kernel⟩
  have okR : ∀ a, m_okS [mR a] := fun a => m_okS_R (fun v hv => by cases hv)
  obtain ⟨a1, -, a3, a4, aM⟩ := Call_met k1 (by decide) rfl ok0 (okR 0)
  have ok7 : m_okH (Ha ++ [(7, m_def 7)]) := m_app_ok a1 ⟨by decide +kernel, by decide, fun _ => by decide +kernel⟩
  obtain ⟨b1, -, b3, b4, bM⟩ := Call_met k2 (by decide) rfl ok7 (okR _)
  have hHa : Ha.length ≤ 1000 := by simp at b3; omega
  have hHs : m_sz Ha ≤ 100000 := by rw [m_sz_app] at b4; omega
  have hHa7 : (Ha ++ [(7, m_def 7)]).length ≤ 1000 := by omega
  rw [lg_entry_eq]
  have hl := lv_entry ([.ref b]) (n := 4) (Nat.le_of_ble_eq_true rfl)
  have go : L_V l D K p e s m below meth c b [(0, .ref b)] 0 [] [] := by
    refine LV_new C0 hE (ci := 6) (by decide +kernel : l_get 0 = some (.new 7, 3)) (by decide) (List.mem_of_getElem? (i := 73) (by decide +kernel)) (by decide) (by decide) (by decide +kernel) ?_
    refine LV_dup C0 rfl (by decide +kernel : l_get 3 = some (.dup, 1)) ?_
    refine LV_init C0 hE (z := 54) (a := 0) (H1 := Ha) (by decide +kernel : l_get 4 = some (.invokespecial 9, 3)) (by decide) (m_at_in (i := 75) (by decide +kernel)) (m_at_in (i := 76) (by decide +kernel)) (m_ins_ok (ci := 6) (by decide)).2 rfl rfl (by decide +kernel) aM (by simp [Value.category]) a3 a4 hHa hHs ?_
    refine LV_ast C0 (k := 1) (lv' := [(1, .ref (s.heap.size + 0)), (0, .ref b)]) (by decide +kernel : l_get 7 = some (.astore_n 1, 1)) rfl ?_
    refine LV_new C0 hE (ci := 7) (by decide +kernel : l_get 8 = some (.new 10, 3)) (by decide) (List.mem_of_getElem? (i := 721) (by decide +kernel)) hHa hHs (by decide +kernel) ?_
    refine LV_dup C0 rfl (by decide +kernel : l_get 11 = some (.dup, 1)) ?_
    refine LV_init C0 hE (z := 98) (a := Ha.length) (H1 := H0) (by decide +kernel : l_get 12 = some (.invokespecial 12, 3)) (by decide) (m_at_in (i := 723) (by decide +kernel)) (m_at_in (i := 724) (by decide +kernel)) (m_ins_ok (ci := 7) (by decide)).2 rfl rfl (by decide +kernel) bM (by simp [Value.category]) b3 b4 n1 n2 ?_
    refine LV_ast C0 (k := 2) (lv' := [(2, .ref (s.heap.size + Ha.length)), (1, .ref (s.heap.size + 0)), (0, .ref b)]) (by decide +kernel : l_get 15 = some (.astore_n 2, 1)) rfl ?_
    intro Hr locs lsr hP hS hl
    refine lv_iconst (v := nI 0) C0.1 C0.2.1 (l_dec (by decide +kernel : l_get 16 = some (.iconst 0, 1))) rfl ?_
    refine lv_istore_n (lv' := [(3, .int (nI 0)), (2, .ref (s.heap.size + Ha.length)), (1, .ref (s.heap.size + 0)), (0, .ref b)]) C0.1 C0.2.1 (l_dec (by decide +kernel : l_get 17 = some (.istore_n 3, 1))) rfl hl (by decide) rfl (fun ls' hl' => ?_)
    exact L_loop hSim C0 hL hE 1000 0 H0 (by omega) (by omega) hS0 b1 n1 n2 Hr locs ls' hP hS (lv_sub hl' [3, 2, 1, 0] rfl)
  exact go s.heap [] _ (fun k q h => by simp [m_ws] at h) va_S.rf hl
