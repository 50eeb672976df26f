theorem stp_fin {yC yM : Nat} {as : List mV} {H : mH} (h : stpR yC yM as H) : ∃ (v : Int) (H1 H2 : mH), Call 30 yC (mR 0 :: as) H (mI v) H1 ∧ Call 30 yM (mR 74 :: as) H1 (mI v) H2 ∧ sim H2 ∧ H1.length = H.length ∧ m_sz H1 = m_sz H ∧ H2.length = H.length ∧ m_sz H2 = m_sz H ∧ ∃ fs, H1[74]? = some (7, fs) := by
  obtain ⟨v, H1, H2, c1, c2, c3, c4, c5, c6⟩ := h
  exact ⟨v, H1, H2, c1, c2, c3, c4.1, Shp_sz c4, by rw [c5.1, c4.1], by rw [Shp_sz c5, Shp_sz c4], c6⟩
theorem law_step : ∀ (j : Nat) (o : Nat × Nat × Nat), l_ops[j]? = some o → ∀ (H : mH) (av : List Int), sim H → m_okH H → av.length = o.2.2 → (∀ a ∈ av, m_in a = true) → ∃ (v : Int) (H1 H2 : mH), Call 30 o.1 (mR 0 :: av.map mI) H (mI v) H1 ∧ Call 30 o.2.1 (mR 74 :: av.map mI) H1 (mI v) H2 ∧ sim H2 ∧ H1.length = H.length ∧ m_sz H1 = m_sz H ∧ H2.length = H.length ∧ m_sz H2 = m_sz H ∧ ∃ fs, H1[74]? = some (7, fs) := by
  intro j o hj H av hS hok hl hin
  match j, hj with
  | 0, hj =>
    obtain rfl : (55, 101, 1) = o := Option.some.inj hj
    match av, hl with
    | [a], _ => exact stp_fin (s_type hS)
  | 1, hj =>
    obtain rfl : (56, 102, 0) = o := Option.some.inj hj
    match av, hl with
    | [], _ => exact stp_fin (s_clear hS)
  | 2, hj =>
    obtain rfl : (57, 108, 0) = o := Option.some.inj hj
    match av, hl with
    | [], _ => exact stp_fin (s_tells hS)
  | 3, hj =>
    obtain rfl : (58, 121, 2) = o := Option.some.inj hj
    match av, hl with
    | [a, b], _ => exact stp_fin (s_kind hS)
  | 4, hj =>
    obtain rfl : (59, 122, 2) = o := Option.some.inj hj
    match av, hl with
    | [a, b], _ => exact stp_fin (s_block hS)
  | 5, hj =>
    obtain rfl : (60, 125, 2) = o := Option.some.inj hj
    match av, hl with
    | [a, b], _ => exact stp_fin (s_lays hS)
  | 6, hj =>
    obtain rfl : (61, 126, 1) = o := Option.some.inj hj
    match av, hl with
    | [a], _ => exact stp_fin (s_takes hS)
  | 7, hj =>
    obtain rfl : (62, 127, 2) = o := Option.some.inj hj
    match av, hl with
    | [a, b], _ => exact stp_fin (s_buys hS)
  | 8, hj =>
    obtain rfl : (63, 128, 0) = o := Option.some.inj hj
    match av, hl with
    | [], _ => exact stp_fin (s_clears hS)
  | 9, hj =>
    obtain rfl : (64, 129, 0) = o := Option.some.inj hj
    match av, hl with
    | [], _ => exact stp_fin (s_undo hS)
  | 10, hj =>
    obtain rfl : (65, 130, 1) = o := Option.some.inj hj
    match av, hl with
    | [a], _ => exact stp_fin (s_square hS)
  | 11, hj =>
    obtain rfl : (66, 131, 2) = o := Option.some.inj hj
    match av, hl with
    | [a, b], _ => exact stp_fin (s_fits hS)
  | 12, hj =>
    obtain rfl : (67, 136, 2) = o := Option.some.inj hj
    match av, hl with
    | [a, b], _ => exact stp_fin (s_left hS (m_in_iff.mp (hin b (by simp))).2)
  | 13, hj =>
    obtain rfl : (68, 138, 2) = o := Option.some.inj hj
    match av, hl with
    | [a, b], _ => exact stp_fin (s_hue hS (m_in_iff.mp (hin a (by simp))).2)
  | 14, hj =>
    obtain rfl : (69, 142, 1) = o := Option.some.inj hj
    match av, hl with
    | [a], _ => exact stp_fin (s_many hS)
  | 15, hj =>
    obtain rfl : (70, 143, 2) = o := Option.some.inj hj
    match av, hl with
    | [a, b], _ => exact stp_fin (s_quilt hS)
  | 16, hj =>
    obtain rfl : (71, 144, 0) = o := Option.some.inj hj
    match av, hl with
    | [], _ => exact stp_fin (s_sure hS)
  | 17, hj =>
    obtain rfl : (72, 145, 0) = o := Option.some.inj hj
    match av, hl with
    | [], _ => exact stp_fin (s_next hS)
  | 18, hj =>
    obtain rfl : (73, 146, 1) = o := Option.some.inj hj
    match av, hl with
    | [a], _ => exact stp_fin (s_wanting hS)
  | 19, hj =>
    obtain rfl : (74, 153, 2) = o := Option.some.inj hj
    match av, hl with
    | [a, b], _ => exact stp_fin (s_piece hS)
  | 20, hj =>
    obtain rfl : (75, 154, 2) = o := Option.some.inj hj
    match av, hl with
    | [a, b], _ => exact stp_fin (s_good hS)
  | 21, hj =>
    obtain rfl : (76, 155, 2) = o := Option.some.inj hj
    match av, hl with
    | [a, b], _ => exact stp_fin (s_cut hS)
  | 22, hj =>
    obtain rfl : (77, 156, 3) = o := Option.some.inj hj
    match av, hl with
    | [a, b, p], _ => exact stp_fin (s_made hS)
  | 23, hj =>
    obtain rfl : (78, 157, 1) = o := Option.some.inj hj
    match av, hl with
    | [a], _ => exact stp_fin (s_keep hS)
  | 24, hj =>
    obtain rfl : (79, 158, 1) = o := Option.some.inj hj
    match av, hl with
    | [a], _ => exact stp_fin (s_back hS)
  | 25, hj =>
    obtain rfl : (80, 160, 1) = o := Option.some.inj hj
    match av, hl with
    | [a], _ => exact stp_fin (s_count hS)
  | n + 26, hj =>
    rw [List.getElem?_eq_none (by show 26 ≤ n + 26; omega)] at hj
    cases hj
theorem law_sim : ∃ (Sim : mH → Prop) (mo : Nat), LawSim Sim mo := by
  refine ⟨sim, 74, ⟨hA0, hA1, ⟨2000, A_c0⟩, rfl, ⟨2000, A_c1⟩, A_sz.1, A_sz.2, A_sim⟩, fun H hS => ?_, law_step⟩
  obtain ⟨le, un, kd, wd, ht, rm, mo, sd, bo, ed, hu, bl, sl, tx, kp, QB, QS, IB, IS, hp, ⟨pe, ta, tb, sk, PB, PS, hR, -⟩, ⟨nk, ap, nu, me, op, de, fo, bs, bu, td, ss, ps, kt, h74, -⟩⟩ := hS
  exact ⟨⟨_, hR⟩, ⟨_, h74⟩⟩
theorem whole_start {p : Program} {e : Env} {s : State} {m : MethodId} {below : List Frame} {meth : Method} {c : Code} (l : Launch) (hflags : l.flags = flags0) {b L : Nat} {xs : Nat → Int32} (hL : L ≤ 2048) (C0 : lw_At p s m meth c b L xs) : W p l e room_1 s m #[Value.ref b] below meth c s.heap [] 0 0 (lw_Z below #[Value.ref b] s) (entryFrame m ([Value.ref b] : List Value).toArray 4) := by
  obtain ⟨Sim, mo, h⟩ := law_sim
  exact whole_sim h l hL C0
