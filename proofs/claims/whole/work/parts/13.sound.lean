/-! what the little machine does, the real one does: a whole run -/
def m_S (d y pc : Nat) (ls st : List mV) (H : mH) (r : mV) (H' : mH) : Prop :=
  m_okH H' ∧ m_okV r ∧ H.length ≤ H'.length ∧ m_sz H ≤ m_sz H' ∧
  ∀ (l : Launch) (D : va_G) (K : mK) (B kh mc ms : Nat) (p : Program) (e : Env) (s : State) (m : MethodId) (args : Array Value) (below : List Frame) (meth : Method) (c : Code) (k n : Nat), m_ctx D K B kh y p s m args meth c → k + (H'.length - H.length) ≤ mc → n + (m_sz H' - m_sz H) ≤ ms →
    m_P l D K B d mc ms y p e s m args below meth c (MQ below (m_Qc D K B r H') args s mc ms (fun q => B ≤ q)) pc ls st H k n
theorem m_S_step {d y pc : Nat} {ls st : List mV} {H : mH} {r : mV} {H' : mH} {pc1 : Nat} {ls1 st1 : List mV} {H1 : mH} (ht : m_T y pc ls st H pc1 ls1 st1 H1) (h : m_S d y pc1 ls1 st1 H1 r H') : m_S d y pc ls st H r H' := by
  obtain ⟨-, -, -, -, a5, a6, a7⟩ := ht
  obtain ⟨b1, b2, b3, b4, b5⟩ := h
  refine ⟨b1, b2, by omega, by omega, fun l D K B kh mc ms p e s m args below meth c k n hc hk hn => ?_⟩
  exact a7 l D K B kh d mc ms p e s m args below meth c _ k n hc (by omega) (by omega) (b5 l D K B kh mc ms p e s m args below meth c _ _ hc (by omega) (by omega))
/-- what a method called at depth d does, for every launch -/
def m_CM (d z : Nat) (av : List mV) (H : mH) (r : mV) (H1 : mH) : Prop := ∀ (l : Launch) (D : va_G) (K : mK) (B kh : Nat), m_Met l D K B kh d (H1.length - H.length) (m_sz H1 - m_sz H) z av H r H1
theorem m_call_S {d y pc i1 x j k z : Nat} {i : Instr} {ls st : List mV} {H : mH} {r r1 : mV} {H' H1 : mH} {av : List mV} (hi1 : i1 = 3) (hg : m_get y pc = some (i, i1)) (hi : m_inv i = some (j, x)) (hm : m_ml (m_own y) x = some (k, z)) (hfit : m_fit j k = true) (hk5 : ¬ 5 ≤ k) (hM : m_CM d z av H r1 H1) (hrc : m_rcv k z av H = true) (hn : av.length = m_na z) (h8 : st.length ≤ 8) (hle : H.length ≤ H1.length) (hsz : m_sz H ≤ m_sz H1)
    (h : m_S (d + 1) y (pc + 3) ls (m_push r1 st) H1 r H') : m_S (d + 1) y pc ls (av.reverse ++ st) H r H' := by
  subst hi1
  have hd := m_dec hg
  obtain ⟨b1, b2, b3, b4, b5⟩ := h
  refine ⟨b1, b2, by omega, by omega, fun l D K B kh mc ms p e s m args below meth c k0 n0 hc hk hn0 => ?_⟩
  have hp := b5 l D K B kh mc ms p e s m args below meth c (k0 + (H1.length - H.length)) (n0 + (m_sz H1 - m_sz H)) hc (by omega) (by omega)
  have hM := hM l D K B kh
  have hlen : H1.length = H.length + (H1.length - H.length) := by omega
  have a1 : k0 + (H1.length - H.length) ≤ mc := by omega
  have a2 : n0 + (m_sz H1 - m_sz H) ≤ ms := by omega
  cases i with
  | invokevirtual x' =>
    cases hi
    have : k = 0 := by simpa [m_fit] using hfit
    subst this
    unfold m_rcv at hrc
    match av, hrc, hn, hM with
    | some (.inr a) :: av', hrc, hn, hM =>
      simp only at hrc
      split at hrc
      · rename_i kd fs ha
        have hkd : kd = m_own z := by simpa using hrc
        subst hkd
        have := s_callV hc hm hd hM ha hn h8 a1 a2 hlen hp
        simpa using this
      · cases hrc
  | invokestatic x' =>
    cases hi
    have : k = 1 ∨ k = 3 := by
      simp [m_fit] at hfit
      omega
    rcases this with rfl | rfl
    · exact s_callS hc hm hd hM hn h8 a1 a2 hlen hp
    · exact s_callSN hc hm hd hM hn h8 a1 a2 hlen hp
  | invokespecial x' =>
    cases hi
    have : k = 2 ∨ k = 4 := by
      simp [m_fit] at hfit
      omega
    rcases this with rfl | rfl
    · unfold m_rcv at hrc
      match av, hrc, hn, hM with
      | some (.inr a) :: av', hrc, hn, hM =>
        have := s_callI hc hm hd hM hn h8 a1 a2 hlen hp
        simpa using this
    · unfold m_rcv at hrc
      match av, hrc, hn, hM with
      | some (.inr a) :: av', hrc, hn, hM =>
        have := s_callIN hc hm hd hM hn h8 a1 a2 hlen hp
        simpa using this
  | _ => exact absurd hi (by simp [m_inv])
theorem m_blt_S {d y pc i1 x j k z : Nat} {i : Instr} {ls st st' : List mV} {H : mH} {r : mV} {H' H1 : mH} (hi1 : i1 = 3) (hg : m_get y pc = some (i, i1)) (hi : m_inv i = some (j, x)) (hm : m_ml (m_own y) x = some (k, z)) (hfit : m_fit j k = true) (o1 : m_okH H) (o3 : m_okS st) (hb : m_blt k st H = some (st', H1)) (h8 : st'.length ≤ 8)
    (h : m_okH H1 → m_okS st' → m_S (d + 1) y (pc + 3) ls st' H1 r H') : m_S (d + 1) y pc ls st H r H' := by
  subst hi1
  have hd := m_dec hg
  unfold m_blt at hb
  split at hb
  · split at hb
    · cases hb
      obtain ⟨b1, b2, b3, b4, b5⟩ := h o1 (m_okS_tl o3)
      refine ⟨b1, b2, by omega, by omega, fun l D K B kh mc ms p e s m args below meth c k0 n0 hc hk hn0 => ?_⟩
      have hp := b5 l D K B kh mc ms p e s m args below meth c k0 n0 hc (by omega) (by omega)
      have hx : i = .invokespecial x := by
        cases i with
        | invokespecial x' => cases hi; rfl
        | invokevirtual x' => cases hi; simp [m_fit] at hfit
        | invokestatic x' => cases hi; simp [m_fit] at hfit
        | _ => exact absurd hi (by simp [m_inv])
      subst hx
      exact s_objInit hc hm hd h8 hp
    · cases hb
  · split at hb
    · split at hb
      · split at hb
        · rename_i nn dp b sp a r0 _ _ ka f kb g hf hgb hcond
          cases hb
          obtain ⟨rfl, rfl, hn, hdp, hsp, q1, q2⟩ := hcond
          have e1 : sp.toNat + nn.toNat ≤ f.length := by omega
          have e2 : dp.toNat + nn.toNat ≤ g.length := by omega
          have t1 := m_okS_tl o3
          have t2 := m_okS_tl t1
          have t3 := m_okS_tl t2
          have t4 := m_okS_tl t3
          have hok : m_okH (H.modify b (fun q => (q.1, m_cpy f g sp.toNat dp.toNat nn.toNat))) := by
            refine m_mod_ok o1 (fun c hc0 hc1 => ⟨fun v hv => ?_, hc1.2.1, fun h8 => ?_⟩)
            · have hv2 : v ∈ g.take dp.toNat ++ ((f.drop sp.toNat).take nn.toNat ++ g.drop (dp.toNat + nn.toNat)) := hv
              rcases List.mem_append.mp hv2 with hv2 | hv2
              · exact (o1 _ (List.mem_of_getElem? hgb)).1 v (List.mem_of_mem_take hv2)
              · rcases List.mem_append.mp hv2 with hv2 | hv2
                · exact (o1 _ (List.mem_of_getElem? hf)).1 v (List.mem_of_mem_drop (List.mem_of_mem_take hv2))
                · exact (o1 _ (List.mem_of_getElem? hgb)).1 v (List.mem_of_mem_drop hv2)
            · rw [hgb] at hc0
              cases hc0
              simp at h8
          have hl1 : (H.modify b (fun q => (q.1, m_cpy f g sp.toNat dp.toNat nn.toNat))).length = H.length := by simp
          have hs1 : m_sz (H.modify b (fun q => (q.1, m_cpy f g sp.toNat dp.toNat nn.toNat))) = m_sz H := m_modsz H b _ (fun c hc0 => by
            rw [hgb] at hc0
            cases hc0
            exact m_cpy_len e1 e2)
          obtain ⟨b1, b2, b3, b4, b5⟩ := h hok (m_okS_tl t4)
          rw [hl1] at b3
          rw [hs1] at b4
          refine ⟨b1, b2, b3, b4, fun l D K B kh mc ms p e s m args below meth c k0 n0 hc hk hn0 => ?_⟩
          have hp := b5 l D K B kh mc ms p e s m args below meth c k0 n0 hc (by rw [hl1]; exact hk) (by rw [hs1]; exact hn0)
          have hx : i = .invokestatic x := by
            cases i with
            | invokestatic x' => cases hi; rfl
            | invokevirtual x' => cases hi; simp [m_fit] at hfit
            | invokespecial x' => cases hi; simp [m_fit] at hfit
            | _ => exact absurd hi (by simp [m_inv])
          subst hx
          exact s_copy hc hm hd hf hgb (m_okS_hd o3) (m_okS_hd t1) (m_okS_hd t3) hn hdp hsp q1 q2 h8 hp
        · cases hb
      · cases hb
    · cases hb
  · split at hb
    · rename_i b a r0
      cases hb
      have hbi := m_okS_hd o3
      have hai := m_okS_hd (m_okS_tl o3)
      have hin : m_in (if a < b then b else a) = true := by split <;> assumption
      obtain ⟨b1, b2, b3, b4, b5⟩ := h o1 (m_okS_I hin (m_okS_tl (m_okS_tl o3)))
      refine ⟨b1, b2, b3, b4, fun l D K B kh mc ms p e s m args below meth c k0 n0 hc hk hn0 => ?_⟩
      have hp := b5 l D K B kh mc ms p e s m args below meth c k0 n0 hc hk hn0
      have hx : i = .invokestatic x := by
        cases i with
        | invokestatic x' => cases hi; rfl
        | invokevirtual x' => cases hi; simp [m_fit] at hfit
        | invokespecial x' => cases hi; simp [m_fit] at hfit
        | _ => exact absurd hi (by simp [m_inv])
      subst hx
      exact s_max hc hm hd hai hbi (by simp at h8; omega) (by omega) (by omega) hp
    · cases hb
  · split at hb
    · rename_i b a r0
      cases hb
      have hbi := m_okS_hd o3
      have hai := m_okS_hd (m_okS_tl o3)
      have hin : m_in (if b < a then b else a) = true := by split <;> assumption
      obtain ⟨b1, b2, b3, b4, b5⟩ := h o1 (m_okS_I hin (m_okS_tl (m_okS_tl o3)))
      refine ⟨b1, b2, b3, b4, fun l D K B kh mc ms p e s m args below meth c k0 n0 hc hk hn0 => ?_⟩
      have hp := b5 l D K B kh mc ms p e s m args below meth c k0 n0 hc hk hn0
      have hx : i = .invokestatic x := by
        cases i with
        | invokestatic x' => cases hi; rfl
        | invokevirtual x' => cases hi; simp [m_fit] at hfit
        | invokespecial x' => cases hi; simp [m_fit] at hfit
        | _ => exact absurd hi (by simp [m_inv])
      subst hx
      exact s_min hc hm hd hai hbi (by simp at h8; omega) (by omega) (by omega) hp
    · cases hb
  · cases hb
theorem m_ret_S {d y pc i1 : Nat} {ls : List mV} {H : mH} (hg : m_get y pc = some (.return_, i1)) (o1 : m_okH H) (hr : m_rt y = none) : m_S d y pc ls [] H none H := by
  have hd := m_dec hg
  have hi := m_iok_at hg
  obtain rfl : i1 = 1 := by simpa [m_iok] using hi
  refine ⟨o1, (fun k h => by cases h), Nat.le_refl _, Nat.le_refl _, fun l D K B kh mc ms p e s m args below meth c k n hc hk hn => ?_⟩
  intro hkk Hr locs lsr hP hS hl T hT X
  have hz := m_size hkk hP hS hc.2.2.2.2.2.2.2.2.2 hT X
  have hlocks := hc.2.2.2.2.2.2.1
  exact (W.widen (k := mc) (n := ms) (by omega) (by omega) (W.vret hc.1 hc.2.1 (by rw [hc.2.2.1]; exact hr) (fun t ht hW => ⟨rfl, by rw [ht]; exact hz, by rw [ht]; exact hP, hS.F ht⟩) hS.2.2 hd)) T hT X
theorem m_iret_S {d y pc i1 : Nat} {v : Int} {ls : List mV} {H : mH} (hg : m_get y pc = some (.ireturn, i1)) (o1 : m_okH H) (hv : m_in v = true) (hr : m_rok y v = true) : m_S d y pc ls [mI v] H (mI v) H := by
  have hd := m_dec hg
  have hi := m_iok_at hg
  obtain rfl : i1 = 1 := by simpa [m_iok] using hi
  refine ⟨o1, m_okVI hv, Nat.le_refl _, Nat.le_refl _, fun l D K B kh mc ms p e s m args below meth c k n hc hk hn => ?_⟩
  intro hkk Hr locs lsr hP hS hl T hT X
  have hz := m_size hkk hP hS hc.2.2.2.2.2.2.2.2.2 hT X
  have hlocks := hc.2.2.2.2.2.2.1
  simp only [m_rok, Bool.or_eq_true, Bool.and_eq_true, decide_eq_true_eq, beq_iff_eq] at hr
  rcases hr with hr | ⟨hr, hv01⟩
  · exact (W.widen (k := mc) (n := ms) (by omega) (by omega) (W.iret (v := Int32.ofInt v) hc.1 hc.2.1 (by rw [hc.2.2.1]; exact hr) (fun t ht hW => ⟨rfl, by rw [ht]; exact hz, by rw [ht]; exact hP, hS.F ht⟩) hS.2.2 hd)) T hT X
  · exact (W.widen (k := mc) (n := ms) (by omega) (by omega) (W.zret (v := Int32.ofInt v) (ty := .boolean) hc.1 hc.2.1 (by rw [hc.2.2.1]; exact hr) (by rcases hv01 with rfl | rfl <;> rfl) (fun t ht hW => ⟨rfl, by rw [ht]; exact hz, by rw [ht]; exact hP, hS.F ht⟩) hS.2.2 hd)) T hT X
/-- the two methods that read a static array -/
def m_Prims : Prop := ∀ (d z : Nat) (av : List mV) (H : mH) (r : mV), m_prim z = true → m_pv z av = some r → m_okS av → m_okH H → m_CM d z av H r H
theorem ev_sound (hpr : m_Prims) : ∀ (N d y pc : Nat) (ls st : List mV) (H : mH) (r : mV) (H' : mH), y < 163 → ev N d y pc ls st H = some (r, H') → m_okH H → m_okL ls → m_okS st → ls.length = m_mx y → m_S d y pc ls st H r H' := by
  intro N
  induction N with
  | zero => intro d y pc ls st H r H' _ h; cases h
  | succ N ih =>
    intro d y pc ls st H r H' hy h o1 o2 o3 hL
    simp only [ev] at h
    split at h
    · cases h
    · rename_i i len hg
      split at h
      · split at h
        · rename_i hcond
          cases h
          obtain ⟨rfl, hr⟩ := hcond
          exact m_ret_S hg o1 hr
        · cases h
      · split at h
        · split at h
          · cases h
            exact m_iret_S hg o1 (m_okS_hd o3) (by assumption)
          · cases h
        · cases h
      · split at h
        · split at h
          · rename_i hnext
            have ht := m_next_ok hg hnext o1 o2 o3 hL
            exact m_S_step ht (ih _ _ _ _ _ _ _ _ hy h ht.1 ht.2.1 ht.2.2.1 ht.2.2.2.1)
          · cases h
        · split at h
          · rename_i j x hinv _ _ k z d0 hml
            split at h
            · rename_i hfit
              obtain ⟨hlen3, hfit⟩ := hfit
              split at h
              · split at h
                · split at h
                  · rename_i hblt h8
                    exact m_blt_S hlen3 hg hinv hml hfit o1 o3 hblt h8 (fun q1 q3 => ih _ _ _ _ _ _ _ _ hy h q1 o2 q3 hL)
                  · cases h
                · cases h
              · rename_i hk5
                split at h
                · rename_i hcond
                  obtain ⟨hna, h8, hrcv⟩ := hcond
                  have hz163 : z < 163 := by
                    obtain ⟨p1, p2, p3, p4, hlok⟩ := m_ml_ok hml
                    have hk : k = 0 ∨ k = 1 ∨ k = 2 ∨ k = 3 ∨ k = 4 := by omega
                    rcases hk with rfl | rfl | rfl | rfl | rfl <;> simp only [m_lok, Bool.and_eq_true, decide_eq_true_eq] at hlok
                    · exact hlok.1.1.1.1.1.1.1
                    · exact hlok.1.1.1.1
                    · exact hlok.1.1.1.1.1.1.1
                    · exact hlok.1.1.1.1
                    · exact hlok.1.1.1.1.1.1.1
                  have hst : st = (st.take (m_na z)).reverse.reverse ++ st.drop (m_na z) := by simp
                  have oA : m_okS (st.take (m_na z)).reverse := fun v hv => o3 v (List.mem_of_mem_take (List.mem_reverse.mp hv))
                  have oD : m_okS (st.drop (m_na z)) := fun v hv => o3 v (List.mem_of_mem_drop hv)
                  have hn : (st.take (m_na z)).reverse.length = m_na z := by simp; omega
                  split at h
                  · rename_i hprim
                    split at h
                    · rename_i r1 hpv
                      have hM := hpr d0 z _ H r1 hprim hpv oA o1
                      have hr1 : ∃ v, r1 = mI v ∧ m_in v = true := by
                        unfold m_pv at hpv
                        split at hpv
                        · split at hpv
                          · cases hpv
                            refine ⟨_, rfl, ?_⟩
                            split
                            · decide
                            · split <;> decide
                          · cases hpv
                        · split at hpv
                          · cases hpv
                            refine ⟨_, rfl, ?_⟩
                            repeat' split
                            all_goals decide
                          · cases hpv
                        · cases hpv
                      obtain ⟨v, rfl, hv⟩ := hr1
                      have hS := ih _ _ _ _ _ _ _ _ hy h o1 o2 (m_okS_I hv oD) hL
                      rw [hst]
                      exact m_call_S (av := (st.take (m_na z)).reverse) (st := st.drop (m_na z)) hlen3 hg hinv hml hfit hk5 hM hrcv hn h8 (Nat.le_refl _) (Nat.le_refl _) hS
                    · cases h
                  · split at h
                    · rename_i r1 H1 hev
                      have hmx := (m_mok_spec hz163).2.2.1
                      have hS1 := ih _ _ _ _ _ _ _ _ hz163 hev o1 (fun v hv => by
                        rcases List.mem_append.mp hv with hv | hv
                        · exact (oA v hv).1
                        · rw [(List.mem_replicate.mp hv).2]
                          exact fun k e => by cases e) (fun v hv => by cases hv) (by
                        rw [List.length_append, hn, List.length_replicate]
                        omega)
                      obtain ⟨b1, b2, b3, b4, b5⟩ := hS1
                      have hM : m_CM d0 z (st.take (m_na z)).reverse H r1 H1 := fun l D K B kh => m_met_of hz163 hn (fun p e s m A below meth c hc => b5 l D K B kh _ _ p e s m A below meth c 0 0 hc (by omega) (by omega))
                      have oP : m_okS (m_push r1 (st.drop (m_na z))) := by
                        unfold m_push
                        cases r1 with
                        | none => exact oD
                        | some w => exact m_okS_cons b2 (by simp) oD
                      have hS := ih _ _ _ _ _ _ _ _ hy h b1 o2 oP hL
                      rw [hst]
                      exact m_call_S (av := (st.take (m_na z)).reverse) (st := st.drop (m_na z)) hlen3 hg hinv hml hfit hk5 hM hrcv hn h8 b3 b4 hS
                    · cases h
                · cases h
            · cases h
          · cases h
