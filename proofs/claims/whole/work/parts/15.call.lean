/-! a method's run as a whole -/
def Call (d y : Nat) (av : List mV) (H : mH) (r : mV) (H1 : mH) : Prop := ∃ N, ev N d y 0 (av ++ List.replicate (m_mx y - m_na y) none) [] H = some (r, H1)
theorem Call_met {d y : Nat} {av : List mV} {H : mH} {r : mV} {H1 : mH} (h : Call d y av H r H1) (hy : y < 163) (ha : av.length = m_na y) (o1 : m_okH H) (o2 : m_okS av) : m_okH H1 ∧ m_okV r ∧ H.length ≤ H1.length ∧ m_sz H ≤ m_sz H1 ∧ m_CM d y av H r H1 := by
  obtain ⟨N, h⟩ := h
  have hmx := (m_mok_spec hy).2.2.1
  obtain ⟨b1, b2, b3, b4, b5⟩ := ev_sound m_prims N d y 0 _ _ _ _ _ hy h o1 (fun v hv => by
    rcases List.mem_append.mp hv with hv | hv
    · exact (o2 v hv).1
    · rw [(List.mem_replicate.mp hv).2]
      exact fun k e => by cases e) (fun v hv => by cases hv) (by
    rw [List.length_append, ha, List.length_replicate]
    omega)
  exact ⟨b1, b2, b3, b4, fun l D K B kh => m_met_of hy ha (fun p e s m A below meth c hc => b5 l D K B kh _ _ p e s m A below meth c 0 0 hc (by omega) (by omega))⟩
