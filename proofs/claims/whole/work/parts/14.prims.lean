/-! numbersOf and highestOf: the static array's cell lies before all of ours -/
section MPR
variable {l : Launch} {D : va_G} {K : mK} {B kh d mc ms y : Nat} {p : Program} {e : Env} {s : State} {m : MethodId} {args : Array Value} {below : List Frame} {meth : Method} {c : Code} {Q : State → Prop} {pc : Nat} {ls st : List mV} {H : mH} {k n : Nat}
theorem m_khw : Cond.fieldLink RX3 80 RX3 "KIND_HIGHEST" "[I" ∈ m_tbl := m_at_in (i := 392) (by decide +kernel)
theorem s_khlen (hy : m_own y = 3) (hc : m_ctx D K B kh y p s m args meth c) (hd : decode (m_by y) pc = .ok (.getstatic 80, 3)) (hd2 : decode (m_by y) (pc + 3) = .ok (.arraylength, 1)) (h : m_P l D K B d mc ms y p e s m args below meth c Q (pc + 4) ls (mI 6 :: st) H k n) : m_P l D K B d mc ms y p e s m args below meth c Q pc ls st H k n := by
  intro hk Hr locs lsr hP hS hl
  obtain ⟨-, -, -, hZ, hX, hkh⟩ := hc.2.2.2.2.2.2.2.2.1
  have hB := hc.2.2.2.2.2.2.2.2.2
  refine va_gets hc.1 hc.2.1 hZ hS hc.2.2.2.2.1 (by rw [hy]; exact hc.2.2.2.2.2.1 _ m_khw) (fun _ h9 => h9) hd ?_
  exact va_slen hc.1 hc.2.1 hX (by omega) (by omega) hS hd2 (h hk Hr locs lsr hP hS hl)
theorem s_khget (hy : m_own y = 3) (hc : m_ctx D K B kh y p s m args meth c) {i : Int} (hd : decode (m_by y) pc = .ok (.getstatic 80, 3)) (hd1 : decode (m_by y) (pc + 3) = .ok (.iload_n 1, 1)) (hd2 : decode (m_by y) (pc + 4) = .ok (.iaload, 1)) (h1 : ls[1]? = some (mI i)) (hi : 0 ≤ i ∧ i < 6) (h : m_P l D K B d mc ms y p e s m args below meth c Q (pc + 5) ls (mI (if i = 4 then 5 else 9) :: st) H k n) : m_P l D K B d mc ms y p e s m args below meth c Q pc ls st H k n := by
  intro hk Hr locs lsr hP hS hl
  obtain ⟨-, -, -, hZ, hX, hkh⟩ := hc.2.2.2.2.2.2.2.2.1
  have hB := hc.2.2.2.2.2.2.2.2.2
  have hin : m_in i = true := by rw [m_in_iff]; omega
  refine va_gets hc.1 hc.2.1 hZ hS hc.2.2.2.2.1 (by rw [hy]; exact hc.2.2.2.2.2.1 _ m_khw) (fun _ h9 => h9) hd ?_
  refine lv_iload_n hc.1 hc.2.1 hd1 rfl (hl.2.2 _ _ h1) ?_
  refine va_sld hc.1 hc.2.1 hX (by omega) (by omega) hS (m_vin hin hi.1 (by omega)) hd2 ?_
  have e1 : m_kh (Int32.ofInt i).toNatClampNeg = Int32.ofInt (if i = 4 then 5 else 9) := by
    rw [m_nat hin]
    unfold m_kh
    by_cases h4 : i = 4
    · rw [if_pos h4, if_pos (by omega)]; rfl
    · rw [if_neg h4, if_neg (by omega)]; rfl
  rw [e1]
  exact h hk Hr locs lsr hP hS hl
end MPR
theorem m_prims : m_Prims := by
  intro d z av H r hz hpv oA oH l D K B kh
  unfold m_pv at hpv
  split at hpv
  · rename_i cv
    split at hpv
    · rename_i h25
      subst h25
      cases hpv
      have hcv : m_in cv = true := m_okS_hd oA
      refine m_met_of (by decide) rfl (fun p e s m A below meth c hc => ?_)
      rw [Nat.sub_self, Nat.sub_self]
      have ret : ∀ (pc : Nat) (v : Int), m_get 25 pc = some (.ireturn, 1) → m_in v = true → m_P l D K B d 0 0 25 p e s m A below meth c (MQ below (m_Qc D K B (mI v) H) A s 0 0 (fun q => B ≤ q)) pc [mI cv] [mI v] H 0 0 := fun pc v hg hv => (m_iret_S (d := d) (ls := [mI cv]) hg oH hv rfl).2.2.2.2 l D K B kh 0 0 p e s m A below meth c 0 0 hc (by omega) (by omega)
      refine s_iload_n (v := cv) hc (m_dec (by decide +kernel : m_get 25 0 = some (.iload_n 0, 1))) rfl ?_
      have hsw := m_dec (by decide +kernel : m_get 25 1 = some (.lookupswitch 42 #[(107, 35), (115, 40), (119, 40)], 35))
      by_cases h1 : cv = 107
      · rw [if_pos h1]
        refine s_lookup (tgt := 36) hc hsw hcv (by decide) (by simp [Op.lookupswitch.offset, h1, m_jmp]) ?_
        exact s_khlen rfl hc (m_dec (by decide +kernel : m_get 25 36 = some (.getstatic 80, 3))) (m_dec (by decide +kernel : m_get 25 39 = some (.arraylength, 1))) (ret 40 6 (by decide +kernel) (by decide))
      · rw [if_neg h1]
        by_cases h2 : cv = 115 ∨ cv = 119
        · rw [if_pos h2]
          refine s_lookup (tgt := 41) hc hsw hcv (by decide) (by rcases h2 with rfl | rfl <;> simp [Op.lookupswitch.offset, m_jmp]) ?_
          exact s_iconst hc (m_dec (by decide +kernel : m_get 25 41 = some (.iconst 2, 1))) (ret 42 2 (by decide +kernel) (by decide))
        · rw [if_neg h2]
          refine s_lookup (tgt := 43) hc hsw hcv (by decide) (by simp [Op.lookupswitch.offset, m_jmp]; omega) ?_
          exact s_iconst hc (m_dec (by decide +kernel : m_get 25 43 = some (.iconst 1, 1))) (ret 44 1 (by decide +kernel) (by decide))
    · cases hpv
  · rename_i cv iv
    split at hpv
    · rename_i h27
      subst h27
      cases hpv
      have hcv : m_in cv = true := m_okS_hd oA
      have hiv : m_in iv = true := m_okS_hd (m_okS_tl oA)
      refine m_met_of (by decide) rfl (fun p e s m A below meth c hc => ?_)
      rw [Nat.sub_self, Nat.sub_self]
      have ret : ∀ (pc : Nat) (v : Int), m_get 27 pc = some (.ireturn, 1) → m_in v = true → m_P l D K B d 0 0 27 p e s m A below meth c (MQ below (m_Qc D K B (mI v) H) A s 0 0 (fun q => B ≤ q)) pc [mI cv, mI iv] [mI v] H 0 0 := fun pc v hg hv => (m_iret_S (d := d) (ls := [mI cv, mI iv]) hg oH hv rfl).2.2.2.2 l D K B kh 0 0 p e s m A below meth c 0 0 hc (by omega) (by omega)
      refine s_iload_n (v := cv) hc (m_dec (by decide +kernel : m_get 27 0 = some (.iload_n 0, 1))) rfl ?_
      have hsw := m_dec (by decide +kernel : m_get 27 1 = some (.lookupswitch 78 #[(107, 35), (115, 67), (119, 57)], 35))
      by_cases h1 : cv = 107
      · rw [if_pos h1]
        refine s_lookup (tgt := 36) hc hsw hcv (by decide) (by simp [Op.lookupswitch.offset, h1, m_jmp]) ?_
        refine s_iload_n (v := iv) hc (m_dec (by decide +kernel : m_get 27 36 = some (.iload_n 1, 1))) rfl ?_
        refine s_if (tgt := 56) hc (m_dec (by decide +kernel : m_get 27 37 = some (.ifCond .lt 19, 3))) (by decide) hiv (fun q => ?_) (fun q => ?_)
        · have q : iv < 0 := by simpa [m_cmp] using q
          rw [if_neg (by omega)]
          exact s_iconst hc (m_dec (by decide +kernel : m_get 27 56 = some (.iconst (-1), 1))) (ret 57 (-1) (by decide +kernel) (by decide))
        · have q : 0 ≤ iv := by simpa [m_cmp] using q
          refine s_iload_n (v := iv) hc (m_dec (by decide +kernel : m_get 27 40 = some (.iload_n 1, 1))) rfl ?_
          refine s_khlen rfl hc (m_dec (by decide +kernel : m_get 27 41 = some (.getstatic 80, 3))) (m_dec (by decide +kernel : m_get 27 44 = some (.arraylength, 1))) ?_
          refine s_icmp (tgt := 56) hc (m_dec (by decide +kernel : m_get 27 45 = some (.if_icmp .ge 11, 3))) (by decide) hiv (by decide) (fun q2 => ?_) (fun q2 => ?_)
          · have q2 : 6 ≤ iv := by simpa [m_cmp] using q2
            rw [if_neg (by omega)]
            exact s_iconst hc (m_dec (by decide +kernel : m_get 27 56 = some (.iconst (-1), 1))) (ret 57 (-1) (by decide +kernel) (by decide))
          · have q2 : iv < 6 := by simpa [m_cmp] using q2
            rw [if_pos (by omega)]
            refine s_khget rfl hc (m_dec (by decide +kernel : m_get 27 48 = some (.getstatic 80, 3))) (m_dec (by decide +kernel : m_get 27 51 = some (.iload_n 1, 1))) (m_dec (by decide +kernel : m_get 27 52 = some (.iaload, 1))) rfl ⟨q, q2⟩ ?_
            exact s_goto (tgt := 57) hc (m_dec (by decide +kernel : m_get 27 53 = some (.goto 4, 3))) (by decide) (ret 57 _ (by decide +kernel) (by split <;> decide))
      · rw [if_neg h1]
        by_cases h2 : cv = 119
        · rw [if_pos h2]
          refine s_lookup (tgt := 58) hc hsw hcv (by decide) (by simp [Op.lookupswitch.offset, h2, m_jmp]) ?_
          refine s_iload_n (v := iv) hc (m_dec (by decide +kernel : m_get 27 58 = some (.iload_n 1, 1))) rfl ?_
          refine s_if (tgt := 66) hc (m_dec (by decide +kernel : m_get 27 59 = some (.ifCond .ne 7, 3))) (by decide) hiv (fun q => ?_) (fun q => ?_)
          · have q : ¬ iv = 0 := by simpa [m_cmp] using q
            rw [if_neg q]
            exact s_iconst hc (m_dec (by decide +kernel : m_get 27 66 = some (.iconst 2, 1))) (ret 67 2 (by decide +kernel) (by decide))
          · have q : iv = 0 := by simpa [m_cmp] using q
            rw [if_pos q]
            exact s_iconst hc (m_dec (by decide +kernel : m_get 27 62 = some (.iconst 3, 1))) (s_goto (tgt := 67) hc (m_dec (by decide +kernel : m_get 27 63 = some (.goto 4, 3))) (by decide) (ret 67 3 (by decide +kernel) (by decide)))
        · rw [if_neg h2]
          by_cases h3 : cv = 115
          · rw [if_pos h3]
            refine s_lookup (tgt := 68) hc hsw hcv (by decide) (by simp [Op.lookupswitch.offset, h3, m_jmp]) ?_
            refine s_iload_n (v := iv) hc (m_dec (by decide +kernel : m_get 27 68 = some (.iload_n 1, 1))) rfl ?_
            refine s_if (tgt := 77) hc (m_dec (by decide +kernel : m_get 27 69 = some (.ifCond .ne 8, 3))) (by decide) hiv (fun q => ?_) (fun q => ?_)
            · have q : ¬ iv = 0 := by simpa [m_cmp] using q
              rw [if_neg q]
              exact s_iconst hc (m_dec (by decide +kernel : m_get 27 77 = some (.iconst 4, 1))) (ret 78 4 (by decide +kernel) (by decide))
            · have q : iv = 0 := by simpa [m_cmp] using q
              rw [if_pos q]
              exact s_bipush hc (m_dec (by decide +kernel : m_get 27 72 = some (.bipush 9, 2))) (by decide) (s_goto (tgt := 78) hc (m_dec (by decide +kernel : m_get 27 74 = some (.goto 4, 3))) (by decide) (ret 78 9 (by decide +kernel) (by decide)))
          · rw [if_neg h3]
            refine s_lookup (tgt := 79) hc hsw hcv (by decide) (by simp [Op.lookupswitch.offset, m_jmp]; omega) ?_
            exact s_bipush hc (m_dec (by decide +kernel : m_get 27 79 = some (.bipush 9, 2))) (by decide) (ret 81 9 (by decide +kernel) (by decide))
    · cases hpv
  · cases hpv
