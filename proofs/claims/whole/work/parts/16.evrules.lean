/-! runs from a place on: rules -/
theorem ev_mono : ∀ (N d y pc : Nat) (ls st : List mV) (H : mH) (x : mV × mH), ev N d y pc ls st H = some x → ∀ (M e : Nat), N ≤ M → d ≤ e → ev M e y pc ls st H = some x := by
  intro N
  induction N with
  | zero => intro d y pc ls st H x h; cases h
  | succ N ih =>
    intro d y pc ls st H x h M e hM he
    obtain ⟨M, rfl⟩ : ∃ M', M = M' + 1 := ⟨M - 1, by omega⟩
    have hM' : N ≤ M := by omega
    cases hg : m_get y pc with
    | none => simp only [ev, hg] at h; cases h
    | some q =>
      obtain ⟨i, len⟩ := q
      by_cases m1 : i = .return_
      · subst m1
        simp only [ev, hg] at h ⊢
        exact h
      by_cases m2 : i = .ireturn
      · subst m2
        simp only [ev, hg] at h ⊢
        exact h
      simp only [ev, hg] at h ⊢
      · · split at h
          · rename_i hinv
            try rw [hinv]
            try simp only
            split at h
            · rename_i hnext
              try rw [hnext]
              exact ih _ _ _ _ _ _ _ h M e hM' he
            · cases h
          · rename_i j xx hinv
            try rw [hinv]
            try simp only
            split at h
            · rename_i k z d0 hml
              obtain ⟨e, rfl⟩ : ∃ e', e = e' + 1 := ⟨e - 1, by omega⟩
              try rw [hml]
              try simp only
              split at h
              · rename_i hfit
                rw [if_pos hfit]
                split at h
                · rename_i hk
                  rw [if_pos hk]
                  split at h
                  · rename_i hblt
                    try rw [hblt]
                    try simp only
                    split at h
                    · rename_i h8
                      rw [if_pos h8]
                      exact ih _ _ _ _ _ _ _ h M _ hM' (by omega)
                    · cases h
                  · cases h
                · rename_i hk
                  rw [if_neg hk]
                  split at h
                  · rename_i hc
                    rw [if_pos hc]
                    split at h
                    · rename_i hp
                      rw [if_pos hp]
                      split at h
                      · rename_i hpv
                        try rw [hpv]
                        exact ih _ _ _ _ _ _ _ h M _ hM' (by omega)
                      · cases h
                    · rename_i hp
                      rw [if_neg hp]
                      split at h
                      · rename_i hev
                        rw [ih _ _ _ _ _ _ _ hev M e hM' (by omega)]
                        exact ih _ _ _ _ _ _ _ h M _ hM' (by omega)
                      · cases h
                  · cases h
              · cases h
            · cases h
def Ev (d y pc : Nat) (ls st : List mV) (H : mH) (r : mV) (H1 : mH) : Prop := ∃ N, ev N d y pc ls st H = some (r, H1)
theorem Call_up {d e y : Nat} {av : List mV} {H : mH} {r : mV} {H1 : mH} (h : Call d y av H r H1) (he : d ≤ e) : Call e y av H r H1 := by
  obtain ⟨N, h⟩ := h
  exact ⟨N, ev_mono _ _ _ _ _ _ _ _ h N e (Nat.le_refl _) he⟩
theorem Call_of {d y : Nat} {av ls : List mV} {H : mH} {r : mV} {H1 : mH} (hl : av ++ List.replicate (m_mx y - m_na y) none = ls) (h : Ev d y 0 ls [] H r H1) : Call d y av H r H1 := by
  obtain ⟨N, h⟩ := h
  exact ⟨N, by rw [hl]; exact h⟩
theorem Ev_cast {d y pc : Nat} {ls ls' st st' : List mV} {H H' : mH} {r : mV} {H1 : mH} (h : Ev d y pc ls st H r H1) (e1 : ls' = ls) (e2 : H' = H) (e3 : st' = st := by rfl) : Ev d y pc ls' st' H' r H1 := by subst e1; subst e2; subst e3; exact h
/-- the loop rule: down from the end -/
theorem E_loop {n : Nat} (C : Nat → Prop) (hs : ∀ i, i < n → C (i + 1) → C i) (he : C n) : ∀ i, i ≤ n → C i := by
  intro i hi
  obtain ⟨k, hk⟩ : ∃ k, n = i + k := ⟨n - i, by omega⟩
  induction k generalizing i with
  | zero => rw [show i = n by omega]; exact he
  | succ k ih => exact hs i (by omega) (ih (i + 1) (by omega) (by omega))
section EV
variable {d y pc pc' : Nat} {ls st : List mV} {H : mH} {r : mV} {H1 : mH}
theorem E_next {i : Instr} {len : Nat} {ls' st' : List mV} {H' : mH} (hg : m_get y pc = some (i, len)) (hi : m_inv i = none) (n1 : i ≠ .return_) (n2 : i ≠ .ireturn) (hn : m_next y i len pc ls st H = some (pc', ls', st', H')) (h : Ev d y pc' ls' st' H' r H1) : Ev d y pc ls st H r H1 := by
  obtain ⟨N, h⟩ := h
  refine ⟨N + 1, ?_⟩
  simp only [ev, hg, hi, hn]
  exact h
theorem E_iconst {n : Int} (hg : m_get y pc = some (.iconst n, 1)) (hn : m_in n = true) (hp : pc + 1 = pc') (h : Ev d y pc' ls (mI n :: st) H r H1) : Ev d y pc ls st H r H1 :=
  E_next hg rfl (by simp) (by simp) (by simp [m_next, hn, hp]) h
theorem E_bipush {n : Int} (hg : m_get y pc = some (.bipush n, 2)) (hn : -128 ≤ n ∧ n ≤ 127) (hp : pc + 2 = pc') (h : Ev d y pc' ls (mI n :: st) H r H1) : Ev d y pc ls st H r H1 :=
  E_next hg rfl (by simp) (by simp) (by simp [m_next, hn, hp]) h
theorem E_sipush {n : Int} (hg : m_get y pc = some (.sipush n, 3)) (hn : -32768 ≤ n ∧ n ≤ 32767) (hp : pc + 3 = pc') (h : Ev d y pc' ls (mI n :: st) H r H1) : Ev d y pc ls st H r H1 :=
  E_next hg rfl (by simp) (by simp) (by simp [m_next, hn, hp]) h
theorem E_ldcw {x : Nat} {v : Int} (hg : m_get y pc = some (.ldc_w x, 3)) (hv : m_cn (m_own y) x = some v) (hn : m_in v = true) (hp : pc + 3 = pc') (h : Ev d y pc' ls (mI v :: st) H r H1) : Ev d y pc ls st H r H1 :=
  E_next hg rfl (by simp) (by simp) (by simp [m_next, hv, hn, hp]) h
theorem E_iload_n {k : Fin 4} {v : Int} (hg : m_get y pc = some (.iload_n k, 1)) (hv : ls[(k : Nat)]? = some (mI v)) (hp : pc + 1 = pc') (h : Ev d y pc' ls (mI v :: st) H r H1) : Ev d y pc ls st H r H1 :=
  E_next hg rfl (by simp) (by simp) (by simp [m_next, hv, hp]) h
theorem E_iload {k : Nat} {v : Int} (hg : m_get y pc = some (.iload k, 2)) (hv : ls[k]? = some (mI v)) (hp : pc + 2 = pc') (h : Ev d y pc' ls (mI v :: st) H r H1) : Ev d y pc ls st H r H1 :=
  E_next hg rfl (by simp) (by simp) (by simp [m_next, hv, hp]) h
theorem E_aload_n {k : Fin 4} {v : Nat} (hg : m_get y pc = some (.aload_n k, 1)) (hv : ls[(k : Nat)]? = some (mR v)) (hp : pc + 1 = pc') (h : Ev d y pc' ls (mR v :: st) H r H1) : Ev d y pc ls st H r H1 :=
  E_next hg rfl (by simp) (by simp) (by simp [m_next, hv, hp]) h
theorem E_istore_n {k : Fin 4} {v : Int} {ls' : List mV} (hg : m_get y pc = some (.istore_n k, 1)) (hk : (k : Nat) < ls.length) (hl : ls.set (k : Nat) (mI v) = ls') (hp : pc + 1 = pc') (h : Ev d y pc' ls' st H r H1) : Ev d y pc ls (mI v :: st) H r H1 :=
  E_next hg rfl (by simp) (by simp) (by simp only [m_next, hk, hp, if_true]; rw [← hl]) h
theorem E_istore {k : Nat} {v : Int} {ls' : List mV} (hg : m_get y pc = some (.istore k, 2)) (hk : k < ls.length) (hl : ls.set k (mI v) = ls') (hp : pc + 2 = pc') (h : Ev d y pc' ls' st H r H1) : Ev d y pc ls (mI v :: st) H r H1 :=
  E_next hg rfl (by simp) (by simp) (by simp only [m_next, hk, hp, if_true]; rw [← hl]) h
theorem E_astore_n {k : Fin 4} {v : Nat} {ls' : List mV} (hg : m_get y pc = some (.astore_n k, 1)) (hk : (k : Nat) < ls.length) (hl : ls.set (k : Nat) (mR v) = ls') (hp : pc + 1 = pc') (h : Ev d y pc' ls' st H r H1) : Ev d y pc ls (mR v :: st) H r H1 :=
  E_next hg rfl (by simp) (by simp) (by simp only [m_next, hk, hp, if_true]; rw [← hl]) h
theorem E_iinc {k : Nat} {n v : Int} {ls' : List mV} (hg : m_get y pc = some (.iinc k n, 3)) (hv : ls[k]? = some (mI v)) (hn : m_in (v + n) = true) (hl : ls.set k (mI (v + n)) = ls') (hp : pc + 3 = pc') (h : Ev d y pc' ls' st H r H1) : Ev d y pc ls st H r H1 :=
  E_next hg rfl (by simp) (by simp) (by simp only [m_next, hv, hn, hp, if_true]; rw [← hl]) h
theorem E_iadd {a b : Int} (hg : m_get y pc = some (.iadd, 1)) (hn : m_in (a + b) = true) (hp : pc + 1 = pc') (h : Ev d y pc' ls (mI (a + b) :: st) H r H1) : Ev d y pc ls (mI b :: mI a :: st) H r H1 :=
  E_next hg rfl (by simp) (by simp) (by simp [m_next, m_bin, hn, hp]) h
theorem E_isub {a b : Int} (hg : m_get y pc = some (.isub, 1)) (hn : m_in (a - b) = true) (hp : pc + 1 = pc') (h : Ev d y pc' ls (mI (a - b) :: st) H r H1) : Ev d y pc ls (mI b :: mI a :: st) H r H1 :=
  E_next hg rfl (by simp) (by simp) (by simp [m_next, m_bin, hn, hp]) h
theorem E_imul {a b : Int} (hg : m_get y pc = some (.imul, 1)) (hn : m_in (a * b) = true) (hp : pc + 1 = pc') (h : Ev d y pc' ls (mI (a * b) :: st) H r H1) : Ev d y pc ls (mI b :: mI a :: st) H r H1 :=
  E_next hg rfl (by simp) (by simp) (by simp [m_next, m_bin, hn, hp]) h
theorem E_idiv {a b : Int} (hg : m_get y pc = some (.idiv, 1)) (hn : ¬ (b = 0 ∨ b = -1)) (hp : pc + 1 = pc') (h : Ev d y pc' ls (mI (a.tdiv b) :: st) H r H1) : Ev d y pc ls (mI b :: mI a :: st) H r H1 :=
  E_next hg rfl (by simp) (by simp) (by simp only [m_next, hp]; rw [if_neg hn]) h
theorem E_irem {a b : Int} (hg : m_get y pc = some (.irem, 1)) (hn : ¬ (b = 0 ∨ b = -1)) (hp : pc + 1 = pc') (h : Ev d y pc' ls (mI (a.tmod b) :: st) H r H1) : Ev d y pc ls (mI b :: mI a :: st) H r H1 :=
  E_next hg rfl (by simp) (by simp) (by simp only [m_next, hp]; rw [if_neg hn]) h
theorem E_iand {a b : Int} (hg : m_get y pc = some (.iand, 1)) (hp : pc + 1 = pc') (h : Ev d y pc' ls (mI (m_and a b) :: st) H r H1) : Ev d y pc ls (mI b :: mI a :: st) H r H1 :=
  E_next hg rfl (by simp) (by simp) (by simp only [m_next, hp]) h
theorem E_ior {a b : Int} (hg : m_get y pc = some (.ior, 1)) (hp : pc + 1 = pc') (h : Ev d y pc' ls (mI (m_or a b) :: st) H r H1) : Ev d y pc ls (mI b :: mI a :: st) H r H1 :=
  E_next hg rfl (by simp) (by simp) (by simp only [m_next, hp]) h
theorem E_ixor {a b : Int} (hg : m_get y pc = some (.ixor, 1)) (hp : pc + 1 = pc') (h : Ev d y pc' ls (mI (m_xor a b) :: st) H r H1) : Ev d y pc ls (mI b :: mI a :: st) H r H1 :=
  E_next hg rfl (by simp) (by simp) (by simp only [m_next, hp]) h
theorem E_ishl {a b : Int} (hg : m_get y pc = some (.ishl, 1)) (hp : pc + 1 = pc') (h : Ev d y pc' ls (mI (m_shl a b) :: st) H r H1) : Ev d y pc ls (mI b :: mI a :: st) H r H1 :=
  E_next hg rfl (by simp) (by simp) (by simp only [m_next, hp]) h
theorem E_ishr {a b : Int} (hg : m_get y pc = some (.ishr, 1)) (hp : pc + 1 = pc') (h : Ev d y pc' ls (mI (m_shr a b) :: st) H r H1) : Ev d y pc ls (mI b :: mI a :: st) H r H1 :=
  E_next hg rfl (by simp) (by simp) (by simp only [m_next, hp]) h
theorem E_iushr {a b : Int} (hg : m_get y pc = some (.iushr, 1)) (hp : pc + 1 = pc') (h : Ev d y pc' ls (mI (m_ushr a b) :: st) H r H1) : Ev d y pc ls (mI b :: mI a :: st) H r H1 :=
  E_next hg rfl (by simp) (by simp) (by simp only [m_next, hp]) h
theorem E_dup {v : Int ⊕ Nat} (hg : m_get y pc = some (.dup, 1)) (hp : pc + 1 = pc') (h : Ev d y pc' ls (some v :: some v :: st) H r H1) : Ev d y pc ls (some v :: st) H r H1 :=
  E_next hg rfl (by simp) (by simp) (by simp only [m_next, hp]) h
theorem E_dup2 {v w : Int ⊕ Nat} (hg : m_get y pc = some (.dup2, 1)) (hp : pc + 1 = pc') (h : Ev d y pc' ls (some v :: some w :: some v :: some w :: st) H r H1) : Ev d y pc ls (some v :: some w :: st) H r H1 :=
  E_next hg rfl (by simp) (by simp) (by simp only [m_next, hp]) h
theorem E_goto {off : Int} (hg : m_get y pc = some (.goto off, 3)) (hp : m_jmp pc off = some pc') (h : Ev d y pc' ls st H r H1) : Ev d y pc ls st H r H1 :=
  E_next hg rfl (by simp) (by simp) (by simp [m_next, hp]) h
theorem E_if {c : ClassFile.Cond} {off a : Int} {pt : Nat} (hg : m_get y pc = some (.ifCond c off, 3)) (hp : pc + 3 = pc') (ht : m_jmp pc off = some pt) (h1 : m_cmp c a 0 = true → Ev d y pt ls st H r H1) (h2 : m_cmp c a 0 = false → Ev d y pc' ls st H r H1) : Ev d y pc ls (mI a :: st) H r H1 := by
  cases hc : m_cmp c a 0 with
  | true => exact E_next hg rfl (by simp) (by simp) (by simp only [m_next, hc, ht]; rfl) (h1 hc)
  | false => exact E_next hg rfl (by simp) (by simp) (by simp [m_next, hc, hp]) (h2 hc)
theorem E_icmp {c : ClassFile.Cond} {off a b : Int} {pt : Nat} (hg : m_get y pc = some (.if_icmp c off, 3)) (hp : pc + 3 = pc') (ht : m_jmp pc off = some pt) (h1 : m_cmp c a b = true → Ev d y pt ls st H r H1) (h2 : m_cmp c a b = false → Ev d y pc' ls st H r H1) : Ev d y pc ls (mI b :: mI a :: st) H r H1 := by
  cases hc : m_cmp c a b with
  | true => exact E_next hg rfl (by simp) (by simp) (by simp only [m_next, hc, ht]; rfl) (h1 hc)
  | false => exact E_next hg rfl (by simp) (by simp) (by simp [m_next, hc, hp]) (h2 hc)
theorem E_ifeq {off a : Int} {pt : Nat} (hg : m_get y pc = some (.ifCond .eq off, 3)) (hp : pc + 3 = pc') (ht : m_jmp pc off = some pt) (h1 : a = 0 → Ev d y pt ls st H r H1) (h2 : ¬ a = 0 → Ev d y pc' ls st H r H1) : Ev d y pc ls (mI a :: st) H r H1 :=
  E_if hg hp ht (fun q => h1 (by simpa [m_cmp] using q)) (fun q => h2 (by simpa [m_cmp] using q))
theorem E_iceq {off a b : Int} {pt : Nat} (hg : m_get y pc = some (.if_icmp .eq off, 3)) (hp : pc + 3 = pc') (ht : m_jmp pc off = some pt) (h1 : a = b → Ev d y pt ls st H r H1) (h2 : ¬ a = b → Ev d y pc' ls st H r H1) : Ev d y pc ls (mI b :: mI a :: st) H r H1 :=
  E_icmp hg hp ht (fun q => h1 (by simpa [m_cmp] using q)) (fun q => h2 (by simpa [m_cmp] using q))
theorem E_ifne {off a : Int} {pt : Nat} (hg : m_get y pc = some (.ifCond .ne off, 3)) (hp : pc + 3 = pc') (ht : m_jmp pc off = some pt) (h1 : ¬ a = 0 → Ev d y pt ls st H r H1) (h2 : a = 0 → Ev d y pc' ls st H r H1) : Ev d y pc ls (mI a :: st) H r H1 :=
  E_if hg hp ht (fun q => h1 (by simpa [m_cmp] using q)) (fun q => h2 (by simpa [m_cmp] using q))
theorem E_icne {off a b : Int} {pt : Nat} (hg : m_get y pc = some (.if_icmp .ne off, 3)) (hp : pc + 3 = pc') (ht : m_jmp pc off = some pt) (h1 : ¬ a = b → Ev d y pt ls st H r H1) (h2 : a = b → Ev d y pc' ls st H r H1) : Ev d y pc ls (mI b :: mI a :: st) H r H1 :=
  E_icmp hg hp ht (fun q => h1 (by simpa [m_cmp] using q)) (fun q => h2 (by simpa [m_cmp] using q))
theorem E_iflt {off a : Int} {pt : Nat} (hg : m_get y pc = some (.ifCond .lt off, 3)) (hp : pc + 3 = pc') (ht : m_jmp pc off = some pt) (h1 : a < 0 → Ev d y pt ls st H r H1) (h2 : 0 ≤ a → Ev d y pc' ls st H r H1) : Ev d y pc ls (mI a :: st) H r H1 :=
  E_if hg hp ht (fun q => h1 (by simpa [m_cmp] using q)) (fun q => h2 (by simpa [m_cmp] using q))
theorem E_iclt {off a b : Int} {pt : Nat} (hg : m_get y pc = some (.if_icmp .lt off, 3)) (hp : pc + 3 = pc') (ht : m_jmp pc off = some pt) (h1 : a < b → Ev d y pt ls st H r H1) (h2 : b ≤ a → Ev d y pc' ls st H r H1) : Ev d y pc ls (mI b :: mI a :: st) H r H1 :=
  E_icmp hg hp ht (fun q => h1 (by simpa [m_cmp] using q)) (fun q => h2 (by simpa [m_cmp] using q))
theorem E_ifge {off a : Int} {pt : Nat} (hg : m_get y pc = some (.ifCond .ge off, 3)) (hp : pc + 3 = pc') (ht : m_jmp pc off = some pt) (h1 : 0 ≤ a → Ev d y pt ls st H r H1) (h2 : a < 0 → Ev d y pc' ls st H r H1) : Ev d y pc ls (mI a :: st) H r H1 :=
  E_if hg hp ht (fun q => h1 (by simpa [m_cmp] using q)) (fun q => h2 (by simpa [m_cmp] using q))
theorem E_icge {off a b : Int} {pt : Nat} (hg : m_get y pc = some (.if_icmp .ge off, 3)) (hp : pc + 3 = pc') (ht : m_jmp pc off = some pt) (h1 : b ≤ a → Ev d y pt ls st H r H1) (h2 : a < b → Ev d y pc' ls st H r H1) : Ev d y pc ls (mI b :: mI a :: st) H r H1 :=
  E_icmp hg hp ht (fun q => h1 (by simpa [m_cmp] using q)) (fun q => h2 (by simpa [m_cmp] using q))
theorem E_ifgt {off a : Int} {pt : Nat} (hg : m_get y pc = some (.ifCond .gt off, 3)) (hp : pc + 3 = pc') (ht : m_jmp pc off = some pt) (h1 : 0 < a → Ev d y pt ls st H r H1) (h2 : a ≤ 0 → Ev d y pc' ls st H r H1) : Ev d y pc ls (mI a :: st) H r H1 :=
  E_if hg hp ht (fun q => h1 (by simpa [m_cmp] using q)) (fun q => h2 (by simpa [m_cmp] using q))
theorem E_icgt {off a b : Int} {pt : Nat} (hg : m_get y pc = some (.if_icmp .gt off, 3)) (hp : pc + 3 = pc') (ht : m_jmp pc off = some pt) (h1 : b < a → Ev d y pt ls st H r H1) (h2 : a ≤ b → Ev d y pc' ls st H r H1) : Ev d y pc ls (mI b :: mI a :: st) H r H1 :=
  E_icmp hg hp ht (fun q => h1 (by simpa [m_cmp] using q)) (fun q => h2 (by simpa [m_cmp] using q))
theorem E_ifle {off a : Int} {pt : Nat} (hg : m_get y pc = some (.ifCond .le off, 3)) (hp : pc + 3 = pc') (ht : m_jmp pc off = some pt) (h1 : a ≤ 0 → Ev d y pt ls st H r H1) (h2 : 0 < a → Ev d y pc' ls st H r H1) : Ev d y pc ls (mI a :: st) H r H1 :=
  E_if hg hp ht (fun q => h1 (by simpa [m_cmp] using q)) (fun q => h2 (by simpa [m_cmp] using q))
theorem E_icle {off a b : Int} {pt : Nat} (hg : m_get y pc = some (.if_icmp .le off, 3)) (hp : pc + 3 = pc') (ht : m_jmp pc off = some pt) (h1 : a ≤ b → Ev d y pt ls st H r H1) (h2 : b < a → Ev d y pc' ls st H r H1) : Ev d y pc ls (mI b :: mI a :: st) H r H1 :=
  E_icmp hg hp ht (fun q => h1 (by simpa [m_cmp] using q)) (fun q => h2 (by simpa [m_cmp] using q))
theorem E_table {dd lo hi a : Int} {offs : Array Int} {len pt : Nat} (hg : m_get y pc = some (.tableswitch dd lo hi offs, len)) (ht : (if a < lo ∨ hi < a then m_jmp pc dd else (offs[(a - lo).toNat]?).bind (m_jmp pc)) = some pt) (h : Ev d y pt ls st H r H1) : Ev d y pc ls (mI a :: st) H r H1 :=
  E_next hg rfl (by simp) (by simp) (by simp only [m_next, ht]; rfl) h
theorem E_lookup {dd a : Int} {ps : Array (Int × Int)} {len pt : Nat} (hg : m_get y pc = some (.lookupswitch dd ps, len)) (hs : (ps.toList.zip (ps.toList.drop 1)).all (fun (a, next) => a.1 < next.1) = true) (ht : m_jmp pc (Op.lookupswitch.offset ps.toList dd a) = some pt) (h : Ev d y pt ls st H r H1) : Ev d y pc ls (mI a :: st) H r H1 :=
  E_next hg rfl (by simp) (by simp) (by simp only [m_next]; rw [if_pos hs, ht]; rfl) h
theorem E_getI {x ci k a t : Nat} {fs : List Int} {v : Int} (hg : m_get y pc = some (.getfield x, 3)) (hf : m_fl (m_own y) x = some (ci, k)) (ht : (m_tagL ci)[k]? = some t) (ht2 : t ≠ 2) (hp : pc + 3 = pc') (hH : H[a]? = some (ci, fs)) (hv : fs[k]? = some v) (h : Ev d y pc' ls (mI v :: st) H r H1) : Ev d y pc ls (mR a :: st) H r H1 :=
  E_next hg rfl (by simp) (by simp) (by simp [m_next, hf, hH, hv, ht, m_ld, ht2, hp]) h
theorem E_getR {x ci k a b : Nat} {fs : List Int} (hg : m_get y pc = some (.getfield x, 3)) (hf : m_fl (m_own y) x = some (ci, k)) (ht : (m_tagL ci)[k]? = some 2) (hp : pc + 3 = pc') (hH : H[a]? = some (ci, fs)) (hv : fs[k]? = some (b : Int)) (h : Ev d y pc' ls (mR b :: st) H r H1) : Ev d y pc ls (mR a :: st) H r H1 := by
  refine E_next (pc' := pc') (ls' := ls) (st' := mR b :: st) (H' := H) hg rfl (by simp) (by simp) ?_ h
  have : ¬ ((b : Int) < 0) := by omega
  simp [m_next, hf, hH, hv, ht, m_ld, this, hp]
theorem E_putI {x ci k a t : Nat} {fs : List Int} {v : Int} (hg : m_get y pc = some (.putfield x, 3)) (hf : m_fl (m_own y) x = some (ci, k)) (ht : (m_tagL ci)[k]? = some t) (hst : m_st t (mI v) = some v) (hfin : ((m_C ci).2.1 k).2.2.2 = false) (hp : pc + 3 = pc') (hH : H[a]? = some (ci, fs)) (hk : k < fs.length) (h : Ev d y pc' ls st (m_set H a k v) r H1) : Ev d y pc ls (mI v :: mR a :: st) H r H1 :=
  E_next hg rfl (by simp) (by simp) (by simp [m_next, hf, hH, hk, hfin, ht, hst, hp]) h
theorem E_putR {x ci k a b : Nat} {fs : List Int} (hg : m_get y pc = some (.putfield x, 3)) (hf : m_fl (m_own y) x = some (ci, k)) (ht : (m_tagL ci)[k]? = some 2) (hb : m_in (b : Int) = true) (hfin : ((m_C ci).2.1 k).2.2.2 = false) (hp : pc + 3 = pc') (hH : H[a]? = some (ci, fs)) (hk : k < fs.length) (h : Ev d y pc' ls st (m_set H a k (b : Int)) r H1) : Ev d y pc ls (mR b :: mR a :: st) H r H1 :=
  E_next hg rfl (by simp) (by simp) (by simp [m_next, hf, hH, hk, hfin, ht, m_st, hb, hp]) h
/-- a list's value at an int -/
def ix (fs : List Int) (i : Int) : Int := fs.getD i.toNat 0
def up (fs : List Int) (i v : Int) : List Int := fs.set i.toNat v
theorem ix_get {fs : List Int} {i : Int} (h0 : 0 ≤ i) (h : i < fs.length) : fs[i.toNat]? = some (ix fs i) := by
  unfold ix
  rw [List.getD_eq_getElem?_getD, List.getElem?_eq_getElem (by omega)]
  rfl
theorem E_iaload {a : Nat} {fs : List Int} {i : Int} (hg : m_get y pc = some (.iaload, 1)) (hp : pc + 1 = pc') (hH : H[a]? = some (8, fs)) (h0 : 0 ≤ i) (hi : i < fs.length) (h : Ev d y pc' ls (mI (ix fs i) :: st) H r H1) : Ev d y pc ls (mI i :: mR a :: st) H r H1 :=
  E_next hg rfl (by simp) (by simp) (by simp only [m_next, m_aget, hH, h0, ix_get h0 hi, hp]; rfl) h
theorem E_baload {a : Nat} {fs : List Int} {i : Int} (hg : m_get y pc = some (.baload, 1)) (hp : pc + 1 = pc') (hH : H[a]? = some (9, fs)) (h0 : 0 ≤ i) (hi : i < fs.length) (h : Ev d y pc' ls (mI (ix fs i) :: st) H r H1) : Ev d y pc ls (mI i :: mR a :: st) H r H1 :=
  E_next hg rfl (by simp) (by simp) (by simp only [m_next, m_aget, hH, h0, ix_get h0 hi, hp]; rfl) h
theorem E_aaload {a b : Nat} {fs : List Int} {i : Int} (hg : m_get y pc = some (.aaload, 1)) (hp : pc + 1 = pc') (hH : H[a]? = some (10, fs)) (h0 : 0 ≤ i) (hv : fs[i.toNat]? = some (b : Int)) (h : Ev d y pc' ls (mR b :: st) H r H1) : Ev d y pc ls (mI i :: mR a :: st) H r H1 := by
  refine E_next (pc' := pc') (ls' := ls) (st' := mR b :: st) (H' := H) hg rfl (by simp) (by simp) ?_ h
  have : ¬ ((b : Int) < 0) := by omega
  simp [m_next, m_aget, hH, h0, hv, m_ld, this, hp]
/-- a cell's contents anew -/
def pt (H : mH) (a : Nat) (fs : List Int) : mH := H.modify a (fun c => (c.1, fs))
theorem pt_set {H : mH} {a kd k : Nat} {fs : List Int} {v : Int} (hH : H[a]? = some (kd, fs)) : m_set H a k v = pt H a (fs.set k v) := by
  apply List.ext_getElem?
  intro j
  simp only [m_set, pt, List.getElem?_modify]
  by_cases e : a = j
  · subst e; simp [hH]
  · simp [e]
theorem pt_self {H : mH} {a kd : Nat} {fs gs : List Int} (hH : H[a]? = some (kd, fs)) : (pt H a gs)[a]? = some (kd, gs) := by
  simp [pt, List.getElem?_modify, hH]
theorem pt_ne {H : mH} {a b : Nat} {gs : List Int} (h : a ≠ b) : (pt H a gs)[b]? = H[b]? := by
  simp [pt, List.getElem?_modify, h]
theorem pt_pt (H : mH) (a : Nat) (fs gs : List Int) : pt (pt H a fs) a gs = pt H a gs := by
  apply List.ext_getElem?
  intro j
  simp only [pt, List.getElem?_modify]
  by_cases e : a = j
  · subst e; cases H[a]? <;> simp
  · simp [e]
theorem pt_same {H : mH} {a kd : Nat} {fs : List Int} (hH : H[a]? = some (kd, fs)) : pt H a fs = H := by
  apply List.ext_getElem?
  intro j
  simp only [pt, List.getElem?_modify]
  by_cases e : a = j
  · subst e; simp [hH]
  · simp [e]
theorem pt_len (H : mH) (a : Nat) (fs : List Int) : (pt H a fs).length = H.length := by simp [pt]
theorem pt_sz {H : mH} {a kd : Nat} {fs gs : List Int} (hH : H[a]? = some (kd, fs)) (hl : gs.length = fs.length) : m_sz (pt H a gs) = m_sz H := m_modsz H a _ (fun c hc => by rw [hH] at hc; cases hc; exact hl)
theorem E_putf {x ci k a t : Nat} {fs : List Int} {v : Int} (hg : m_get y pc = some (.putfield x, 3)) (hf : m_fl (m_own y) x = some (ci, k)) (ht : (m_tagL ci)[k]? = some t) (hfin : ((m_C ci).2.1 k).2.2.2 = false) (hp : pc + 3 = pc') (hst : m_st t (mI v) = some v) (hH : H[a]? = some (ci, fs)) (hk : k < fs.length) (h : Ev d y pc' ls st (pt H a (fs.set k v)) r H1) : Ev d y pc ls (mI v :: mR a :: st) H r H1 :=
  E_putI hg hf ht hst hfin hp hH hk (by rw [pt_set hH]; exact h)
theorem E_putr {x ci k a b : Nat} {fs : List Int} (hg : m_get y pc = some (.putfield x, 3)) (hf : m_fl (m_own y) x = some (ci, k)) (ht : (m_tagL ci)[k]? = some 2) (hfin : ((m_C ci).2.1 k).2.2.2 = false) (hp : pc + 3 = pc') (hb : m_in (b : Int) = true) (hH : H[a]? = some (ci, fs)) (hk : k < fs.length) (h : Ev d y pc' ls st (pt H a (fs.set k (b : Int))) r H1) : Ev d y pc ls (mR b :: mR a :: st) H r H1 :=
  E_putR hg hf ht hb hfin hp hH hk (by rw [pt_set hH]; exact h)
theorem E_iastore {a : Nat} {fs : List Int} {i v : Int} (hg : m_get y pc = some (.iastore, 1)) (hp : pc + 1 = pc') (hH : H[a]? = some (8, fs)) (h0 : 0 ≤ i) (hi : i < fs.length) (h : Ev d y pc' ls st (pt H a (up fs i v)) r H1) : Ev d y pc ls (mI v :: mI i :: mR a :: st) H r H1 := by
  refine E_next (pc' := pc') (ls' := ls) (st' := st) (H' := m_set H a i.toNat v) hg rfl (by simp) (by simp) ?_ (by rw [pt_set hH]; exact h)
  have : i.toNat < fs.length := by omega
  simp [m_next, m_aput, hH, h0, this, m_st, hp]
theorem E_bastore {a : Nat} {fs : List Int} {i v : Int} (hg : m_get y pc = some (.bastore, 1)) (hp : pc + 1 = pc') (hv : v = 0 ∨ v = 1) (hH : H[a]? = some (9, fs)) (h0 : 0 ≤ i) (hi : i < fs.length) (h : Ev d y pc' ls st (pt H a (up fs i v)) r H1) : Ev d y pc ls (mI v :: mI i :: mR a :: st) H r H1 := by
  refine E_next (pc' := pc') (ls' := ls) (st' := st) (H' := m_set H a i.toNat v) hg rfl (by simp) (by simp) ?_ (by rw [pt_set hH]; exact h)
  have : i.toNat < fs.length := by omega
  simp [m_next, m_aput, hH, h0, this, m_st, hp, hv]
theorem E_alen {a kd : Nat} {fs : List Int} (hg : m_get y pc = some (.arraylength, 1)) (hp : pc + 1 = pc') (hH : H[a]? = some (kd, fs)) (hk : kd = 8 ∨ kd = 9 ∨ kd = 10) (hi : m_in (fs.length : Int) = true) (h : Ev d y pc' ls (mI (fs.length : Int) :: st) H r H1) : Ev d y pc ls (mR a :: st) H r H1 :=
  E_next hg rfl (by simp) (by simp) (by simp [m_next, hH, hk, hi, hp]) h
theorem E_ret (hg : m_get y pc = some (.return_, 1)) (hr : m_rt y = none) (e1 : r = none) (e2 : H1 = H) : Ev d y pc ls [] H r H1 := by
  subst e1; subst e2
  exact ⟨1, by simp [ev, hg, hr]⟩
theorem E_iret {v : Int} (hg : m_get y pc = some (.ireturn, 1)) (hr : m_rok y v = true) (e1 : r = mI v) (e2 : H1 = H) : Ev d y pc ls [mI v] H r H1 := by
  subst e1; subst e2
  exact ⟨1, by simp [ev, hg, hr]⟩
theorem E_call {i : Instr} {j x k z d' : Nat} {av : List mV} {r1 : mV} {H2 : mH} (hg : m_get y pc = some (i, 3)) (hi : m_inv i = some (j, x)) (hm : m_ml (m_own y) x = some (k, z)) (hfit : m_fit j k = true) (hk : ¬ 5 ≤ k) (hpz : m_prim z = false) (hn : m_na z = av.length) (hp : pc + 3 = pc') (h8 : st.length ≤ 8) (hd : d' ≤ d) (hrc : m_rcv k z av H = true) (hC : Call d' z av H r1 H2) (h : Ev (d + 1) y pc' ls (m_push r1 st) H2 r H1) : Ev (d + 1) y pc ls (av.reverse ++ st) H r H1 := by
  obtain ⟨N1, h1⟩ := hC
  obtain ⟨N2, h2⟩ := h
  refine ⟨max N1 N2 + 1, ?_⟩
  have h1' := ev_mono _ _ _ _ _ _ _ _ h1 (max N1 N2) d (by omega) hd
  have h2' := ev_mono _ _ _ _ _ _ _ _ h2 (max N1 N2) (d + 1) (by omega) (by omega)
  have e1 : (av.reverse ++ st).take (m_na z) = av.reverse := by rw [hn, ← List.length_reverse, List.take_left]
  have e2 : (av.reverse ++ st).drop (m_na z) = st := by rw [hn, ← List.length_reverse, List.drop_left]
  have e3 : m_na z ≤ (av.reverse ++ st).length := by simp; omega
  have n1 : i ≠ .return_ := by intro e; rw [e] at hi; cases hi
  have n2 : i ≠ .ireturn := by intro e; rw [e] at hi; cases hi
  simp only [ev, hg]
  · simp only [hi, hm, hfit, e1, e2, e3, List.reverse_reverse, hrc, hpz, h1', h8]
    rw [if_pos (by simp), if_neg hk, if_pos (by simp), if_neg (by simp)]
    subst hp
    exact h2'
theorem E_prim {i : Instr} {j x k z : Nat} {av : List mV} {r1 : mV} (hg : m_get y pc = some (i, 3)) (hi : m_inv i = some (j, x)) (hm : m_ml (m_own y) x = some (k, z)) (hfit : m_fit j k = true) (hk : ¬ 5 ≤ k) (hpz : m_prim z = true) (hn : m_na z = av.length) (hp : pc + 3 = pc') (h8 : st.length ≤ 8) (hrc : m_rcv k z av H = true) (hC : m_pv z av = some r1) (h : Ev (d + 1) y pc' ls (r1 :: st) H r H1) : Ev (d + 1) y pc ls (av.reverse ++ st) H r H1 := by
  obtain ⟨N2, h2⟩ := h
  refine ⟨N2 + 1, ?_⟩
  have e1 : (av.reverse ++ st).take (m_na z) = av.reverse := by rw [hn, ← List.length_reverse, List.take_left]
  have e2 : (av.reverse ++ st).drop (m_na z) = st := by rw [hn, ← List.length_reverse, List.drop_left]
  have e3 : m_na z ≤ (av.reverse ++ st).length := by simp; omega
  have n1 : i ≠ .return_ := by intro e; rw [e] at hi; cases hi
  have n2 : i ≠ .ireturn := by intro e; rw [e] at hi; cases hi
  simp only [ev, hg]
  · simp only [hi, hm, hfit, e1, e2, e3, List.reverse_reverse, hrc, hpz, hC, h8]
    rw [if_pos (by simp), if_neg hk, if_pos (by simp), if_pos (by simp)]
    subst hp
    exact h2
theorem E_blt {i : Instr} {j x k z : Nat} {st' : List mV} {H2 : mH} (hg : m_get y pc = some (i, 3)) (hi : m_inv i = some (j, x)) (hm : m_ml (m_own y) x = some (k, z)) (hfit : m_fit j k = true) (hk : 5 ≤ k) (hp : pc + 3 = pc') (hb : m_blt k st H = some (st', H2)) (h8 : st'.length ≤ 8) (h : Ev (d + 1) y pc' ls st' H2 r H1) : Ev (d + 1) y pc ls st H r H1 := by
  obtain ⟨N2, h2⟩ := h
  refine ⟨N2 + 1, ?_⟩
  have n1 : i ≠ .return_ := by intro e; rw [e] at hi; cases hi
  have n2 : i ≠ .ireturn := by intro e; rw [e] at hi; cases hi
  simp only [ev, hg]
  · simp only [hi, hm, hfit, hb, h8]
    rw [if_pos (by simp), if_pos hk, if_pos (by simp)]
    subst hp
    exact h2
end EV
