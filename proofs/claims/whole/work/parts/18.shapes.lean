/-! rules by shape (printed by gen4.py) -/
section ES
variable {d y pc pc' : Nat} {st rest : List mV} {H : mH} {r : mV} {H1 : mH} {ls : List mV}
theorem E_st0 {w : mV} {v : Int} (hg : m_get y pc = some (.istore_n 0, 1)) (hp : pc + 1 = pc') (h : Ev d y pc' (mI v :: rest) st H r H1) : Ev d y pc (w :: rest) (mI v :: st) H r H1 := E_istore_n hg (by show _ < List.length _; simp only [List.length_cons]; (first | omega | (show 3 < _; omega) | (show 2 < _; omega) | (show 1 < _; omega) | (show 0 < _; omega))) rfl hp h
theorem E_sa0 {w : mV} {v : Nat} (hg : m_get y pc = some (.astore_n 0, 1)) (hp : pc + 1 = pc') (h : Ev d y pc' (mR v :: rest) st H r H1) : Ev d y pc (w :: rest) (mR v :: st) H r H1 := E_astore_n hg (by show _ < List.length _; simp only [List.length_cons]; (first | omega | (show 3 < _; omega) | (show 2 < _; omega) | (show 1 < _; omega) | (show 0 < _; omega))) rfl hp h
theorem E_in0 {v n : Int} (hg : m_get y pc = some (.iinc 0 n, 3)) (hp : pc + 3 = pc') (hn : m_in (v + n) = true) (h : Ev d y pc' (mI (v + n) :: rest) st H r H1) : Ev d y pc (mI v :: rest) st H r H1 := E_iinc hg rfl hn rfl hp h
theorem E_st1 {u0 w : mV} {v : Int} (hg : m_get y pc = some (.istore_n 1, 1)) (hp : pc + 1 = pc') (h : Ev d y pc' (u0 :: mI v :: rest) st H r H1) : Ev d y pc (u0 :: w :: rest) (mI v :: st) H r H1 := E_istore_n hg (by show _ < List.length _; simp only [List.length_cons]; (first | omega | (show 3 < _; omega) | (show 2 < _; omega) | (show 1 < _; omega) | (show 0 < _; omega))) rfl hp h
theorem E_sa1 {u0 w : mV} {v : Nat} (hg : m_get y pc = some (.astore_n 1, 1)) (hp : pc + 1 = pc') (h : Ev d y pc' (u0 :: mR v :: rest) st H r H1) : Ev d y pc (u0 :: w :: rest) (mR v :: st) H r H1 := E_astore_n hg (by show _ < List.length _; simp only [List.length_cons]; (first | omega | (show 3 < _; omega) | (show 2 < _; omega) | (show 1 < _; omega) | (show 0 < _; omega))) rfl hp h
theorem E_in1 {u0 : mV} {v n : Int} (hg : m_get y pc = some (.iinc 1 n, 3)) (hp : pc + 3 = pc') (hn : m_in (v + n) = true) (h : Ev d y pc' (u0 :: mI (v + n) :: rest) st H r H1) : Ev d y pc (u0 :: mI v :: rest) st H r H1 := E_iinc hg rfl hn rfl hp h
theorem E_st2 {u0 u1 w : mV} {v : Int} (hg : m_get y pc = some (.istore_n 2, 1)) (hp : pc + 1 = pc') (h : Ev d y pc' (u0 :: u1 :: mI v :: rest) st H r H1) : Ev d y pc (u0 :: u1 :: w :: rest) (mI v :: st) H r H1 := E_istore_n hg (by show _ < List.length _; simp only [List.length_cons]; (first | omega | (show 3 < _; omega) | (show 2 < _; omega) | (show 1 < _; omega) | (show 0 < _; omega))) rfl hp h
theorem E_sa2 {u0 u1 w : mV} {v : Nat} (hg : m_get y pc = some (.astore_n 2, 1)) (hp : pc + 1 = pc') (h : Ev d y pc' (u0 :: u1 :: mR v :: rest) st H r H1) : Ev d y pc (u0 :: u1 :: w :: rest) (mR v :: st) H r H1 := E_astore_n hg (by show _ < List.length _; simp only [List.length_cons]; (first | omega | (show 3 < _; omega) | (show 2 < _; omega) | (show 1 < _; omega) | (show 0 < _; omega))) rfl hp h
theorem E_in2 {u0 u1 : mV} {v n : Int} (hg : m_get y pc = some (.iinc 2 n, 3)) (hp : pc + 3 = pc') (hn : m_in (v + n) = true) (h : Ev d y pc' (u0 :: u1 :: mI (v + n) :: rest) st H r H1) : Ev d y pc (u0 :: u1 :: mI v :: rest) st H r H1 := E_iinc hg rfl hn rfl hp h
theorem E_st3 {u0 u1 u2 w : mV} {v : Int} (hg : m_get y pc = some (.istore_n 3, 1)) (hp : pc + 1 = pc') (h : Ev d y pc' (u0 :: u1 :: u2 :: mI v :: rest) st H r H1) : Ev d y pc (u0 :: u1 :: u2 :: w :: rest) (mI v :: st) H r H1 := E_istore_n hg (by show _ < List.length _; simp only [List.length_cons]; (first | omega | (show 3 < _; omega) | (show 2 < _; omega) | (show 1 < _; omega) | (show 0 < _; omega))) rfl hp h
theorem E_sa3 {u0 u1 u2 w : mV} {v : Nat} (hg : m_get y pc = some (.astore_n 3, 1)) (hp : pc + 1 = pc') (h : Ev d y pc' (u0 :: u1 :: u2 :: mR v :: rest) st H r H1) : Ev d y pc (u0 :: u1 :: u2 :: w :: rest) (mR v :: st) H r H1 := E_astore_n hg (by show _ < List.length _; simp only [List.length_cons]; (first | omega | (show 3 < _; omega) | (show 2 < _; omega) | (show 1 < _; omega) | (show 0 < _; omega))) rfl hp h
theorem E_in3 {u0 u1 u2 : mV} {v n : Int} (hg : m_get y pc = some (.iinc 3 n, 3)) (hp : pc + 3 = pc') (hn : m_in (v + n) = true) (h : Ev d y pc' (u0 :: u1 :: u2 :: mI (v + n) :: rest) st H r H1) : Ev d y pc (u0 :: u1 :: u2 :: mI v :: rest) st H r H1 := E_iinc hg rfl hn rfl hp h
theorem E_st4 {u0 u1 u2 u3 w : mV} {v : Int} (hg : m_get y pc = some (.istore 4, 2)) (hp : pc + 2 = pc') (h : Ev d y pc' (u0 :: u1 :: u2 :: u3 :: mI v :: rest) st H r H1) : Ev d y pc (u0 :: u1 :: u2 :: u3 :: w :: rest) (mI v :: st) H r H1 := E_istore hg (by simp) rfl hp h
theorem E_in4 {u0 u1 u2 u3 : mV} {v n : Int} (hg : m_get y pc = some (.iinc 4 n, 3)) (hp : pc + 3 = pc') (hn : m_in (v + n) = true) (h : Ev d y pc' (u0 :: u1 :: u2 :: u3 :: mI (v + n) :: rest) st H r H1) : Ev d y pc (u0 :: u1 :: u2 :: u3 :: mI v :: rest) st H r H1 := E_iinc hg rfl hn rfl hp h
theorem E_st5 {u0 u1 u2 u3 u4 w : mV} {v : Int} (hg : m_get y pc = some (.istore 5, 2)) (hp : pc + 2 = pc') (h : Ev d y pc' (u0 :: u1 :: u2 :: u3 :: u4 :: mI v :: rest) st H r H1) : Ev d y pc (u0 :: u1 :: u2 :: u3 :: u4 :: w :: rest) (mI v :: st) H r H1 := E_istore hg (by simp) rfl hp h
theorem E_in5 {u0 u1 u2 u3 u4 : mV} {v n : Int} (hg : m_get y pc = some (.iinc 5 n, 3)) (hp : pc + 3 = pc') (hn : m_in (v + n) = true) (h : Ev d y pc' (u0 :: u1 :: u2 :: u3 :: u4 :: mI (v + n) :: rest) st H r H1) : Ev d y pc (u0 :: u1 :: u2 :: u3 :: u4 :: mI v :: rest) st H r H1 := E_iinc hg rfl hn rfl hp h
theorem E_st6 {u0 u1 u2 u3 u4 u5 w : mV} {v : Int} (hg : m_get y pc = some (.istore 6, 2)) (hp : pc + 2 = pc') (h : Ev d y pc' (u0 :: u1 :: u2 :: u3 :: u4 :: u5 :: mI v :: rest) st H r H1) : Ev d y pc (u0 :: u1 :: u2 :: u3 :: u4 :: u5 :: w :: rest) (mI v :: st) H r H1 := E_istore hg (by simp) rfl hp h
theorem E_in6 {u0 u1 u2 u3 u4 u5 : mV} {v n : Int} (hg : m_get y pc = some (.iinc 6 n, 3)) (hp : pc + 3 = pc') (hn : m_in (v + n) = true) (h : Ev d y pc' (u0 :: u1 :: u2 :: u3 :: u4 :: u5 :: mI (v + n) :: rest) st H r H1) : Ev d y pc (u0 :: u1 :: u2 :: u3 :: u4 :: u5 :: mI v :: rest) st H r H1 := E_iinc hg rfl hn rfl hp h
theorem E_st7 {u0 u1 u2 u3 u4 u5 u6 w : mV} {v : Int} (hg : m_get y pc = some (.istore 7, 2)) (hp : pc + 2 = pc') (h : Ev d y pc' (u0 :: u1 :: u2 :: u3 :: u4 :: u5 :: u6 :: mI v :: rest) st H r H1) : Ev d y pc (u0 :: u1 :: u2 :: u3 :: u4 :: u5 :: u6 :: w :: rest) (mI v :: st) H r H1 := E_istore hg (by simp) rfl hp h
theorem E_in7 {u0 u1 u2 u3 u4 u5 u6 : mV} {v n : Int} (hg : m_get y pc = some (.iinc 7 n, 3)) (hp : pc + 3 = pc') (hn : m_in (v + n) = true) (h : Ev d y pc' (u0 :: u1 :: u2 :: u3 :: u4 :: u5 :: u6 :: mI (v + n) :: rest) st H r H1) : Ev d y pc (u0 :: u1 :: u2 :: u3 :: u4 :: u5 :: u6 :: mI v :: rest) st H r H1 := E_iinc hg rfl hn rfl hp h
theorem E_st8 {u0 u1 u2 u3 u4 u5 u6 u7 w : mV} {v : Int} (hg : m_get y pc = some (.istore 8, 2)) (hp : pc + 2 = pc') (h : Ev d y pc' (u0 :: u1 :: u2 :: u3 :: u4 :: u5 :: u6 :: u7 :: mI v :: rest) st H r H1) : Ev d y pc (u0 :: u1 :: u2 :: u3 :: u4 :: u5 :: u6 :: u7 :: w :: rest) (mI v :: st) H r H1 := E_istore hg (by simp) rfl hp h
theorem E_in8 {u0 u1 u2 u3 u4 u5 u6 u7 : mV} {v n : Int} (hg : m_get y pc = some (.iinc 8 n, 3)) (hp : pc + 3 = pc') (hn : m_in (v + n) = true) (h : Ev d y pc' (u0 :: u1 :: u2 :: u3 :: u4 :: u5 :: u6 :: u7 :: mI (v + n) :: rest) st H r H1) : Ev d y pc (u0 :: u1 :: u2 :: u3 :: u4 :: u5 :: u6 :: u7 :: mI v :: rest) st H r H1 := E_iinc hg rfl hn rfl hp h
theorem E_st9 {u0 u1 u2 u3 u4 u5 u6 u7 u8 w : mV} {v : Int} (hg : m_get y pc = some (.istore 9, 2)) (hp : pc + 2 = pc') (h : Ev d y pc' (u0 :: u1 :: u2 :: u3 :: u4 :: u5 :: u6 :: u7 :: u8 :: mI v :: rest) st H r H1) : Ev d y pc (u0 :: u1 :: u2 :: u3 :: u4 :: u5 :: u6 :: u7 :: u8 :: w :: rest) (mI v :: st) H r H1 := E_istore hg (by simp) rfl hp h
theorem E_in9 {u0 u1 u2 u3 u4 u5 u6 u7 u8 : mV} {v n : Int} (hg : m_get y pc = some (.iinc 9 n, 3)) (hp : pc + 3 = pc') (hn : m_in (v + n) = true) (h : Ev d y pc' (u0 :: u1 :: u2 :: u3 :: u4 :: u5 :: u6 :: u7 :: u8 :: mI (v + n) :: rest) st H r H1) : Ev d y pc (u0 :: u1 :: u2 :: u3 :: u4 :: u5 :: u6 :: u7 :: u8 :: mI v :: rest) st H r H1 := E_iinc hg rfl hn rfl hp h
theorem E_cV0i {v : Int} {x z a o d' : Nat} {fs : List Int} {H2 : mH} (hg : m_get y pc = some (.invokevirtual x, 3)) (hm : m_ml (m_own y) x = some (0, z)) (hn : m_na z = 1) (hpz : m_prim z = false) (ho : m_own z = o) (hp : pc + 3 = pc') (h8 : st.length ≤ 8) (ha : H[a]? = some (o, fs)) (hC : Call d' z [mR a] H (mI v) H2) (hd : d' ≤ d) (h : Ev (d + 1) y pc' ls (mI v :: st) H2 r H1) : Ev (d + 1) y pc ls (mR a :: st) H r H1 := by
  have := E_call (av := [mR a]) (st := st) hg rfl hm rfl (by decide) hpz hn hp h8 hd (by simp [m_rcv, ha, ho]) hC h
  simpa using this
theorem E_cV0v {x z a o d' : Nat} {fs : List Int} {H2 : mH} (hg : m_get y pc = some (.invokevirtual x, 3)) (hm : m_ml (m_own y) x = some (0, z)) (hn : m_na z = 1) (hpz : m_prim z = false) (ho : m_own z = o) (hp : pc + 3 = pc') (h8 : st.length ≤ 8) (ha : H[a]? = some (o, fs)) (hC : Call d' z [mR a] H none H2) (hd : d' ≤ d) (h : Ev (d + 1) y pc' ls (st) H2 r H1) : Ev (d + 1) y pc ls (mR a :: st) H r H1 := by
  have := E_call (av := [mR a]) (st := st) hg rfl hm rfl (by decide) hpz hn hp h8 hd (by simp [m_rcv, ha, ho]) hC h
  simpa using this
theorem E_cV1i {v1 : mV} {v : Int} {x z a o d' : Nat} {fs : List Int} {H2 : mH} (hg : m_get y pc = some (.invokevirtual x, 3)) (hm : m_ml (m_own y) x = some (0, z)) (hn : m_na z = 2) (hpz : m_prim z = false) (ho : m_own z = o) (hp : pc + 3 = pc') (h8 : st.length ≤ 8) (ha : H[a]? = some (o, fs)) (hC : Call d' z [mR a, v1] H (mI v) H2) (hd : d' ≤ d) (h : Ev (d + 1) y pc' ls (mI v :: st) H2 r H1) : Ev (d + 1) y pc ls (v1 :: mR a :: st) H r H1 := by
  have := E_call (av := [mR a, v1]) (st := st) hg rfl hm rfl (by decide) hpz hn hp h8 hd (by simp [m_rcv, ha, ho]) hC h
  simpa using this
theorem E_cS1i {v1 : mV} {v : Int} {x z d' : Nat} {H2 : mH} (hg : m_get y pc = some (.invokestatic x, 3)) (hm : m_ml (m_own y) x = some (1, z)) (hn : m_na z = 1) (hpz : m_prim z = false) (hp : pc + 3 = pc') (h8 : st.length ≤ 8) (hC : Call d' z [v1] H (mI v) H2) (hd : d' ≤ d) (h : Ev (d + 1) y pc' ls (mI v :: st) H2 r H1) : Ev (d + 1) y pc ls (v1 :: st) H r H1 := by
  have := E_call (av := [v1]) (st := st) hg rfl hm rfl (by decide) hpz hn hp h8 hd rfl hC h
  simpa using this
theorem E_cN1i {v1 : mV} {v : Int} {x z d' : Nat} {H2 : mH} (hg : m_get y pc = some (.invokestatic x, 3)) (hm : m_ml (m_own y) x = some (3, z)) (hn : m_na z = 1) (hpz : m_prim z = false) (hp : pc + 3 = pc') (h8 : st.length ≤ 8) (hC : Call d' z [v1] H (mI v) H2) (hd : d' ≤ d) (h : Ev (d + 1) y pc' ls (mI v :: st) H2 r H1) : Ev (d + 1) y pc ls (v1 :: st) H r H1 := by
  have := E_call (av := [v1]) (st := st) hg rfl hm rfl (by decide) hpz hn hp h8 hd rfl hC h
  simpa using this
theorem E_cV1v {v1 : mV} {x z a o d' : Nat} {fs : List Int} {H2 : mH} (hg : m_get y pc = some (.invokevirtual x, 3)) (hm : m_ml (m_own y) x = some (0, z)) (hn : m_na z = 2) (hpz : m_prim z = false) (ho : m_own z = o) (hp : pc + 3 = pc') (h8 : st.length ≤ 8) (ha : H[a]? = some (o, fs)) (hC : Call d' z [mR a, v1] H none H2) (hd : d' ≤ d) (h : Ev (d + 1) y pc' ls (st) H2 r H1) : Ev (d + 1) y pc ls (v1 :: mR a :: st) H r H1 := by
  have := E_call (av := [mR a, v1]) (st := st) hg rfl hm rfl (by decide) hpz hn hp h8 hd (by simp [m_rcv, ha, ho]) hC h
  simpa using this
theorem E_cS1v {v1 : mV} {x z d' : Nat} {H2 : mH} (hg : m_get y pc = some (.invokestatic x, 3)) (hm : m_ml (m_own y) x = some (1, z)) (hn : m_na z = 1) (hpz : m_prim z = false) (hp : pc + 3 = pc') (h8 : st.length ≤ 8) (hC : Call d' z [v1] H none H2) (hd : d' ≤ d) (h : Ev (d + 1) y pc' ls (st) H2 r H1) : Ev (d + 1) y pc ls (v1 :: st) H r H1 := by
  have := E_call (av := [v1]) (st := st) hg rfl hm rfl (by decide) hpz hn hp h8 hd rfl hC h
  simpa using this
theorem E_cN1v {v1 : mV} {x z d' : Nat} {H2 : mH} (hg : m_get y pc = some (.invokestatic x, 3)) (hm : m_ml (m_own y) x = some (3, z)) (hn : m_na z = 1) (hpz : m_prim z = false) (hp : pc + 3 = pc') (h8 : st.length ≤ 8) (hC : Call d' z [v1] H none H2) (hd : d' ≤ d) (h : Ev (d + 1) y pc' ls (st) H2 r H1) : Ev (d + 1) y pc ls (v1 :: st) H r H1 := by
  have := E_call (av := [v1]) (st := st) hg rfl hm rfl (by decide) hpz hn hp h8 hd rfl hC h
  simpa using this
theorem E_cV2i {v1 v2 : mV} {v : Int} {x z a o d' : Nat} {fs : List Int} {H2 : mH} (hg : m_get y pc = some (.invokevirtual x, 3)) (hm : m_ml (m_own y) x = some (0, z)) (hn : m_na z = 3) (hpz : m_prim z = false) (ho : m_own z = o) (hp : pc + 3 = pc') (h8 : st.length ≤ 8) (ha : H[a]? = some (o, fs)) (hC : Call d' z [mR a, v1, v2] H (mI v) H2) (hd : d' ≤ d) (h : Ev (d + 1) y pc' ls (mI v :: st) H2 r H1) : Ev (d + 1) y pc ls (v2 :: v1 :: mR a :: st) H r H1 := by
  have := E_call (av := [mR a, v1, v2]) (st := st) hg rfl hm rfl (by decide) hpz hn hp h8 hd (by simp [m_rcv, ha, ho]) hC h
  simpa using this
theorem E_cS2i {v1 v2 : mV} {v : Int} {x z d' : Nat} {H2 : mH} (hg : m_get y pc = some (.invokestatic x, 3)) (hm : m_ml (m_own y) x = some (1, z)) (hn : m_na z = 2) (hpz : m_prim z = false) (hp : pc + 3 = pc') (h8 : st.length ≤ 8) (hC : Call d' z [v1, v2] H (mI v) H2) (hd : d' ≤ d) (h : Ev (d + 1) y pc' ls (mI v :: st) H2 r H1) : Ev (d + 1) y pc ls (v2 :: v1 :: st) H r H1 := by
  have := E_call (av := [v1, v2]) (st := st) hg rfl hm rfl (by decide) hpz hn hp h8 hd rfl hC h
  simpa using this
theorem E_cN2i {v1 v2 : mV} {v : Int} {x z d' : Nat} {H2 : mH} (hg : m_get y pc = some (.invokestatic x, 3)) (hm : m_ml (m_own y) x = some (3, z)) (hn : m_na z = 2) (hpz : m_prim z = false) (hp : pc + 3 = pc') (h8 : st.length ≤ 8) (hC : Call d' z [v1, v2] H (mI v) H2) (hd : d' ≤ d) (h : Ev (d + 1) y pc' ls (mI v :: st) H2 r H1) : Ev (d + 1) y pc ls (v2 :: v1 :: st) H r H1 := by
  have := E_call (av := [v1, v2]) (st := st) hg rfl hm rfl (by decide) hpz hn hp h8 hd rfl hC h
  simpa using this
theorem E_cV2v {v1 v2 : mV} {x z a o d' : Nat} {fs : List Int} {H2 : mH} (hg : m_get y pc = some (.invokevirtual x, 3)) (hm : m_ml (m_own y) x = some (0, z)) (hn : m_na z = 3) (hpz : m_prim z = false) (ho : m_own z = o) (hp : pc + 3 = pc') (h8 : st.length ≤ 8) (ha : H[a]? = some (o, fs)) (hC : Call d' z [mR a, v1, v2] H none H2) (hd : d' ≤ d) (h : Ev (d + 1) y pc' ls (st) H2 r H1) : Ev (d + 1) y pc ls (v2 :: v1 :: mR a :: st) H r H1 := by
  have := E_call (av := [mR a, v1, v2]) (st := st) hg rfl hm rfl (by decide) hpz hn hp h8 hd (by simp [m_rcv, ha, ho]) hC h
  simpa using this
theorem E_cS2v {v1 v2 : mV} {x z d' : Nat} {H2 : mH} (hg : m_get y pc = some (.invokestatic x, 3)) (hm : m_ml (m_own y) x = some (1, z)) (hn : m_na z = 2) (hpz : m_prim z = false) (hp : pc + 3 = pc') (h8 : st.length ≤ 8) (hC : Call d' z [v1, v2] H none H2) (hd : d' ≤ d) (h : Ev (d + 1) y pc' ls (st) H2 r H1) : Ev (d + 1) y pc ls (v2 :: v1 :: st) H r H1 := by
  have := E_call (av := [v1, v2]) (st := st) hg rfl hm rfl (by decide) hpz hn hp h8 hd rfl hC h
  simpa using this
theorem E_cN2v {v1 v2 : mV} {x z d' : Nat} {H2 : mH} (hg : m_get y pc = some (.invokestatic x, 3)) (hm : m_ml (m_own y) x = some (3, z)) (hn : m_na z = 2) (hpz : m_prim z = false) (hp : pc + 3 = pc') (h8 : st.length ≤ 8) (hC : Call d' z [v1, v2] H none H2) (hd : d' ≤ d) (h : Ev (d + 1) y pc' ls (st) H2 r H1) : Ev (d + 1) y pc ls (v2 :: v1 :: st) H r H1 := by
  have := E_call (av := [v1, v2]) (st := st) hg rfl hm rfl (by decide) hpz hn hp h8 hd rfl hC h
  simpa using this
theorem E_cV3i {v1 v2 v3 : mV} {v : Int} {x z a o d' : Nat} {fs : List Int} {H2 : mH} (hg : m_get y pc = some (.invokevirtual x, 3)) (hm : m_ml (m_own y) x = some (0, z)) (hn : m_na z = 4) (hpz : m_prim z = false) (ho : m_own z = o) (hp : pc + 3 = pc') (h8 : st.length ≤ 8) (ha : H[a]? = some (o, fs)) (hC : Call d' z [mR a, v1, v2, v3] H (mI v) H2) (hd : d' ≤ d) (h : Ev (d + 1) y pc' ls (mI v :: st) H2 r H1) : Ev (d + 1) y pc ls (v3 :: v2 :: v1 :: mR a :: st) H r H1 := by
  have := E_call (av := [mR a, v1, v2, v3]) (st := st) hg rfl hm rfl (by decide) hpz hn hp h8 hd (by simp [m_rcv, ha, ho]) hC h
  simpa using this
theorem E_cS3i {v1 v2 v3 : mV} {v : Int} {x z d' : Nat} {H2 : mH} (hg : m_get y pc = some (.invokestatic x, 3)) (hm : m_ml (m_own y) x = some (1, z)) (hn : m_na z = 3) (hpz : m_prim z = false) (hp : pc + 3 = pc') (h8 : st.length ≤ 8) (hC : Call d' z [v1, v2, v3] H (mI v) H2) (hd : d' ≤ d) (h : Ev (d + 1) y pc' ls (mI v :: st) H2 r H1) : Ev (d + 1) y pc ls (v3 :: v2 :: v1 :: st) H r H1 := by
  have := E_call (av := [v1, v2, v3]) (st := st) hg rfl hm rfl (by decide) hpz hn hp h8 hd rfl hC h
  simpa using this
theorem E_cN3i {v1 v2 v3 : mV} {v : Int} {x z d' : Nat} {H2 : mH} (hg : m_get y pc = some (.invokestatic x, 3)) (hm : m_ml (m_own y) x = some (3, z)) (hn : m_na z = 3) (hpz : m_prim z = false) (hp : pc + 3 = pc') (h8 : st.length ≤ 8) (hC : Call d' z [v1, v2, v3] H (mI v) H2) (hd : d' ≤ d) (h : Ev (d + 1) y pc' ls (mI v :: st) H2 r H1) : Ev (d + 1) y pc ls (v3 :: v2 :: v1 :: st) H r H1 := by
  have := E_call (av := [v1, v2, v3]) (st := st) hg rfl hm rfl (by decide) hpz hn hp h8 hd rfl hC h
  simpa using this
theorem E_cV3v {v1 v2 v3 : mV} {x z a o d' : Nat} {fs : List Int} {H2 : mH} (hg : m_get y pc = some (.invokevirtual x, 3)) (hm : m_ml (m_own y) x = some (0, z)) (hn : m_na z = 4) (hpz : m_prim z = false) (ho : m_own z = o) (hp : pc + 3 = pc') (h8 : st.length ≤ 8) (ha : H[a]? = some (o, fs)) (hC : Call d' z [mR a, v1, v2, v3] H none H2) (hd : d' ≤ d) (h : Ev (d + 1) y pc' ls (st) H2 r H1) : Ev (d + 1) y pc ls (v3 :: v2 :: v1 :: mR a :: st) H r H1 := by
  have := E_call (av := [mR a, v1, v2, v3]) (st := st) hg rfl hm rfl (by decide) hpz hn hp h8 hd (by simp [m_rcv, ha, ho]) hC h
  simpa using this
theorem E_cS3v {v1 v2 v3 : mV} {x z d' : Nat} {H2 : mH} (hg : m_get y pc = some (.invokestatic x, 3)) (hm : m_ml (m_own y) x = some (1, z)) (hn : m_na z = 3) (hpz : m_prim z = false) (hp : pc + 3 = pc') (h8 : st.length ≤ 8) (hC : Call d' z [v1, v2, v3] H none H2) (hd : d' ≤ d) (h : Ev (d + 1) y pc' ls (st) H2 r H1) : Ev (d + 1) y pc ls (v3 :: v2 :: v1 :: st) H r H1 := by
  have := E_call (av := [v1, v2, v3]) (st := st) hg rfl hm rfl (by decide) hpz hn hp h8 hd rfl hC h
  simpa using this
theorem E_cN3v {v1 v2 v3 : mV} {x z d' : Nat} {H2 : mH} (hg : m_get y pc = some (.invokestatic x, 3)) (hm : m_ml (m_own y) x = some (3, z)) (hn : m_na z = 3) (hpz : m_prim z = false) (hp : pc + 3 = pc') (h8 : st.length ≤ 8) (hC : Call d' z [v1, v2, v3] H none H2) (hd : d' ≤ d) (h : Ev (d + 1) y pc' ls (st) H2 r H1) : Ev (d + 1) y pc ls (v3 :: v2 :: v1 :: st) H r H1 := by
  have := E_call (av := [v1, v2, v3]) (st := st) hg rfl hm rfl (by decide) hpz hn hp h8 hd rfl hC h
  simpa using this
theorem E_cV4i {v1 v2 v3 v4 : mV} {v : Int} {x z a o d' : Nat} {fs : List Int} {H2 : mH} (hg : m_get y pc = some (.invokevirtual x, 3)) (hm : m_ml (m_own y) x = some (0, z)) (hn : m_na z = 5) (hpz : m_prim z = false) (ho : m_own z = o) (hp : pc + 3 = pc') (h8 : st.length ≤ 8) (ha : H[a]? = some (o, fs)) (hC : Call d' z [mR a, v1, v2, v3, v4] H (mI v) H2) (hd : d' ≤ d) (h : Ev (d + 1) y pc' ls (mI v :: st) H2 r H1) : Ev (d + 1) y pc ls (v4 :: v3 :: v2 :: v1 :: mR a :: st) H r H1 := by
  have := E_call (av := [mR a, v1, v2, v3, v4]) (st := st) hg rfl hm rfl (by decide) hpz hn hp h8 hd (by simp [m_rcv, ha, ho]) hC h
  simpa using this
theorem E_cS4i {v1 v2 v3 v4 : mV} {v : Int} {x z d' : Nat} {H2 : mH} (hg : m_get y pc = some (.invokestatic x, 3)) (hm : m_ml (m_own y) x = some (1, z)) (hn : m_na z = 4) (hpz : m_prim z = false) (hp : pc + 3 = pc') (h8 : st.length ≤ 8) (hC : Call d' z [v1, v2, v3, v4] H (mI v) H2) (hd : d' ≤ d) (h : Ev (d + 1) y pc' ls (mI v :: st) H2 r H1) : Ev (d + 1) y pc ls (v4 :: v3 :: v2 :: v1 :: st) H r H1 := by
  have := E_call (av := [v1, v2, v3, v4]) (st := st) hg rfl hm rfl (by decide) hpz hn hp h8 hd rfl hC h
  simpa using this
theorem E_cN4i {v1 v2 v3 v4 : mV} {v : Int} {x z d' : Nat} {H2 : mH} (hg : m_get y pc = some (.invokestatic x, 3)) (hm : m_ml (m_own y) x = some (3, z)) (hn : m_na z = 4) (hpz : m_prim z = false) (hp : pc + 3 = pc') (h8 : st.length ≤ 8) (hC : Call d' z [v1, v2, v3, v4] H (mI v) H2) (hd : d' ≤ d) (h : Ev (d + 1) y pc' ls (mI v :: st) H2 r H1) : Ev (d + 1) y pc ls (v4 :: v3 :: v2 :: v1 :: st) H r H1 := by
  have := E_call (av := [v1, v2, v3, v4]) (st := st) hg rfl hm rfl (by decide) hpz hn hp h8 hd rfl hC h
  simpa using this
theorem E_cV4v {v1 v2 v3 v4 : mV} {x z a o d' : Nat} {fs : List Int} {H2 : mH} (hg : m_get y pc = some (.invokevirtual x, 3)) (hm : m_ml (m_own y) x = some (0, z)) (hn : m_na z = 5) (hpz : m_prim z = false) (ho : m_own z = o) (hp : pc + 3 = pc') (h8 : st.length ≤ 8) (ha : H[a]? = some (o, fs)) (hC : Call d' z [mR a, v1, v2, v3, v4] H none H2) (hd : d' ≤ d) (h : Ev (d + 1) y pc' ls (st) H2 r H1) : Ev (d + 1) y pc ls (v4 :: v3 :: v2 :: v1 :: mR a :: st) H r H1 := by
  have := E_call (av := [mR a, v1, v2, v3, v4]) (st := st) hg rfl hm rfl (by decide) hpz hn hp h8 hd (by simp [m_rcv, ha, ho]) hC h
  simpa using this
theorem E_cS4v {v1 v2 v3 v4 : mV} {x z d' : Nat} {H2 : mH} (hg : m_get y pc = some (.invokestatic x, 3)) (hm : m_ml (m_own y) x = some (1, z)) (hn : m_na z = 4) (hpz : m_prim z = false) (hp : pc + 3 = pc') (h8 : st.length ≤ 8) (hC : Call d' z [v1, v2, v3, v4] H none H2) (hd : d' ≤ d) (h : Ev (d + 1) y pc' ls (st) H2 r H1) : Ev (d + 1) y pc ls (v4 :: v3 :: v2 :: v1 :: st) H r H1 := by
  have := E_call (av := [v1, v2, v3, v4]) (st := st) hg rfl hm rfl (by decide) hpz hn hp h8 hd rfl hC h
  simpa using this
theorem E_cN4v {v1 v2 v3 v4 : mV} {x z d' : Nat} {H2 : mH} (hg : m_get y pc = some (.invokestatic x, 3)) (hm : m_ml (m_own y) x = some (3, z)) (hn : m_na z = 4) (hpz : m_prim z = false) (hp : pc + 3 = pc') (h8 : st.length ≤ 8) (hC : Call d' z [v1, v2, v3, v4] H none H2) (hd : d' ≤ d) (h : Ev (d + 1) y pc' ls (st) H2 r H1) : Ev (d + 1) y pc ls (v4 :: v3 :: v2 :: v1 :: st) H r H1 := by
  have := E_call (av := [v1, v2, v3, v4]) (st := st) hg rfl hm rfl (by decide) hpz hn hp h8 hd rfl hC h
  simpa using this
theorem E_cV5i {v1 v2 v3 v4 v5 : mV} {v : Int} {x z a o d' : Nat} {fs : List Int} {H2 : mH} (hg : m_get y pc = some (.invokevirtual x, 3)) (hm : m_ml (m_own y) x = some (0, z)) (hn : m_na z = 6) (hpz : m_prim z = false) (ho : m_own z = o) (hp : pc + 3 = pc') (h8 : st.length ≤ 8) (ha : H[a]? = some (o, fs)) (hC : Call d' z [mR a, v1, v2, v3, v4, v5] H (mI v) H2) (hd : d' ≤ d) (h : Ev (d + 1) y pc' ls (mI v :: st) H2 r H1) : Ev (d + 1) y pc ls (v5 :: v4 :: v3 :: v2 :: v1 :: mR a :: st) H r H1 := by
  have := E_call (av := [mR a, v1, v2, v3, v4, v5]) (st := st) hg rfl hm rfl (by decide) hpz hn hp h8 hd (by simp [m_rcv, ha, ho]) hC h
  simpa using this
theorem E_cS5i {v1 v2 v3 v4 v5 : mV} {v : Int} {x z d' : Nat} {H2 : mH} (hg : m_get y pc = some (.invokestatic x, 3)) (hm : m_ml (m_own y) x = some (1, z)) (hn : m_na z = 5) (hpz : m_prim z = false) (hp : pc + 3 = pc') (h8 : st.length ≤ 8) (hC : Call d' z [v1, v2, v3, v4, v5] H (mI v) H2) (hd : d' ≤ d) (h : Ev (d + 1) y pc' ls (mI v :: st) H2 r H1) : Ev (d + 1) y pc ls (v5 :: v4 :: v3 :: v2 :: v1 :: st) H r H1 := by
  have := E_call (av := [v1, v2, v3, v4, v5]) (st := st) hg rfl hm rfl (by decide) hpz hn hp h8 hd rfl hC h
  simpa using this
theorem E_cN5i {v1 v2 v3 v4 v5 : mV} {v : Int} {x z d' : Nat} {H2 : mH} (hg : m_get y pc = some (.invokestatic x, 3)) (hm : m_ml (m_own y) x = some (3, z)) (hn : m_na z = 5) (hpz : m_prim z = false) (hp : pc + 3 = pc') (h8 : st.length ≤ 8) (hC : Call d' z [v1, v2, v3, v4, v5] H (mI v) H2) (hd : d' ≤ d) (h : Ev (d + 1) y pc' ls (mI v :: st) H2 r H1) : Ev (d + 1) y pc ls (v5 :: v4 :: v3 :: v2 :: v1 :: st) H r H1 := by
  have := E_call (av := [v1, v2, v3, v4, v5]) (st := st) hg rfl hm rfl (by decide) hpz hn hp h8 hd rfl hC h
  simpa using this
theorem E_cV5v {v1 v2 v3 v4 v5 : mV} {x z a o d' : Nat} {fs : List Int} {H2 : mH} (hg : m_get y pc = some (.invokevirtual x, 3)) (hm : m_ml (m_own y) x = some (0, z)) (hn : m_na z = 6) (hpz : m_prim z = false) (ho : m_own z = o) (hp : pc + 3 = pc') (h8 : st.length ≤ 8) (ha : H[a]? = some (o, fs)) (hC : Call d' z [mR a, v1, v2, v3, v4, v5] H none H2) (hd : d' ≤ d) (h : Ev (d + 1) y pc' ls (st) H2 r H1) : Ev (d + 1) y pc ls (v5 :: v4 :: v3 :: v2 :: v1 :: mR a :: st) H r H1 := by
  have := E_call (av := [mR a, v1, v2, v3, v4, v5]) (st := st) hg rfl hm rfl (by decide) hpz hn hp h8 hd (by simp [m_rcv, ha, ho]) hC h
  simpa using this
theorem E_cS5v {v1 v2 v3 v4 v5 : mV} {x z d' : Nat} {H2 : mH} (hg : m_get y pc = some (.invokestatic x, 3)) (hm : m_ml (m_own y) x = some (1, z)) (hn : m_na z = 5) (hpz : m_prim z = false) (hp : pc + 3 = pc') (h8 : st.length ≤ 8) (hC : Call d' z [v1, v2, v3, v4, v5] H none H2) (hd : d' ≤ d) (h : Ev (d + 1) y pc' ls (st) H2 r H1) : Ev (d + 1) y pc ls (v5 :: v4 :: v3 :: v2 :: v1 :: st) H r H1 := by
  have := E_call (av := [v1, v2, v3, v4, v5]) (st := st) hg rfl hm rfl (by decide) hpz hn hp h8 hd rfl hC h
  simpa using this
theorem E_cN5v {v1 v2 v3 v4 v5 : mV} {x z d' : Nat} {H2 : mH} (hg : m_get y pc = some (.invokestatic x, 3)) (hm : m_ml (m_own y) x = some (3, z)) (hn : m_na z = 5) (hpz : m_prim z = false) (hp : pc + 3 = pc') (h8 : st.length ≤ 8) (hC : Call d' z [v1, v2, v3, v4, v5] H none H2) (hd : d' ≤ d) (h : Ev (d + 1) y pc' ls (st) H2 r H1) : Ev (d + 1) y pc ls (v5 :: v4 :: v3 :: v2 :: v1 :: st) H r H1 := by
  have := E_call (av := [v1, v2, v3, v4, v5]) (st := st) hg rfl hm rfl (by decide) hpz hn hp h8 hd rfl hC h
  simpa using this
theorem E_prim1 {v1 : mV} {v : Int} {x z : Nat} (hg : m_get y pc = some (.invokestatic x, 3)) (hm : m_ml (m_own y) x = some (1, z)) (hn : m_na z = 1) (hpz : m_prim z = true) (hp : pc + 3 = pc') (h8 : st.length ≤ 8) (hC : m_pv z [v1] = some (mI v)) (h : Ev (d + 1) y pc' ls (mI v :: st) H r H1) : Ev (d + 1) y pc ls (v1 :: st) H r H1 := by
  have := E_prim (av := [v1]) (st := st) hg rfl hm rfl (by decide) hpz hn hp h8 rfl hC h
  simpa using this
theorem E_prim2 {v1 v2 : mV} {v : Int} {x z : Nat} (hg : m_get y pc = some (.invokestatic x, 3)) (hm : m_ml (m_own y) x = some (1, z)) (hn : m_na z = 2) (hpz : m_prim z = true) (hp : pc + 3 = pc') (h8 : st.length ≤ 8) (hC : m_pv z [v1, v2] = some (mI v)) (h : Ev (d + 1) y pc' ls (mI v :: st) H r H1) : Ev (d + 1) y pc ls (v2 :: v1 :: st) H r H1 := by
  have := E_prim (av := [v1, v2]) (st := st) hg rfl hm rfl (by decide) hpz hn hp h8 rfl hC h
  simpa using this
theorem E_max {a b : Int} {x z : Nat} (hg : m_get y pc = some (.invokestatic x, 3)) (hm : m_ml (m_own y) x = some (7, z)) (hp : pc + 3 = pc') (h8 : st.length ≤ 7) (h : Ev (d + 1) y pc' ls (mI (max a b) :: st) H r H1) : Ev (d + 1) y pc ls (mI b :: mI a :: st) H r H1 := by
  refine E_blt (st' := mI (max a b) :: st) (H2 := H) hg rfl hm rfl (by decide) hp ?_ (by simp; omega) h
  have : (if a < b then b else a) = max a b := by omega
  simp [m_blt, this]
theorem E_min {a b : Int} {x z : Nat} (hg : m_get y pc = some (.invokestatic x, 3)) (hm : m_ml (m_own y) x = some (8, z)) (hp : pc + 3 = pc') (h8 : st.length ≤ 7) (h : Ev (d + 1) y pc' ls (mI (min a b) :: st) H r H1) : Ev (d + 1) y pc ls (mI b :: mI a :: st) H r H1 := by
  refine E_blt (st' := mI (min a b) :: st) (H2 := H) hg rfl hm rfl (by decide) hp ?_ (by simp; omega) h
  have : (if b < a then b else a) = min a b := by omega
  simp [m_blt, this]
/-- arraycopy of a whole row -/
theorem E_copy {a b x z : Nat} {n : Int} {f g : List Int} (hg : m_get y pc = some (.invokestatic x, 3)) (hm : m_ml (m_own y) x = some (6, z)) (hp : pc + 3 = pc') (h8 : st.length ≤ 8) (ha : H[a]? = some (8, f)) (hb : H[b]? = some (8, g)) (hf : (f.length : Int) = n) (hgl : (g.length : Int) = n) (h : Ev (d + 1) y pc' ls st (pt H b f) r H1) : Ev (d + 1) y pc ls (mI n :: mI 0 :: mR b :: mI 0 :: mR a :: st) H r H1 := by
  refine E_blt (st' := st) (H2 := pt H b f) hg rfl hm rfl (by decide) hp ?_ h8 h
  have e1 : n.toNat = f.length := by omega
  have e2 : n.toNat = g.length := by omega
  have e3 : m_cpy f g 0 0 n.toNat = f := by
    unfold m_cpy
    rw [e1]
    simp
    omega
  have h0 : 0 ≤ n := by omega
  simp [m_blt, ha, hb, hf, hgl, h0, pt, e3]
end ES
