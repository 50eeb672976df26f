/-! THE LITTLE MACHINE: ints are Int (a result outside of the 32 bits stops it), references are places in a list of cells; what it does, the real one does (part 10) -/
abbrev mV : Type := Option (Int ⊕ Nat)
abbrev mH : Type := List (Nat × List Int)
abbrev mI (k : Int) : mV := some (.inl k)
abbrev mR (a : Nat) : mV := some (.inr a)
def m_in (x : Int) : Bool := decide (-2147483648 ≤ x) && decide (x ≤ 2147483647)
def m_cmp (c : ClassFile.Cond) (a b : Int) : Bool := match c with
  | .eq => decide (a = b)
  | .ne => decide (¬ a = b)
  | .lt => decide (a < b)
  | .ge => decide (b ≤ a)
  | .gt => decide (b < a)
  | .le => decide (a ≤ b)
def m_and (a b : Int) : Int := (Int32.ofInt a &&& Int32.ofInt b).toInt
def m_or (a b : Int) : Int := (Int32.ofInt a ||| Int32.ofInt b).toInt
def m_xor (a b : Int) : Int := (Int32.ofInt a ^^^ Int32.ofInt b).toInt
def m_shl (a b : Int) : Int := (Int32.ofInt a <<< (Int32.ofInt b &&& 31)).toInt
def m_shr (a b : Int) : Int := (Int32.ofInt a >>> (Int32.ofInt b &&& 31)).toInt
def m_ushr (a b : Int) : Int := ((Int32.ofInt a).toUInt32 >>> ((Int32.ofInt b).toUInt32 &&& Int32.toUInt32 31)).toInt32.toInt
def m_jmp (pc : Nat) (off : Int) : Option Nat := if 0 ≤ (pc : Int) + off then some ((pc : Int) + off).toNat else none
def m_def (ci : Nat) : List Int := (m_tagL ci).map (fun t => if t = 2 then -1 else 0)
/-- what a slot of a kind (0 int, 1 boolean, 2 reference) gives -/
def m_ld (t : Nat) (v : Int) : Option mV := if t = 2 then (if v < 0 then none else some (mR v.toNat)) else some (mI v)
/-- what is put into a slot -/
def m_st (t : Nat) (v : mV) : Option Int := match v with
  | some (.inl k) => if t = 0 then some k else if t = 1 then (if k = 0 ∨ k = 1 then some k else none) else none
  | some (.inr a) => if t = 2 ∧ m_in (a : Int) = true then some (a : Int) else none
  | none => none
def m_bin (f : Int → Int → Int) (st : List mV) : Option (List mV) := match st with
  | some (.inl b) :: some (.inl a) :: r => if m_in (f a b) then some (mI (f a b) :: r) else none
  | _ => none
def m_set (H : mH) (a k : Nat) (v : Int) : mH := H.modify a (fun c => (c.1, c.2.set k v))
def m_aget (H : mH) (kind : Nat) (st : List mV) : Option (Int × List mV) := match st with
  | some (.inl i) :: some (.inr a) :: r => match H[a]? with
    | some (k, fs) => if k = kind ∧ 0 ≤ i then (fs[i.toNat]?).map (fun v => (v, r)) else none
    | none => none
  | _ => none
def m_aput (H : mH) (kind t : Nat) (st : List mV) : Option (List mV × mH) := match st with
  | v :: some (.inl i) :: some (.inr a) :: r => match H[a]? with
    | some (k, fs) => if k = kind ∧ 0 ≤ i ∧ i.toNat < fs.length then (m_st t v).map (fun x => (r, m_set H a i.toNat x)) else none
    | none => none
  | _ => none
def m_isL (H : mH) (v : mV) : Bool := match v with
  | some (.inr a) => match H[a]? with
    | some (k, _) => k == 2
    | none => false
  | _ => false
/-- one step of an instruction that neither calls nor returns -/
def m_next (y : Nat) (i : Instr) (len pc : Nat) (ls st : List mV) (H : mH) : Option (Nat × List mV × List mV × mH) := match i with
  | .iconst n => if m_in n then some (pc + len, ls, mI n :: st, H) else none
  | .bipush n => if -128 ≤ n ∧ n ≤ 127 then some (pc + len, ls, mI n :: st, H) else none
  | .sipush n => if -32768 ≤ n ∧ n ≤ 32767 then some (pc + len, ls, mI n :: st, H) else none
  | .ldc_w x => match m_cn (m_own y) x with
    | some v => if m_in v then some (pc + len, ls, mI v :: st, H) else none
    | none => none
  | .iload_n k => match ls[(k : Nat)]? with
    | some (some (.inl v)) => some (pc + len, ls, mI v :: st, H)
    | _ => none
  | .iload k => match ls[k]? with
    | some (some (.inl v)) => some (pc + len, ls, mI v :: st, H)
    | _ => none
  | .aload_n k => match ls[(k : Nat)]? with
    | some (some (.inr v)) => some (pc + len, ls, mR v :: st, H)
    | _ => none
  | .istore_n k => match st with
    | some (.inl v) :: r => if (k : Nat) < ls.length then some (pc + len, ls.set k (mI v), r, H) else none
    | _ => none
  | .istore k => match st with
    | some (.inl v) :: r => if k < ls.length then some (pc + len, ls.set k (mI v), r, H) else none
    | _ => none
  | .astore_n k => match st with
    | some (.inr v) :: r => if (k : Nat) < ls.length then some (pc + len, ls.set k (mR v), r, H) else none
    | _ => none
  | .iinc k n => match ls[k]? with
    | some (some (.inl v)) => if m_in (v + n) then some (pc + len, ls.set k (mI (v + n)), st, H) else none
    | _ => none
  | .iadd => (m_bin (fun a b => a + b) st).map (fun r => (pc + len, ls, r, H))
  | .isub => (m_bin (fun a b => a - b) st).map (fun r => (pc + len, ls, r, H))
  | .imul => (m_bin (fun a b => a * b) st).map (fun r => (pc + len, ls, r, H))
  | .idiv => match st with
    | some (.inl b) :: some (.inl a) :: r => if b = 0 ∨ b = -1 then none else some (pc + len, ls, mI (a.tdiv b) :: r, H)
    | _ => none
  | .irem => match st with
    | some (.inl b) :: some (.inl a) :: r => if b = 0 ∨ b = -1 then none else some (pc + len, ls, mI (a.tmod b) :: r, H)
    | _ => none
  | .iand => match st with
    | some (.inl b) :: some (.inl a) :: r => some (pc + len, ls, mI (m_and a b) :: r, H)
    | _ => none
  | .ior => match st with
    | some (.inl b) :: some (.inl a) :: r => some (pc + len, ls, mI (m_or a b) :: r, H)
    | _ => none
  | .ixor => match st with
    | some (.inl b) :: some (.inl a) :: r => some (pc + len, ls, mI (m_xor a b) :: r, H)
    | _ => none
  | .ishl => match st with
    | some (.inl b) :: some (.inl a) :: r => some (pc + len, ls, mI (m_shl a b) :: r, H)
    | _ => none
  | .ishr => match st with
    | some (.inl b) :: some (.inl a) :: r => some (pc + len, ls, mI (m_shr a b) :: r, H)
    | _ => none
  | .iushr => match st with
    | some (.inl b) :: some (.inl a) :: r => some (pc + len, ls, mI (m_ushr a b) :: r, H)
    | _ => none
  | .dup => match st with
    | some v :: r => some (pc + len, ls, some v :: some v :: r, H)
    | _ => none
  | .dup2 => match st with
    | some v :: some w :: r => some (pc + len, ls, some v :: some w :: some v :: some w :: r, H)
    | _ => none
  | .ifCond c off => match st with
    | some (.inl a) :: r => if m_cmp c a 0 then (m_jmp pc off).map (fun t => (t, ls, r, H)) else some (pc + len, ls, r, H)
    | _ => none
  | .if_icmp c off => match st with
    | some (.inl b) :: some (.inl a) :: r => if m_cmp c a b then (m_jmp pc off).map (fun t => (t, ls, r, H)) else some (pc + len, ls, r, H)
    | _ => none
  | .goto off => (m_jmp pc off).map (fun t => (t, ls, st, H))
  | .tableswitch d lo hi offs => match st with
    | some (.inl a) :: r => (if a < lo ∨ hi < a then m_jmp pc d else (offs[(a - lo).toNat]?).bind (m_jmp pc)).map (fun t => (t, ls, r, H))
    | _ => none
  | .lookupswitch d ps => match st with
    | some (.inl a) :: r => if (ps.toList.zip (ps.toList.drop 1)).all (fun (a, next) => a.1 < next.1) then (m_jmp pc (Op.lookupswitch.offset ps.toList d a)).map (fun t => (t, ls, r, H)) else none
    | _ => none
  | .getfield x => match m_fl (m_own y) x, st with
    | some (ci, k), some (.inr a) :: r => match H[a]? with
      | some (kd, fs) => if kd = ci then (match fs[k]?, (m_tagL ci)[k]? with
        | some v, some t => (m_ld t v).map (fun w => (pc + len, ls, w :: r, H))
        | _, _ => none) else none
      | none => none
    | _, _ => none
  | .putfield x => match m_fl (m_own y) x, st with
    | some (ci, k), v :: some (.inr a) :: r => match H[a]? with
      | some (kd, fs) => if kd = ci ∧ k < fs.length ∧ (((m_C ci).2.1 k).2.2.2 = true → (m_nm y).name = "<init>" ∧ m_cR (m_own y) = (m_C ci).1) then (match (m_tagL ci)[k]? with
        | some t => (m_st t v).map (fun w => (pc + len, ls, r, m_set H a k w))
        | none => none) else none
      | none => none
    | _, _ => none
  | .iaload => (m_aget H 8 st).map (fun q => (pc + len, ls, mI q.1 :: q.2, H))
  | .baload => (m_aget H 9 st).map (fun q => (pc + len, ls, mI q.1 :: q.2, H))
  | .aaload => (m_aget H 10 st).bind (fun q => (m_ld 2 q.1).map (fun w => (pc + len, ls, w :: q.2, H)))
  | .iastore => (m_aput H 8 0 st).map (fun q => (pc + len, ls, q.1, q.2))
  | .bastore => (m_aput H 9 1 st).map (fun q => (pc + len, ls, q.1, q.2))
  | .aastore => if m_isL H (st.headD none) then (m_aput H 10 2 st).map (fun q => (pc + len, ls, q.1, q.2)) else none
  | .arraylength => match st with
    | some (.inr a) :: r => match H[a]? with
      | some (kd, fs) => if (kd = 8 ∨ kd = 9 ∨ kd = 10) ∧ m_in (fs.length : Int) then some (pc + len, ls, mI (fs.length : Int) :: r, H) else none
      | none => none
    | _ => none
  | .new x => match m_cl (m_own y) x with
    | some ci => some (pc + len, ls, mR H.length :: st, H ++ [(ci, m_def ci)])
    | none => none
  | .newarray t => match st with
    | some (.inl n) :: r => if 0 ≤ n ∧ n ≤ 100000 then (match t with
      | .int => some (pc + len, ls, mR H.length :: r, H ++ [(8, List.replicate n.toNat 0)])
      | .boolean => some (pc + len, ls, mR H.length :: r, H ++ [(9, List.replicate n.toNat 0)])
      | _ => none) else none
    | _ => none
  | .anewarray x => match m_cl (m_own y) x, st with
    | some ci, some (.inl n) :: r => if ci = 2 ∧ 0 ≤ n ∧ n ≤ 100000 then some (pc + len, ls, mR H.length :: r, H ++ [(10, List.replicate n.toNat (-1))]) else none
    | _, _ => none
  | _ => none
/-- arraycopy of ints -/
def m_cpy (f g : List Int) (sp dp n : Nat) : List Int := g.take dp ++ ((f.drop sp).take n ++ g.drop (dp + n))
/-- the calls that no code of ours answers: Object.<init>, arraycopy, max, min -/
def m_blt (k : Nat) (st : List mV) (H : mH) : Option (List mV × mH) := match k with
  | 5 => match st with
    | some (.inr _) :: r => some (r, H)
    | _ => none
  | 6 => match st with
    | some (.inl n) :: some (.inl dp) :: some (.inr b) :: some (.inl sp) :: some (.inr a) :: r => match H[a]?, H[b]? with
      | some (ka, f), some (kb, g) => if ka = 8 ∧ kb = 8 ∧ 0 ≤ n ∧ 0 ≤ dp ∧ 0 ≤ sp ∧ sp + n ≤ f.length ∧ dp + n ≤ g.length then some (r, H.modify b (fun c => (c.1, m_cpy f g sp.toNat dp.toNat n.toNat))) else none
      | _, _ => none
    | _ => none
  | 7 => match st with
    | some (.inl b) :: some (.inl a) :: r => some (mI (if a < b then b else a) :: r, H)
    | _ => none
  | 8 => match st with
    | some (.inl b) :: some (.inl a) :: r => some (mI (if b < a then b else a) :: r, H)
    | _ => none
  | _ => none
/-- numbersOf (25), highestOf (27): they read a static array -/
def m_pv (y : Nat) (args : List mV) : Option mV := match args with
  | [some (.inl c)] => if y = 25 then some (mI (if c = 107 then 6 else if c = 115 ∨ c = 119 then 2 else 1)) else none
  | [some (.inl c), some (.inl i)] => if y = 27 then some (mI (if c = 107 then (if 0 ≤ i ∧ i < 6 then (if i = 4 then 5 else 9) else -1) else if c = 119 then (if i = 0 then 3 else 2) else if c = 115 then (if i = 0 then 9 else 4) else 9)) else none
  | _ => none
def m_inv (i : Instr) : Option (Nat × Nat) := match i with
  | .invokevirtual x => some (0, x)
  | .invokestatic x => some (1, x)
  | .invokespecial x => some (2, x)
  | _ => none
/-- the kind of a call fits its instruction -/
def m_fit (j k : Nat) : Bool := (j == 0 && k == 0) || (j == 1 && (k == 1 || k == 3 || k == 6 || k == 7 || k == 8)) || (j == 2 && (k == 2 || k == 4 || k == 5))
/-- the receiver is an object of the method's own class -/
def m_rcv (k y : Nat) (args : List mV) (H : mH) : Bool := match k with
  | 0 => match args with
    | some (.inr a) :: _ => match H[a]? with
      | some (kd, _) => kd == m_own y
      | none => false
    | _ => false
  | 1 => true
  | 3 => true
  | _ => match args with
    | some (.inr _) :: _ => true
    | _ => false
def m_rok (y : Nat) (v : Int) : Bool := decide (m_rt y = some .int) || (decide (m_rt y = some .boolean) && (v == 0 || v == 1))
/-- the run of a method from a place on: its answer (none: void) and the cells -/
def ev : Nat → Nat → Nat → Nat → List mV → List mV → mH → Option (mV × mH)
  | 0, _, _, _, _, _, _ => none
  | N + 1, d, y, pc, ls, st, H => match m_get y pc with
    | none => none
    | some (i, len) => match i with
      | .return_ => if st = [] ∧ m_rt y = none then some (none, H) else none
      | .ireturn => match st with
        | [some (.inl v)] => if m_rok y v then some (mI v, H) else none
        | _ => none
      | i => match m_inv i with
        | none => match m_next y i len pc ls st H with
          | some (pc', ls', st', H') => ev N d y pc' ls' st' H'
          | none => none
        | some (j, x) => match m_ml (m_own y) x, d with
          | some (k, z), d + 1 => if len = 3 ∧ m_fit j k = true then (if 5 ≤ k then (match m_blt k st H with
              | some (st', H') => if st'.length ≤ 8 then ev N (d + 1) y (pc + 3) ls st' H' else none
              | none => none)
            else if m_na z ≤ st.length ∧ (st.drop (m_na z)).length ≤ 8 ∧ m_rcv k z (st.take (m_na z)).reverse H = true then
              (if m_prim z then (match m_pv z (st.take (m_na z)).reverse with
                | some r => ev N (d + 1) y (pc + 3) ls (r :: st.drop (m_na z)) H
                | none => none)
              else match ev N d z 0 ((st.take (m_na z)).reverse ++ List.replicate (m_mx z - m_na z) none) [] H with
                | some (r, H') => ev N (d + 1) y (pc + 3) ls ((match r with
                  | none => []
                  | some v => [some v]) ++ st.drop (m_na z)) H'
                | none => none)
            else none) else none
          | _, _ => none
