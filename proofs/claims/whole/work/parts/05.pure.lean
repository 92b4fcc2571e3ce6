/-! THE PURE MACHINE: objects and rows in a store of numbered cells, a step a function, a method's run a function with fuel -/
abbrev mj_E : Type := (Nat × List Int32) ⊕ (Nat × List Value)
abbrev mj_H : Type := (Nat → Option mj_E) × Nat × Nat
abbrev mj_S : Type := Nat × List Value × List Value × mj_H
abbrev mj_X : Type := mj_S ⊕ (Option Value ⊕ (Nat × List Value × List Value))
def mj_up (h : mj_H) (a : Nat) (e : mj_E) : mj_H := (fun k => if k = a then some e else h.1 k, h.2)
def mj_sz (e : mj_E) : Nat := match e with
  | .inl x => x.2.length
  | .inr x => x.2.length
def mj_new (h : mj_H) (e : mj_E) : mj_H := (fun k => if k = h.2.1 then some e else h.1 k, h.2.1 + 1, h.2.2 + mj_sz e)
def mj_nx (pc : Nat) (ls st : List Value) (h : mj_H) : Option mj_X := some (.inl (pc, ls, st, h))
def mj_okv (ty : FieldType) (v : Value) : Bool := match ty, v with
  | .int, .int _ => true
  | .boolean, .int x => x == 0 || x == 1
  | .long, .long _ => true
  | .object _, .ref _ => true
  | .array _, .ref _ => true
  | _, _ => false
def mj_okr (r : Option FieldType) (x : Int32) : Bool := match r with
  | some .int => true
  | some .boolean => x == 0 || x == 1
  | _ => false
def mj_noL (v : Value) : Bool := v.category == 1
def mj_dfl (a : Nat) : List Value := (List.range (mj_nf a)).map (fun b => defaultValue (mj_ft a b))
def mj_xp : List Value → List Value
  | [] => []
  | v :: vs => if v.category = 2 then v :: .null :: mj_xp vs else v :: mj_xp vs
def mj_ent (j : Nat) (as : List Value) : List Value := mj_xp as ++ List.replicate (mj_m j - (mj_xp as).length) .null
def mj_isC (h : mj_H) (x c : Nat) : Bool := match h.1 x with
  | some (.inr (d, _)) => d == c
  | _ => false
def mj_prev (ls : List Value) (k : Nat) : Bool := match k with
  | 0 => true
  | k + 1 => (match ls[k]? with | some v => mj_noL v | none => true)
def mj_call (a b : Nat) (st : List Value) : Option mj_X :=
  if b ≤ st.length ∧ (st.drop b).length ≤ 4 ∧ (mj_t a = true → (st.take b).all mj_noL = true) ∧ (mj_xp (st.take b).reverse).length ≤ mj_m a then some (.inr (.inr (a, (st.take b).reverse, st.drop b))) else none
def mj_jmp (t : Int) (ls st : List Value) (h : mj_H) : Option mj_X := if 0 ≤ t then mj_nx t.toNat ls st h else none
def mj_cond (c : ClassFile.Cond) (x y : Int32) : Bool := match c with
  | .eq => decide (x = y)
  | .ne => decide (¬ x = y)
  | .lt => decide (x < y)
  | .ge => decide (y ≤ x)
  | .gt => decide (y < x)
  | .le => decide (x ≤ y)
def mj_ln (ins : Instr) : Nat := match ins with
  | .bipush _ | .iload _ | .istore _ | .lload _ | .lstore _ | .newarray _ => 2
  | .sipush _ | .getfield _ | .putfield _ | .invokevirtual _ | .invokespecial _ | .invokestatic _ | .new _ | .anewarray _ | .goto _ | .ifCond _ _ | .if_icmp _ _ | .iinc _ _ | .ldc_w _ | .ldc2_w _ => 3
  | _ => 1
def mj_step (i : Nat) (q : Instr × Nat × Nat × Nat) (pc : Nat) (ls st : List Value) (h : mj_H) : Option mj_X :=
  match q with
  | (ins, _, a, b) =>
  match ins with
  | .aload_n k => (match ls[k.val]? with | some (.ref x) => mj_nx (pc + 1) ls (.ref x :: st) h | _ => none)
  | .iload_n k => (match ls[k.val]? with | some (.int x) => mj_nx (pc + 1) ls (.int x :: st) h | _ => none)
  | .iload k => (match ls[k]? with | some (.int x) => mj_nx (pc + 2) ls (.int x :: st) h | _ => none)
  | .lload_n k => (match ls[k.val]? with | some (.long x) => mj_nx (pc + 1) ls (.long x :: st) h | _ => none)
  | .lload k => (match ls[k]? with | some (.long x) => mj_nx (pc + 2) ls (.long x :: st) h | _ => none)
  | .istore_n k => (match st with | .int x :: st => if mj_t i = true ∧ k.val < ls.length then mj_nx (pc + 1) (ls.set k.val (.int x)) st h else none | _ => none)
  | .istore k => (match st with | .int x :: st => if mj_t i = true ∧ k < ls.length then mj_nx (pc + 2) (ls.set k (.int x)) st h else none | _ => none)
  | .astore_n k => (match st with | .ref x :: st => if mj_t i = true ∧ k.val < ls.length then mj_nx (pc + 1) (ls.set k.val (.ref x)) st h else none | _ => none)
  | .lstore_n k => (match st with | .long x :: st => if mj_t i = false ∧ k.val + 1 < ls.length ∧ mj_prev ls k.val = true then mj_nx (pc + 1) ((ls.set k.val (.long x)).set (k.val + 1) .null) st h else none | _ => none)
  | .iinc k n => (match ls[k]? with | some (.int x) => if mj_t i = true then mj_nx (pc + 3) (ls.set k (.int (x + Int32.ofInt n))) st h else none | _ => none)
  | .iconst n => mj_nx (pc + 1) ls (.int (Int32.ofInt n) :: st) h
  | .bipush n => mj_nx (pc + 2) ls (.int (Int8.ofInt n).toInt32 :: st) h
  | .sipush n => mj_nx (pc + 3) ls (.int (Int16.ofInt n).toInt32 :: st) h
  | .lconst n => mj_nx (pc + 1) ls (.long (Int64.ofNat (n : Nat)) :: st) h
  | .ldc_w _ => mj_nx (pc + 3) ls (.int (Int32.ofNat a) :: st) h
  | .ldc2_w _ => mj_nx (pc + 3) ls (.long (mj_lng a) :: st) h
  | .iadd => (match st with | .int y :: .int x :: st => mj_nx (pc + 1) ls (.int (x + y) :: st) h | _ => none)
  | .isub => (match st with | .int y :: .int x :: st => mj_nx (pc + 1) ls (.int (x - y) :: st) h | _ => none)
  | .imul => (match st with | .int y :: .int x :: st => mj_nx (pc + 1) ls (.int (x * y) :: st) h | _ => none)
  | .idiv => (match st with | .int y :: .int x :: st => if y = 0 then none else mj_nx (pc + 1) ls (.int (x / y) :: st) h | _ => none)
  | .irem => (match st with | .int y :: .int x :: st => if y = 0 then none else mj_nx (pc + 1) ls (.int (x - x / y * y) :: st) h | _ => none)
  | .iand => (match st with | .int y :: .int x :: st => mj_nx (pc + 1) ls (.int (x &&& y) :: st) h | _ => none)
  | .ior => (match st with | .int y :: .int x :: st => mj_nx (pc + 1) ls (.int (x ||| y) :: st) h | _ => none)
  | .ixor => (match st with | .int y :: .int x :: st => mj_nx (pc + 1) ls (.int (x ^^^ y) :: st) h | _ => none)
  | .ishl => (match st with | .int y :: .int x :: st => mj_nx (pc + 1) ls (.int (x <<< (y &&& 31)) :: st) h | _ => none)
  | .ishr => (match st with | .int y :: .int x :: st => mj_nx (pc + 1) ls (.int (x >>> (y &&& 31)) :: st) h | _ => none)
  | .iushr => (match st with | .int y :: .int x :: st => mj_nx (pc + 1) ls (.int (x.toUInt32 >>> (y.toUInt32 &&& Int32.toUInt32 31)).toInt32 :: st) h | _ => none)
  | .ladd => (match st with | .long y :: .long x :: st => mj_nx (pc + 1) ls (.long (x + y) :: st) h | _ => none)
  | .lmul => (match st with | .long y :: .long x :: st => mj_nx (pc + 1) ls (.long (x * y) :: st) h | _ => none)
  | .land => (match st with | .long y :: .long x :: st => mj_nx (pc + 1) ls (.long (x &&& y) :: st) h | _ => none)
  | .lor => (match st with | .long y :: .long x :: st => mj_nx (pc + 1) ls (.long (x ||| y) :: st) h | _ => none)
  | .lrem => (match st with | .long y :: .long x :: st => if y = 0 then none else mj_nx (pc + 1) ls (.long (x - x / y * y) :: st) h | _ => none)
  | .lcmp => (match st with | .long y :: .long x :: st => mj_nx (pc + 1) ls (.int (lg_cmp x y) :: st) h | _ => none)
  | .lushr => (match st with | .int y :: .long x :: st => mj_nx (pc + 1) ls (.long (x.toUInt64 >>> (y.toInt64.toUInt64 &&& Int64.toUInt64 63)).toInt64 :: st) h | _ => none)
  | .lshl => (match st with | .int y :: .long x :: st => mj_nx (pc + 1) ls (.long (x <<< (y.toInt64 &&& 63)) :: st) h | _ => none)
  | .i2l => (match st with | .int x :: st => mj_nx (pc + 1) ls (.long x.toInt64 :: st) h | _ => none)
  | .dup => (match st with | v :: st => if mj_noL v = true then mj_nx (pc + 1) ls (v :: v :: st) h else none | _ => none)
  | .pop => (match st with | v :: st => if mj_noL v = true then mj_nx (pc + 1) ls st h else none | _ => none)
  | .dup2 => (match st with | v :: w :: st => if mj_noL v = true ∧ mj_noL w = true then mj_nx (pc + 1) ls (v :: w :: v :: w :: st) h else none | _ => none)
  | .goto _ => mj_nx a ls st h
  | .ifCond c _ => (match st with | .int x :: st => if mj_cond c x 0 = true then mj_nx a ls st h else mj_nx (pc + 3) ls st h | _ => none)
  | .if_icmp c _ => (match st with | .int y :: .int x :: st => if mj_cond c x y = true then mj_nx a ls st h else mj_nx (pc + 3) ls st h | _ => none)
  | .tableswitch d lo hi offs => (match st with | .int x :: st => if x.toInt < lo ∨ hi < x.toInt then mj_jmp (pc + d) ls st h else (match offs[(x.toInt - lo).toNat]? with | some off => mj_jmp (pc + off) ls st h | none => none) | _ => none)
  | .getfield _ => (match st with | .ref x :: st => (match h.1 x with | some (.inr (c, fs)) => if c = a then (match fs[b]? with | some v => mj_nx (pc + 3) ls (v :: st) h | none => none) else none | _ => none) | _ => none)
  | .putfield _ => (match st with | v :: .ref x :: st => (match h.1 x with | some (.inr (c, fs)) => if c = a ∧ b < fs.length ∧ mj_okv (mj_ft a b) v = true then mj_nx (pc + 3) ls st (mj_up h x (.inr (c, fs.set b v))) else none | _ => none) | _ => none)
  | .iaload => (match st with | .int j :: .ref x :: st => (match h.1 x with | some (.inl (t, l)) => if t ≠ 1 ∧ ¬ j < 0 then (match l[j.toNatClampNeg]? with | some v => mj_nx (pc + 1) ls (.int v :: st) h | none => none) else none | _ => none) | _ => none)
  | .iastore => (match st with | .int v :: .int j :: .ref x :: st => (match h.1 x with | some (.inl (t, l)) => if t = 0 ∧ ¬ j < 0 ∧ j.toNatClampNeg < l.length then mj_nx (pc + 1) ls st (mj_up h x (.inl (t, l.set j.toNatClampNeg v))) else none | _ => none) | _ => none)
  | .baload => (match st with | .int j :: .ref x :: st => (match h.1 x with | some (.inl (t, l)) => if t = 1 ∧ ¬ j < 0 then (match l[j.toNatClampNeg]? with | some v => mj_nx (pc + 1) ls (.int v :: st) h | none => none) else none | _ => none) | _ => none)
  | .bastore => (match st with | .int v :: .int j :: .ref x :: st => (match h.1 x with | some (.inl (t, l)) => if t = 1 ∧ ¬ j < 0 ∧ j.toNatClampNeg < l.length ∧ (v == 0 || v == 1) = true then mj_nx (pc + 1) ls st (mj_up h x (.inl (t, l.set j.toNatClampNeg v))) else none | _ => none) | _ => none)
  | .aaload => (match st with | .int j :: .ref x :: st => (match h.1 x with | some (.inr (t, l)) => if t = 99 ∧ ¬ j < 0 then (match l[j.toNatClampNeg]? with | some (.ref v) => mj_nx (pc + 1) ls (.ref v :: st) h | _ => none) else none | _ => none) | _ => none)
  | .aastore => (match st with | .ref v :: .int j :: .ref x :: st => (match h.1 x with | some (.inr (t, l)) => if t = 99 ∧ ¬ j < 0 ∧ j.toNatClampNeg < l.length ∧ mj_isC h v 2 = true then mj_nx (pc + 1) ls st (mj_up h x (.inr (t, l.set j.toNatClampNeg (.ref v)))) else none | _ => none) | _ => none)
  | .arraylength => (match st with | .ref x :: st => (match h.1 x with | some (.inl (_, l)) => mj_nx (pc + 1) ls (.int (Int32.ofNat l.length) :: st) h | _ => none) | _ => none)
  | .new _ => mj_nx (pc + 3) ls (.ref h.2.1 :: st) (mj_new h (.inr (a, mj_dfl a)))
  | .newarray .int => (match st with | .int n :: st => if ¬ n < 0 ∧ n.toNatClampNeg ≤ 100000 then mj_nx (pc + 2) ls (.ref h.2.1 :: st) (mj_new h (.inl (0, List.replicate n.toNatClampNeg 0))) else none | _ => none)
  | .newarray .boolean => (match st with | .int n :: st => if ¬ n < 0 ∧ n.toNatClampNeg ≤ 100000 then mj_nx (pc + 2) ls (.ref h.2.1 :: st) (mj_new h (.inl (1, List.replicate n.toNatClampNeg 0))) else none | _ => none)
  | .anewarray _ => (match st with | .int n :: st => if ¬ n < 0 ∧ n.toNatClampNeg ≤ 100000 then mj_nx (pc + 3) ls (.ref h.2.1 :: st) (mj_new h (.inr (99, List.replicate n.toNatClampNeg .null))) else none | _ => none)
  | .invokevirtual _ => (match st[b - 1]? with | some (.ref x) => if mj_isC h x (mj_w a) = true then mj_call a b st else none | _ => none)
  | .invokespecial _ => if a = 999 then (match st with | .ref _ :: st => if st.length ≤ 4 then mj_nx (pc + 3) ls st h else none | _ => none) else (match st[b - 1]? with | some (.ref _) => mj_call a b st | _ => none)
  | .invokestatic _ => if a = 998 then (match st with | .int y :: .int x :: st => if st.length ≤ 4 then mj_nx (pc + 3) ls (.int (if x < y then y else x) :: st) h else none | _ => none)
      else if a = 997 then (match st with | .int y :: .int x :: st => if st.length ≤ 4 then mj_nx (pc + 3) ls (.int (if y < x then y else x) :: st) h else none | _ => none)
      else mj_call a b st
  | .ireturn => (match st with | [.int x] => if mj_okr (mj_r i) x = true then some (.inr (.inl (some (.int x)))) else none | _ => none)
  | .lreturn => (match st with | [.long x] => if mj_r i = some .long then some (.inr (.inl (some (.long x)))) else none | _ => none)
  | .return_ => (match st with | [] => if mj_r i = none then some (.inr (.inl none)) else none | _ => none)
  | _ => none
def mj_exec : Nat → Nat → mj_S → Option (Option Value × mj_H)
  | 0, _, _ => none
  | n + 1, i, (pc, ls, st, h) => match mj_at i pc with
    | none => none
    | some q => match mj_step i q pc ls st h with
      | none => none
      | some (.inl s) => mj_exec n i s
      | some (.inr (.inl v)) => some (v, h)
      | some (.inr (.inr (j, as, rest))) => match mj_exec n j (0, mj_ent j as, [], h) with
        | none => none
        | some (v, h') => mj_exec n i (pc + 3, ls, v.toList ++ rest, h')
def mj_lnok (ins : Instr) (len : Nat) : Bool := match ins with
  | .tableswitch _ _ _ _ => true
  | _ => len == mj_ln ins
theorem mj_lnA : ∀ k, k < 168 → (mj_code k).all (fun q => mj_lnok q.2.1 q.2.2.1) = true := by decide +kernel
theorem mj_at_lt {i pc : Nat} {q : Instr × Nat × Nat × Nat} (h : mj_at i pc = some q) : i < 168 := by
  rcases Nat.lt_or_ge i 168 with h1 | h1
  · exact h1
  · exfalso
    have h2 : mj_P.length = 168 := by decide +kernel
    have h3 : mj_P[i]? = none := List.getElem?_eq_none (by omega)
    simp [mj_at, mj_code, mj_g, List.getD, h3] at h
theorem mj_lookup_mem {l : List mj_Row} {pc : Nat} {q : Instr × Nat × Nat × Nat} (h : l.lookup pc = some q) : (pc, q) ∈ l := by
  induction l with
  | nil => simp at h
  | cons x l ih =>
    obtain ⟨a, b⟩ := x
    rw [List.lookup_cons] at h
    split at h
    · rename_i h1
      have h2 : pc = a := by simpa using h1
      cases h
      subst h2
      exact List.mem_cons_self
    · exact List.mem_cons_of_mem _ (ih h)
theorem mj_dec0 {i pc len a b : Nat} {ins : Instr} (h : mj_at i pc = some (ins, len, a, b)) : decode (mj_b i) pc = .ok (ins, len) := mj_dA i (mj_at_lt h) (pc, ins, len, a, b) (mj_lookup_mem h)
theorem mj_chk0 {i pc len a b : Nat} {ins : Instr} (h : mj_at i pc = some (ins, len, a, b)) : mj_chk i (pc, ins, len, a, b) = true := mj_kA i (mj_at_lt h) (pc, ins, len, a, b) (mj_lookup_mem h)
theorem mj_len0 {i pc len a b : Nat} {ins : Instr} (h : mj_at i pc = some (ins, len, a, b)) : mj_lnok ins len = true := List.all_eq_true.mp (mj_lnA i (mj_at_lt h)) (pc, ins, len, a, b) (mj_lookup_mem h)
theorem mj_step_mono {i : Nat} {q : Instr × Nat × Nat × Nat} {pc : Nat} {ls st : List Value} {h : mj_H} {s' : mj_S} (hs : mj_step i q pc ls st h = some (.inl s')) : h.2.1 ≤ s'.2.2.2.2.1 ∧ h.2.2 ≤ s'.2.2.2.2.2 := by
  obtain ⟨ins, len, a, b⟩ := q
  unfold mj_step mj_jmp mj_call mj_nx at hs
  dsimp only at hs
  repeat' split at hs
  all_goals first
    | (cases hs; done)
    | (cases hs; simp [mj_up, mj_new]; done)
theorem mj_exec_mono : ∀ (n i : Nat) (s : mj_S) (v : Option Value) (hf : mj_H), mj_exec n i s = some (v, hf) → s.2.2.2.2.1 ≤ hf.2.1 ∧ s.2.2.2.2.2 ≤ hf.2.2 := by
  intro n
  induction n with
  | zero => intro i s v hf h; cases h
  | succ n ih =>
    intro i s v hf h
    obtain ⟨pc, ls, st, hh⟩ := s
    rw [mj_exec] at h
    split at h
    · cases h
    · split at h
      · cases h
      · rename_i s1 hs
        have h1 := mj_step_mono hs
        have h2 := ih i s1 v hf h
        exact ⟨Nat.le_trans h1.1 h2.1, Nat.le_trans h1.2 h2.2⟩
      · cases h
        exact ⟨Nat.le_refl _, Nat.le_refl _⟩
      · split at h
        · cases h
        · rename_i v1 h1 he
          have a1 := ih _ _ _ _ he
          have a2 := ih _ _ _ _ h
          exact ⟨Nat.le_trans a1.1 a2.1, Nat.le_trans a1.2 a2.2⟩
