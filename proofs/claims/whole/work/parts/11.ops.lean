/-! the store's reads and writes, as functions that may fail; what a step does, said of the runs -/
def mj_bd {α β : Type} (x : Option α) (f : α → Option β) : Option β := x.bind f
theorem mj_bs {α β : Type} {x : Option α} {v : α} (h : x = some v) (f : α → Option β) : mj_bd x f = f v := by rw [h]; rfl
def mj_gf (h : mj_H) (x a b : Nat) : Option Value := match h.1 x with
  | some (.inr (c, fs)) => if c = a then fs[b]? else none
  | _ => none
def mj_pf (h : mj_H) (x a b : Nat) (v : Value) : Option mj_H := match h.1 x with
  | some (.inr (c, fs)) => if c = a ∧ b < fs.length ∧ mj_okv (mj_ft a b) v = true then some (mj_up h x (.inr (c, fs.set b v))) else none
  | _ => none
def mj_gi (h : mj_H) (x : Nat) (j : Int32) : Option Int32 := match h.1 x with
  | some (.inl (t, l)) => if t ≠ 1 ∧ ¬ j < 0 then l[j.toNatClampNeg]? else none
  | _ => none
def mj_pi (h : mj_H) (x : Nat) (j v : Int32) : Option mj_H := match h.1 x with
  | some (.inl (t, l)) => if t = 0 ∧ ¬ j < 0 ∧ j.toNatClampNeg < l.length then some (mj_up h x (.inl (t, l.set j.toNatClampNeg v))) else none
  | _ => none
def mj_gz (h : mj_H) (x : Nat) (j : Int32) : Option Int32 := match h.1 x with
  | some (.inl (t, l)) => if t = 1 ∧ ¬ j < 0 then l[j.toNatClampNeg]? else none
  | _ => none
def mj_pz (h : mj_H) (x : Nat) (j v : Int32) : Option mj_H := match h.1 x with
  | some (.inl (t, l)) => if t = 1 ∧ ¬ j < 0 ∧ j.toNatClampNeg < l.length ∧ (v == 0 || v == 1) = true then some (mj_up h x (.inl (t, l.set j.toNatClampNeg v))) else none
  | _ => none
def mj_gq (h : mj_H) (x : Nat) (j : Int32) : Option Nat := match h.1 x with
  | some (.inr (t, l)) => if t = 99 ∧ ¬ j < 0 then (match l[j.toNatClampNeg]? with | some (.ref v) => some v | _ => none) else none
  | _ => none
def mj_pq (h : mj_H) (x : Nat) (j : Int32) (v : Nat) : Option mj_H := match h.1 x with
  | some (.inr (t, l)) => if t = 99 ∧ ¬ j < 0 ∧ j.toNatClampNeg < l.length ∧ mj_isC h v 2 = true then some (mj_up h x (.inr (t, l.set j.toNatClampNeg (.ref v)))) else none
  | _ => none
def mj_al (h : mj_H) (x : Nat) : Option Int32 := match h.1 x with
  | some (.inl (_, l)) => some (Int32.ofNat l.length)
  | _ => none
section MJO
variable {i pc len a b : Nat} {ls st : List Value} {h : mj_H}
theorem mj_R_if {c : Prop} [Decidable c] {q : Instr × Nat × Nat × Nat} {s1 s2 : mj_S} (hat : mj_at i pc = some q) (hs : mj_step i q pc ls st h = if c then some (.inl s1) else some (.inl s2)) : mj_R i (pc, ls, st, h) = if c then mj_R i s1 else mj_R i s2 := by
  split at hs
  · rename_i hc
    rw [if_pos hc]
    exact mj_R_next hat hs
  · rename_i hc
    rw [if_neg hc]
    exact mj_R_next hat hs
theorem mj_R_div {y : Int32} {q : Instr × Nat × Nat × Nat} {s1 : mj_S} (hat : mj_at i pc = some q) (hs : mj_step i q pc ls st h = if y = 0 then none else some (.inl s1)) : mj_R i (pc, ls, st, h) = if y = 0 then none else mj_R i s1 := by
  split at hs
  · rename_i hc
    rw [if_pos hc]
    exact mj_R_none hat hs
  · rename_i hc
    rw [if_neg hc]
    exact mj_R_next hat hs
theorem mj_R_divl {y : Int64} {q : Instr × Nat × Nat × Nat} {s1 : mj_S} (hat : mj_at i pc = some q) (hs : mj_step i q pc ls st h = if y = 0 then none else some (.inl s1)) : mj_R i (pc, ls, st, h) = if y = 0 then none else mj_R i s1 := by
  split at hs
  · rename_i hc
    rw [if_pos hc]
    exact mj_R_none hat hs
  · rename_i hc
    rw [if_neg hc]
    exact mj_R_next hat hs
theorem mj_R_gf {x n : Nat} (hat : mj_at i pc = some (.getfield n, len, a, b)) : mj_R i (pc, ls, .ref x :: st, h) = mj_bd (mj_gf h x a b) (fun v => mj_R i (pc + 3, ls, v :: st, h)) := by
  have hs : mj_step i (.getfield n, len, a, b) pc ls (.ref x :: st) h = (match mj_gf h x a b with | some v => some (.inl (pc + 3, ls, v :: st, h)) | none => none) := by
    simp only [mj_step, mj_nx, mj_gf]
    cases h.1 x with
    | none => rfl
    | some e =>
      obtain ⟨t, l⟩ | ⟨t, l⟩ := e
      · rfl
      · by_cases hc : t = a
        · simp only [if_pos hc]
          cases l[b]? <;> rfl
        · simp only [if_neg hc]
  cases hg : mj_gf h x a b with
  | none => rw [hg] at hs; rw [mj_R_none hat hs]; rfl
  | some v => rw [hg] at hs; rw [mj_R_next hat hs]; rfl
theorem mj_R_pf {x n : Nat} {v : Value} (hat : mj_at i pc = some (.putfield n, len, a, b)) : mj_R i (pc, ls, v :: .ref x :: st, h) = mj_bd (mj_pf h x a b v) (fun h' => mj_R i (pc + 3, ls, st, h')) := by
  have hs : mj_step i (.putfield n, len, a, b) pc ls (v :: .ref x :: st) h = (match mj_pf h x a b v with | some h' => some (.inl (pc + 3, ls, st, h')) | none => none) := by
    simp only [mj_step, mj_nx, mj_pf]
    cases h.1 x with
    | none => rfl
    | some e =>
      obtain ⟨t, l⟩ | ⟨t, l⟩ := e
      · rfl
      · by_cases hc : t = a ∧ b < l.length ∧ mj_okv (mj_ft a b) v = true
        · simp only [if_pos hc]
        · simp only [if_neg hc]
  cases hg : mj_pf h x a b v with
  | none => rw [hg] at hs; rw [mj_R_none hat hs]; rfl
  | some v => rw [hg] at hs; rw [mj_R_next hat hs]; rfl
theorem mj_R_gi {x : Nat} {j : Int32} (hat : mj_at i pc = some (.iaload, len, a, b)) : mj_R i (pc, ls, .int j :: .ref x :: st, h) = mj_bd (mj_gi h x j) (fun v => mj_R i (pc + 1, ls, .int v :: st, h)) := by
  have hs : mj_step i (.iaload, len, a, b) pc ls (.int j :: .ref x :: st) h = (match mj_gi h x j with | some v => some (.inl (pc + 1, ls, .int v :: st, h)) | none => none) := by
    simp only [mj_step, mj_nx, mj_gi]
    cases h.1 x with
    | none => rfl
    | some e =>
      obtain ⟨t, l⟩ | ⟨t, l⟩ := e
      · by_cases hc : t ≠ 1 ∧ ¬ j < 0
        · simp only [if_pos hc]
          cases l[j.toNatClampNeg]? <;> rfl
        · simp only [if_neg hc]
      · rfl
  cases hg : mj_gi h x j with
  | none => rw [hg] at hs; rw [mj_R_none hat hs]; rfl
  | some v => rw [hg] at hs; rw [mj_R_next hat hs]; rfl
theorem mj_R_pi {x : Nat} {j v : Int32} (hat : mj_at i pc = some (.iastore, len, a, b)) : mj_R i (pc, ls, .int v :: .int j :: .ref x :: st, h) = mj_bd (mj_pi h x j v) (fun h' => mj_R i (pc + 1, ls, st, h')) := by
  have hs : mj_step i (.iastore, len, a, b) pc ls (.int v :: .int j :: .ref x :: st) h = (match mj_pi h x j v with | some h' => some (.inl (pc + 1, ls, st, h')) | none => none) := by
    simp only [mj_step, mj_nx, mj_pi]
    cases h.1 x with
    | none => rfl
    | some e =>
      obtain ⟨t, l⟩ | ⟨t, l⟩ := e
      · by_cases hc : t = 0 ∧ ¬ j < 0 ∧ j.toNatClampNeg < l.length
        · simp only [if_pos hc]
        · simp only [if_neg hc]
      · rfl
  cases hg : mj_pi h x j v with
  | none => rw [hg] at hs; rw [mj_R_none hat hs]; rfl
  | some v => rw [hg] at hs; rw [mj_R_next hat hs]; rfl
theorem mj_R_gz {x : Nat} {j : Int32} (hat : mj_at i pc = some (.baload, len, a, b)) : mj_R i (pc, ls, .int j :: .ref x :: st, h) = mj_bd (mj_gz h x j) (fun v => mj_R i (pc + 1, ls, .int v :: st, h)) := by
  have hs : mj_step i (.baload, len, a, b) pc ls (.int j :: .ref x :: st) h = (match mj_gz h x j with | some v => some (.inl (pc + 1, ls, .int v :: st, h)) | none => none) := by
    simp only [mj_step, mj_nx, mj_gz]
    cases h.1 x with
    | none => rfl
    | some e =>
      obtain ⟨t, l⟩ | ⟨t, l⟩ := e
      · by_cases hc : t = 1 ∧ ¬ j < 0
        · simp only [if_pos hc]
          cases l[j.toNatClampNeg]? <;> rfl
        · simp only [if_neg hc]
      · rfl
  cases hg : mj_gz h x j with
  | none => rw [hg] at hs; rw [mj_R_none hat hs]; rfl
  | some v => rw [hg] at hs; rw [mj_R_next hat hs]; rfl
theorem mj_R_pz {x : Nat} {j v : Int32} (hat : mj_at i pc = some (.bastore, len, a, b)) : mj_R i (pc, ls, .int v :: .int j :: .ref x :: st, h) = mj_bd (mj_pz h x j v) (fun h' => mj_R i (pc + 1, ls, st, h')) := by
  have hs : mj_step i (.bastore, len, a, b) pc ls (.int v :: .int j :: .ref x :: st) h = (match mj_pz h x j v with | some h' => some (.inl (pc + 1, ls, st, h')) | none => none) := by
    simp only [mj_step, mj_nx, mj_pz]
    cases h.1 x with
    | none => rfl
    | some e =>
      obtain ⟨t, l⟩ | ⟨t, l⟩ := e
      · by_cases hc : t = 1 ∧ ¬ j < 0 ∧ j.toNatClampNeg < l.length ∧ (v == 0 || v == 1) = true
        · simp only [if_pos hc]
        · simp only [if_neg hc]
      · rfl
  cases hg : mj_pz h x j v with
  | none => rw [hg] at hs; rw [mj_R_none hat hs]; rfl
  | some v => rw [hg] at hs; rw [mj_R_next hat hs]; rfl
theorem mj_R_gq {x : Nat} {j : Int32} (hat : mj_at i pc = some (.aaload, len, a, b)) : mj_R i (pc, ls, .int j :: .ref x :: st, h) = mj_bd (mj_gq h x j) (fun v => mj_R i (pc + 1, ls, .ref v :: st, h)) := by
  have hs : mj_step i (.aaload, len, a, b) pc ls (.int j :: .ref x :: st) h = (match mj_gq h x j with | some v => some (.inl (pc + 1, ls, .ref v :: st, h)) | none => none) := by
    simp only [mj_step, mj_nx, mj_gq]
    cases h.1 x with
    | none => rfl
    | some e =>
      obtain ⟨t, l⟩ | ⟨t, l⟩ := e
      · rfl
      · by_cases hc : t = 99 ∧ ¬ j < 0
        · simp only [if_pos hc]
          cases l[j.toNatClampNeg]? with
          | none => rfl
          | some w => cases w <;> rfl
        · simp only [if_neg hc]
  cases hg : mj_gq h x j with
  | none => rw [hg] at hs; rw [mj_R_none hat hs]; rfl
  | some v => rw [hg] at hs; rw [mj_R_next hat hs]; rfl
theorem mj_R_pq {x v : Nat} {j : Int32} (hat : mj_at i pc = some (.aastore, len, a, b)) : mj_R i (pc, ls, .ref v :: .int j :: .ref x :: st, h) = mj_bd (mj_pq h x j v) (fun h' => mj_R i (pc + 1, ls, st, h')) := by
  have hs : mj_step i (.aastore, len, a, b) pc ls (.ref v :: .int j :: .ref x :: st) h = (match mj_pq h x j v with | some h' => some (.inl (pc + 1, ls, st, h')) | none => none) := by
    simp only [mj_step, mj_nx, mj_pq]
    cases h.1 x with
    | none => rfl
    | some e =>
      obtain ⟨t, l⟩ | ⟨t, l⟩ := e
      · rfl
      · by_cases hc : t = 99 ∧ ¬ j < 0 ∧ j.toNatClampNeg < l.length ∧ mj_isC h v 2 = true
        · simp only [if_pos hc]
        · simp only [if_neg hc]
  cases hg : mj_pq h x j v with
  | none => rw [hg] at hs; rw [mj_R_none hat hs]; rfl
  | some v => rw [hg] at hs; rw [mj_R_next hat hs]; rfl
theorem mj_R_al {x : Nat} (hat : mj_at i pc = some (.arraylength, len, a, b)) : mj_R i (pc, ls, .ref x :: st, h) = mj_bd (mj_al h x) (fun v => mj_R i (pc + 1, ls, .int v :: st, h)) := by
  have hs : mj_step i (.arraylength, len, a, b) pc ls (.ref x :: st) h = (match mj_al h x with | some v => some (.inl (pc + 1, ls, .int v :: st, h)) | none => none) := by
    simp only [mj_step, mj_nx, mj_al]
    cases h.1 x with
    | none => rfl
    | some e => obtain ⟨t, l⟩ | ⟨t, l⟩ := e <;> rfl
  cases hg : mj_al h x with
  | none => rw [hg] at hs; rw [mj_R_none hat hs]; rfl
  | some v => rw [hg] at hs; rw [mj_R_next hat hs]; rfl
theorem mj_R_cv {q : Instr × Nat × Nat × Nat} {x c j : Nat} {as rest : List Value} (hat : mj_at i pc = some q) (hs : mj_step i q pc ls st h = if mj_isC h x c = true then some (.inr (.inr (j, as, rest))) else none) : mj_R i (pc, ls, st, h) = if mj_isC h x c = true then mj_bd (mj_C j as h) (fun r => mj_R i (pc + 3, ls, r.1.toList ++ rest, r.2)) else none := by
  split at hs
  · rename_i hc
    rw [if_pos hc]
    exact mj_R_call hat hs
  · rename_i hc
    rw [if_neg hc]
    exact mj_R_none hat hs
theorem mj_R_cs {q : Instr × Nat × Nat × Nat} {j : Nat} {as rest : List Value} (hat : mj_at i pc = some q) (hs : mj_step i q pc ls st h = some (.inr (.inr (j, as, rest)))) : mj_R i (pc, ls, st, h) = mj_bd (mj_C j as h) (fun r => mj_R i (pc + 3, ls, r.1.toList ++ rest, r.2)) := mj_R_call hat hs
theorem mj_R_rz {x : Int32} (hat : mj_at i pc = some (.ireturn, len, a, b)) (hr : mj_r i = some .boolean) : mj_R i (pc, ls, [.int x], h) = if (x == 0 || x == 1) = true then some (some (.int x), h) else none := by
  have hs : mj_step i (.ireturn, len, a, b) pc ls [.int x] h = if (x == 0 || x == 1) = true then some (.inr (.inl (some (.int x)))) else none := by
    simp only [mj_step, mj_okr, hr]
  split
  · rename_i hc
    rw [if_pos hc] at hs
    exact mj_R_ret hat hs
  · rename_i hc
    rw [if_neg hc] at hs
    exact mj_R_none hat hs
end MJO
section MJB
variable {i pc len a b : Nat} {ls st : List Value} {h : mj_H} {x y : Int32} {n : Int}
theorem mj_R_jmp {c : Prop} [Decidable c] {q : Instr × Nat × Nat × Nat} {s1 s2 : mj_S} {bb : Bool} (hat : mj_at i pc = some q) (hb : bb = decide c) (hs : mj_step i q pc ls st h = if bb = true then some (.inl s1) else some (.inl s2)) : mj_R i (pc, ls, st, h) = if c then mj_R i s1 else mj_R i s2 := by
  subst hb
  by_cases hc : c
  · rw [if_pos hc]
    rw [if_pos (by simpa using hc)] at hs
    exact mj_R_next hat hs
  · rw [if_neg hc]
    rw [if_neg (by simpa using hc)] at hs
    exact mj_R_next hat hs
theorem mj_R_ieq (hat : mj_at i pc = some (.ifCond .eq n, len, a, b)) : mj_R i (pc, ls, .int x :: st, h) = if x = nI 0 then mj_R i (a, ls, st, h) else mj_R i (pc + 3, ls, st, h) := by
  rw [show nI 0 = (0 : Int32) from rfl]
  exact mj_R_jmp hat (bb := mj_cond .eq x 0) rfl rfl
theorem mj_R_ine (hat : mj_at i pc = some (.ifCond .ne n, len, a, b)) : mj_R i (pc, ls, .int x :: st, h) = if x = nI 0 then mj_R i (pc + 3, ls, st, h) else mj_R i (a, ls, st, h) := by
  rw [show nI 0 = (0 : Int32) from rfl]
  rw [mj_R_jmp (c := ¬ x = 0) hat (bb := mj_cond .ne x 0) rfl rfl]
  by_cases hx : x = 0
  · rw [if_neg (fun q => q hx), if_pos hx]
  · rw [if_pos hx, if_neg hx]
theorem mj_R_ilt (hat : mj_at i pc = some (.ifCond .lt n, len, a, b)) : mj_R i (pc, ls, .int x :: st, h) = if x < nI 0 then mj_R i (a, ls, st, h) else mj_R i (pc + 3, ls, st, h) := by
  rw [show nI 0 = (0 : Int32) from rfl]
  exact mj_R_jmp hat (bb := mj_cond .lt x 0) rfl rfl
theorem mj_R_ige (hat : mj_at i pc = some (.ifCond .ge n, len, a, b)) : mj_R i (pc, ls, .int x :: st, h) = if nI 0 ≤ x then mj_R i (a, ls, st, h) else mj_R i (pc + 3, ls, st, h) := by
  rw [show nI 0 = (0 : Int32) from rfl]
  exact mj_R_jmp hat (bb := mj_cond .ge x 0) rfl rfl
theorem mj_R_igt (hat : mj_at i pc = some (.ifCond .gt n, len, a, b)) : mj_R i (pc, ls, .int x :: st, h) = if nI 0 < x then mj_R i (a, ls, st, h) else mj_R i (pc + 3, ls, st, h) := by
  rw [show nI 0 = (0 : Int32) from rfl]
  exact mj_R_jmp hat (bb := mj_cond .gt x 0) rfl rfl
theorem mj_R_ile (hat : mj_at i pc = some (.ifCond .le n, len, a, b)) : mj_R i (pc, ls, .int x :: st, h) = if x ≤ nI 0 then mj_R i (a, ls, st, h) else mj_R i (pc + 3, ls, st, h) := by
  rw [show nI 0 = (0 : Int32) from rfl]
  exact mj_R_jmp hat (bb := mj_cond .le x 0) rfl rfl
theorem mj_R_jeq (hat : mj_at i pc = some (.if_icmp .eq n, len, a, b)) : mj_R i (pc, ls, .int y :: .int x :: st, h) = if x = y then mj_R i (a, ls, st, h) else mj_R i (pc + 3, ls, st, h) := mj_R_jmp hat (bb := mj_cond .eq x y) rfl rfl
theorem mj_R_jne (hat : mj_at i pc = some (.if_icmp .ne n, len, a, b)) : mj_R i (pc, ls, .int y :: .int x :: st, h) = if x = y then mj_R i (pc + 3, ls, st, h) else mj_R i (a, ls, st, h) := by
  rw [mj_R_jmp (c := ¬ x = y) hat (bb := mj_cond .ne x y) rfl rfl]
  by_cases hx : x = y
  · rw [if_neg (fun q => q hx), if_pos hx]
  · rw [if_pos hx, if_neg hx]
theorem mj_R_jlt (hat : mj_at i pc = some (.if_icmp .lt n, len, a, b)) : mj_R i (pc, ls, .int y :: .int x :: st, h) = if x < y then mj_R i (a, ls, st, h) else mj_R i (pc + 3, ls, st, h) := mj_R_jmp hat (bb := mj_cond .lt x y) rfl rfl
theorem mj_R_jge (hat : mj_at i pc = some (.if_icmp .ge n, len, a, b)) : mj_R i (pc, ls, .int y :: .int x :: st, h) = if y ≤ x then mj_R i (a, ls, st, h) else mj_R i (pc + 3, ls, st, h) := mj_R_jmp hat (bb := mj_cond .ge x y) rfl rfl
theorem mj_R_jgt (hat : mj_at i pc = some (.if_icmp .gt n, len, a, b)) : mj_R i (pc, ls, .int y :: .int x :: st, h) = if y < x then mj_R i (a, ls, st, h) else mj_R i (pc + 3, ls, st, h) := mj_R_jmp hat (bb := mj_cond .gt x y) rfl rfl
theorem mj_R_jle (hat : mj_at i pc = some (.if_icmp .le n, len, a, b)) : mj_R i (pc, ls, .int y :: .int x :: st, h) = if x ≤ y then mj_R i (a, ls, st, h) else mj_R i (pc + 3, ls, st, h) := mj_R_jmp hat (bb := mj_cond .le x y) rfl rfl
theorem mj_sw_out {k : Nat} (hx : ∀ j, j < k → x ≠ nI j) : x.toInt < 0 ∨ ((k : Int) - 1) < x.toInt := by
  rcases Int.lt_or_le x.toInt 0 with h1 | h1
  · exact Or.inl h1
  · rcases Int.lt_or_le ((k : Int) - 1) x.toInt with h2 | h2
    · exact Or.inr h2
    · exfalso
      have h3 : x.toInt.toNat < k := by omega
      refine hx _ h3 (Int32.toInt_inj.mp ?_)
      have h4 : x.toInt < 2 ^ 31 := Int32.toInt_lt x
      rw [nI_toInt (by omega)]
      omega
theorem mj_R_dfl {d lo hi : Int} {offs : Array Int} {k t : Nat} (hat : mj_at i pc = some (.tableswitch d lo hi offs, len, a, b)) (h0 : lo = 0) (h1 : hi = (k : Int) - 1) (ht : (pc : Int) + d = (t : Int)) (hx : ∀ j, j < k → x ≠ nI j) : mj_R i (pc, ls, .int x :: st, h) = mj_R i (t, ls, st, h) := by
  refine mj_R_next hat ?_
  have ho := mj_sw_out hx
  rw [← h1] at ho
  subst h0
  simp only [mj_step, if_pos ho, mj_jmp, ht, mj_nx]
  rw [if_pos (by omega)]
  rfl
end MJB
