/-! WHAT A METHOD RETURNS -/
theorem mj_step_ret {i : Nat} {q : Instr × Nat × Nat × Nat} {pc : Nat} {ls st : List Value} {h : mj_H} {v : Option Value} (hs : mj_step i q pc ls st h = some (.inr (.inl v))) : (∃ x, v = some (.int x) ∧ mj_okr (mj_r i) x = true) ∨ (∃ x, v = some (.long x) ∧ mj_r i = some .long) ∨ (v = none ∧ mj_r i = none) := by
  obtain ⟨ins, len, a, b⟩ := q
  unfold mj_step mj_jmp mj_call mj_nx at hs
  dsimp only at hs
  repeat' split at hs
  all_goals first
    | (cases hs; done)
    | (cases hs; exact Or.inl ⟨_, rfl, by assumption⟩)
    | (cases hs; exact Or.inr (Or.inl ⟨_, rfl, by assumption⟩))
    | (cases hs; exact Or.inr (Or.inr ⟨rfl, by assumption⟩))
theorem mj_exec_ret : ∀ (n i : Nat) (s : mj_S) (v : Option Value) (hf : mj_H), mj_exec n i s = some (v, hf) → (∃ x, v = some (.int x) ∧ mj_okr (mj_r i) x = true) ∨ (∃ x, v = some (.long x) ∧ mj_r i = some .long) ∨ (v = none ∧ mj_r i = none) := by
  intro n
  induction n with
  | zero => intro i s v hf h; cases h
  | succ n ih =>
    intro i s v hf h
    obtain ⟨pc, ls, st, hh⟩ := s
    rw [mj_exec] at h
    split at h
    · cases h
    · split at h
      · cases h
      · exact ih _ _ _ _ h
      · rename_i hs
        cases h
        exact mj_step_ret hs
      · split at h
        · cases h
        · exact ih _ _ _ _ h
theorem mj_C_int {j : Nat} {as : List Value} {h h' : mj_H} {v : Value} (e : mj_C j as h = some (some v, h')) (hr : mj_r j = some .int) : ∃ x, v = .int x := by
  obtain ⟨n, hn⟩ := mj_R_iff.mp e
  rcases mj_exec_ret _ _ _ _ _ hn with ⟨x, z, -⟩ | ⟨x, z, z2⟩ | ⟨z, z2⟩
  · cases z; exact ⟨x, rfl⟩
  · rw [hr] at z2; cases z2
  · cases z
theorem mj_C_long {j : Nat} {as : List Value} {h h' : mj_H} {v : Value} (e : mj_C j as h = some (some v, h')) (hr : mj_r j = some .long) : ∃ x, v = .long x := by
  obtain ⟨n, hn⟩ := mj_R_iff.mp e
  rcases mj_exec_ret _ _ _ _ _ hn with ⟨x, z, z2⟩ | ⟨x, z, z2⟩ | ⟨z, z2⟩
  · rw [hr] at z2; cases z2
  · cases z; exact ⟨x, rfl⟩
  · cases z
