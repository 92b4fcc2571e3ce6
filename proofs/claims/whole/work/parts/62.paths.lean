/-! ORDERS: rows counted from the end (the class) are rows counted from the front (the reference) -/
def mm_ss (F : Nat → Nat) : Nat → Nat
  | 0 => 0
  | k + 1 => mm_ss F k + F k
def mm_sg (F : Nat → Nat) (s : Nat) : Nat → Nat
  | 0 => 0
  | e + 1 => F s + mm_sg F (s + 1) e
theorem mm_ss_cg {F G : Nat → Nat} : ∀ n, (∀ k, k < n → F k = G k) → mm_ss F n = mm_ss G n := by
  intro n
  induction n with
  | zero => intro _; rfl
  | succ n ih => intro h; rw [mm_ss, mm_ss, ih (fun k hk => h k (by omega)), h n (by omega)]
theorem mm_ss_0 : ∀ n, mm_ss (fun _ => 0) n = 0 := by
  intro n
  induction n with
  | zero => rfl
  | succ n ih => rw [mm_ss, ih]
theorem mm_ss_add {F G : Nat → Nat} : ∀ n, mm_ss (fun k => F k + G k) n = mm_ss F n + mm_ss G n := by
  intro n
  induction n with
  | zero => rfl
  | succ n ih => rw [mm_ss, mm_ss, mm_ss, ih]; omega
theorem mm_ss_sw {Y : Nat → Nat → Nat} {n : Nat} : ∀ m, mm_ss (fun c => mm_ss (fun d => Y c d) n) m = mm_ss (fun d => mm_ss (fun c => Y c d) m) n := by
  intro m
  induction m with
  | zero => rw [mm_ss]; exact (mm_ss_0 n).symm
  | succ m ih =>
    rw [mm_ss, ih, ← mm_ss_add]
    rfl
theorem mm_ss_if {F : Nat → Nat} {b : Bool} {n : Nat} : (if b = true then mm_ss F n else 0) = mm_ss (fun d => if b = true then F d else 0) n := by
  cases b
  · simp only [Bool.false_eq_true, if_false]; exact (mm_ss_0 n).symm
  · simp only [if_true]
theorem mm_ss_sg {F : Nat → Nat} : ∀ e s, mm_ss F s + mm_sg F s e = mm_ss F (s + e) := by
  intro e
  induction e with
  | zero => intro s; rfl
  | succ e ih =>
    intro s
    have h1 := ih (s + 1)
    rw [mm_ss] at h1
    rw [mm_sg, show s + (e + 1) = s + 1 + e by omega, ← h1]
    omega
def mm_mc (ρ : mm_Ro) (set a c : Nat) : Bool := set.testBit c && !a.testBit c && mm_cont ρ c a
def mm_ld (ρ : mm_Ro) (set t c : Nat) : Bool := t.testBit c && mm_mc ρ set (mm_del t c) c
def mm_pw (ρ : mm_Ro) (set : Nat) : Nat → Nat → Nat → Nat
  | 0, a, t => if a = t then 1 else 0
  | k + 1, a, t => mm_ss (fun c => if mm_mc ρ set a c = true then mm_pw ρ set k (mm_add a c) t else 0) (mr_n ρ)
theorem mm_ad1 : ∀ a, a < 64 → ∀ c, c < 6 → a.testBit c = false → (mm_add a c).testBit c = true ∧ mm_del (mm_add a c) c = a := by decide +kernel
theorem mm_ad2 : ∀ t, t < 64 → ∀ c, c < 6 → t.testBit c = true → (mm_del t c).testBit c = false ∧ mm_add (mm_del t c) c = t := by decide +kernel
theorem mm_popd : ∀ t, t < 64 → ∀ c, c < 6 → t.testBit c = true → mm_pop (mm_del t c) 6 + 1 = mm_pop t 6 := by decide +kernel
theorem mm_popa : ∀ t, t < 64 → ∀ c, c < 6 → t.testBit c = false → mm_pop (mm_add t c) 6 = mm_pop t 6 + 1 := by decide +kernel
theorem mm_pop1 : ∀ t, t < 64 → t ≠ 0 → 1 ≤ mm_pop t 6 := by decide +kernel
theorem mm_popz : ∀ t, t < 64 → mm_pop t 6 = 0 → t = 0 := by decide +kernel
theorem mm_subeq : ∀ s, s < 64 → ∀ t, t < 64 → mm_dif s t = 0 → mm_pop s 6 = mm_pop t 6 → s = t := by decide +kernel
theorem mm_dif_sub {s t : Nat} (hs : s < 64) (ht : t < 64) : mm_dif s t = 0 ↔ ∀ j, j < 6 → s.testBit j = true → t.testBit j = true := by
  constructor
  · intro h j hj hb
    have h1 := mm_dif_at s hs t ht j hj
    rw [h, Nat.zero_testBit, hb] at h1
    cases h2 : t.testBit j
    · rw [h2] at h1; cases h1
    · rfl
  · intro h
    refine mm_ext _ (mm_dif_lt s hs t ht) 0 (by omega) (fun j hj => ?_)
    rw [mm_dif_at s hs t ht j hj, Nat.zero_testBit]
    cases h1 : s.testBit j
    · rfl
    · rw [h j hj h1]; rfl
/-- the last step may be counted first -/
theorem mm_pw_last {ρ : mm_Ro} {set : Nat} (hn : mr_n ρ ≤ 6) : ∀ k a t, a < 64 → t < 64 → mm_pw ρ set (k + 1) a t = mm_ss (fun c => if mm_ld ρ set t c = true then mm_pw ρ set k a (mm_del t c) else 0) (mr_n ρ) := by
  intro k
  induction k with
  | zero =>
    intro a t ha ht
    rw [mm_pw]
    refine mm_ss_cg _ (fun c hc => ?_)
    rw [mm_pw, mm_pw]
    by_cases e : a.testBit c = false ∧ mm_add a c = t
    · obtain ⟨e1, rfl⟩ := e
      obtain ⟨e2, e3⟩ := mm_ad1 a ha c (by omega) e1
      rw [mm_ld, e2, e3]
      simp
    · have l : (if mm_mc ρ set a c = true then (if mm_add a c = t then 1 else 0) else 0) = 0 := by
        split
        · rename_i hm
          refine if_neg (fun z => e ⟨?_, z⟩)
          simp only [mm_mc, Bool.and_eq_true, Bool.not_eq_true'] at hm
          exact hm.1.2
        · rfl
      have r : (if mm_ld ρ set t c = true then (if a = mm_del t c then 1 else 0) else 0) = 0 := by
        split
        · rename_i hm
          refine if_neg (fun z => e ?_)
          simp only [mm_ld, Bool.and_eq_true] at hm
          obtain ⟨e2, e3⟩ := mm_ad2 t ht c (by omega) hm.1
          rw [z]
          exact ⟨e2, e3⟩
        · rfl
      rw [l, r]
  | succ k ih =>
    intro a t ha ht
    rw [mm_pw]
    have h1 : ∀ c, c < mr_n ρ → (if mm_mc ρ set a c = true then mm_pw ρ set (k + 1) (mm_add a c) t else 0) = mm_ss (fun d => if mm_mc ρ set a c = true then (if mm_ld ρ set t d = true then mm_pw ρ set k (mm_add a c) (mm_del t d) else 0) else 0) (mr_n ρ) := by
      intro c hc
      rw [ih (mm_add a c) t (mm_add_lt a ha c (by omega)) ht, mm_ss_if]
    rw [mm_ss_cg _ h1, mm_ss_sw]
    refine mm_ss_cg _ (fun d hd => ?_)
    rw [mm_pw, mm_ss_if]
    refine mm_ss_cg _ (fun c hc => ?_)
    cases mm_mc ρ set a c <;> cases mm_ld ρ set t d <;> simp
theorem mm_wof_ss {ρ : mm_Ro} {T : Nat → Nat} {s : Nat} : ∀ n, mm_wof ρ T s n = mm_ss (fun c => if s.testBit c = true ∧ mm_cont ρ c (mm_del s c) = true then T (mm_del s c) else 0) n := by
  intro n
  induction n with
  | zero => rfl
  | succ n ih => rw [mm_wof, mm_ss, ih]
theorem mm_tab_pw {ρ : mm_Ro} {set : Nat} (hn : mr_n ρ ≤ 6) (hs : set < 64) : ∀ k, k ≤ set → ∀ j, j ≤ k → mm_tab ρ set k j = if mm_dif j set = 0 then mm_pw ρ set (mm_pop j 6) 0 j else 0 := by
  intro k
  induction k with
  | zero =>
    intro _ j hj
    obtain rfl : j = 0 := by omega
    have e : mm_dif 0 set = 0 := by unfold mm_dif; omega
    rw [if_pos e]
    rfl
  | succ k ih =>
    intro hk j hj
    by_cases e : j = k + 1
    · subst e
      rw [mm_tab, mh_u_at]
      by_cases hz : mm_dif (k + 1) set = 0
      · rw [if_pos hz, if_pos hz]
        have h64 : k + 1 < 64 := by omega
        have h1 := mm_pop1 (k + 1) h64 (by omega)
        obtain ⟨p, hp⟩ : ∃ p, mm_pop (k + 1) 6 = p + 1 := ⟨mm_pop (k + 1) 6 - 1, by omega⟩
        rw [hp, mm_pw_last hn p 0 (k + 1) (by omega) h64, mm_wof_ss]
        refine mm_ss_cg _ (fun c hc => ?_)
        have hz' := (mm_dif_sub h64 hs).mp hz
        cases hb : (k + 1).testBit c
        · rw [mm_ld, hb]; simp
        · have hdl := mm_del_lt (k + 1) h64 c (by omega)
          have hd2 := mm_del_lt2 (k + 1) h64 c (by omega) hb
          have hpd := mm_popd (k + 1) h64 c (by omega) hb
          obtain ⟨e2, -⟩ := mm_ad2 (k + 1) h64 c (by omega) hb
          have hsub : mm_dif (mm_del (k + 1) c) set = 0 := (mm_dif_sub hdl hs).mpr (fun i hi hib => hz' i hi (by
            rw [mm_del_at (k + 1) h64 c (by omega) i hi] at hib
            exact (Bool.and_eq_true _ _ ▸ hib).1))
          have hT := ih (by omega) (mm_del (k + 1) c) (by omega)
          rw [if_pos hsub, show mm_pop (mm_del (k + 1) c) 6 = p by omega] at hT
          rw [hT, mm_ld, mm_mc, hb, hz' c (by omega) hb, e2]
          simp
      · rw [if_neg hz, if_neg hz]
    · rw [mm_tab, mh_u_ne e]
      exact ih (by omega) j (by omega)
theorem mm_tab_end {ρ : mm_Ro} {set : Nat} (hn : mr_n ρ ≤ 6) (hs : set < 64) : mm_tab ρ set set set = mm_pw ρ set (mm_pop set 6) 0 set := by
  rw [mm_tab_pw hn hs set (Nat.le_refl _) set (Nat.le_refl _), if_pos]
  exact (mm_dif_sub hs hs).mpr (fun _ _ h => h)
/-- the set of a row's first k -/
def mm_st (p : Nat → Nat) : Nat → Nat
  | 0 => 0
  | k + 1 => mm_add (mm_st p k) (p k)
theorem mm_st_lt {p : Nat → Nat} : ∀ k, (∀ i, i < k → p i < 6) → mm_st p k < 64 := by
  intro k
  induction k with
  | zero => intro _; show (0 : Nat) < 64; omega
  | succ k ih => intro h; exact mm_add_lt _ (ih (fun i hi => h i (by omega))) _ (h k (by omega))
theorem mm_st_cg {p q : Nat → Nat} : ∀ k, (∀ i, i < k → p i = q i) → mm_st p k = mm_st q k := by
  intro k
  induction k with
  | zero => intro _; rfl
  | succ k ih => intro h; rw [mm_st, mm_st, ih (fun i hi => h i (by omega)), h k (by omega)]
theorem mm_st_at {p : Nat → Nat} {j : Nat} (hj : j < 6) : ∀ k, (∀ i, i < k → p i < 6) → ((mm_st p k).testBit j = true ↔ ∃ i, i < k ∧ p i = j) := by
  intro k
  induction k with
  | zero => intro _; simp [mm_st]
  | succ k ih =>
    intro h
    have h1 := ih (fun i hi => h i (by omega))
    rw [mm_st, mm_add_at _ (mm_st_lt k (fun i hi => h i (by omega))) _ (h k (by omega)) j hj, Bool.or_eq_true, h1, decide_eq_true_eq]
    constructor
    · rintro (⟨i, a, b⟩ | e)
      · exact ⟨i, by omega, b⟩
      · exact ⟨k, by omega, e.symm⟩
    · rintro ⟨i, a, b⟩
      by_cases e : i = k
      · subst e; exact Or.inr b.symm
      · exact Or.inl ⟨i, by omega, b⟩
def mm_mx (ρ : mm_Ro) (p : Nat → Nat) : Nat → Nat
  | 0 => 0
  | i + 1 => if mm_pa ρ (p i) ≤ mm_mx ρ p i then mm_mx ρ p i else mm_pa ρ (p i)
theorem mm_mx_le {ρ : mm_Ro} {p : Nat → Nat} {c : Nat} : ∀ k, (mm_mx ρ p k ≤ c ↔ ∀ i, i < k → mm_pa ρ (p i) ≤ c) := by
  intro k
  induction k with
  | zero => exact ⟨fun _ i hi => by omega, fun _ => Nat.zero_le _⟩
  | succ k ih =>
    rw [mm_mx]
    constructor
    · intro h i hi
      by_cases e : i = k
      · subst e; split at h <;> omega
      · refine ih.mp ?_ i (by omega)
        split at h <;> omega
    · intro h
      have h1 := ih.mpr (fun i hi => h i (by omega))
      have h2 := h k (by omega)
      split <;> omega
