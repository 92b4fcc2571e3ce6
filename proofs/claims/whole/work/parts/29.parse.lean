/-! THE TEXT READ AS A ROAD -/
def mm_fig (t : List Nat) (pl lo hi : Nat) : Option Nat := match t[pl]? with
  | some c => if lo + 48 ≤ c ∧ c ≤ hi + 48 then some (c - 48) else none
  | none => none
def mm_z : Nat → Nat := fun _ => 0
def mm_ro0 : mm_Ro := (0, 0, 0, mm_z, mm_z, mm_z, mm_z, mm_z, mm_z, mm_z)
def mm_roD (ρ : mm_Ro) (d : Nat) : mm_Ro := (d, mr_n ρ, mr_g ρ, mr_K ρ, mr_P ρ, mr_S ρ, mr_W ρ, mr_E ρ, mr_gS ρ, mr_gW ρ)
def mm_roB (ρ : mm_Ro) (k p s w : Nat) : mm_Ro := (mr_D ρ, mr_n ρ + 1, mr_g ρ, mh_u (mr_K ρ) (mr_n ρ) k, mh_u (mr_P ρ) (mr_n ρ) p, mh_u (mr_S ρ) (mr_n ρ) s, mh_u (mr_W ρ) (mr_n ρ) w, mh_u (mr_E ρ) (mr_n ρ) 0, mr_gS ρ, mr_gW ρ)
def mm_roG (ρ : mm_Ro) (s w : Nat) : mm_Ro := (mr_D ρ, mr_n ρ, mr_g ρ + 1, mr_K ρ, mr_P ρ, mr_S ρ, mr_W ρ, mr_E ρ, mh_u (mr_gS ρ) (mr_g ρ) s, mh_u (mr_gW ρ) (mr_g ρ) w)
def mm_roE (ρ : mm_Ro) (i j : Nat) : mm_Ro := (mr_D ρ, mr_n ρ, mr_g ρ, mr_K ρ, mr_P ρ, mr_S ρ, mr_W ρ, mh_u (mh_u (mr_E ρ) i (mm_add (mr_E ρ i) j)) j (mm_add (mr_E ρ j) i), mr_gS ρ, mr_gW ρ)
/-- who may be told as an enemy of one still -/
def mm_open (ρ : mm_Ro) (i : Nat) : Nat := mm_del (mm_dif (2 ^ mr_n ρ - 1) (mr_E ρ i)) i
def mm_may (ρ : mm_Ro) : Nat → Nat
  | 0 => 0
  | k + 1 => if mm_open ρ k ≠ 0 then mm_may ρ k ||| 2 ^ k else mm_may ρ k
def mm_pB (t : List Nat) (pl : Nat) (ρ : mm_Ro) : Nat × Option mm_Ro := match mm_fig t pl 0 3 with
  | none => (pl, none)
  | some k => match mm_fig t (pl + 1) 1 9 with
    | none => (pl + 1, none)
    | some p => match mm_fig t (pl + 2) 1 9 with
      | none => (pl + 2, none)
      | some s => match mm_fig t (pl + 3) 0 3 with
        | none => (pl + 3, none)
        | some w => (pl + 4, some (mm_roB ρ k p s w))
def mm_pG (t : List Nat) (pl : Nat) (ρ : mm_Ro) : Nat × Option mm_Ro := match mm_fig t pl 0 3 with
  | none => (pl, none)
  | some w => match mm_fig t (pl + 1) 0 5 with
    | none => (pl + 1, none)
    | some a => match mm_fig t (pl + 2) (if a = 0 then 1 else 0) (if a = 5 then 4 else 9) with
      | none => (pl + 2, none)
      | some b => (pl + 3, some (mm_roG ρ w (10 * a + b)))
/-- a figure that is of a set -/
def mm_fof (t : List Nat) (pl s : Nat) : Option Nat := match mm_fig t pl 0 5 with
  | some v => if s.testBit v = true then some v else none
  | none => none
def mm_pE (t : List Nat) (pl : Nat) (ρ : mm_Ro) : Nat × Option mm_Ro := match mm_fof t pl (mm_may ρ (mr_n ρ)) with
  | none => (pl, none)
  | some i => match mm_fof t (pl + 1) (mm_open ρ i) with
    | none => (pl + 1, none)
    | some j => (pl + 2, some (mm_roE ρ i j))
def mm_part (t : List Nat) (pl : Nat) (ρ : mm_Ro) : Nat × Option mm_Ro :=
  if t[pl]? = some 66 ∧ mr_n ρ < 6 then mm_pB t (pl + 1) ρ
  else if t[pl]? = some 69 ∧ mm_may ρ (mr_n ρ) ≠ 0 then mm_pE t (pl + 1) ρ
  else if t[pl]? = some 71 ∧ mr_g ρ < 3 then mm_pG t (pl + 1) ρ
  else (pl, none)
def mm_it (t : List Nat) (ρ0 : mm_Ro) : Nat → Nat × Option mm_Ro
  | 0 => (3, some ρ0)
  | k + 1 => match mm_it t ρ0 k with
    | (pl, none) => (pl, none)
    | (pl, some ρ) => if pl < t.length then mm_part t pl ρ else (pl, some ρ)
def mm_read (t : List Nat) : Nat × Option mm_Ro :=
  if t[0]? = some 82 then (match mm_fig t 1 0 9 with
    | none => (1, none)
    | some a => match mm_fig t 2 0 9 with
      | none => (2, none)
      | some b => mm_it t (mm_roD mm_ro0 (10 * a + b)) 64)
  else (0, none)
def mm_fault (t : List Nat) : Int32 := match (mm_read t).2 with
  | some _ => -9
  | none => nI (mm_read t).1
theorem mm_fig_le {t : List Nat} {pl lo hi v : Nat} (h : mm_fig t pl lo hi = some v) : lo ≤ v ∧ v ≤ hi ∧ t[pl]? = some (v + 48) ∧ pl < t.length := by
  unfold mm_fig at h
  split at h
  · rename_i c hc
    split at h
    · cases h
      exact ⟨by omega, by omega, by rw [hc]; congr 1; omega, (List.getElem?_eq_some_iff.mp hc).1⟩
    · cases h
  · cases h
theorem mm_open_lt {ρ : mm_Ro} (w : mw_R ρ) {i : Nat} (hi : i < 6) (hE : mr_E ρ i < 64) : mm_open ρ i < 64 := by
  have hn := w.1
  have h1 : 2 ^ mr_n ρ - 1 < 64 := by
    have : 2 ^ mr_n ρ ≤ 64 := Nat.pow_le_pow_right (n := 2) (by decide) hn
    have := Nat.two_pow_pos (mr_n ρ)
    omega
  exact mm_del_lt _ (mm_dif_lt _ h1 _ hE) i hi
theorem mm_may_lt {ρ : mm_Ro} : ∀ k, k ≤ 6 → mm_may ρ k < 2 ^ k := by
  intro k
  induction k with
  | zero => intro _; show 0 < 1; omega
  | succ k ih =>
    intro hk
    have h1 := ih (by omega)
    simp only [mm_may]
    split
    · exact Nat.or_lt_two_pow (Nat.lt_trans h1 (Nat.pow_lt_pow_right (by decide) (by omega))) (Nat.pow_lt_pow_right (by decide) (by omega))
    · exact Nat.lt_trans h1 (Nat.pow_lt_pow_right (by decide) (by omega))
theorem mm_may_at {ρ : mm_Ro} : ∀ k, k ≤ 6 → ∀ i, (mm_may ρ k).testBit i = (decide (i < k) && decide (mm_open ρ i ≠ 0)) := by
  intro k
  induction k with
  | zero => intro _ i; simp [mm_may]
  | succ k ih =>
    intro hk i
    have h1 := ih (by omega) i
    simp only [mm_may]
    by_cases e : i = k
    · subst e
      by_cases h : mm_open ρ i ≠ 0
      · rw [if_pos h, Nat.testBit_or, h1, Nat.testBit_two_pow_self]
        simp [h]
      · rw [if_neg h, h1]
        simp [h]
    · have e1 : decide (i < k + 1) = decide (i < k) := by
        by_cases z : i < k
        · simp [z]; omega
        · simp [z]; omega
      rw [e1, ← h1]
      split
      · rw [Nat.testBit_or, Nat.testBit_two_pow_of_ne (fun z => e z.symm), Bool.or_false]
      · rfl
theorem mm_all_at {n j : Nat} : (2 ^ n - 1).testBit j = decide (j < n) := Nat.testBit_two_pow_sub_one n j
theorem mm_open_at {ρ : mm_Ro} (w : mw_R ρ) {i : Nat} (hi : i < 6) (hE : mr_E ρ i < 64) {j : Nat} (hj : j < 6) : (mm_open ρ i).testBit j = ((decide (j < mr_n ρ) && !(mr_E ρ i).testBit j) && decide (j ≠ i)) := by
  have hn := w.1
  have h1 : 2 ^ mr_n ρ - 1 < 64 := by
    have : 2 ^ mr_n ρ ≤ 64 := Nat.pow_le_pow_right (n := 2) (by decide) hn
    have := Nat.two_pow_pos (mr_n ρ)
    omega
  rw [mm_open, mm_del_at _ (mm_dif_lt _ h1 _ hE) i hi j hj, mm_dif_at _ h1 _ hE j hj, mm_all_at]
theorem mw_D {ρ : mm_Ro} (w : mw_R ρ) {d : Nat} (hd : d ≤ 99) : mw_R (mm_roD ρ d) := ⟨w.1, w.2.1, hd, w.2.2.2.1, w.2.2.2.2⟩
theorem mw_B {ρ : mm_Ro} (w : mw_R ρ) {k p s v : Nat} (hn : mr_n ρ < 6) (h1 : k ≤ 3) (h2 : 1 ≤ p ∧ p ≤ 9) (h3 : 1 ≤ s ∧ s ≤ 9) (h4 : v ≤ 3) : mw_R (mm_roB ρ k p s v) := by
  refine ⟨hn, w.2.1, w.2.2.1, fun i hi => ?_, w.2.2.2.2⟩
  have hi' : i < mr_n ρ + 1 := hi
  show mh_u (mr_K ρ) (mr_n ρ) k i ≤ 3 ∧ 1 ≤ mh_u (mr_P ρ) (mr_n ρ) p i ∧ mh_u (mr_P ρ) (mr_n ρ) p i ≤ 9 ∧ 1 ≤ mh_u (mr_S ρ) (mr_n ρ) s i ∧ mh_u (mr_S ρ) (mr_n ρ) s i ≤ 9 ∧ mh_u (mr_W ρ) (mr_n ρ) v i ≤ 3 ∧ mh_u (mr_E ρ) (mr_n ρ) 0 i < 2 ^ (mr_n ρ + 1) ∧ (mh_u (mr_E ρ) (mr_n ρ) 0 i).testBit i = false
  by_cases e : i = mr_n ρ
  · subst e
    simp only [mh_u_at]
    exact ⟨h1, h2.1, h2.2, h3.1, h3.2, h4, Nat.two_pow_pos _, Nat.zero_testBit _⟩
  · simp only [mh_u_ne e]
    obtain ⟨a1, a2, a3, a4, a5, a6, a7, a8⟩ := w.2.2.2.1 i (by omega)
    exact ⟨a1, a2, a3, a4, a5, a6, Nat.lt_trans a7 (Nat.pow_lt_pow_right (by decide) (by omega)), a8⟩
theorem mw_G {ρ : mm_Ro} (w : mw_R ρ) {s v : Nat} (hg : mr_g ρ < 3) (h1 : s ≤ 3) (h2 : v ≤ 54) : mw_R (mm_roG ρ s v) := by
  refine ⟨w.1, hg, w.2.2.1, w.2.2.2.1, fun i hi => ?_⟩
  have hi' : i < mr_g ρ + 1 := hi
  show mh_u (mr_gS ρ) (mr_g ρ) s i ≤ 3 ∧ mh_u (mr_gW ρ) (mr_g ρ) v i ≤ 54
  by_cases e : i = mr_g ρ
  · subst e
    simp only [mh_u_at]
    exact ⟨h1, h2⟩
  · simp only [mh_u_ne e]
    exact w.2.2.2.2 i (by omega)
theorem mm_add_lt2 {n s k : Nat} (hn : n ≤ 6) (hs : s < 2 ^ n) (hk : k < n) : mm_add s k < 2 ^ n := by
  have h1 := mm_64 hs hn
  refine mm_lt n hn _ (mm_add_lt _ h1 k (by omega)) (fun j hj z => ?_)
  rw [mm_add_at _ h1 k (by omega) j hj, Bool.or_eq_true, decide_eq_true_eq] at z
  rcases z with z | z
  · rcases Nat.lt_or_ge j n with q | q
    · exact q
    · rw [mm_hi hs q] at z; cases z
  · omega
theorem mw_E {ρ : mm_Ro} (w : mw_R ρ) {i j : Nat} (hi : i < mr_n ρ) (hj : j < mr_n ρ) (hij : j ≠ i) : mw_R (mm_roE ρ i j) := by
  have hn := w.1
  refine ⟨w.1, w.2.1, w.2.2.1, fun k hk => ?_, w.2.2.2.2⟩
  have hk' : k < mr_n ρ := hk
  obtain ⟨a1, a2, a3, a4, a5, a6, a7, a8⟩ := w.2.2.2.1 k hk'
  refine ⟨a1, a2, a3, a4, a5, a6, ?_, ?_⟩
  · show mh_u (mh_u (mr_E ρ) i (mm_add (mr_E ρ i) j)) j (mm_add (mr_E ρ j) i) k < 2 ^ mr_n ρ
    by_cases e : k = j
    · subst e
      rw [mh_u_at]
      exact mm_add_lt2 hn a7 hi
    · rw [mh_u_ne e]
      by_cases e2 : k = i
      · subst e2
        rw [mh_u_at]
        exact mm_add_lt2 hn a7 hj
      · rw [mh_u_ne e2]
        exact a7
  · show (mh_u (mh_u (mr_E ρ) i (mm_add (mr_E ρ i) j)) j (mm_add (mr_E ρ j) i) k).testBit k = false
    by_cases e : k = j
    · subst e
      rw [mh_u_at, mm_add_at _ (mm_64 a7 hn) i (by omega) k (by omega), a8]
      simp [hij]
    · rw [mh_u_ne e]
      by_cases e2 : k = i
      · subst e2
        rw [mh_u_at, mm_add_at _ (mm_64 a7 hn) j (by omega) k (by omega), a8]
        simp [Ne.symm hij]
      · rw [mh_u_ne e2]
        exact a8
theorem mw_ro0 : mw_R mm_ro0 := ⟨by decide, by decide, by decide, fun k hk => absurd hk (Nat.not_lt_zero k), fun k hk => absurd hk (Nat.not_lt_zero k)⟩
theorem mm_fof_le {t : List Nat} {pl s v : Nat} (h : mm_fof t pl s = some v) : v ≤ 5 ∧ s.testBit v = true ∧ pl < t.length := by
  unfold mm_fof at h
  split at h
  · rename_i x hx
    split at h
    · rename_i hb
      cases h
      have := mm_fig_le hx
      exact ⟨this.2.1, hb, this.2.2.2⟩
    · cases h
  · cases h
theorem mw_part {t : List Nat} {pl pl' : Nat} {ρ ρ' : mm_Ro} (w : mw_R ρ) (h : mm_part t pl ρ = (pl', some ρ')) : mw_R ρ' ∧ pl < pl' ∧ pl' ≤ t.length := by
  have hn := w.1
  unfold mm_part at h
  split at h
  · rename_i hc
    unfold mm_pB at h
    repeat' split at h
    all_goals first
      | (cases h; done)
      | skip
    cases h
    have f1 := mm_fig_le (by assumption : mm_fig t (pl + 1) 0 3 = some _)
    have f2 := mm_fig_le (by assumption : mm_fig t (pl + 1 + 1) 1 9 = some _)
    have f3 := mm_fig_le (by assumption : mm_fig t (pl + 1 + 2) 1 9 = some _)
    have f4 := mm_fig_le (by assumption : mm_fig t (pl + 1 + 3) 0 3 = some _)
    exact ⟨mw_B w hc.2 f1.2.1 ⟨f2.1, f2.2.1⟩ ⟨f3.1, f3.2.1⟩ f4.2.1, by omega, by omega⟩
  · split at h
    · unfold mm_pE at h
      repeat' split at h
      all_goals first
        | (cases h; done)
        | skip
      rename_i i _ j _
      cases h
      have f1 := mm_fof_le (by assumption : mm_fof t (pl + 1) (mm_may ρ (mr_n ρ)) = some _)
      have f2 := mm_fof_le (by assumption : mm_fof t (pl + 1 + 1) (mm_open ρ _) = some _)
      have e1 := f1.2.1
      rw [mm_may_at _ hn, Bool.and_eq_true, decide_eq_true_eq] at e1
      have hE := mm_64 (w.2.2.2.1 _ e1.1).2.2.2.2.2.2.1 hn
      have e2 := f2.2.1
      rw [mm_open_at w (by omega) hE (by omega)] at e2
      simp only [Bool.and_eq_true, decide_eq_true_eq] at e2
      exact ⟨mw_E w e1.1 e2.1.1 e2.2, by omega, by omega⟩
    · split at h
      · rename_i hc
        unfold mm_pG at h
        repeat' split at h
        all_goals first
          | (cases h; done)
          | skip
        all_goals
          cases h
        all_goals
          have f1 := mm_fig_le (by assumption : mm_fig t (pl + 1) 0 3 = some _)
          have f2 := mm_fig_le (by assumption : mm_fig t (pl + 1 + 1) 0 5 = some _)
          have f3 := mm_fig_le (by assumption : mm_fig t (pl + 1 + 2) _ _ = some _)
        all_goals
          refine ⟨mw_G w hc.2 f1.2.1 ?_, by omega, by omega⟩
        all_goals
          have f4 := f3.2.1
          split at f4 <;> omega
      · cases h
