/-! numbers: everything is nI of a Nat -/
theorem mn_add (a b : Nat) : nI a + nI b = nI (a + b) := (Int32.ofNat_add a b).symm
theorem mn_sub {a b : Nat} (h : b ≤ a) : nI a - nI b = nI (a - b) := by
  have h1 : nI (a - b) + nI b = nI a := by rw [mn_add, Nat.sub_add_cancel h]
  rw [← h1, Int32.add_sub_cancel]
theorem mn_mul (a b : Nat) : nI a * nI b = nI (a * b) := (Int32.ofNat_mul a b).symm
theorem mn_lt {a b : Nat} (ha : a < 2 ^ 31) (hb : b < 2 ^ 31) : nI a < nI b ↔ a < b := by
  rw [Int32.lt_iff_toInt_lt, nI_toInt ha, nI_toInt hb]; omega
theorem mn_le {a b : Nat} (ha : a < 2 ^ 31) (hb : b < 2 ^ 31) : nI a ≤ nI b ↔ a ≤ b := by
  rw [Int32.le_iff_toInt_le, nI_toInt ha, nI_toInt hb]; omega
theorem mn_eq {a b : Nat} (ha : a < 2 ^ 31) (hb : b < 2 ^ 31) : nI a = nI b ↔ a = b := by
  rw [← Int32.toInt_inj, nI_toInt ha, nI_toInt hb]; omega
theorem mn_and (a b : Nat) : nI a &&& nI b = nI (a &&& b) := by
  apply Int32.toBitVec_inj.mp
  rw [Int32.toBitVec_and]
  show BitVec.ofNat 32 a &&& BitVec.ofNat 32 b = BitVec.ofNat 32 (a &&& b)
  apply BitVec.eq_of_getLsbD_eq
  intro i hi
  simp [BitVec.getLsbD_and, BitVec.getLsbD_ofNat, Nat.testBit_and, hi]
theorem mn_or (a b : Nat) : nI a ||| nI b = nI (a ||| b) := by
  apply Int32.toBitVec_inj.mp
  rw [Int32.toBitVec_or]
  show BitVec.ofNat 32 a ||| BitVec.ofNat 32 b = BitVec.ofNat 32 (a ||| b)
  apply BitVec.eq_of_getLsbD_eq
  intro i hi
  simp [BitVec.getLsbD_or, BitVec.getLsbD_ofNat, Nat.testBit_or, hi]
/-- every int is nI of a Nat -/
theorem mn_of (x : Int32) : ∃ n, n < 2 ^ 32 ∧ x = nI n := ⟨x.toBitVec.toNat, x.toBitVec.isLt, Int32.toBitVec_inj.mp (by show _ = BitVec.ofNat 32 _; simp)⟩
theorem mn_nonneg {x : Int32} (h : nI 0 ≤ x) : ∃ n, n < 2 ^ 31 ∧ x = nI n := by
  have h1 : (0 : Int) ≤ x.toInt := by
    have := Int32.le_iff_toInt_le.mp h
    rwa [nI_toInt (by omega)] at this
  have h2 := Int32.toInt_lt x
  refine ⟨x.toInt.toNat, by omega, Int32.toInt_inj.mp ?_⟩
  rw [nI_toInt (by omega)]
  omega
theorem mn_neg {x : Int32} : ¬ nI 0 ≤ x ↔ x < nI 0 := by
  rw [Int32.le_iff_toInt_le, Int32.lt_iff_toInt_lt, nI_toInt (by omega)]; omega
theorem mn_neg' {x : Int32} : ¬ x < nI 0 ↔ nI 0 ≤ x := by
  rw [Int32.le_iff_toInt_le, Int32.lt_iff_toInt_lt, nI_toInt (by omega)]; omega
theorem mn_nle {x y : Int32} : ¬ x ≤ y ↔ y < x := by
  rw [Int32.le_iff_toInt_le, Int32.lt_iff_toInt_lt]; omega
theorem mn_nlt {x y : Int32} : ¬ x < y ↔ y ≤ x := by
  rw [Int32.le_iff_toInt_le, Int32.lt_iff_toInt_lt]; omega
/-- an int is one of the first k, or it is none of them -/
theorem mn_range (k : Nat) (hk : k < 2 ^ 31) (x : Int32) : (∃ n, n < k ∧ x = nI n ∧ nI 0 ≤ x ∧ x < nI k) ∨ ((∀ j, j < k → x ≠ nI j) ∧ ¬ (nI 0 ≤ x ∧ x < nI k)) := by
  by_cases h : nI 0 ≤ x ∧ x < nI k
  · obtain ⟨n, hn, rfl⟩ := mn_nonneg h.1
    exact Or.inl ⟨n, (mn_lt hn hk).mp h.2, rfl, h.1, h.2⟩
  · refine Or.inr ⟨fun j hj e => h ?_, h⟩
    subst e
    exact ⟨(mn_le (by omega) (by omega)).mpr (Nat.zero_le _), (mn_lt (by omega) hk).mpr hj⟩
theorem mn_div {a b : Nat} (ha : a < 2 ^ 31) (hb : b < 2 ^ 31) : nI a / nI b = nI (a / b) := by
  apply Int32.toInt_inj.mp
  rw [Int32.toInt_div, nI_toInt ha, nI_toInt hb]
  have h1 : a / b ≤ a := Nat.div_le_self _ _
  rw [nI_toInt (by omega)]
  rw [show ((a : Int).tdiv (b : Int)) = ((a / b : Nat) : Int) from rfl]
  generalize a / b = q at h1 ⊢
  rw [Int.bmod_eq_of_le] <;> omega
theorem mn_rem {a b : Nat} (ha : a < 2 ^ 31) (hb : b < 2 ^ 31) : nI a - nI a / nI b * nI b = nI (a % b) := by
  rw [mn_div ha hb, mn_mul]
  have h1 : a / b * b ≤ a := Nat.div_mul_le_self a b
  rw [mn_sub h1]
  congr 1
  have h2 := Nat.div_add_mod a b
  rw [Nat.mul_comm] at h2
  omega
/-! bits of the six -/
theorem mn_shl : ∀ k, k < 31 → nI 1 <<< (nI k &&& 31) = nI (2 ^ k) := by decide +kernel
def mm_del (s k : Nat) : Nat := if s.testBit k then s - 2 ^ k else s
def mm_add (s k : Nat) : Nat := if s.testBit k then s else s + 2 ^ k
def mm_dif (s t : Nat) : Nat := s - (s &&& t)
theorem mn_b0 : ∀ s, s < 64 → ∀ k, k < 6 → ((nI (s &&& 2 ^ k) = nI 0) ↔ s.testBit k = false) := by decide +kernel
theorem mn_not : ∀ s, s < 64 → ∀ k, k < 6 → nI s &&& (nI (2 ^ k) ^^^ (-1)) = nI (mm_del s k) := by decide +kernel
theorem mn_dif : ∀ s, s < 64 → ∀ t, t < 64 → nI s &&& (nI t ^^^ (-1)) = nI (mm_dif s t) := by decide +kernel
theorem mn_has : ∀ s, s < 64 → ∀ k, k < 6 → ((nI s >>> (nI k &&& 31)) &&& nI 1 = if s.testBit k = true then nI 1 else nI 0) := by decide +kernel
theorem mn_bor : ∀ s, s < 64 → ∀ k, k < 6 → s ||| 2 ^ k = mm_add s k := by decide +kernel
theorem mm_del_lt : ∀ s, s < 64 → ∀ k, k < 6 → mm_del s k < 64 := by decide +kernel
theorem mm_add_lt : ∀ s, s < 64 → ∀ k, k < 6 → mm_add s k < 64 := by decide +kernel
theorem mm_dif_lt : ∀ s, s < 64 → ∀ t, t < 64 → mm_dif s t < 64 := by decide +kernel
theorem mm_and_lt {s t : Nat} (h : s < 64) : s &&& t < 64 := Nat.lt_of_le_of_lt Nat.and_le_left h
theorem mm_del_at : ∀ s, s < 64 → ∀ k, k < 6 → ∀ j, j < 6 → (mm_del s k).testBit j = (s.testBit j && decide (j ≠ k)) := by decide +kernel
theorem mm_add_at : ∀ s, s < 64 → ∀ k, k < 6 → ∀ j, j < 6 → (mm_add s k).testBit j = (s.testBit j || decide (j = k)) := by decide +kernel
theorem mm_dif_at : ∀ s, s < 64 → ∀ t, t < 64 → ∀ j, j < 6 → (mm_dif s t).testBit j = (s.testBit j && !t.testBit j) := by decide +kernel
theorem mm_ext : ∀ s, s < 64 → ∀ t, t < 64 → (∀ j, j < 6 → s.testBit j = t.testBit j) → s = t := by decide +kernel
theorem mm_hi {s n j : Nat} (h : s < 2 ^ n) (hj : n ≤ j) : s.testBit j = false := Nat.testBit_lt_two_pow (Nat.lt_of_lt_of_le h (Nat.pow_le_pow_right (by decide) hj))
theorem mm_lt : ∀ n, n ≤ 6 → ∀ s, s < 64 → (∀ j, j < 6 → s.testBit j = true → j < n) → s < 2 ^ n := by decide +kernel
theorem mm_64 {s n : Nat} (h : s < 2 ^ n) (hn : n ≤ 6) : s < 64 := Nat.lt_of_lt_of_le h (Nat.pow_le_pow_right (n := 2) (by decide) hn)
/-- all bits below n -/
theorem mn_all : ∀ n, n < 31 → (nI 1 <<< (nI n &&& 31)) - nI 1 = nI (2 ^ n - 1) := by decide +kernel
/-- how many -/
def mm_pop (s : Nat) : Nat → Nat
  | 0 => 0
  | k + 1 => mm_pop s k + (if s.testBit k then 1 else 0)
/-- a set of ints that are all below n, among all ints -/
theorem mn_sub_all {n : Nat} (hn : n ≤ 6) (x : Int32) : (x &&& (nI (2 ^ n - 1) ^^^ (-1)) = nI 0) ↔ (nI 0 ≤ x ∧ x ≤ nI (2 ^ n - 1)) := by
  obtain ⟨m, hm, rfl⟩ := mn_of x
  have e1 : nI (2 ^ n - 1) ^^^ (-1) = nI (2 ^ 32 - 2 ^ n) := by
    have key : ∀ n, n < 7 → nI (2 ^ n - 1) ^^^ (-1) = nI (2 ^ 32 - 2 ^ n) := by decide +kernel
    exact key n (by omega)
  rw [e1, mn_and]
  have hp : 2 ^ n ≤ 64 := Nat.pow_le_pow_right (n := 2) (by decide) hn
  have hp0 : 0 < 2 ^ n := Nat.two_pow_pos n
  have e2 : m &&& (2 ^ 32 - 2 ^ n) = m / 2 ^ n * 2 ^ n := by
    apply Nat.eq_of_testBit_eq
    intro i
    rw [Nat.testBit_and, Nat.testBit_mul_two_pow]
    have key : (2 ^ 32 - 2 ^ n).testBit i = (decide (n ≤ i) && decide (i < 32)) := by
      have k1 : ∀ n, n < 7 → ∀ i, i < 32 → (2 ^ 32 - 2 ^ n).testBit i = decide (n ≤ i) := by decide +kernel
      by_cases hi : i < 32
      · rw [k1 n (by omega) i hi]; simp [hi]
      · rw [Nat.testBit_lt_two_pow (Nat.lt_of_lt_of_le (show 2 ^ 32 - 2 ^ n < 2 ^ 32 by omega) (Nat.pow_le_pow_right (n := 2) (by decide) (by omega)))]
        simp [hi]
    rw [key]
    by_cases hi : n ≤ i
    · rw [Nat.testBit_div_two_pow, show i - n + n = i by omega]
      by_cases h32 : i < 32
      · simp [hi, h32]
      · rw [Nat.testBit_lt_two_pow (Nat.lt_of_lt_of_le hm (Nat.pow_le_pow_right (n := 2) (by decide) (by omega)))]
        simp
    · simp [hi]
  rw [e2]
  have hle : m / 2 ^ n * 2 ^ n ≤ m := Nat.div_mul_le_self m _
  constructor
  · intro h
    have h0 : m / 2 ^ n * 2 ^ n = 0 := by
      rcases Nat.eq_zero_or_pos (m / 2 ^ n * 2 ^ n) with h1 | h1
      · exact h1
      · exfalso
        have h2 := congrArg (fun y : Int32 => y.toBitVec.toNat) h
        simp only [nI] at h2
        have h3 : (Int32.ofNat (m / 2 ^ n * 2 ^ n)).toBitVec.toNat = m / 2 ^ n * 2 ^ n := by
          show (BitVec.ofNat 32 _).toNat = _
          rw [BitVec.toNat_ofNat, Nat.mod_eq_of_lt (by omega)]
        rw [h3] at h2
        have h4 : (Int32.ofNat 0).toBitVec.toNat = 0 := rfl
        omega
    have h1 : m < 2 ^ n := by
      rcases Nat.mul_eq_zero.mp h0 with h2 | h2
      · rcases Nat.lt_or_ge m (2 ^ n) with h3 | h3
        · exact h3
        · have := Nat.div_pos h3 hp0
          omega
      · omega
    exact ⟨(mn_le (by omega) (by omega)).mpr (by omega), (mn_le (by omega) (by omega)).mpr (by omega)⟩
  · rintro ⟨h1, h2⟩
    obtain ⟨k, hk, e⟩ := mn_nonneg h1
    have h3 : m = k := by
      have h4 := congrArg (fun y : Int32 => y.toBitVec.toNat) e
      have h5 : (nI m).toBitVec.toNat = m := by
        show (BitVec.ofNat 32 _).toNat = _
        rw [BitVec.toNat_ofNat, Nat.mod_eq_of_lt hm]
      have h6 : (nI k).toBitVec.toNat = k := by
        show (BitVec.ofNat 32 _).toNat = _
        rw [BitVec.toNat_ofNat, Nat.mod_eq_of_lt (by omega)]
      simp only [h5, h6] at h4
      exact h4
    subst h3
    have h4 : m < 2 ^ n := by
      have := (mn_le hk (by omega)).mp h2
      omega
    rw [Nat.div_eq_of_lt h4, Nat.zero_mul]
theorem mn_ix {k : Nat} (h : k < 2 ^ 31) : ¬ nI k < 0 ∧ (nI k).toNatClampNeg = k := ⟨nI_pos h, nI_clamp h⟩
