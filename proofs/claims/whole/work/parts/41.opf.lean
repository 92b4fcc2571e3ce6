/-! COMMANDS: in least terms; odds, chances -/
section
variable {S : mm_St} {h h' : mj_H}
theorem mm_gcd_step (a b : Nat) : Nat.gcd a b = Nat.gcd b (a % b) := by rw [Nat.gcd_comm a b, Nat.gcd_rec b a, Nat.gcd_comm]
theorem mt_151 {a b : Nat} (ha : a < 2 ^ 31) (hb : b < 2 ^ 31) : mj_C 151 [.int (nI a), .int (nI b)] h = some (some (.int (nI (Nat.gcd a b))), h) := by
  have loop : ∀ b, b < 2 ^ 31 → ∀ a, a < 2 ^ 31 → ∀ x y l4, mj_R 151 (4, [x, y, .int (nI a), .int (nI b), l4], [], h) = some (some (.int (nI (Nat.gcd a b))), h) := by
    intro b
    induction b using Nat.strongRecOn with
    | _ b ih =>
      intro hb a ha x y l4
      by_cases hz : b = 0
      · subst hz
        rw [mq_151_4]
        simp only [↓reduceIte, ↓mq_151_0, ↓mq_151_1, ↓mq_151_2, ↓mq_151_3, ↓mq_151_5, ↓mq_151_8, ↓mq_151_9, ↓mq_151_10, ↓mq_151_11, ↓mq_151_13, ↓mq_151_14, ↓mq_151_15, ↓mq_151_17, ↓mq_151_18, ↓mq_151_21, ↓mq_151_22, mt_eq (show 0 = 0 from rfl), Nat.gcd_zero_right]
      · have hr : a % b < b := Nat.mod_lt _ (by omega)
        have := ih (a % b) hr (by omega) b hb x y (.int (nI (a % b)))
        rw [mm_gcd_step, ← this]
        have hbz : (nI b = 0) = False := mf_eq (b := 0) hz
        rw [mq_151_4]
        simp only [↓reduceIte, ↓mq_151_0, ↓mq_151_1, ↓mq_151_2, ↓mq_151_3, ↓mq_151_5, ↓mq_151_8, ↓mq_151_9, ↓mq_151_10, ↓mq_151_11, ↓mq_151_13, ↓mq_151_14, ↓mq_151_15, ↓mq_151_17, ↓mq_151_18, ↓mq_151_21, ↓mq_151_22, mf_eq hz, hbz, mn_rem ha hb]
  rw [mc_151]
  simp only [↓reduceIte, ↓mq_151_0, ↓mq_151_1, ↓mq_151_2, ↓mq_151_3, ↓mq_151_5, ↓mq_151_8, ↓mq_151_9, ↓mq_151_10, ↓mq_151_11, ↓mq_151_13, ↓mq_151_14, ↓mq_151_15, ↓mq_151_17, ↓mq_151_18, ↓mq_151_21, ↓mq_151_22]
  exact loop b hb a ha _ _ _
theorem mt_84 {a b : Nat} (ha : a < 2 ^ 30) (hb : b < 2 ^ 30) : mj_C 84 [.int (nI a), .int (nI b)] h = some (some (.int (nI (Nat.gcd a b))), h) := by
  have loop : ∀ f a b i, b ≤ a → a < 2 ^ 31 → a * b < 2 ^ f → i + f = 64 → ∀ x y l5, mj_R 84 (7, [x, y, .int (nI a), .int (nI b), .int (nI i), l5], [], h) = some (some (.int (nI (Nat.gcd a b))), h) := by
    intro f
    induction f with
    | zero =>
      intro a b i hba ha hp hi x y l5
      obtain rfl : i = 64 := by omega
      have hz : b = 0 := by
        rcases Nat.eq_zero_or_pos b with z | z
        · exact z
        · have := Nat.mul_pos (show 0 < a by omega) z; omega
      subst hz
      simp only [↓reduceIte, ↓mq_84_0, ↓mq_84_1, ↓mq_84_2, ↓mq_84_3, ↓mq_84_4, ↓mq_84_5, ↓mq_84_7, ↓mq_84_9, ↓mq_84_11, ↓mq_84_14, ↓mq_84_15, ↓mq_84_18, ↓mq_84_19, ↓mq_84_20, ↓mq_84_21, ↓mq_84_23, ↓mq_84_24, ↓mq_84_25, ↓mq_84_27, ↓mq_84_28, ↓mq_84_31, ↓mq_84_34, ↓mq_84_35, mt_le (Nat.le_refl 64), Nat.gcd_zero_right]
    | succ f ih =>
      intro a b i hba ha hp hi x y l5
      by_cases hz : b = 0
      · subst hz
        rw [mq_84_7]
        simp only [↓reduceIte, ↓mq_84_0, ↓mq_84_1, ↓mq_84_2, ↓mq_84_3, ↓mq_84_4, ↓mq_84_5, ↓mq_84_9, ↓mq_84_11, ↓mq_84_14, ↓mq_84_15, ↓mq_84_18, ↓mq_84_19, ↓mq_84_20, ↓mq_84_21, ↓mq_84_23, ↓mq_84_24, ↓mq_84_25, ↓mq_84_27, ↓mq_84_28, ↓mq_84_31, ↓mq_84_34, ↓mq_84_35, mf_le (show i < 64 by omega), mt_le (Nat.le_refl 0), Nat.gcd_zero_right]
      · have hr : a % b < b := Nat.mod_lt _ (by omega)
        have h2 : b + a % b ≤ a := by
          have h3 := Nat.div_add_mod a b
          have h4 : 1 ≤ a / b := (Nat.le_div_iff_mul_le (by omega)).mpr (by omega)
          have h5 : b * 1 ≤ b * (a / b) := Nat.mul_le_mul_left b h4
          omega
        have hprod : b * (a % b) < 2 ^ f := by
          have h6 : 2 * (a % b) ≤ a := by omega
          have h7 : b * (2 * (a % b)) ≤ b * a := Nat.mul_le_mul_left b h6
          have h8 : b * (2 * (a % b)) = 2 * (b * (a % b)) := by rw [Nat.mul_left_comm]
          have h9 : b * a = a * b := Nat.mul_comm _ _
          have h10 : (2 : Nat) ^ (f + 1) = 2 * 2 ^ f := by rw [Nat.pow_succ, Nat.mul_comm]
          omega
        have := ih b (a % b) (i + 1) (by omega) (by omega) hprod (by omega) x y (.int (nI (a % b)))
        rw [mm_gcd_step, ← this]
        have hbz : (nI b = 0) = False := mf_eq (b := 0) hz (by omega)
        rw [mq_84_7]
        simp only [↓reduceIte, ↓mq_84_0, ↓mq_84_1, ↓mq_84_2, ↓mq_84_3, ↓mq_84_4, ↓mq_84_5, ↓mq_84_9, ↓mq_84_11, ↓mq_84_14, ↓mq_84_15, ↓mq_84_18, ↓mq_84_19, ↓mq_84_20, ↓mq_84_21, ↓mq_84_23, ↓mq_84_24, ↓mq_84_25, ↓mq_84_27, ↓mq_84_28, ↓mq_84_31, ↓mq_84_34, ↓mq_84_35, mf_le (show i < 64 by omega), mf_le (show 0 < b by omega), hbz, mn_rem ha (show b < 2 ^ 31 by omega), mn_add]
  rw [mc_84]
  by_cases hz : b = 0
  · subst hz
    have := loop 64 a 0 0 (by omega) (by omega) (by simp) rfl (.int (nI a)) (.int (nI 0)) .null
    rw [← this]
    simp only [↓reduceIte, ↓mq_84_0, ↓mq_84_1, ↓mq_84_2, ↓mq_84_3, ↓mq_84_4, ↓mq_84_5, ↓mq_84_9, ↓mq_84_11, ↓mq_84_14, ↓mq_84_15, ↓mq_84_18, ↓mq_84_19, ↓mq_84_20, ↓mq_84_21, ↓mq_84_23, ↓mq_84_24, ↓mq_84_25, ↓mq_84_27, ↓mq_84_28, ↓mq_84_31, ↓mq_84_34, ↓mq_84_35]
  · have hr : a % b < b := Nat.mod_lt _ (by omega)
    have hp : b * (a % b) < 2 ^ 63 := by
      have h1 : b * (a % b) ≤ 2 ^ 30 * 2 ^ 30 := Nat.mul_le_mul (by omega) (by omega)
      have h2 : (2 : Nat) ^ 30 * 2 ^ 30 < 2 ^ 63 := by decide
      omega
    have := loop 63 b (a % b) 1 (by omega) (by omega) hp rfl (.int (nI a)) (.int (nI b)) (.int (nI (a % b)))
    rw [mm_gcd_step, ← this]
    have hbz : (nI b = 0) = False := mf_eq (b := 0) hz (by omega)
    simp only [↓reduceIte, ↓mq_84_0, ↓mq_84_1, ↓mq_84_2, ↓mq_84_3, ↓mq_84_4, ↓mq_84_5, ↓mq_84_9, ↓mq_84_11, ↓mq_84_14, ↓mq_84_15, ↓mq_84_18, ↓mq_84_19, ↓mq_84_20, ↓mq_84_21, ↓mq_84_23, ↓mq_84_24, ↓mq_84_25, ↓mq_84_27, ↓mq_84_28, ↓mq_84_31, ↓mq_84_34, ↓mq_84_35]
    rw [mq_84_7]
    simp only [↓reduceIte, ↓mq_84_0, ↓mq_84_1, ↓mq_84_2, ↓mq_84_3, ↓mq_84_4, ↓mq_84_5, ↓mq_84_9, ↓mq_84_11, ↓mq_84_14, ↓mq_84_15, ↓mq_84_18, ↓mq_84_19, ↓mq_84_20, ↓mq_84_21, ↓mq_84_23, ↓mq_84_24, ↓mq_84_25, ↓mq_84_27, ↓mq_84_28, ↓mq_84_31, ↓mq_84_34, ↓mq_84_35, mf_le (show 0 < 64 by omega), mf_le (show 0 < b by omega), hbz, mn_rem (show a < 2 ^ 31 by omega) (show b < 2 ^ 31 by omega), mn_add]
theorem mt_83 {a b : Nat} (ha : a < 2 ^ 30) (hb : b < 2 ^ 30) (hpos : 0 < b) (u : Bool) : mj_C 83 [.int (nI a), .int (nI b), .int (mj_bI u)] h = some (some (.int (nI ((if u = true then a else b) / Nat.gcd a b))), h) := by
  have hg : 0 < Nat.gcd a b := Nat.gcd_pos_of_pos_right a hpos
  have hg2 : Nat.gcd a b ≤ b := Nat.le_of_dvd hpos (Nat.gcd_dvd_right a b)
  have hgz : (nI (Nat.gcd a b) = 0) = False := mf_eq (b := 0) (by omega) (by omega)
  rw [mc_83]
  cases u
  · simp only [↓reduceIte, ↓mq_83_0, ↓mq_83_1, ↓mq_83_2, ↓mq_83_5, ↓mq_83_6, ↓mq_83_7, ↓mq_83_10, ↓mq_83_11, ↓mq_83_14, ↓mq_83_15, ↓mq_83_17, ↓mq_83_18, ↓mq_83_21, ↓mq_83_23, ↓mq_83_24, ↓mq_83_25, ↓mq_83_28, ↓mq_83_30, ↓mj_bs (mt_84 ha hb), Option.toList, List.cons_append, List.nil_append, mj_b0, mf_le hg (show Nat.gcd a b < 2 ^ 31 by omega), hgz, mn_div (show b < 2 ^ 31 by omega) (show Nat.gcd a b < 2 ^ 31 by omega), Bool.false_eq_true]
  · simp only [↓reduceIte, ↓mq_83_0, ↓mq_83_1, ↓mq_83_2, ↓mq_83_5, ↓mq_83_6, ↓mq_83_7, ↓mq_83_10, ↓mq_83_11, ↓mq_83_14, ↓mq_83_15, ↓mq_83_17, ↓mq_83_18, ↓mq_83_21, ↓mq_83_23, ↓mq_83_24, ↓mq_83_25, ↓mq_83_28, ↓mq_83_30, ↓mj_bs (mt_84 ha hb), Option.toList, List.cons_append, List.nil_append, mj_b0, Bool.true_eq_false, mf_le hg (show Nat.gcd a b < 2 ^ 31 by omega), hgz, mn_div (show a < 2 ^ 31 by omega) (show Nat.gcd a b < 2 ^ 31 by omega)]
theorem mt_150 (H : mj_isC h 65 7 = true) {a b : Nat} (ha : a < 2 ^ 30) (hb : b < 2 ^ 30) (hpos : 0 < b) (u : Bool) : mj_C 150 [.int (nI a), .int (nI b), .int (mj_bI u)] h = some (some (.int (nI ((if u = true then a else b) / Nat.gcd a b))), h) := by
  have hg : 0 < Nat.gcd a b := Nat.gcd_pos_of_pos_right a hpos
  have hg2 : Nat.gcd a b ≤ b := Nat.le_of_dvd hpos (Nat.gcd_dvd_right a b)
  have hgz : (nI (Nat.gcd a b) = 0) = False := mf_eq (b := 0) (by omega) (by omega)
  rw [mc_150]
  cases u
  · simp only [↓reduceIte, ↓mq_150_0, ↓mq_150_1, ↓mq_150_2, ↓mq_150_5, ↓mq_150_6, ↓mq_150_7, ↓mq_150_10, ↓mq_150_11, ↓mq_150_12, ↓mq_150_13, ↓mq_150_16, ↓mq_150_17, ↓mq_150_18, ↓mq_150_19, ↓mj_bs (mt_151 (show a < 2 ^ 31 by omega) (show b < 2 ^ 31 by omega)), Option.toList, List.cons_append, List.nil_append, mj_b0, hgz, mn_div (show b < 2 ^ 31 by omega) (show Nat.gcd a b < 2 ^ 31 by omega), Bool.false_eq_true]
  · simp only [↓reduceIte, ↓mq_150_0, ↓mq_150_1, ↓mq_150_2, ↓mq_150_5, ↓mq_150_6, ↓mq_150_7, ↓mq_150_10, ↓mq_150_11, ↓mq_150_12, ↓mq_150_13, ↓mq_150_16, ↓mq_150_17, ↓mq_150_18, ↓mq_150_19, ↓mj_bs (mt_151 (show a < 2 ^ 31 by omega) (show b < 2 ^ 31 by omega)), Option.toList, List.cons_append, List.nil_append, mj_b0, Bool.true_eq_false, hgz, mn_div (show a < 2 ^ 31 by omega) (show Nat.gcd a b < 2 ^ 31 by omega)]
theorem mt_78 {b k : Nat} (hk : k < 2 ^ 31) : mj_C 78 [.int (nI b), .int (nI k)] h = some (some (.int (nI (b ^ k))), h) := by
  have loop : ∀ d i, i + d = k → mj_R 78 (4, [.int (nI b), .int (nI k), .int (nI (b ^ i)), .int (nI i)], [], h) = some (some (.int (nI (b ^ k))), h) := by
    intro d
    induction d with
    | zero =>
      intro i hi
      obtain rfl : i = k := by omega
      simp only [↓reduceIte, ↓mq_78_0, ↓mq_78_1, ↓mq_78_2, ↓mq_78_3, ↓mq_78_4, ↓mq_78_5, ↓mq_78_6, ↓mq_78_9, ↓mq_78_10, ↓mq_78_11, ↓mq_78_12, ↓mq_78_13, ↓mq_78_16, ↓mq_78_19, ↓mq_78_20, mt_le (Nat.le_refl i)]
    | succ d ih =>
      intro i hi
      have hin : i < k := by omega
      have ih' := ih (i + 1) (by omega)
      rw [mq_78_4]
      simp only [↓reduceIte, ↓mq_78_0, ↓mq_78_1, ↓mq_78_2, ↓mq_78_3, ↓mq_78_5, ↓mq_78_6, ↓mq_78_9, ↓mq_78_10, ↓mq_78_11, ↓mq_78_12, ↓mq_78_13, ↓mq_78_16, ↓mq_78_19, ↓mq_78_20, mf_le hin, mn_mul, mn_add]
      simpa only [Nat.pow_succ] using ih'
  rw [mc_78]
  simp only [↓reduceIte, ↓mq_78_0, ↓mq_78_1, ↓mq_78_2, ↓mq_78_3, ↓mq_78_5, ↓mq_78_6, ↓mq_78_9, ↓mq_78_10, ↓mq_78_11, ↓mq_78_12, ↓mq_78_13, ↓mq_78_16, ↓mq_78_19, ↓mq_78_20]
  exact loop k 0 (by omega)
/-! odds -/
def mm_od (ρ : mm_Ro) (μ : mm_Ma) (g : Nat) : Nat → Nat × Nat
  | 0 => (1, 1)
  | k + 1 => if mm_abl ρ μ g k = true then ((mm_od ρ μ g k).1 * 10, (mm_od ρ μ g k).2 * (10 - mr_S ρ k)) else mm_od ρ μ g k
theorem mm_od_le {ρ : mm_Ro} {μ : mm_Ma} {g : Nat} : ∀ k, 0 < (mm_od ρ μ g k).1 ∧ (mm_od ρ μ g k).1 ≤ 10 ^ k ∧ (mm_od ρ μ g k).2 ≤ (mm_od ρ μ g k).1 := by
  intro k
  induction k with
  | zero => exact ⟨Nat.zero_lt_one, Nat.le_refl 1, Nat.le_refl 1⟩
  | succ k ih =>
    obtain ⟨h1, h2, h3⟩ := ih
    simp only [mm_od, Nat.pow_succ]
    split
    · exact ⟨by show 0 < _ * 10; omega, Nat.mul_le_mul_right 10 h2, Nat.mul_le_mul h3 (Nat.sub_le _ _)⟩
    · exact ⟨h1, by omega, h3⟩
theorem mm_10_6 {k : Nat} (hk : k ≤ 6) : 10 ^ k ≤ 1000000 := Nat.pow_le_pow_right (n := 10) (by decide) hk
theorem mo_82 (J : mh_J S h) (x : Int32) (u : Bool) : mh_op 82 148 [.int x, .int (mj_bI u)] h := by
  have JJ := J
  obtain ⟨w, C, R⟩ := J
  have wr := w.2.2.1
  have wm := w.2.2.2.1
  have hbd := mw_b wr wm
  have Rr := R.rr
  have hrb := Rr.1
  have G := R.pg
  obtain ⟨o1, -, Ro, -, M, -⟩ := C
  have hn9 := wr.1
  have hg9 := wr.2.1
  rcases mn_range (mr_g (ms_r S)) (by omega) x with ⟨g, hgn, rfl, -, -⟩ | ⟨-, hno⟩
  · have e39 := mt_39 Ro (nI g)
    rw [mn_dlt (by omega) (by omega), decide_eq_true hgn] at e39
    have e123 := mt_123 wr hrb (nI g)
    rw [mn_dlt (by omega) (by omega), decide_eq_true hgn] at e123
    have hgS := (wr.2.2.2.2 g hgn).1
    obtain ⟨A1, A2, A3⟩ := mm_od_le (ρ := ms_r S) (μ := ms_m S) (g := g) (mr_n (ms_r S))
    have A4 := mm_10_6 hn9
    have fin : ∀ z, z = nI (((if u = true then (mm_od (ms_r S) (ms_m S) g (mr_n (ms_r S))).1 - (mm_od (ms_r S) (ms_m S) g (mr_n (ms_r S))).2 else (mm_od (ms_r S) (ms_m S) g (mr_n (ms_r S))).1)) / Nat.gcd ((mm_od (ms_r S) (ms_m S) g (mr_n (ms_r S))).1 - (mm_od (ms_r S) (ms_m S) g (mr_n (ms_r S))).2) (mm_od (ms_r S) (ms_m S) g (mr_n (ms_r S))).1) → mh_op 82 148 [.int (nI g), .int (mj_bI u)] h := by
      intro z hz
      have loopC : ∀ d i, i + d = mr_n (ms_r S) → mj_R 82 (21, [.ref 1, .int (nI g), .int (mj_bI u), .int (nI (mm_od (ms_r S) (ms_m S) g i).1), .int (nI (mm_od (ms_r S) (ms_m S) g i).2), .int (nI i)], [], h) = some (some (.int z), h) := by
        intro d
        induction d with
        | zero =>
          intro i hi
          obtain rfl : i = mr_n (ms_r S) := by omega
          have e83 := mt_83 (h := h) (a := (mm_od (ms_r S) (ms_m S) g (mr_n (ms_r S))).1 - (mm_od (ms_r S) (ms_m S) g (mr_n (ms_r S))).2) (b := (mm_od (ms_r S) (ms_m S) g (mr_n (ms_r S))).1) (by omega) (by omega) A1 u
          rw [← hz] at e83
          simp only [↓reduceIte, ↓mq_82_0, ↓mq_82_1, ↓mq_82_4, ↓mq_82_5, ↓mq_82_8, ↓mq_82_11, ↓mq_82_12, ↓mq_82_13, ↓mq_82_14, ↓mq_82_15, ↓mq_82_16, ↓mq_82_18, ↓mq_82_19, ↓mq_82_21, ↓mq_82_23, ↓mq_82_24, ↓mq_82_27, ↓mq_82_30, ↓mq_82_33, ↓mq_82_34, ↓mq_82_37, ↓mq_82_39, ↓mq_82_42, ↓mq_82_45, ↓mq_82_46, ↓mq_82_49, ↓mq_82_52, ↓mq_82_54, ↓mq_82_55, ↓mq_82_56, ↓mq_82_59, ↓mq_82_62, ↓mq_82_63, ↓mq_82_64, ↓mq_82_67, ↓mq_82_68, ↓mq_82_70, ↓mq_82_71, ↓mq_82_72, ↓mq_82_74, ↓mq_82_76, ↓mq_82_77, ↓mq_82_80, ↓mq_82_83, ↓mq_82_85, ↓mq_82_86, ↓mq_82_87, ↓mq_82_88, ↓mq_82_90, ↓mq_82_93, ↓mq_82_96, ↓mq_82_97, ↓mq_82_99, ↓mq_82_100, ↓mq_82_101, ↓mq_82_102, ↓mq_82_105, ↓mj_bs (mh_gf 1 o1 rfl), ↓mj_bs (mh_gf 1 Ro.1 rfl), mt_le (Nat.le_refl (mr_n (ms_r S))), mn_sub A3, ↓mj_bs (e83), Option.toList, List.cons_append, List.nil_append]
        | succ d ih =>
          intro i hi
          have hin : i < mr_n (ms_r S) := by omega
          have ih' := ih (i + 1) (by omega)
          have hW := wr.2.2.2.1 i hin
          rw [mq_82_21]
          cases hbi : (ma_b (ms_m S)).testBit i
          · have e : mm_od (ms_r S) (ms_m S) g (i + 1) = mm_od (ms_r S) (ms_m S) g i := by simp [mm_od, mm_abl, hbi]
            rw [e] at ih'
            simp only [↓reduceIte, ↓mq_82_0, ↓mq_82_1, ↓mq_82_4, ↓mq_82_5, ↓mq_82_8, ↓mq_82_11, ↓mq_82_12, ↓mq_82_13, ↓mq_82_14, ↓mq_82_15, ↓mq_82_16, ↓mq_82_18, ↓mq_82_19, ↓mq_82_23, ↓mq_82_24, ↓mq_82_27, ↓mq_82_30, ↓mq_82_33, ↓mq_82_34, ↓mq_82_37, ↓mq_82_39, ↓mq_82_42, ↓mq_82_45, ↓mq_82_46, ↓mq_82_49, ↓mq_82_52, ↓mq_82_54, ↓mq_82_55, ↓mq_82_56, ↓mq_82_59, ↓mq_82_62, ↓mq_82_63, ↓mq_82_64, ↓mq_82_67, ↓mq_82_68, ↓mq_82_70, ↓mq_82_71, ↓mq_82_72, ↓mq_82_74, ↓mq_82_76, ↓mq_82_77, ↓mq_82_80, ↓mq_82_83, ↓mq_82_85, ↓mq_82_86, ↓mq_82_87, ↓mq_82_88, ↓mq_82_90, ↓mq_82_93, ↓mq_82_96, ↓mq_82_97, ↓mq_82_99, ↓mq_82_100, ↓mq_82_101, ↓mq_82_102, ↓mq_82_105, ↓mj_bs (mh_gf 1 o1 rfl), ↓mj_bs (mh_gf 1 Ro.1 rfl), mf_le hin, ↓mj_bs (mh_gf 3 o1 rfl), mh_isC M.1, ↓mj_bs (mt_15 M hbd (show i < 6 by omega)), Option.toList, List.cons_append, List.nil_append, hbi, mj_b0, mn_add]
            exact ih'
          · by_cases hs : mr_W (ms_r S) i = mr_gS (ms_r S) g
            · have e : mm_od (ms_r S) (ms_m S) g (i + 1) = ((mm_od (ms_r S) (ms_m S) g i).1 * 10, (mm_od (ms_r S) (ms_m S) g i).2 * (10 - mr_S (ms_r S) i)) := by simp [mm_od, mm_abl, hbi, hs]
              rw [e] at ih'
              simp only [↓reduceIte, ↓mq_82_0, ↓mq_82_1, ↓mq_82_4, ↓mq_82_5, ↓mq_82_8, ↓mq_82_11, ↓mq_82_12, ↓mq_82_13, ↓mq_82_14, ↓mq_82_15, ↓mq_82_16, ↓mq_82_18, ↓mq_82_19, ↓mq_82_23, ↓mq_82_24, ↓mq_82_27, ↓mq_82_30, ↓mq_82_33, ↓mq_82_34, ↓mq_82_37, ↓mq_82_39, ↓mq_82_42, ↓mq_82_45, ↓mq_82_46, ↓mq_82_49, ↓mq_82_52, ↓mq_82_54, ↓mq_82_55, ↓mq_82_56, ↓mq_82_59, ↓mq_82_62, ↓mq_82_63, ↓mq_82_64, ↓mq_82_67, ↓mq_82_68, ↓mq_82_70, ↓mq_82_71, ↓mq_82_72, ↓mq_82_74, ↓mq_82_76, ↓mq_82_77, ↓mq_82_80, ↓mq_82_83, ↓mq_82_85, ↓mq_82_86, ↓mq_82_87, ↓mq_82_88, ↓mq_82_90, ↓mq_82_93, ↓mq_82_96, ↓mq_82_97, ↓mq_82_99, ↓mq_82_100, ↓mq_82_101, ↓mq_82_102, ↓mq_82_105, ↓mj_bs (mh_gf 1 o1 rfl), ↓mj_bs (mh_gf 1 Ro.1 rfl), mf_le hin, ↓mj_bs (mh_gf 3 o1 rfl), mh_isC M.1, ↓mj_bs (mt_15 M hbd (show i < 6 by omega)), Option.toList, List.cons_append, List.nil_append, hbi, mj_b0, Bool.true_eq_false, ↓mj_bs (mh_gf 6 Ro.1 rfl), ↓mj_bs (Ro.2.2.2.2.1.gt (show i < 6 by omega) hin), ↓mj_bs (mh_gf 8 Ro.1 rfl), ↓mj_bs (Ro.2.2.2.2.2.2.1.gt (show g < 3 by omega) hgn), mt_eq hs, ↓mj_bs (mh_gf 5 Ro.1 rfl), ↓mj_bs (Ro.2.2.2.1.gt (show i < 6 by omega) hin), mn_mul, mn_sub (show mr_S (ms_r S) i ≤ 10 by omega), mn_add]
              exact ih'
            · have e : mm_od (ms_r S) (ms_m S) g (i + 1) = mm_od (ms_r S) (ms_m S) g i := by simp [mm_od, mm_abl, hs]
              rw [e] at ih'
              simp only [↓reduceIte, ↓mq_82_0, ↓mq_82_1, ↓mq_82_4, ↓mq_82_5, ↓mq_82_8, ↓mq_82_11, ↓mq_82_12, ↓mq_82_13, ↓mq_82_14, ↓mq_82_15, ↓mq_82_16, ↓mq_82_18, ↓mq_82_19, ↓mq_82_23, ↓mq_82_24, ↓mq_82_27, ↓mq_82_30, ↓mq_82_33, ↓mq_82_34, ↓mq_82_37, ↓mq_82_39, ↓mq_82_42, ↓mq_82_45, ↓mq_82_46, ↓mq_82_49, ↓mq_82_52, ↓mq_82_54, ↓mq_82_55, ↓mq_82_56, ↓mq_82_59, ↓mq_82_62, ↓mq_82_63, ↓mq_82_64, ↓mq_82_67, ↓mq_82_68, ↓mq_82_70, ↓mq_82_71, ↓mq_82_72, ↓mq_82_74, ↓mq_82_76, ↓mq_82_77, ↓mq_82_80, ↓mq_82_83, ↓mq_82_85, ↓mq_82_86, ↓mq_82_87, ↓mq_82_88, ↓mq_82_90, ↓mq_82_93, ↓mq_82_96, ↓mq_82_97, ↓mq_82_99, ↓mq_82_100, ↓mq_82_101, ↓mq_82_102, ↓mq_82_105, ↓mj_bs (mh_gf 1 o1 rfl), ↓mj_bs (mh_gf 1 Ro.1 rfl), mf_le hin, ↓mj_bs (mh_gf 3 o1 rfl), mh_isC M.1, ↓mj_bs (mt_15 M hbd (show i < 6 by omega)), Option.toList, List.cons_append, List.nil_append, hbi, mj_b0, Bool.true_eq_false, ↓mj_bs (mh_gf 6 Ro.1 rfl), ↓mj_bs (Ro.2.2.2.2.1.gt (show i < 6 by omega) hin), ↓mj_bs (mh_gf 8 Ro.1 rfl), ↓mj_bs (Ro.2.2.2.2.2.2.1.gt (show g < 3 by omega) hgn), mf_eq hs, mn_add]
              exact ih'
      have loopR : ∀ d i, i + d = mr_n (ms_r S) → mj_R 148 (23, [.ref 65, .int (nI g), .int (mj_bI u), .int (nI (mm_od (ms_r S) (ms_m S) g i).2), .int (nI (mm_od (ms_r S) (ms_m S) g i).1), .int (nI i)], [], h) = some (some (.int z), h) := by
        intro d
        induction d with
        | zero =>
          intro i hi
          obtain rfl : i = mr_n (ms_r S) := by omega
          have e150 := mt_150 (mr_is hrb) (a := (mm_od (ms_r S) (ms_m S) g (mr_n (ms_r S))).1 - (mm_od (ms_r S) (ms_m S) g (mr_n (ms_r S))).2) (b := (mm_od (ms_r S) (ms_m S) g (mr_n (ms_r S))).1) (by omega) (by omega) A1 u
          rw [← hz] at e150
          simp only [↓reduceIte, ↓mq_148_0, ↓mq_148_1, ↓mq_148_2, ↓mq_148_5, ↓mq_148_6, ↓mq_148_7, ↓mq_148_10, ↓mq_148_13, ↓mq_148_14, ↓mq_148_15, ↓mq_148_16, ↓mq_148_17, ↓mq_148_18, ↓mq_148_20, ↓mq_148_21, ↓mq_148_23, ↓mq_148_25, ↓mq_148_26, ↓mq_148_29, ↓mq_148_32, ↓mq_148_33, ↓mq_148_35, ↓mq_148_36, ↓mq_148_39, ↓mq_148_42, ↓mq_148_43, ↓mq_148_45, ↓mq_148_46, ↓mq_148_49, ↓mq_148_50, ↓mq_148_52, ↓mq_148_53, ↓mq_148_54, ↓mq_148_55, ↓mq_148_56, ↓mq_148_57, ↓mq_148_58, ↓mq_148_59, ↓mq_148_61, ↓mq_148_63, ↓mq_148_64, ↓mq_148_66, ↓mq_148_69, ↓mq_148_72, ↓mq_148_74, ↓mq_148_75, ↓mq_148_76, ↓mq_148_78, ↓mq_148_79, ↓mq_148_82, ↓mj_bs (mr_bn hrb), mt_le (Nat.le_refl (mr_n (ms_r S))), mn_sub A3, ↓mj_bs (e150), Option.toList, List.cons_append, List.nil_append]
        | succ d ih =>
          intro i hi
          have hin : i < mr_n (ms_r S) := by omega
          have ih' := ih (i + 1) (by omega)
          have hW := wr.2.2.2.1 i hin
          have e149 := mt_149 wr wm Rr G hin hgn
          rw [show ((ma_b (ms_m S)).testBit i && decide (mr_W (ms_r S) i = mr_gS (ms_r S) g)) = mm_abl (ms_r S) (ms_m S) g i from rfl] at e149
          rw [mq_148_23]
          cases hab : mm_abl (ms_r S) (ms_m S) g i
          · simp only [mm_od, hab, Bool.false_eq_true, if_false] at ih'
            simp only [↓reduceIte, ↓mq_148_0, ↓mq_148_1, ↓mq_148_2, ↓mq_148_5, ↓mq_148_6, ↓mq_148_7, ↓mq_148_10, ↓mq_148_13, ↓mq_148_14, ↓mq_148_15, ↓mq_148_16, ↓mq_148_17, ↓mq_148_18, ↓mq_148_20, ↓mq_148_21, ↓mq_148_25, ↓mq_148_26, ↓mq_148_29, ↓mq_148_32, ↓mq_148_33, ↓mq_148_35, ↓mq_148_36, ↓mq_148_39, ↓mq_148_42, ↓mq_148_43, ↓mq_148_45, ↓mq_148_46, ↓mq_148_49, ↓mq_148_50, ↓mq_148_52, ↓mq_148_53, ↓mq_148_54, ↓mq_148_55, ↓mq_148_56, ↓mq_148_57, ↓mq_148_58, ↓mq_148_59, ↓mq_148_61, ↓mq_148_63, ↓mq_148_64, ↓mq_148_66, ↓mq_148_69, ↓mq_148_72, ↓mq_148_74, ↓mq_148_75, ↓mq_148_76, ↓mq_148_78, ↓mq_148_79, ↓mq_148_82, ↓mj_bs (mr_bn hrb), mf_le hin, mr_is hrb, ↓mj_bs (e149), Option.toList, List.cons_append, List.nil_append, hab, mj_b0, mn_add]
            exact ih'
          · simp only [mm_od, hab, if_true] at ih'
            simp only [↓reduceIte, ↓mq_148_0, ↓mq_148_1, ↓mq_148_2, ↓mq_148_5, ↓mq_148_6, ↓mq_148_7, ↓mq_148_10, ↓mq_148_13, ↓mq_148_14, ↓mq_148_15, ↓mq_148_16, ↓mq_148_17, ↓mq_148_18, ↓mq_148_20, ↓mq_148_21, ↓mq_148_25, ↓mq_148_26, ↓mq_148_29, ↓mq_148_32, ↓mq_148_33, ↓mq_148_35, ↓mq_148_36, ↓mq_148_39, ↓mq_148_42, ↓mq_148_43, ↓mq_148_45, ↓mq_148_46, ↓mq_148_49, ↓mq_148_50, ↓mq_148_52, ↓mq_148_53, ↓mq_148_54, ↓mq_148_55, ↓mq_148_56, ↓mq_148_57, ↓mq_148_58, ↓mq_148_59, ↓mq_148_61, ↓mq_148_63, ↓mq_148_64, ↓mq_148_66, ↓mq_148_69, ↓mq_148_72, ↓mq_148_74, ↓mq_148_75, ↓mq_148_76, ↓mq_148_78, ↓mq_148_79, ↓mq_148_82, ↓mj_bs (mr_bn hrb), mf_le hin, mr_is hrb, ↓mj_bs (e149), Option.toList, List.cons_append, List.nil_append, hab, mj_b0, Bool.true_eq_false, ↓mj_bs (mr_b6 hrb), mn_mul, mn_add, ↓mj_bs (mr_S4 Rr hn9 hin), mn_sub (show mr_S (ms_r S) i ≤ 10 by omega)]
            exact ih'
      refine mh_opQ (v := .int z) JJ ?_ ?_
      · rw [mc_82]
        simp only [↓reduceIte, ↓mq_82_0, ↓mq_82_1, ↓mq_82_4, ↓mq_82_5, ↓mq_82_8, ↓mq_82_11, ↓mq_82_12, ↓mq_82_13, ↓mq_82_14, ↓mq_82_15, ↓mq_82_16, ↓mq_82_18, ↓mq_82_19, ↓mq_82_23, ↓mq_82_24, ↓mq_82_27, ↓mq_82_30, ↓mq_82_33, ↓mq_82_34, ↓mq_82_37, ↓mq_82_39, ↓mq_82_42, ↓mq_82_45, ↓mq_82_46, ↓mq_82_49, ↓mq_82_52, ↓mq_82_54, ↓mq_82_55, ↓mq_82_56, ↓mq_82_59, ↓mq_82_62, ↓mq_82_63, ↓mq_82_64, ↓mq_82_67, ↓mq_82_68, ↓mq_82_70, ↓mq_82_71, ↓mq_82_72, ↓mq_82_74, ↓mq_82_76, ↓mq_82_77, ↓mq_82_80, ↓mq_82_83, ↓mq_82_85, ↓mq_82_86, ↓mq_82_87, ↓mq_82_88, ↓mq_82_90, ↓mq_82_93, ↓mq_82_96, ↓mq_82_97, ↓mq_82_99, ↓mq_82_100, ↓mq_82_101, ↓mq_82_102, ↓mq_82_105, ↓mj_bs (mh_gf 1 o1 rfl), mh_isC Ro.1, ↓mj_bs (e39), Option.toList, List.cons_append, List.nil_append, mj_b0, Bool.true_eq_false]
        exact loopC (mr_n (ms_r S)) 0 (by omega)
      · rw [mc_148]
        simp only [↓reduceIte, ↓mq_148_0, ↓mq_148_1, ↓mq_148_2, ↓mq_148_5, ↓mq_148_6, ↓mq_148_7, ↓mq_148_10, ↓mq_148_13, ↓mq_148_14, ↓mq_148_15, ↓mq_148_16, ↓mq_148_17, ↓mq_148_18, ↓mq_148_20, ↓mq_148_21, ↓mq_148_25, ↓mq_148_26, ↓mq_148_29, ↓mq_148_32, ↓mq_148_33, ↓mq_148_35, ↓mq_148_36, ↓mq_148_39, ↓mq_148_42, ↓mq_148_43, ↓mq_148_45, ↓mq_148_46, ↓mq_148_49, ↓mq_148_50, ↓mq_148_52, ↓mq_148_53, ↓mq_148_54, ↓mq_148_55, ↓mq_148_56, ↓mq_148_57, ↓mq_148_58, ↓mq_148_59, ↓mq_148_61, ↓mq_148_63, ↓mq_148_64, ↓mq_148_66, ↓mq_148_69, ↓mq_148_72, ↓mq_148_74, ↓mq_148_75, ↓mq_148_76, ↓mq_148_78, ↓mq_148_79, ↓mq_148_82, ↓mj_bs (mr_th hrb), mr_is hrb, ↓mj_bs (e123), Bool.not_true, Option.toList, List.cons_append, List.nil_append, mj_b0]
        exact loopR (mr_n (ms_r S)) 0 (by omega)
    exact fin _ rfl
  · have e39 := mt_39 Ro x
    rw [mn_dno hno] at e39
    have e123 := mt_123 wr hrb x
    rw [mn_dno hno] at e123
    refine mh_opQ (v := .int (-1)) JJ ?_ ?_
    · rw [mc_82]
      simp only [↓reduceIte, ↓mq_82_0, ↓mq_82_1, ↓mq_82_4, ↓mq_82_5, ↓mq_82_8, ↓mq_82_11, ↓mq_82_12, ↓mq_82_13, ↓mq_82_14, ↓mq_82_15, ↓mq_82_16, ↓mq_82_18, ↓mq_82_19, ↓mq_82_21, ↓mq_82_23, ↓mq_82_24, ↓mq_82_27, ↓mq_82_30, ↓mq_82_33, ↓mq_82_34, ↓mq_82_37, ↓mq_82_39, ↓mq_82_42, ↓mq_82_45, ↓mq_82_46, ↓mq_82_49, ↓mq_82_52, ↓mq_82_54, ↓mq_82_55, ↓mq_82_56, ↓mq_82_59, ↓mq_82_62, ↓mq_82_63, ↓mq_82_64, ↓mq_82_67, ↓mq_82_68, ↓mq_82_70, ↓mq_82_71, ↓mq_82_72, ↓mq_82_74, ↓mq_82_76, ↓mq_82_77, ↓mq_82_80, ↓mq_82_83, ↓mq_82_85, ↓mq_82_86, ↓mq_82_87, ↓mq_82_88, ↓mq_82_90, ↓mq_82_93, ↓mq_82_96, ↓mq_82_97, ↓mq_82_99, ↓mq_82_100, ↓mq_82_101, ↓mq_82_102, ↓mq_82_105, ↓mj_bs (mh_gf 1 o1 rfl), mh_isC Ro.1, ↓mj_bs (e39), Option.toList, List.cons_append, List.nil_append, mj_b0]
    · rw [mc_148]
      simp only [↓reduceIte, ↓mq_148_0, ↓mq_148_1, ↓mq_148_2, ↓mq_148_5, ↓mq_148_6, ↓mq_148_7, ↓mq_148_10, ↓mq_148_13, ↓mq_148_14, ↓mq_148_15, ↓mq_148_16, ↓mq_148_17, ↓mq_148_18, ↓mq_148_20, ↓mq_148_21, ↓mq_148_23, ↓mq_148_25, ↓mq_148_26, ↓mq_148_29, ↓mq_148_32, ↓mq_148_33, ↓mq_148_35, ↓mq_148_36, ↓mq_148_39, ↓mq_148_42, ↓mq_148_43, ↓mq_148_45, ↓mq_148_46, ↓mq_148_49, ↓mq_148_50, ↓mq_148_52, ↓mq_148_53, ↓mq_148_54, ↓mq_148_55, ↓mq_148_56, ↓mq_148_57, ↓mq_148_58, ↓mq_148_59, ↓mq_148_61, ↓mq_148_63, ↓mq_148_64, ↓mq_148_66, ↓mq_148_69, ↓mq_148_72, ↓mq_148_74, ↓mq_148_75, ↓mq_148_76, ↓mq_148_78, ↓mq_148_79, ↓mq_148_82, ↓mj_bs (mr_th hrb), mr_is hrb, ↓mj_bs (e123), Bool.not_false, Option.toList, List.cons_append, List.nil_append, mj_b0, Bool.true_eq_false]
/-! chances -/
def mm_wt (μ : mm_Ma) (x l : Nat) : Nat := (10 - x) ^ mm_pop l 6 * x ^ mm_pop (mm_dif (ma_b μ) l) 6
def mm_lc (ρ : mm_Ro) (μ : mm_Ma) (g l : Nat) : Bool := decide (mm_dif l (ma_b μ) = 0) && mm_opens ρ l g
def mm_lk (ρ : mm_Ro) (μ : mm_Ma) (g x : Nat) : Nat → Nat
  | 0 => 0
  | l + 1 => if mm_lc ρ μ g l = true then mm_lk ρ μ g x l + mm_wt μ x l else mm_lk ρ μ g x l
theorem mm_pop_sub : ∀ b, b < 64 → ∀ l, l < 64 → mm_dif l b = 0 → mm_pop l 6 + mm_pop (mm_dif b l) 6 ≤ 6 ∧ l ≤ b := by decide +kernel
theorem mm_wt_le {μ : mm_Ma} {x l : Nat} (hb : ma_b μ < 64) (hl : l < 64) (hs : mm_dif l (ma_b μ) = 0) (hx : x ≤ 10) : mm_wt μ x l ≤ 1000000 := by
  have h1 := (mm_pop_sub _ hb l hl hs).1
  have h2 : (10 - x) ^ mm_pop l 6 ≤ 10 ^ mm_pop l 6 := Nat.pow_le_pow_left (by omega) _
  have h3 : x ^ mm_pop (mm_dif (ma_b μ) l) 6 ≤ 10 ^ mm_pop (mm_dif (ma_b μ) l) 6 := Nat.pow_le_pow_left hx _
  have h4 := Nat.mul_le_mul h2 h3
  rw [← Nat.pow_add] at h4
  exact Nat.le_trans h4 (mm_10_6 h1)
theorem mm_lk_le {ρ : mm_Ro} {μ : mm_Ma} {g x : Nat} (hb : ma_b μ < 64) (hx : x ≤ 10) : ∀ l, l ≤ 64 → mm_lk ρ μ g x l ≤ l * 1000000 := by
  intro l
  induction l with
  | zero => intro _; exact Nat.zero_le _
  | succ l ih =>
    intro hl
    have h1 := ih (by omega)
    simp only [mm_lk]
    split
    · rename_i hc
      simp only [mm_lc, Bool.and_eq_true, decide_eq_true_eq] at hc
      have h2 := mm_wt_le hb (show l < 64 by omega) hc.1 hx
      rw [Nat.succ_mul]
      exact Nat.add_le_add h1 h2
    · rw [Nat.succ_mul]
      exact Nat.le_trans h1 (Nat.le_add_right _ _)
theorem mm_lk_up {ρ : mm_Ro} {μ : mm_Ma} {g x : Nat} (hb : ma_b μ < 64) : ∀ d, ma_b μ + 1 + d ≤ 64 → mm_lk ρ μ g x (ma_b μ + 1 + d) = mm_lk ρ μ g x (ma_b μ + 1) := by
  intro d
  induction d with
  | zero => intro _; rfl
  | succ d ih =>
    intro hd
    rw [show ma_b μ + 1 + (d + 1) = (ma_b μ + 1 + d) + 1 by omega]
    have e : mm_lk ρ μ g x (ma_b μ + 1 + d + 1) = if mm_lc ρ μ g (ma_b μ + 1 + d) = true then mm_lk ρ μ g x (ma_b μ + 1 + d) + mm_wt μ x (ma_b μ + 1 + d) else mm_lk ρ μ g x (ma_b μ + 1 + d) := rfl
    rw [e, if_neg, ih (by omega)]
    intro hc
    simp only [mm_lc, Bool.and_eq_true, decide_eq_true_eq] at hc
    have := (mm_pop_sub _ hb (ma_b μ + 1 + d) (by omega) hc.1).2
    omega
/-- the reference multiplies beast by beast -/
def mm_pr (b x l : Nat) : Nat → Nat
  | 0 => 1
  | k + 1 => mm_pr b x l k * (if b.testBit k = true then (if l.testBit k = true then 10 - x else x) else 1)
theorem mm_pr_eq {b x l : Nat} (hb : b < 64) (hl : l < 64) (hs : mm_dif l b = 0) : ∀ k, k ≤ 6 → mm_pr b x l k = (10 - x) ^ mm_pop l k * x ^ mm_pop (mm_dif b l) k := by
  intro k
  induction k with
  | zero => intro _; rfl
  | succ k ih =>
    intro hk
    have h1 := mm_dif_at l hl b hb k (by omega)
    rw [hs, Nat.zero_testBit] at h1
    have h2 := mm_dif_at b hb l hl k (by omega)
    simp only [mm_pr, mm_pop, ih (by omega), h2]
    cases hbk : b.testBit k
    · cases hlk : l.testBit k
      · simp
      · rw [hbk, hlk] at h1; cases h1
    · cases hlk : l.testBit k
      · simp [Nat.pow_succ, Nat.mul_assoc]
      · simp only [if_true, Bool.not_true, Bool.and_false, Bool.false_eq_true, if_false, Nat.add_zero, Nat.pow_succ]
        rw [Nat.mul_assoc, Nat.mul_comm (x ^ _), ← Nat.mul_assoc]
theorem mm_pop_hi {l n : Nat} (hn : n ≤ 6) (hl : l < 2 ^ n) : ∀ d, n + d ≤ 6 → mm_pop l (n + d) = mm_pop l n := by
  intro d
  induction d with
  | zero => intro _; rfl
  | succ d ih =>
    intro hd
    rw [show n + (d + 1) = n + d + 1 by omega]
    simp only [mm_pop]
    rw [mm_hi hl (show n ≤ n + d by omega), ih (by omega)]
    simp
theorem mt_40n {ρ : mm_Ro} {r s g : Nat} (w : mw_R ρ) (H : mh_Ro h r ρ) (hs : s < 64) (hg : g < mr_g ρ) : mj_C 40 [.ref r, .int (nI s), .int (nI g)] h = some (some (.int (mj_bI (mm_opens ρ s g))), h) := by
  rw [mt_40 w H hs (nI g)]
  have h3 := w.2.1
  have e : decide (∃ g', g' < mr_g ρ ∧ nI g = nI g' ∧ mm_opens ρ s g' = true) = mm_opens ρ s g := by
    cases hq : mm_opens ρ s g
    · refine decide_eq_false ?_
      rintro ⟨g', h1, h2, h4⟩
      have : g = g' := (mn_eq (by omega) (by omega)).mp h2
      subst this
      rw [hq] at h4; cases h4
    · exact decide_eq_true ⟨g, hg, rfl, hq⟩
  rw [e]
end
