/-! THE REFERENCE'S OBJECT: its road, its page; what it asks of them -/
abbrev mr_fs (ts pl n g rb rg rp ac ta : Int32) (sd : Int64) : List Value := [.int (nI 0), .ref 66, .int ts, .int pl, .int n, .int g, .ref 67, .ref 68, .ref 69, .int rb, .int rg, .int rp, .ref 70, .ref 71, .ref 72, .ref 73, .ref 74, .ref 75, .int ac, .ref 76, .ref 77, .int ta, .ref 78, .ref 79, .long sd, .ref 80, .ref 81, .ref 82]
def mr_told (ρ : mm_Ro) (k : Nat) : Nat := if k % 4 = 0 then mr_K ρ (k / 4) else if k % 4 = 1 then mr_P ρ (k / 4) else if k % 4 = 2 then mr_S ρ (k / 4) else mr_W ρ (k / 4)
def mr_want (ρ : mm_Ro) (k : Nat) : Nat := if k % 2 = 0 then mr_gS ρ (k / 2) else mr_gW ρ (k / 2)
def mh_Rb (h : mj_H) (ρ : mm_Ro) : Prop := ∃ (ts pl rb rg rp ac ta : Int32) (sd : Int64), h.1 65 = some (.inr (7, mr_fs ts pl (nI (mr_n ρ)) (nI (mr_g ρ)) rb rg rp ac ta sd))
def mh_RR (h : mj_H) (ρ : mm_Ro) : Prop := mh_Rb h ρ ∧ mh_ap h 67 24 (fun k => k < 4 * mr_n ρ) (mr_told ρ) ∧ mh_ap h 68 6 (fun k => k < mr_n ρ) (mr_E ρ) ∧ mh_ap h 69 6 (fun k => k < 2 * mr_g ρ) (mr_want ρ)
def mm_pgP (μ : mm_Ma) (j : Nat) : Prop := j < 5 ∨ (ma_b μ).testBit (j - 5) = true
def mm_pgX (μ : mm_Ma) (j : Nat) : Nat := if j = 0 then ma_p μ else if j = 1 then ma_b μ else if j = 2 then ma_d μ else if j = 3 then ma_n μ else if j = 4 then ma_o μ else ma_g μ (j - 5)
def mh_pg (h : mj_H) (a : Nat) (μ : mm_Ma) : Prop := mh_ap h a 11 (mm_pgP μ) (mm_pgX μ)
theorem mh_Rb.kp {A : Nat → Prop} {h h' : mj_H} {ρ : mm_Ro} (H : mh_Rb h ρ) (F : mh_F A h h') (ha : ¬ A 65) : mh_Rb h' ρ := by
  obtain ⟨ts, pl, rb, rg, rp, ac, ta, sd, e⟩ := H
  exact ⟨ts, pl, rb, rg, rp, ac, ta, sd, (F.2 65 ha).trans e⟩
theorem mh_RR.kp {A : Nat → Prop} {h h' : mj_H} {ρ : mm_Ro} (H : mh_RR h ρ) (F : mh_F A h h') (h0 : ¬ A 65) (h1 : ¬ A 67) (h2 : ¬ A 68) (h3 : ¬ A 69) : mh_RR h' ρ := ⟨H.1.kp F h0, H.2.1.kp F h1, H.2.2.1.kp F h2, H.2.2.2.kp F h3⟩
section
variable {h : mj_H} {ρ : mm_Ro} {μ : mm_Ma} {a : Nat}
theorem mr_bn (H : mh_Rb h ρ) : mj_gf h 65 7 4 = some (.int (nI (mr_n ρ))) := by
  obtain ⟨ts, pl, rb, rg, rp, ac, ta, sd, e⟩ := H
  exact mh_gf 4 e rfl
theorem mr_bg (H : mh_Rb h ρ) : mj_gf h 65 7 5 = some (.int (nI (mr_g ρ))) := by
  obtain ⟨ts, pl, rb, rg, rp, ac, ta, sd, e⟩ := H
  exact mh_gf 5 e rfl
theorem mr_b6 (H : mh_Rb h ρ) : mj_gf h 65 7 6 = some (.ref 67) := by
  obtain ⟨ts, pl, rb, rg, rp, ac, ta, sd, e⟩ := H
  exact mh_gf 6 e rfl
theorem mr_b7 (H : mh_Rb h ρ) : mj_gf h 65 7 7 = some (.ref 68) := by
  obtain ⟨ts, pl, rb, rg, rp, ac, ta, sd, e⟩ := H
  exact mh_gf 7 e rfl
theorem mr_b8 (H : mh_Rb h ρ) : mj_gf h 65 7 8 = some (.ref 69) := by
  obtain ⟨ts, pl, rb, rg, rp, ac, ta, sd, e⟩ := H
  exact mh_gf 8 e rfl
theorem mr_b15 (H : mh_Rb h ρ) : mj_gf h 65 7 15 = some (.ref 73) := by
  obtain ⟨ts, pl, rb, rg, rp, ac, ta, sd, e⟩ := H
  exact mh_gf 15 e rfl
theorem mr_b16 (H : mh_Rb h ρ) : mj_gf h 65 7 16 = some (.ref 74) := by
  obtain ⟨ts, pl, rb, rg, rp, ac, ta, sd, e⟩ := H
  exact mh_gf 16 e rfl
theorem mr_b27 (H : mh_Rb h ρ) : mj_gf h 65 7 27 = some (.ref 82) := by
  obtain ⟨ts, pl, rb, rg, rp, ac, ta, sd, e⟩ := H
  exact mh_gf 27 e rfl
theorem mr_is (H : mh_Rb h ρ) : mj_isC h 65 7 = true := by
  obtain ⟨ts, pl, rb, rg, rp, ac, ta, sd, e⟩ := H
  exact mh_isC e
/-- nothing is thrown, nothing changes -/
theorem mr_th (H : mh_Rb h ρ) : mj_pf h 65 7 0 (.int (nI 0)) = some h := by
  obtain ⟨ts, pl, rb, rg, rp, ac, ta, sd, e⟩ := H
  rw [mh_pf 0 e (by simp) rfl]
  congr 1
  obtain ⟨f, q⟩ := h
  simp only [mj_up, List.set]
  congr 1
  funext k
  by_cases hk : k = 65
  · subst hk; rw [if_pos rfl]; exact e.symm
  · rw [if_neg hk]
theorem mr_K4 (H : mh_RR h ρ) (hn : mr_n ρ ≤ 6) {k : Nat} (hk : k < mr_n ρ) : mj_gi h 67 (nI (4 * k)) = some (nI (mr_K ρ k)) := by
  rw [H.2.1.gt (show 4 * k < 24 by omega) (show 4 * k < 4 * mr_n ρ by omega)]
  simp [mr_told, show 4 * k % 4 = 0 by omega, show 4 * k / 4 = k by omega]
theorem mr_P4 (H : mh_RR h ρ) (hn : mr_n ρ ≤ 6) {k : Nat} (hk : k < mr_n ρ) : mj_gi h 67 (nI (4 * k + 1)) = some (nI (mr_P ρ k)) := by
  rw [H.2.1.gt (show 4 * k + 1 < 24 by omega) (show 4 * k + 1 < 4 * mr_n ρ by omega)]
  simp [mr_told, show (4 * k + 1) % 4 = 1 by omega, show (4 * k + 1) / 4 = k by omega]
theorem mr_S4 (H : mh_RR h ρ) (hn : mr_n ρ ≤ 6) {k : Nat} (hk : k < mr_n ρ) : mj_gi h 67 (nI (4 * k + 2)) = some (nI (mr_S ρ k)) := by
  rw [H.2.1.gt (show 4 * k + 2 < 24 by omega) (show 4 * k + 2 < 4 * mr_n ρ by omega)]
  simp [mr_told, show (4 * k + 2) % 4 = 2 by omega, show (4 * k + 2) / 4 = k by omega]
theorem mr_W4 (H : mh_RR h ρ) (hn : mr_n ρ ≤ 6) {k : Nat} (hk : k < mr_n ρ) : mj_gi h 67 (nI (4 * k + 3)) = some (nI (mr_W ρ k)) := by
  rw [H.2.1.gt (show 4 * k + 3 < 24 by omega) (show 4 * k + 3 < 4 * mr_n ρ by omega)]
  simp [mr_told, show (4 * k + 3) % 4 = 3 by omega, show (4 * k + 3) / 4 = k by omega]
theorem mr_E4 (H : mh_RR h ρ) (hn : mr_n ρ ≤ 6) {k : Nat} (hk : k < mr_n ρ) : mj_gi h 68 (nI k) = some (nI (mr_E ρ k)) := H.2.2.1.gt (show k < 6 by omega) hk
theorem mr_s2 (H : mh_RR h ρ) (hg : mr_g ρ ≤ 3) {k : Nat} (hk : k < mr_g ρ) : mj_gi h 69 (nI (2 * k)) = some (nI (mr_gS ρ k)) := by
  rw [H.2.2.2.gt (show 2 * k < 6 by omega) (show 2 * k < 2 * mr_g ρ by omega)]
  simp [mr_want, show 2 * k % 2 = 0 by omega, show 2 * k / 2 = k by omega]
theorem mr_w2 (H : mh_RR h ρ) (hg : mr_g ρ ≤ 3) {k : Nat} (hk : k < mr_g ρ) : mj_gi h 69 (nI (2 * k + 1)) = some (nI (mr_gW ρ k)) := by
  rw [H.2.2.2.gt (show 2 * k + 1 < 6 by omega) (show 2 * k + 1 < 2 * mr_g ρ by omega)]
  simp [mr_want, show (2 * k + 1) % 2 = 1 by omega, show (2 * k + 1) / 2 = k by omega]
theorem mp_0 (H : mh_pg h a μ) : mj_gi h a (nI 0) = some (nI (ma_p μ)) := H.gt (by omega) (Or.inl (by omega))
theorem mp_1 (H : mh_pg h a μ) : mj_gi h a (nI 1) = some (nI (ma_b μ)) := H.gt (by omega) (Or.inl (by omega))
theorem mp_2 (H : mh_pg h a μ) : mj_gi h a (nI 2) = some (nI (ma_d μ)) := H.gt (by omega) (Or.inl (by omega))
theorem mp_3 (H : mh_pg h a μ) : mj_gi h a (nI 3) = some (nI (ma_n μ)) := H.gt (by omega) (Or.inl (by omega))
theorem mp_4 (H : mh_pg h a μ) : mj_gi h a (nI 4) = some (nI (ma_o μ)) := H.gt (by omega) (Or.inl (by omega))
theorem mp_5 (H : mh_pg h a μ) {k : Nat} (hk : k < 6) (hb : (ma_b μ).testBit k = true) : mj_gi h a (nI (5 + k)) = some (nI (ma_g μ k)) := by
  rw [H.gt (show 5 + k < 11 by omega) (Or.inr (by rw [Nat.add_sub_cancel_left]; exact hb))]
  simp [mm_pgX, show 5 + k ≠ 0 by omega, show 5 + k ≠ 1 by omega, show 5 + k ≠ 2 by omega, show 5 + k ≠ 3 by omega, show 5 + k ≠ 4 by omega]
theorem mx_c1 {x y : Int64} : (lg_cmp x y < nI 0) = (x < y) := by
  unfold lg_cmp
  refine propext ?_
  by_cases h1 : x > y
  · rw [if_pos h1]
    have h2 : ¬ x < y := by rw [Int64.lt_iff_toInt_lt]; have := Int64.lt_iff_toInt_lt.mp h1; omega
    exact ⟨fun z => absurd z (by decide), fun z => absurd z h2⟩
  · rw [if_neg h1]
    by_cases h2 : x = y
    · rw [if_pos h2]
      exact ⟨fun z => absurd z (by decide), fun z => by subst h2; rw [Int64.lt_iff_toInt_lt] at z; omega⟩
    · rw [if_neg h2]
      have h3 : x < y := by
        rw [Int64.lt_iff_toInt_lt]
        have h4 : ¬ y.toInt < x.toInt := fun z => h1 (Int64.lt_iff_toInt_lt.mpr z)
        have h5 : x.toInt ≠ y.toInt := fun z => h2 (Int64.toInt_inj.mp z)
        omega
      exact ⟨fun _ => h3, fun _ => by decide⟩
theorem mx_c2 {x y : Int64} : (lg_cmp x y ≤ nI 0) = ¬ (y < x) := by
  unfold lg_cmp
  refine propext ?_
  by_cases h1 : x > y
  · rw [if_pos h1]
    exact ⟨fun z => absurd z (by decide), fun z => absurd h1 z⟩
  · rw [if_neg h1]
    refine ⟨fun _ => h1, fun _ => ?_⟩
    split <;> decide
theorem mx_c3 {x y : Int64} : (nI 0 < lg_cmp x y) = (y < x) := by
  refine propext ⟨fun z => ?_, fun z => ?_⟩
  · by_cases q : y < x
    · exact q
    · have : lg_cmp x y ≤ nI 0 := by rw [mx_c2]; exact q
      exact absurd this (mn_nle.mpr z)
  · have : ¬ lg_cmp x y ≤ nI 0 := by rw [mx_c2]; exact fun k => k z
    exact mn_nle.mp this
theorem mt_103 (x y z : Int64) : mj_C 103 [.long x, .long y, .long z] h = some (some (.int (mj_bI (decide (y.toInt ≤ x.toInt ∧ x.toInt ≤ z.toInt)))), h) := by
  rw [mc_103]
  by_cases h1 : x < y
  · have : ¬ y.toInt ≤ x.toInt := by rw [Int64.lt_iff_toInt_lt] at h1; omega
    simp only [↓reduceIte, ↓mq_103_0, ↓mq_103_1, ↓mq_103_2, ↓mq_103_3, ↓mq_103_6, ↓mq_103_7, ↓mq_103_9, ↓mq_103_10, ↓mq_103_13, ↓mq_103_14, ↓mq_103_17, ↓mq_103_18, mx_c1, h1, mj_z0]
    simp [this, mj_bI]
  · have h1' : y.toInt ≤ x.toInt := by rw [Int64.lt_iff_toInt_lt] at h1; omega
    by_cases h2 : z < x
    · have : ¬ x.toInt ≤ z.toInt := by rw [Int64.lt_iff_toInt_lt] at h2; omega
      simp only [↓reduceIte, ↓mq_103_0, ↓mq_103_1, ↓mq_103_2, ↓mq_103_3, ↓mq_103_6, ↓mq_103_7, ↓mq_103_9, ↓mq_103_10, ↓mq_103_13, ↓mq_103_14, ↓mq_103_17, ↓mq_103_18, mx_c1, h1, mx_c3, h2, mj_z0]
      simp [this, mj_bI]
    · have h2' : x.toInt ≤ z.toInt := by rw [Int64.lt_iff_toInt_lt] at h2; omega
      simp only [↓reduceIte, ↓mq_103_0, ↓mq_103_1, ↓mq_103_2, ↓mq_103_3, ↓mq_103_6, ↓mq_103_7, ↓mq_103_9, ↓mq_103_10, ↓mq_103_13, ↓mq_103_14, ↓mq_103_17, ↓mq_103_18, mx_c1, h1, mx_c3, h2, mj_z1]
      simp [h1', h2', mj_bI]
theorem mt_103n {x : Int32} {lo hi : Nat} {y z : Int64} (h1 : lo < 2 ^ 31) (h2 : hi < 2 ^ 31) (hy : y.toInt = (lo : Int)) (hz : z.toInt = (hi : Int)) : mj_C 103 [.long x.toInt64, .long y, .long z] h = some (some (.int (mj_bI (decide (nI lo ≤ x ∧ x ≤ nI hi)))), h) := by
  rw [mt_103, hy, hz, Int32.toInt_toInt64]
  have e1 : (nI lo ≤ x) = ((lo : Int) ≤ x.toInt) := by rw [Int32.le_iff_toInt_le, nI_toInt h1]
  have e2 : (x ≤ nI hi) = (x.toInt ≤ (hi : Int)) := by rw [Int32.le_iff_toInt_le, nI_toInt h2]
  simp only [e1, e2]
/-- under a bound that is not counted -/
theorem mt_103m {x : Int32} {n : Nat} (hn : n < 2 ^ 31) : mj_C 103 [.long x.toInt64, .long 0, .long (nI n - nI 1).toInt64] h = some (some (.int (mj_bI (decide (nI 0 ≤ x ∧ x < nI n)))), h) := by
  rw [mt_103, Int32.toInt_toInt64, Int32.toInt_toInt64]
  have e0 : (nI n - nI 1).toInt = (n : Int) - 1 := by
    by_cases hz : n = 0
    · subst hz; decide
    · rw [mn_sub (by omega), nI_toInt (by omega)]; omega
  have e1 : (nI 0 ≤ x) = ((0 : Int) ≤ x.toInt) := by rw [Int32.le_iff_toInt_le, nI_toInt (by omega)]; rfl
  have e2 : (x < nI n) = (x.toInt < (n : Int)) := by rw [Int32.lt_iff_toInt_lt, nI_toInt hn]
  have e3 : (Int64.toInt 0 ≤ x.toInt) = ((0 : Int) ≤ x.toInt) := rfl
  have e4 : (x.toInt ≤ (n : Int) - 1) = (x.toInt < (n : Int)) := propext (by omega)
  simp only [e0, e1, e2, e3, e4]
theorem mt_113 {s k : Nat} (hs : s < 64) (hk : k < 6) : mj_C 113 [.int (nI s), .int (nI k)] h = some (some (.int (mj_bI (s.testBit k))), h) := by
  rw [mc_113]
  cases hb : s.testBit k
  · simp only [↓reduceIte, ↓mq_113_0, ↓mq_113_1, ↓mq_113_2, ↓mq_113_3, ↓mq_113_4, ↓mq_113_5, ↓mq_113_6, ↓mq_113_9, ↓mq_113_10, ↓mq_113_13, ↓mq_113_14, mn_has s hs k hk, hb, Bool.false_eq_true, mf_eq (show 0 ≠ 1 by omega), mj_z0]
    rfl
  · simp only [↓reduceIte, ↓mq_113_0, ↓mq_113_1, ↓mq_113_2, ↓mq_113_3, ↓mq_113_4, ↓mq_113_5, ↓mq_113_6, ↓mq_113_9, ↓mq_113_10, ↓mq_113_13, ↓mq_113_14, mn_has s hs k hk, hb, mj_z1]
    rfl
theorem mt_144 {s : Nat} (hs : s < 64) : mj_C 144 [.int (nI s)] h = some (some (.int (nI (mm_pop s 6))), h) := by
  have loop : ∀ d i, i + d = 6 → mj_R 144 (4, [.int (nI s), .int (nI (mm_pop s i)), .int (nI i)], [], h) = some (some (.int (nI (mm_pop s 6))), h) := by
    intro d
    induction d with
    | zero =>
      intro i hi
      obtain rfl : i = 6 := by omega
      simp only [↓reduceIte, ↓mq_144_0, ↓mq_144_1, ↓mq_144_2, ↓mq_144_3, ↓mq_144_4, ↓mq_144_5, ↓mq_144_7, ↓mq_144_10, ↓mq_144_11, ↓mq_144_12, ↓mq_144_13, ↓mq_144_14, ↓mq_144_15, ↓mq_144_16, ↓mq_144_17, ↓mq_144_18, ↓mq_144_21, ↓mq_144_24, ↓mq_144_25, mt_le (Nat.le_refl 6)]
    | succ d ih =>
      intro i hi
      have hin : i < 6 := by omega
      have ih' := ih (i + 1) (by omega)
      rw [mq_144_4]
      cases hb : s.testBit i
      · simp only [↓reduceIte, ↓mq_144_0, ↓mq_144_1, ↓mq_144_2, ↓mq_144_3, ↓mq_144_5, ↓mq_144_7, ↓mq_144_10, ↓mq_144_11, ↓mq_144_12, ↓mq_144_13, ↓mq_144_14, ↓mq_144_15, ↓mq_144_16, ↓mq_144_17, ↓mq_144_18, ↓mq_144_21, ↓mq_144_24, ↓mq_144_25, mf_le hin, mn_has s hs i hin, hb, Bool.false_eq_true, mn_add]
        simpa only [mm_pop, hb, Bool.false_eq_true, if_false, Nat.add_zero] using ih'
      · simp only [↓reduceIte, ↓mq_144_0, ↓mq_144_1, ↓mq_144_2, ↓mq_144_3, ↓mq_144_5, ↓mq_144_7, ↓mq_144_10, ↓mq_144_11, ↓mq_144_12, ↓mq_144_13, ↓mq_144_14, ↓mq_144_15, ↓mq_144_16, ↓mq_144_17, ↓mq_144_18, ↓mq_144_21, ↓mq_144_24, ↓mq_144_25, mf_le hin, mn_has s hs i hin, hb, mn_add]
        simpa only [mm_pop, hb, if_true] using ih'
  rw [mc_144]
  simp only [↓reduceIte, ↓mq_144_0, ↓mq_144_1, ↓mq_144_2, ↓mq_144_3, ↓mq_144_5, ↓mq_144_7, ↓mq_144_10, ↓mq_144_11, ↓mq_144_12, ↓mq_144_13, ↓mq_144_14, ↓mq_144_15, ↓mq_144_16, ↓mq_144_17, ↓mq_144_18, ↓mq_144_21, ↓mq_144_24, ↓mq_144_25]
  exact loop 6 0 (by omega)
theorem mt_142 {k : Nat} (hk : k < 2 ^ 31) : mj_C 142 [.int (nI k)] h = some (some (.int (nI (10 ^ k))), h) := by
  have loop : ∀ d i, i + d = k → mj_R 142 (4, [.int (nI k), .int (nI (10 ^ i)), .int (nI i)], [], h) = some (some (.int (nI (10 ^ k))), h) := by
    intro d
    induction d with
    | zero =>
      intro i hi
      obtain rfl : i = k := by omega
      simp only [↓reduceIte, ↓mq_142_0, ↓mq_142_1, ↓mq_142_2, ↓mq_142_3, ↓mq_142_4, ↓mq_142_5, ↓mq_142_6, ↓mq_142_9, ↓mq_142_10, ↓mq_142_12, ↓mq_142_13, ↓mq_142_14, ↓mq_142_17, ↓mq_142_20, ↓mq_142_21, mt_le (Nat.le_refl i)]
    | succ d ih =>
      intro i hi
      have hin : i < k := by omega
      have ih' := ih (i + 1) (by omega)
      rw [mq_142_4]
      simp only [↓reduceIte, ↓mq_142_0, ↓mq_142_1, ↓mq_142_2, ↓mq_142_3, ↓mq_142_5, ↓mq_142_6, ↓mq_142_9, ↓mq_142_10, ↓mq_142_12, ↓mq_142_13, ↓mq_142_14, ↓mq_142_17, ↓mq_142_20, ↓mq_142_21, mf_le hin, mn_mul, mn_add]
      simpa only [Nat.pow_succ] using ih'
  rw [mc_142]
  simp only [↓reduceIte, ↓mq_142_0, ↓mq_142_1, ↓mq_142_2, ↓mq_142_3, ↓mq_142_5, ↓mq_142_6, ↓mq_142_9, ↓mq_142_10, ↓mq_142_12, ↓mq_142_13, ↓mq_142_14, ↓mq_142_17, ↓mq_142_20, ↓mq_142_21]
  exact loop k 0 (by omega)
theorem mt_117 (w : mw_R ρ) (H : mh_RR h ρ) {s : Nat} (hs : s < 64) : mj_C 117 [.ref 65, .int (nI s)] h = some (some (.int (nI (mm_sum (mr_S ρ) s (mr_n ρ)))), h) := by
  have hn := w.1
  have loop : ∀ d i, i + d = mr_n ρ → mj_R 117 (4, [.ref 65, .int (nI s), .int (nI (mm_sum (mr_S ρ) s i)), .int (nI i)], [], h) = some (some (.int (nI (mm_sum (mr_S ρ) s (mr_n ρ)))), h) := by
    intro d
    induction d with
    | zero =>
      intro i hi
      obtain rfl : i = mr_n ρ := by omega
      simp only [↓reduceIte, ↓mq_117_0, ↓mq_117_1, ↓mq_117_2, ↓mq_117_3, ↓mq_117_4, ↓mq_117_5, ↓mq_117_6, ↓mq_117_9, ↓mq_117_12, ↓mq_117_13, ↓mq_117_14, ↓mq_117_15, ↓mq_117_18, ↓mq_117_21, ↓mq_117_22, ↓mq_117_25, ↓mq_117_26, ↓mq_117_27, ↓mq_117_28, ↓mq_117_29, ↓mq_117_30, ↓mq_117_31, ↓mq_117_34, ↓mq_117_35, ↓mq_117_36, ↓mq_117_37, ↓mq_117_40, ↓mq_117_43, ↓mq_117_44, ↓mj_bs (mr_bn H.1), mt_le (Nat.le_refl (mr_n ρ))]
    | succ d ih =>
      intro i hi
      have hin : i < mr_n ρ := by omega
      have ih' := ih (i + 1) (by omega)
      rw [mq_117_4]
      cases hb : s.testBit i
      · simp only [↓reduceIte, ↓mq_117_0, ↓mq_117_1, ↓mq_117_2, ↓mq_117_3, ↓mq_117_5, ↓mq_117_6, ↓mq_117_9, ↓mq_117_12, ↓mq_117_13, ↓mq_117_14, ↓mq_117_15, ↓mq_117_18, ↓mq_117_21, ↓mq_117_22, ↓mq_117_25, ↓mq_117_26, ↓mq_117_27, ↓mq_117_28, ↓mq_117_29, ↓mq_117_30, ↓mq_117_31, ↓mq_117_34, ↓mq_117_35, ↓mq_117_36, ↓mq_117_37, ↓mq_117_40, ↓mq_117_43, ↓mq_117_44, ↓mj_bs (mr_bn H.1), mf_le hin, ↓mj_bs (mt_113 hs (show i < 6 by omega)), Option.toList, List.cons_append, List.nil_append, hb, mj_b0, mn_add]
        simpa only [mm_sum, hb, Bool.false_eq_true, if_false, Nat.add_zero] using ih'
      · simp only [↓reduceIte, ↓mq_117_0, ↓mq_117_1, ↓mq_117_2, ↓mq_117_3, ↓mq_117_5, ↓mq_117_6, ↓mq_117_9, ↓mq_117_12, ↓mq_117_13, ↓mq_117_14, ↓mq_117_15, ↓mq_117_18, ↓mq_117_21, ↓mq_117_22, ↓mq_117_25, ↓mq_117_26, ↓mq_117_27, ↓mq_117_28, ↓mq_117_29, ↓mq_117_30, ↓mq_117_31, ↓mq_117_34, ↓mq_117_35, ↓mq_117_36, ↓mq_117_37, ↓mq_117_40, ↓mq_117_43, ↓mq_117_44, ↓mj_bs (mr_bn H.1), mf_le hin, ↓mj_bs (mt_113 hs (show i < 6 by omega)), Option.toList, List.cons_append, List.nil_append, hb, mj_b0, Bool.true_eq_false, ↓mj_bs (mr_b6 H.1), mn_mul, mn_add, ↓mj_bs (mr_S4 H hn hin)]
        simpa only [mm_sum, hb, if_true] using ih'
  rw [mc_117]
  simp only [↓reduceIte, ↓mq_117_0, ↓mq_117_1, ↓mq_117_2, ↓mq_117_3, ↓mq_117_5, ↓mq_117_6, ↓mq_117_9, ↓mq_117_12, ↓mq_117_13, ↓mq_117_14, ↓mq_117_15, ↓mq_117_18, ↓mq_117_21, ↓mq_117_22, ↓mq_117_25, ↓mq_117_26, ↓mq_117_27, ↓mq_117_28, ↓mq_117_29, ↓mq_117_30, ↓mq_117_31, ↓mq_117_34, ↓mq_117_35, ↓mq_117_36, ↓mq_117_37, ↓mq_117_40, ↓mq_117_43, ↓mq_117_44]
  exact loop (mr_n ρ) 0 (by omega)
theorem mt_118 (w : mw_R ρ) (H : mh_RR h ρ) {s : Nat} (hs : s < 64) : mj_C 118 [.ref 65, .int (nI s)] h = some (some (.int (nI (mm_or (fun k => 2 ^ mr_W ρ k) s (mr_n ρ)))), h) := by
  have hn := w.1
  have loop : ∀ d i, i + d = mr_n ρ → mj_R 118 (4, [.ref 65, .int (nI s), .int (nI (mm_or (fun k => 2 ^ mr_W ρ k) s i)), .int (nI i)], [], h) = some (some (.int (nI (mm_or (fun k => 2 ^ mr_W ρ k) s (mr_n ρ)))), h) := by
    intro d
    induction d with
    | zero =>
      intro i hi
      obtain rfl : i = mr_n ρ := by omega
      simp only [↓reduceIte, ↓mq_118_0, ↓mq_118_1, ↓mq_118_2, ↓mq_118_3, ↓mq_118_4, ↓mq_118_5, ↓mq_118_6, ↓mq_118_9, ↓mq_118_12, ↓mq_118_13, ↓mq_118_14, ↓mq_118_15, ↓mq_118_18, ↓mq_118_21, ↓mq_118_22, ↓mq_118_23, ↓mq_118_26, ↓mq_118_27, ↓mq_118_28, ↓mq_118_29, ↓mq_118_30, ↓mq_118_31, ↓mq_118_32, ↓mq_118_33, ↓mq_118_36, ↓mq_118_37, ↓mq_118_38, ↓mq_118_39, ↓mq_118_42, ↓mq_118_45, ↓mq_118_46, ↓mj_bs (mr_bn H.1), mt_le (Nat.le_refl (mr_n ρ))]
    | succ d ih =>
      intro i hi
      have hin : i < mr_n ρ := by omega
      have ih' := ih (i + 1) (by omega)
      have hw := (w.2.2.2.1 i hin).2.2.2.2.2.1
      rw [mq_118_4]
      cases hb : s.testBit i
      · simp only [↓reduceIte, ↓mq_118_0, ↓mq_118_1, ↓mq_118_2, ↓mq_118_3, ↓mq_118_5, ↓mq_118_6, ↓mq_118_9, ↓mq_118_12, ↓mq_118_13, ↓mq_118_14, ↓mq_118_15, ↓mq_118_18, ↓mq_118_21, ↓mq_118_22, ↓mq_118_23, ↓mq_118_26, ↓mq_118_27, ↓mq_118_28, ↓mq_118_29, ↓mq_118_30, ↓mq_118_31, ↓mq_118_32, ↓mq_118_33, ↓mq_118_36, ↓mq_118_37, ↓mq_118_38, ↓mq_118_39, ↓mq_118_42, ↓mq_118_45, ↓mq_118_46, ↓mj_bs (mr_bn H.1), mf_le hin, ↓mj_bs (mt_113 hs (show i < 6 by omega)), Option.toList, List.cons_append, List.nil_append, hb, mj_b0, mn_or, mn_add]
        simpa only [mm_or, hb, Bool.false_eq_true, if_false, Nat.or_zero] using ih'
      · simp only [↓reduceIte, ↓mq_118_0, ↓mq_118_1, ↓mq_118_2, ↓mq_118_3, ↓mq_118_5, ↓mq_118_6, ↓mq_118_9, ↓mq_118_12, ↓mq_118_13, ↓mq_118_14, ↓mq_118_15, ↓mq_118_18, ↓mq_118_21, ↓mq_118_22, ↓mq_118_23, ↓mq_118_26, ↓mq_118_27, ↓mq_118_28, ↓mq_118_29, ↓mq_118_30, ↓mq_118_31, ↓mq_118_32, ↓mq_118_33, ↓mq_118_36, ↓mq_118_37, ↓mq_118_38, ↓mq_118_39, ↓mq_118_42, ↓mq_118_45, ↓mq_118_46, ↓mj_bs (mr_bn H.1), mf_le hin, ↓mj_bs (mt_113 hs (show i < 6 by omega)), Option.toList, List.cons_append, List.nil_append, hb, mj_b0, Bool.true_eq_false, ↓mj_bs (mr_b6 H.1), mn_mul, mn_add, ↓mj_bs (mr_W4 H hn hin), mn_shl (mr_W ρ i) (by omega), mn_or]
        simpa only [mm_or, hb, if_true] using ih'
  rw [mc_118]
  simp only [↓reduceIte, ↓mq_118_0, ↓mq_118_1, ↓mq_118_2, ↓mq_118_3, ↓mq_118_5, ↓mq_118_6, ↓mq_118_9, ↓mq_118_12, ↓mq_118_13, ↓mq_118_14, ↓mq_118_15, ↓mq_118_18, ↓mq_118_21, ↓mq_118_22, ↓mq_118_23, ↓mq_118_26, ↓mq_118_27, ↓mq_118_28, ↓mq_118_29, ↓mq_118_30, ↓mq_118_31, ↓mq_118_32, ↓mq_118_33, ↓mq_118_36, ↓mq_118_37, ↓mq_118_38, ↓mq_118_39, ↓mq_118_42, ↓mq_118_45, ↓mq_118_46]
  exact loop (mr_n ρ) 0 (by omega)
theorem mt_120 (w : mw_R ρ) (H : mh_Rb h ρ) (x : Int32) : mj_C 120 [.ref 65, .int x] h = some (some (.int (mj_bI (!decide (nI 0 ≤ x ∧ x < nI (mr_n ρ))))), h) := by
  have hn := w.1
  rw [mc_120]
  by_cases hc : nI 0 ≤ x ∧ x < nI (mr_n ρ)
  · simp only [↓reduceIte, ↓mq_120_0, ↓mq_120_1, ↓mq_120_2, ↓mq_120_3, ↓mq_120_4, ↓mq_120_7, ↓mq_120_8, ↓mq_120_9, ↓mq_120_10, ↓mq_120_13, ↓mq_120_16, ↓mq_120_17, ↓mq_120_20, ↓mq_120_21, ↓mj_bs (mr_bn H), ↓mj_bs (mt_103m (show mr_n ρ < 2 ^ 31 by omega)), Option.toList, List.cons_append, List.nil_append, mj_b0, hc, and_self, decide_true, Bool.true_eq_false, mj_z0, Bool.not_true]
    rfl
  · simp only [↓reduceIte, ↓mq_120_0, ↓mq_120_1, ↓mq_120_2, ↓mq_120_3, ↓mq_120_4, ↓mq_120_7, ↓mq_120_8, ↓mq_120_9, ↓mq_120_10, ↓mq_120_13, ↓mq_120_16, ↓mq_120_17, ↓mq_120_20, ↓mq_120_21, ↓mj_bs (mr_bn H), ↓mj_bs (mt_103m (show mr_n ρ < 2 ^ 31 by omega)), Option.toList, List.cons_append, List.nil_append, mj_b0, hc, decide_false, mj_z1, Bool.not_false]
    rfl
theorem mt_123 (w : mw_R ρ) (H : mh_Rb h ρ) (x : Int32) : mj_C 123 [.ref 65, .int x] h = some (some (.int (mj_bI (!decide (nI 0 ≤ x ∧ x < nI (mr_g ρ))))), h) := by
  have hn := w.2.1
  rw [mc_123]
  by_cases hc : nI 0 ≤ x ∧ x < nI (mr_g ρ)
  · simp only [↓reduceIte, ↓mq_123_0, ↓mq_123_1, ↓mq_123_2, ↓mq_123_3, ↓mq_123_4, ↓mq_123_7, ↓mq_123_8, ↓mq_123_9, ↓mq_123_10, ↓mq_123_13, ↓mq_123_16, ↓mq_123_17, ↓mq_123_20, ↓mq_123_21, ↓mj_bs (mr_bg H), ↓mj_bs (mt_103m (show mr_g ρ < 2 ^ 31 by omega)), Option.toList, List.cons_append, List.nil_append, mj_b0, hc, and_self, decide_true, Bool.true_eq_false, mj_z0, Bool.not_true]
    rfl
  · simp only [↓reduceIte, ↓mq_123_0, ↓mq_123_1, ↓mq_123_2, ↓mq_123_3, ↓mq_123_4, ↓mq_123_7, ↓mq_123_8, ↓mq_123_9, ↓mq_123_10, ↓mq_123_13, ↓mq_123_16, ↓mq_123_17, ↓mq_123_20, ↓mq_123_21, ↓mj_bs (mr_bg H), ↓mj_bs (mt_103m (show mr_g ρ < 2 ^ 31 by omega)), Option.toList, List.cons_append, List.nil_append, mj_b0, hc, decide_false, mj_z1, Bool.not_false]
    rfl
/-- the greatest given, from what he takes on his own -/
theorem mm_max_acc {X : Nat → Nat} {s c : Nat} : ∀ k, (if c < mm_max X s (k + 1) then mm_max X s (k + 1) else c) = (if s.testBit k = true then (if (if c < mm_max X s k then mm_max X s k else c) < X k then X k else (if c < mm_max X s k then mm_max X s k else c)) else (if c < mm_max X s k then mm_max X s k else c)) := by
  intro k
  simp only [mm_max]
  repeat' split
  all_goals (try simp only [*, Bool.true_and, Bool.false_and, Bool.false_eq_true, if_false, if_true, decide_true, decide_false] at *)
  all_goals omega
end
