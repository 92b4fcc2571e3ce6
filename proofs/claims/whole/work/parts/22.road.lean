/-! THE CLASS'S ROAD: what its methods answer -/
section
variable {h : mj_H} {r : Nat} {ρ : mm_Ro}
theorem mt_31 (H : mh_Ro h r ρ) (x : Int32) : mj_C 31 [.ref r, .int x] h = some (some (.int (mj_bI (decide (nI 0 ≤ x ∧ x < nI (mr_n ρ))))), h) := by
  rw [mc_31]
  simp only [↓reduceIte, ↓mq_31_0, ↓mq_31_1, ↓mq_31_4, ↓mq_31_5, ↓mq_31_6, ↓mq_31_9, ↓mq_31_12, ↓mq_31_13, ↓mq_31_16, ↓mq_31_17, ↓mj_bs (mh_gf 1 H.1 rfl), mj_z0, mj_z1]
  by_cases h1 : nI 0 ≤ x <;> by_cases h2 : nI (mr_n ρ) ≤ x <;> simp [mj_bI, mx_lt, h1, h2]
theorem mt_39 (H : mh_Ro h r ρ) (x : Int32) : mj_C 39 [.ref r, .int x] h = some (some (.int (mj_bI (decide (nI 0 ≤ x ∧ x < nI (mr_g ρ))))), h) := by
  rw [mc_39]
  simp only [↓reduceIte, ↓mq_39_0, ↓mq_39_1, ↓mq_39_4, ↓mq_39_5, ↓mq_39_6, ↓mq_39_9, ↓mq_39_12, ↓mq_39_13, ↓mq_39_16, ↓mq_39_17, ↓mj_bs (mh_gf 2 H.1 rfl), mj_z0, mj_z1]
  by_cases h1 : nI 0 ≤ x <;> by_cases h2 : nI (mr_g ρ) ≤ x <;> simp [mj_bI, mx_lt, h1, h2]
theorem mt_32 (w : mw_R ρ) (H : mh_Ro h r ρ) : mj_C 32 [.ref r] h = some (some (.int (nI (2 ^ mr_n ρ - 1))), h) := by
  rw [mc_32]
  simp only [↓reduceIte, ↓mq_32_0, ↓mq_32_1, ↓mq_32_2, ↓mq_32_5, ↓mq_32_6, ↓mq_32_7, ↓mq_32_8, ↓mj_bs (mh_gf 1 H.1 rfl), mn_all _ (show mr_n ρ < 31 by have := w.1; omega)]
theorem mt_41 (w : mw_R ρ) (H : mh_Ro h r ρ) (x : Int32) : mj_C 41 [.ref r, .int x] h = some (some (.int (mj_bI (decide (nI 0 ≤ x ∧ x ≤ nI (2 ^ mr_n ρ - 1))))), h) := by
  rw [mc_41]
  simp only [↓reduceIte, ↓mq_41_0, ↓mq_41_1, ↓mq_41_2, ↓mq_41_5, ↓mq_41_6, ↓mq_41_7, ↓mq_41_8, ↓mq_41_11, ↓mq_41_12, ↓mq_41_15, ↓mq_41_16, mh_isC H.1, if_true, ↓mj_bs (mt_32 w H), Option.toList, List.cons_append, List.nil_append, mn_sub_all w.1, mj_z0, mj_z1]
  by_cases h1 : nI 0 ≤ x ∧ x ≤ nI (2 ^ mr_n ρ - 1) <;> simp [mj_bI, h1]
theorem mt_36 (w : mw_R ρ) (H : mh_Ro h r ρ) {e : Nat} {X : Nat → Nat} (Ha : mh_ap h e 6 (fun k => k < mr_n ρ) X) {s : Nat} (hs : s < 64) : mj_C 36 [.ref r, .ref e, .int (nI s)] h = some (some (.int (nI (mm_sum X s (mr_n ρ)))), h) := by
  have hn := w.1
  have hln : mj_al h e = some (nI 6) := by obtain ⟨f, h1, -⟩ := Ha; exact h1.ln
  have loop : ∀ d i, i + d = mr_n ρ → mj_R 36 (5, [.ref r, .ref e, .int (nI s), .int (nI (mm_sum X s i)), .int (nI i)], [], h) = some (some (.int (nI (mm_sum X s (mr_n ρ)))), h) := by
    intro d
    induction d with
    | zero =>
      intro i hi
      obtain rfl : i = mr_n ρ := by omega
      simp only [↓reduceIte, ↓mq_36_0, ↓mq_36_1, ↓mq_36_2, ↓mq_36_3, ↓mq_36_5, ↓mq_36_7, ↓mq_36_8, ↓mq_36_11, ↓mq_36_14, ↓mq_36_16, ↓mq_36_17, ↓mq_36_18, ↓mq_36_21, ↓mq_36_22, ↓mq_36_23, ↓mq_36_25, ↓mq_36_26, ↓mq_36_27, ↓mq_36_30, ↓mq_36_31, ↓mq_36_32, ↓mq_36_34, ↓mq_36_35, ↓mq_36_36, ↓mq_36_37, ↓mq_36_40, ↓mq_36_43, ↓mq_36_44, ↓mj_bs (mh_gf 1 H.1 rfl), mt_le (Nat.le_refl (mr_n ρ)), if_true]
    | succ d ih =>
      intro i hi
      have hin : i < mr_n ρ := by omega
      have ih' := ih (i + 1) (by omega)
      rw [mq_36_5]
      cases hb : s.testBit i
      · simp only [↓reduceIte, ↓mq_36_0, ↓mq_36_1, ↓mq_36_2, ↓mq_36_3, ↓mq_36_7, ↓mq_36_8, ↓mq_36_11, ↓mq_36_14, ↓mq_36_16, ↓mq_36_17, ↓mq_36_18, ↓mq_36_21, ↓mq_36_22, ↓mq_36_23, ↓mq_36_25, ↓mq_36_26, ↓mq_36_27, ↓mq_36_30, ↓mq_36_31, ↓mq_36_32, ↓mq_36_34, ↓mq_36_35, ↓mq_36_36, ↓mq_36_37, ↓mq_36_40, ↓mq_36_43, ↓mq_36_44, ↓mj_bs (mh_gf 1 H.1 rfl), mf_le hin, mf_le (show i < 6 by omega), if_false, ↓mj_bs (hln), mn_shl i (by omega), mn_and, mn_bb hs (show i < 6 by omega), hb, if_true, mn_add]
        simpa only [mm_sum, hb, Bool.false_eq_true, if_false, Nat.add_zero] using ih'
      · simp only [↓reduceIte, ↓mq_36_0, ↓mq_36_1, ↓mq_36_2, ↓mq_36_3, ↓mq_36_7, ↓mq_36_8, ↓mq_36_11, ↓mq_36_14, ↓mq_36_16, ↓mq_36_17, ↓mq_36_18, ↓mq_36_21, ↓mq_36_22, ↓mq_36_23, ↓mq_36_25, ↓mq_36_26, ↓mq_36_27, ↓mq_36_30, ↓mq_36_31, ↓mq_36_32, ↓mq_36_34, ↓mq_36_35, ↓mq_36_36, ↓mq_36_37, ↓mq_36_40, ↓mq_36_43, ↓mq_36_44, ↓mj_bs (mh_gf 1 H.1 rfl), mf_le hin, mf_le (show i < 6 by omega), if_false, ↓mj_bs (hln), mn_shl i (by omega), mn_and, mn_bb hs (show i < 6 by omega), hb, Bool.true_eq_false, ↓mj_bs (Ha.gt (show i < 6 by omega) hin), mn_add]
        simpa only [mm_sum, hb, if_true] using ih'
  rw [mc_36]
  simp only [↓reduceIte, ↓mq_36_0, ↓mq_36_1, ↓mq_36_2, ↓mq_36_3, ↓mq_36_7, ↓mq_36_8, ↓mq_36_11, ↓mq_36_14, ↓mq_36_16, ↓mq_36_17, ↓mq_36_18, ↓mq_36_21, ↓mq_36_22, ↓mq_36_23, ↓mq_36_25, ↓mq_36_26, ↓mq_36_27, ↓mq_36_30, ↓mq_36_31, ↓mq_36_32, ↓mq_36_34, ↓mq_36_35, ↓mq_36_36, ↓mq_36_37, ↓mq_36_40, ↓mq_36_43, ↓mq_36_44]
  exact loop (mr_n ρ) 0 (by omega)
theorem mt_35 (w : mw_R ρ) (H : mh_Ro h r ρ) {s : Nat} (hs : s < 64) : mj_C 35 [.ref r, .int (nI s)] h = some (some (.int (nI (mm_sum (mr_S ρ) s (mr_n ρ)))), h) := by
  rw [mc_35]
  simp only [↓reduceIte, ↓mq_35_0, ↓mq_35_1, ↓mq_35_2, ↓mq_35_5, ↓mq_35_6, ↓mq_35_9, ↓mj_bs (mh_gf 5 H.1 rfl), mh_isC H.1, if_true, ↓mj_bs (mt_36 w H H.2.2.2.1 hs), Option.toList, List.cons_append, List.nil_append]
theorem mt_43 (w : mw_R ρ) (H : mh_Ro h r ρ) {s : Nat} (hs : s < 64) : mj_C 43 [.ref r, .int (nI s)] h = some (some (.int (nI (mm_sum (mr_P ρ) s (mr_n ρ)))), h) := by
  rw [mc_43]
  simp only [↓reduceIte, ↓mq_43_0, ↓mq_43_1, ↓mq_43_2, ↓mq_43_5, ↓mq_43_6, ↓mq_43_9, ↓mj_bs (mh_gf 4 H.1 rfl), mh_isC H.1, if_true, ↓mj_bs (mt_36 w H H.2.2.1 hs), Option.toList, List.cons_append, List.nil_append]
theorem mt_37 (w : mw_R ρ) (H : mh_Ro h r ρ) {s : Nat} (hs : s < 64) : mj_C 37 [.ref r, .int (nI s)] h = some (some (.int (nI (mm_or (fun k => 2 ^ mr_W ρ k) s (mr_n ρ)))), h) := by
  have hn := w.1
  have loop : ∀ d i, i + d = mr_n ρ → mj_R 37 (4, [.ref r, .int (nI s), .int (nI (mm_or (fun k => 2 ^ mr_W ρ k) s i)), .int (nI i)], [], h) = some (some (.int (nI (mm_or (fun k => 2 ^ mr_W ρ k) s (mr_n ρ)))), h) := by
    intro d
    induction d with
    | zero =>
      intro i hi
      obtain rfl : i = mr_n ρ := by omega
      simp only [↓reduceIte, ↓mq_37_0, ↓mq_37_1, ↓mq_37_2, ↓mq_37_3, ↓mq_37_4, ↓mq_37_5, ↓mq_37_6, ↓mq_37_9, ↓mq_37_12, ↓mq_37_13, ↓mq_37_14, ↓mq_37_15, ↓mq_37_16, ↓mq_37_17, ↓mq_37_20, ↓mq_37_21, ↓mq_37_22, ↓mq_37_23, ↓mq_37_26, ↓mq_37_27, ↓mq_37_28, ↓mq_37_29, ↓mq_37_30, ↓mq_37_31, ↓mq_37_34, ↓mq_37_37, ↓mq_37_38, ↓mj_bs (mh_gf 1 H.1 rfl), mt_le (Nat.le_refl (mr_n ρ)), if_true]
    | succ d ih =>
      intro i hi
      have hin : i < mr_n ρ := by omega
      have ih' := ih (i + 1) (by omega)
      have hw := (w.2.2.2.1 i hin).2.2.2.2.2.1
      rw [mq_37_4]
      cases hb : s.testBit i
      · simp only [↓reduceIte, ↓mq_37_0, ↓mq_37_1, ↓mq_37_2, ↓mq_37_3, ↓mq_37_5, ↓mq_37_6, ↓mq_37_9, ↓mq_37_12, ↓mq_37_13, ↓mq_37_14, ↓mq_37_15, ↓mq_37_16, ↓mq_37_17, ↓mq_37_20, ↓mq_37_21, ↓mq_37_22, ↓mq_37_23, ↓mq_37_26, ↓mq_37_27, ↓mq_37_28, ↓mq_37_29, ↓mq_37_30, ↓mq_37_31, ↓mq_37_34, ↓mq_37_37, ↓mq_37_38, ↓mj_bs (mh_gf 1 H.1 rfl), mf_le hin, if_false, mn_shl i (by omega), mn_and, mn_bb hs (show i < 6 by omega), hb, if_true, mn_add]
        simpa only [mm_or, hb, Bool.false_eq_true, if_false, Nat.or_zero] using ih'
      · simp only [↓reduceIte, ↓mq_37_0, ↓mq_37_1, ↓mq_37_2, ↓mq_37_3, ↓mq_37_5, ↓mq_37_6, ↓mq_37_9, ↓mq_37_12, ↓mq_37_13, ↓mq_37_14, ↓mq_37_15, ↓mq_37_16, ↓mq_37_17, ↓mq_37_20, ↓mq_37_21, ↓mq_37_22, ↓mq_37_23, ↓mq_37_26, ↓mq_37_27, ↓mq_37_28, ↓mq_37_29, ↓mq_37_30, ↓mq_37_31, ↓mq_37_34, ↓mq_37_37, ↓mq_37_38, ↓mj_bs (mh_gf 1 H.1 rfl), ↓mj_bs (mh_gf 6 H.1 rfl), mf_le hin, if_false, mn_shl i (by omega), mn_and, mn_bb hs (show i < 6 by omega), hb, Bool.true_eq_false, ↓mj_bs (H.2.2.2.2.1.gt (show i < 6 by omega) hin), mn_shl (mr_W ρ i) (by omega), mn_or, mn_add]
        simpa only [mm_or, hb, if_true] using ih'
  rw [mc_37]
  simp only [↓reduceIte, ↓mq_37_0, ↓mq_37_1, ↓mq_37_2, ↓mq_37_3, ↓mq_37_5, ↓mq_37_6, ↓mq_37_9, ↓mq_37_12, ↓mq_37_13, ↓mq_37_14, ↓mq_37_15, ↓mq_37_16, ↓mq_37_17, ↓mq_37_20, ↓mq_37_21, ↓mq_37_22, ↓mq_37_23, ↓mq_37_26, ↓mq_37_27, ↓mq_37_28, ↓mq_37_29, ↓mq_37_30, ↓mq_37_31, ↓mq_37_34, ↓mq_37_37, ↓mq_37_38]
  exact loop (mr_n ρ) 0 (by omega)
/-- whom somebody of a set hates -/
theorem mt_42 (w : mw_R ρ) (H : mh_Ro h r ρ) {s : Nat} (hs : s < 64) : mj_C 42 [.ref r, .int (nI s)] h = some (some (.int (mj_bI (decide (s &&& mm_or (mr_E ρ) s (mr_n ρ) ≠ 0)))), h) := by
  have hn := w.1
  have loop : ∀ d i, i + d = mr_n ρ → mj_R 42 (4, [.ref r, .int (nI s), .int (nI (mm_or (mr_E ρ) s i)), .int (nI i)], [], h) = some (some (.int (mj_bI (decide (s &&& mm_or (mr_E ρ) s (mr_n ρ) ≠ 0)))), h) := by
    intro d
    induction d with
    | zero =>
      intro i hi
      obtain rfl : i = mr_n ρ := by omega
      have hlt : s &&& mm_or (mr_E ρ) s (mr_n ρ) < 64 := mm_and_lt hs
      by_cases hz : s &&& mm_or (mr_E ρ) s (mr_n ρ) = 0
      · simp only [↓reduceIte, ↓mq_42_0, ↓mq_42_1, ↓mq_42_2, ↓mq_42_3, ↓mq_42_4, ↓mq_42_5, ↓mq_42_6, ↓mq_42_9, ↓mq_42_12, ↓mq_42_13, ↓mq_42_14, ↓mq_42_15, ↓mq_42_16, ↓mq_42_17, ↓mq_42_20, ↓mq_42_21, ↓mq_42_22, ↓mq_42_25, ↓mq_42_26, ↓mq_42_27, ↓mq_42_28, ↓mq_42_29, ↓mq_42_32, ↓mq_42_35, ↓mq_42_36, ↓mq_42_37, ↓mq_42_38, ↓mq_42_41, ↓mq_42_42, ↓mq_42_45, ↓mq_42_46, ↓mj_bs (mh_gf 1 H.1 rfl), mt_le (Nat.le_refl (mr_n ρ)), if_true, mn_and, mt_eq hz, mj_z0]
        simp [mj_bI, hz]
      · simp only [↓reduceIte, ↓mq_42_0, ↓mq_42_1, ↓mq_42_2, ↓mq_42_3, ↓mq_42_4, ↓mq_42_5, ↓mq_42_6, ↓mq_42_9, ↓mq_42_12, ↓mq_42_13, ↓mq_42_14, ↓mq_42_15, ↓mq_42_16, ↓mq_42_17, ↓mq_42_20, ↓mq_42_21, ↓mq_42_22, ↓mq_42_25, ↓mq_42_26, ↓mq_42_27, ↓mq_42_28, ↓mq_42_29, ↓mq_42_32, ↓mq_42_35, ↓mq_42_36, ↓mq_42_37, ↓mq_42_38, ↓mq_42_41, ↓mq_42_42, ↓mq_42_45, ↓mq_42_46, ↓mj_bs (mh_gf 1 H.1 rfl), mt_le (Nat.le_refl (mr_n ρ)), if_true, mn_and, mf_eq hz, if_false, mj_z1]
        simp [mj_bI, hz]
    | succ d ih =>
      intro i hi
      have hin : i < mr_n ρ := by omega
      have ih' := ih (i + 1) (by omega)
      rw [mq_42_4]
      cases hb : s.testBit i
      · simp only [↓reduceIte, ↓mq_42_0, ↓mq_42_1, ↓mq_42_2, ↓mq_42_3, ↓mq_42_5, ↓mq_42_6, ↓mq_42_9, ↓mq_42_12, ↓mq_42_13, ↓mq_42_14, ↓mq_42_15, ↓mq_42_16, ↓mq_42_17, ↓mq_42_20, ↓mq_42_21, ↓mq_42_22, ↓mq_42_25, ↓mq_42_26, ↓mq_42_27, ↓mq_42_28, ↓mq_42_29, ↓mq_42_32, ↓mq_42_35, ↓mq_42_36, ↓mq_42_37, ↓mq_42_38, ↓mq_42_41, ↓mq_42_42, ↓mq_42_45, ↓mq_42_46, ↓mj_bs (mh_gf 1 H.1 rfl), mf_le hin, if_false, mn_shl i (by omega), mn_and, mn_bb hs (show i < 6 by omega), hb, if_true, mn_add]
        simpa only [mm_or, hb, Bool.false_eq_true, if_false, Nat.or_zero] using ih'
      · simp only [↓reduceIte, ↓mq_42_0, ↓mq_42_1, ↓mq_42_2, ↓mq_42_3, ↓mq_42_5, ↓mq_42_6, ↓mq_42_9, ↓mq_42_12, ↓mq_42_13, ↓mq_42_14, ↓mq_42_15, ↓mq_42_16, ↓mq_42_17, ↓mq_42_20, ↓mq_42_21, ↓mq_42_22, ↓mq_42_25, ↓mq_42_26, ↓mq_42_27, ↓mq_42_28, ↓mq_42_29, ↓mq_42_32, ↓mq_42_35, ↓mq_42_36, ↓mq_42_37, ↓mq_42_38, ↓mq_42_41, ↓mq_42_42, ↓mq_42_45, ↓mq_42_46, ↓mj_bs (mh_gf 1 H.1 rfl), ↓mj_bs (mh_gf 7 H.1 rfl), mf_le hin, if_false, mn_shl i (by omega), mn_and, mn_bb hs (show i < 6 by omega), hb, Bool.true_eq_false, ↓mj_bs (H.2.2.2.2.2.1.gt (show i < 6 by omega) hin), mn_or, mn_add]
        simpa only [mm_or, hb, if_true] using ih'
  rw [mc_42]
  simp only [↓reduceIte, ↓mq_42_0, ↓mq_42_1, ↓mq_42_2, ↓mq_42_3, ↓mq_42_5, ↓mq_42_6, ↓mq_42_9, ↓mq_42_12, ↓mq_42_13, ↓mq_42_14, ↓mq_42_15, ↓mq_42_16, ↓mq_42_17, ↓mq_42_20, ↓mq_42_21, ↓mq_42_22, ↓mq_42_25, ↓mq_42_26, ↓mq_42_27, ↓mq_42_28, ↓mq_42_29, ↓mq_42_32, ↓mq_42_35, ↓mq_42_36, ↓mq_42_37, ↓mq_42_38, ↓mq_42_41, ↓mq_42_42, ↓mq_42_45, ↓mq_42_46]
  exact loop (mr_n ρ) 0 (by omega)
/-- what one asks who envies nobody -/
def mm_pa (ρ : mm_Ro) (b : Nat) : Nat := if mr_K ρ b = 1 then (mr_P ρ b + 1) / 2 else mr_P ρ b
theorem mt_38 (w : mw_R ρ) (H : mh_Ro h r ρ) {b : Nat} (hb : b < mr_n ρ) : mj_C 38 [.ref r, .int (nI b)] h = some (some (.int (nI (mm_pa ρ b))), h) := by
  have hn := w.1
  obtain ⟨w1, w2, w3, -⟩ := w.2.2.2.1 b hb
  have hin : decide (nI 0 ≤ nI b ∧ nI b < nI (mr_n ρ)) = true := decide_eq_true ⟨nI_le (Nat.zero_le _) (by omega), nI_lt hb (by omega)⟩
  rw [mc_38]
  by_cases hk : mr_K ρ b = 1
  · simp only [↓reduceIte, ↓mq_38_0, ↓mq_38_1, ↓mq_38_2, ↓mq_38_5, ↓mq_38_8, ↓mq_38_9, ↓mq_38_10, ↓mq_38_11, ↓mq_38_14, ↓mq_38_15, ↓mq_38_16, ↓mq_38_17, ↓mq_38_20, ↓mq_38_21, ↓mq_38_24, ↓mq_38_25, ↓mq_38_26, ↓mq_38_27, ↓mq_38_28, ↓mq_38_29, ↓mq_38_30, ↓mq_38_33, ↓mq_38_34, ↓mq_38_37, ↓mq_38_38, ↓mq_38_39, mh_isC H.1, if_true, ↓mj_bs (mt_31 H (nI b)), Option.toList, List.cons_append, List.nil_append, mj_b0, hin, Bool.true_eq_false, if_false, ↓mj_bs (mh_gf 3 H.1 rfl), ↓mj_bs (H.2.1.gt (show b < 6 by omega) hb), mt_eq hk, ↓mj_bs (mh_gf 4 H.1 rfl), ↓mj_bs (H.2.2.1.gt (show b < 6 by omega) hb), mn_add, mf_eq (show 2 ≠ 0 by omega), show (nI 2 = 0) = False from by decide, mn_div (show mr_P ρ b + 1 < 2 ^ 31 by omega) (show 2 < 2 ^ 31 by omega)]
    simp [mm_pa, hk]
  · simp only [↓reduceIte, ↓mq_38_0, ↓mq_38_1, ↓mq_38_2, ↓mq_38_5, ↓mq_38_8, ↓mq_38_9, ↓mq_38_10, ↓mq_38_11, ↓mq_38_14, ↓mq_38_15, ↓mq_38_16, ↓mq_38_17, ↓mq_38_20, ↓mq_38_21, ↓mq_38_24, ↓mq_38_25, ↓mq_38_26, ↓mq_38_27, ↓mq_38_28, ↓mq_38_29, ↓mq_38_30, ↓mq_38_33, ↓mq_38_34, ↓mq_38_37, ↓mq_38_38, ↓mq_38_39, mh_isC H.1, if_true, ↓mj_bs (mt_31 H (nI b)), Option.toList, List.cons_append, List.nil_append, mj_b0, hin, Bool.true_eq_false, if_false, ↓mj_bs (mh_gf 3 H.1 rfl), ↓mj_bs (H.2.1.gt (show b < 6 by omega) hb), mf_eq hk, ↓mj_bs (mh_gf 4 H.1 rfl), ↓mj_bs (H.2.2.1.gt (show b < 6 by omega) hb)]
    simp [mm_pa, hk]
def mm_opens (ρ : mm_Ro) (s g : Nat) : Bool := (mm_or (fun k => 2 ^ mr_W ρ k) s (mr_n ρ)).testBit (mr_gS ρ g) && decide (mr_gW ρ g ≤ mm_sum (mr_S ρ) s (mr_n ρ))
theorem mm_sk64 (w : mw_R ρ) (s : Nat) : mm_or (fun k => 2 ^ mr_W ρ k) s (mr_n ρ) < 64 := by
  refine Nat.lt_of_lt_of_le (mm_or_lt (j := 4) _ (fun k hk => ?_)) (by decide)
  have hw := (w.2.2.2.1 k hk).2.2.2.2.2.1
  exact Nat.pow_lt_pow_right (by decide) (by omega)
theorem mm_S54 (w : mw_R ρ) (s : Nat) : mm_sum (mr_S ρ) s (mr_n ρ) ≤ 54 := by
  have h1 := mm_sum_le (X := mr_S ρ) (s := s) (c := 9) (mr_n ρ) (fun k hk => (w.2.2.2.1 k hk).2.2.2.2.1)
  have := w.1
  omega
theorem mt_40 (w : mw_R ρ) (H : mh_Ro h r ρ) {s : Nat} (hs : s < 64) (x : Int32) : mj_C 40 [.ref r, .int (nI s), .int x] h = some (some (.int (mj_bI (decide (∃ g, g < mr_g ρ ∧ x = nI g ∧ mm_opens ρ s g = true)))), h) := by
  have hn := w.1
  have hg3 := w.2.1
  rw [mc_40]
  rcases mn_range (mr_g ρ) (by omega) x with ⟨g, hg, rfl, g1, g2⟩ | ⟨g1, g2⟩
  · have hin : decide (nI 0 ≤ nI g ∧ nI g < nI (mr_g ρ)) = true := decide_eq_true ⟨g1, g2⟩
    have hw := w.2.2.2.2 g hg
    have hsk := mm_sk64 w s
    have hS := mm_S54 w s
    have hx : (∃ g', g' < mr_g ρ ∧ nI g = nI g' ∧ mm_opens ρ s g' = true) ↔ mm_opens ρ s g = true := ⟨fun ⟨g', a, b, c⟩ => by rwa [(mn_eq (by omega) (by omega)).mp b], fun z => ⟨g, hg, rfl, z⟩⟩
    cases hb : (mm_or (fun k => 2 ^ mr_W ρ k) s (mr_n ρ)).testBit (mr_gS ρ g)
    · simp only [↓reduceIte, ↓mq_40_0, ↓mq_40_1, ↓mq_40_2, ↓mq_40_5, ↓mq_40_8, ↓mq_40_9, ↓mq_40_10, ↓mq_40_13, ↓mq_40_14, ↓mq_40_15, ↓mq_40_18, ↓mq_40_19, ↓mq_40_20, ↓mq_40_21, ↓mq_40_22, ↓mq_40_25, ↓mq_40_26, ↓mq_40_27, ↓mq_40_30, ↓mq_40_31, ↓mq_40_34, ↓mq_40_35, ↓mq_40_36, ↓mq_40_39, ↓mq_40_40, ↓mq_40_43, ↓mq_40_44, mh_isC H.1, if_true, ↓mj_bs (mt_39 H (nI g)), Option.toList, List.cons_append, List.nil_append, mj_b0, hin, Bool.true_eq_false, if_false, ↓mj_bs (mt_37 w H hs), ↓mj_bs (mh_gf 8 H.1 rfl), ↓mj_bs (H.2.2.2.2.2.2.1.gt (show g < 3 by omega) hg), mn_shl (mr_gS ρ g) (by omega), mn_and, mn_bb hsk (show mr_gS ρ g < 6 by omega), hb, mj_z0, hx]
      simp [mm_opens, hb, mj_bI]
    · by_cases hst : mr_gW ρ g ≤ mm_sum (mr_S ρ) s (mr_n ρ)
      · simp only [↓reduceIte, ↓mq_40_0, ↓mq_40_1, ↓mq_40_2, ↓mq_40_5, ↓mq_40_8, ↓mq_40_9, ↓mq_40_10, ↓mq_40_13, ↓mq_40_14, ↓mq_40_15, ↓mq_40_18, ↓mq_40_19, ↓mq_40_20, ↓mq_40_21, ↓mq_40_22, ↓mq_40_25, ↓mq_40_26, ↓mq_40_27, ↓mq_40_30, ↓mq_40_31, ↓mq_40_34, ↓mq_40_35, ↓mq_40_36, ↓mq_40_39, ↓mq_40_40, ↓mq_40_43, ↓mq_40_44, mh_isC H.1, if_true, ↓mj_bs (mt_39 H (nI g)), Option.toList, List.cons_append, List.nil_append, mj_b0, hin, Bool.true_eq_false, if_false, ↓mj_bs (mt_37 w H hs), ↓mj_bs (mh_gf 8 H.1 rfl), ↓mj_bs (H.2.2.2.2.2.2.1.gt (show g < 3 by omega) hg), mn_shl (mr_gS ρ g) (by omega), mn_and, mn_bb hsk (show mr_gS ρ g < 6 by omega), hb, ↓mj_bs (mt_35 w H hs), ↓mj_bs (mh_gf 9 H.1 rfl), ↓mj_bs (H.2.2.2.2.2.2.2.gt (show g < 3 by omega) hg), mf_lt hst, mj_z1, hx]
        simp [mm_opens, hb, hst, mj_bI]
      · simp only [↓reduceIte, ↓mq_40_0, ↓mq_40_1, ↓mq_40_2, ↓mq_40_5, ↓mq_40_8, ↓mq_40_9, ↓mq_40_10, ↓mq_40_13, ↓mq_40_14, ↓mq_40_15, ↓mq_40_18, ↓mq_40_19, ↓mq_40_20, ↓mq_40_21, ↓mq_40_22, ↓mq_40_25, ↓mq_40_26, ↓mq_40_27, ↓mq_40_30, ↓mq_40_31, ↓mq_40_34, ↓mq_40_35, ↓mq_40_36, ↓mq_40_39, ↓mq_40_40, ↓mq_40_43, ↓mq_40_44, mh_isC H.1, if_true, ↓mj_bs (mt_39 H (nI g)), Option.toList, List.cons_append, List.nil_append, mj_b0, hin, Bool.true_eq_false, if_false, ↓mj_bs (mt_37 w H hs), ↓mj_bs (mh_gf 8 H.1 rfl), ↓mj_bs (H.2.2.2.2.2.2.1.gt (show g < 3 by omega) hg), mn_shl (mr_gS ρ g) (by omega), mn_and, mn_bb hsk (show mr_gS ρ g < 6 by omega), hb, ↓mj_bs (mt_35 w H hs), ↓mj_bs (mh_gf 9 H.1 rfl), ↓mj_bs (H.2.2.2.2.2.2.2.gt (show g < 3 by omega) hg), mt_lt (Nat.lt_of_not_le hst), mj_z0, hx]
        simp [mm_opens, hb, hst, mj_bI]
  · have hin : decide (nI 0 ≤ x ∧ x < nI (mr_g ρ)) = false := decide_eq_false g2
    have hx : (∃ g', g' < mr_g ρ ∧ x = nI g' ∧ mm_opens ρ s g' = true) ↔ False := ⟨fun ⟨g', a, b, c⟩ => g1 g' a b, fun z => z.elim⟩
    simp only [↓reduceIte, ↓mq_40_0, ↓mq_40_1, ↓mq_40_2, ↓mq_40_5, ↓mq_40_8, ↓mq_40_9, ↓mq_40_10, ↓mq_40_13, ↓mq_40_14, ↓mq_40_15, ↓mq_40_18, ↓mq_40_19, ↓mq_40_20, ↓mq_40_21, ↓mq_40_22, ↓mq_40_25, ↓mq_40_26, ↓mq_40_27, ↓mq_40_30, ↓mq_40_31, ↓mq_40_34, ↓mq_40_35, ↓mq_40_36, ↓mq_40_39, ↓mq_40_40, ↓mq_40_43, ↓mq_40_44, mh_isC H.1, if_true, ↓mj_bs (mt_39 H x), Option.toList, List.cons_append, List.nil_append, mj_b0, hin, mj_z0, hx]
    simp [mj_bI]
end
