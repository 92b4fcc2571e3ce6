/-! THE CLASS'S ROAD: what its methods answer -/
section
variable {h : mj_H} {r : Nat} {ρ : mm_Ro}
theorem mt_31 (H : mh_Ro h r ρ) (x : Int32) : mj_C 31 [.ref r, .int x] h = some (some (.int (mj_bI (decide (nI 0 ≤ x ∧ x < nI (mr_n ρ))))), h) := by
  rw [mc_31]
  simp only [↓mq_31_0, ↓mq_31_1, ↓mq_31_4, ↓mq_31_5, ↓mq_31_6, ↓mq_31_9, ↓mq_31_12, ↓mq_31_13, ↓mq_31_16, ↓mq_31_17, ↓mj_bs (mh_gf 1 H.1 rfl), mj_z0, mj_z1]
  by_cases h1 : nI 0 ≤ x <;> by_cases h2 : nI (mr_n ρ) ≤ x <;> simp [mj_bI, mx_lt, h1, h2]
theorem mt_39 (H : mh_Ro h r ρ) (x : Int32) : mj_C 39 [.ref r, .int x] h = some (some (.int (mj_bI (decide (nI 0 ≤ x ∧ x < nI (mr_g ρ))))), h) := by
  rw [mc_39]
  simp only [↓mq_39_0, ↓mq_39_1, ↓mq_39_4, ↓mq_39_5, ↓mq_39_6, ↓mq_39_9, ↓mq_39_12, ↓mq_39_13, ↓mq_39_16, ↓mq_39_17, ↓mj_bs (mh_gf 2 H.1 rfl), mj_z0, mj_z1]
  by_cases h1 : nI 0 ≤ x <;> by_cases h2 : nI (mr_g ρ) ≤ x <;> simp [mj_bI, mx_lt, h1, h2]
theorem mt_32 (w : mw_R ρ) (H : mh_Ro h r ρ) : mj_C 32 [.ref r] h = some (some (.int (nI (2 ^ mr_n ρ - 1))), h) := by
  rw [mc_32]
  simp only [↓mq_32_0, ↓mq_32_1, ↓mq_32_2, ↓mq_32_5, ↓mq_32_6, ↓mq_32_7, ↓mq_32_8, ↓mj_bs (mh_gf 1 H.1 rfl), mn_all _ (show mr_n ρ < 31 by have := w.1; omega)]
theorem mt_41 (w : mw_R ρ) (H : mh_Ro h r ρ) (x : Int32) : mj_C 41 [.ref r, .int x] h = some (some (.int (mj_bI (decide (nI 0 ≤ x ∧ x ≤ nI (2 ^ mr_n ρ - 1))))), h) := by
  rw [mc_41]
  simp only [↓mq_41_0, ↓mq_41_1, ↓mq_41_2, ↓mq_41_5, ↓mq_41_6, ↓mq_41_7, ↓mq_41_8, ↓mq_41_11, ↓mq_41_12, ↓mq_41_15, ↓mq_41_16, mh_isC H.1, if_true, ↓mj_bs (mt_32 w H), Option.toList, List.cons_append, List.nil_append, mn_sub_all w.1, mj_z0, mj_z1]
  by_cases h1 : nI 0 ≤ x ∧ x ≤ nI (2 ^ mr_n ρ - 1) <;> simp [mj_bI, h1]
end
