/-! COMMANDS: shares, who goes first, odds, chances -/
section
variable {S : mm_St} {h h' : mj_H}
theorem mt_89 (w : mw_S S) (C : mh_JC S h) {b t : Nat} (hb : b < mr_n (ms_r S)) (ht : t ≤ 99) : mj_C 89 [.ref 1, .int (nI b), .int (nI t)] h = some (some (.int (nI (mm_share (ms_r S) (ms_m S) b t))), h) := by
  have wr := w.2.2.1
  have wm := w.2.2.2.1
  have hbd := mw_b wr wm
  have hn := wr.1
  obtain ⟨o1, -, Ro, -, M, -⟩ := C
  have hS := wr.2.2.2.1 b hb
  have h54 := mm_S54 wr (ma_b (ms_m S))
  rw [mc_89]
  cases hbk : (ma_b (ms_m S)).testBit b
  · simp only [↓reduceIte, ↓mq_89_0, ↓mq_89_1, ↓mq_89_4, ↓mq_89_5, ↓mq_89_8, ↓mq_89_11, ↓mq_89_14, ↓mq_89_15, ↓mq_89_16, ↓mq_89_19, ↓mq_89_20, ↓mq_89_23, ↓mq_89_26, ↓mq_89_27, ↓mq_89_30, ↓mq_89_31, ↓mq_89_32, ↓mq_89_35, ↓mq_89_38, ↓mq_89_39, ↓mq_89_40, ↓mq_89_41, ↓mq_89_42, ↓mq_89_43, ↓mq_89_46, ↓mq_89_47, ↓mj_bs (mh_gf 1 o1 rfl), ↓mj_bs (mh_gf 3 o1 rfl), ↓mj_bs (mh_gf 2 M.1 rfl), mh_isC Ro.1, ↓mj_bs (mt_35 wr Ro hbd), Option.toList, List.cons_append, List.nil_append, mh_isC M.1, ↓mj_bs (mt_15 M hbd (show b < 6 by omega)), hbk, mj_b0]
    simp [mm_share, hbk]
  · have hpos := mm_sum_in (X := mr_S (ms_r S)) (mr_n (ms_r S)) hb hbk
    have hmul : t * mr_S (ms_r S) b ≤ 99 * 9 := Nat.mul_le_mul ht hS.2.2.2.2.1
    have hz : (nI (mm_sum (mr_S (ms_r S)) (ma_b (ms_m S)) (mr_n (ms_r S))) = 0) = False := mf_eq (b := 0) (by omega)
    simp only [↓reduceIte, ↓mq_89_0, ↓mq_89_1, ↓mq_89_4, ↓mq_89_5, ↓mq_89_8, ↓mq_89_11, ↓mq_89_14, ↓mq_89_15, ↓mq_89_16, ↓mq_89_19, ↓mq_89_20, ↓mq_89_23, ↓mq_89_26, ↓mq_89_27, ↓mq_89_30, ↓mq_89_31, ↓mq_89_32, ↓mq_89_35, ↓mq_89_38, ↓mq_89_39, ↓mq_89_40, ↓mq_89_41, ↓mq_89_42, ↓mq_89_43, ↓mq_89_46, ↓mq_89_47, ↓mj_bs (mh_gf 1 o1 rfl), ↓mj_bs (mh_gf 3 o1 rfl), ↓mj_bs (mh_gf 2 M.1 rfl), mh_isC Ro.1, ↓mj_bs (mt_35 wr Ro hbd), Option.toList, List.cons_append, List.nil_append, mh_isC M.1, ↓mj_bs (mt_15 M hbd (show b < 6 by omega)), hbk, mj_b0, Bool.true_eq_false, mf_le (show 0 < mm_sum (mr_S (ms_r S)) (ma_b (ms_m S)) (mr_n (ms_r S)) by omega), ↓mj_bs (mh_gf 5 Ro.1 rfl), ↓mj_bs (Ro.2.2.2.1.gt (show b < 6 by omega) hb), mn_mul, hz, mn_div (show t * mr_S (ms_r S) b < 2 ^ 31 by omega) (show mm_sum (mr_S (ms_r S)) (ma_b (ms_m S)) (mr_n (ms_r S)) < 2 ^ 31 by omega)]
    simp [mm_share, hbk]
theorem mt_88 {x : Int32} : mj_C 88 [.int x] h = some (some (.int (mj_bI (decide (nI 0 ≤ x ∧ x ≤ nI 99)))), h) := by
  rw [mc_88]
  rcases mn_range 100 (by omega) x with ⟨k, hk, rfl, -, -⟩ | ⟨-, hno⟩
  · rw [mn_dle (by omega) (by omega), decide_eq_true (show k ≤ 99 by omega)]
    simp only [↓reduceIte, ↓mq_88_0, ↓mq_88_1, ↓mq_88_4, ↓mq_88_5, ↓mq_88_7, ↓mq_88_10, ↓mq_88_11, ↓mq_88_14, ↓mq_88_15, mf_lt (Nat.zero_le k), mf_lt (show k ≤ 99 by omega), mj_z1]
    rfl
  · rw [mn_dno' hno (show 99 < 100 by omega) (by omega)]
    rcases mn_out hno (by omega) with z | ⟨z1, z2⟩
    · simp only [↓reduceIte, ↓mq_88_0, ↓mq_88_1, ↓mq_88_4, ↓mq_88_5, ↓mq_88_7, ↓mq_88_10, ↓mq_88_11, ↓mq_88_14, ↓mq_88_15, z, mj_z0]
      rfl
    · simp only [↓reduceIte, ↓mq_88_0, ↓mq_88_1, ↓mq_88_4, ↓mq_88_5, ↓mq_88_7, ↓mq_88_10, ↓mq_88_11, ↓mq_88_14, ↓mq_88_15, z1, mn_nle.mp z2, mj_z0]
      rfl
theorem mo_87 (J : mh_J S h) (x y : Int32) : mh_op 87 155 [.int x, .int y] h := by
  have JJ := J
  obtain ⟨w, C, R⟩ := J
  have wr := w.2.2.1
  have wm := w.2.2.2.1
  have Rr := R.rr
  have hrb := Rr.1
  have G := R.pg
  have C' := C
  obtain ⟨o1, -, Ro, -, M, -⟩ := C
  have hn9 := wr.1
  rcases mn_range (mr_n (ms_r S)) (by omega) x with ⟨b, hbn, rfl, -, -⟩ | ⟨-, hno⟩
  · have e31 := mt_31 Ro (nI b)
    rw [mn_dlt (by omega) (by omega), decide_eq_true hbn] at e31
    have e120 := mt_120 wr hrb (nI b)
    rw [mn_dlt (by omega) (by omega), decide_eq_true hbn] at e120
    rcases mn_range 100 (by omega) y with ⟨t, ht, rfl, -, -⟩ | ⟨-, hno⟩
    · have e88 := mt_88 (h := h) (x := nI t)
      rw [mn_dle (by omega) (by omega), decide_eq_true (show t ≤ 99 by omega)] at e88
      refine mh_opQ (v := .int (nI (mm_share (ms_r S) (ms_m S) b t))) JJ ?_ ?_
      · rw [mc_87]
        simp only [↓reduceIte, ↓mq_87_0, ↓mq_87_1, ↓mq_87_4, ↓mq_87_5, ↓mq_87_8, ↓mq_87_11, ↓mq_87_12, ↓mq_87_13, ↓mq_87_14, ↓mq_87_17, ↓mq_87_20, ↓mq_87_21, ↓mq_87_22, ↓mq_87_23, ↓mq_87_26, ↓mq_87_29, ↓mq_87_31, ↓mj_bs (mh_gf 1 o1 rfl), mh_isC Ro.1, ↓mj_bs (e31), Option.toList, List.cons_append, List.nil_append, mj_b0, Bool.true_eq_false, ↓mj_bs (e88), mh_isC o1, ↓mj_bs (mt_89 w C' hbn (show t ≤ 99 by omega))]
      · rw [mc_155]
        simp only [↓reduceIte, ↓mq_155_0, ↓mq_155_1, ↓mq_155_2, ↓mq_155_5, ↓mq_155_6, ↓mq_155_7, ↓mq_155_10, ↓mq_155_13, ↓mq_155_14, ↓mq_155_17, ↓mq_155_18, ↓mq_155_19, ↓mq_155_20, ↓mq_155_23, ↓mq_155_26, ↓mq_155_29, ↓mq_155_30, ↓mq_155_31, ↓mq_155_32, ↓mq_155_35, ↓mq_155_38, ↓mq_155_40, ↓mj_bs (mr_th hrb), mr_is hrb, ↓mj_bs (e120), Bool.not_true, Option.toList, List.cons_append, List.nil_append, mj_b0, ↓mj_bs (mt_103_0_99), mn_dle (show t < 2 ^ 31 by omega) (show 99 < 2 ^ 31 by omega), show t ≤ 99 by omega, decide_true, Bool.true_eq_false, ↓mj_bs (mt_156 wr wm Rr G hbn (show t ≤ 99 by omega))]
    · have e88 := mt_88 (h := h) (x := y)
      rw [mn_dno' hno (show 99 < 100 by omega) (by omega)] at e88
      refine mh_opQ (v := .int (-2)) JJ ?_ ?_
      · rw [mc_87]
        simp only [↓reduceIte, ↓mq_87_0, ↓mq_87_1, ↓mq_87_4, ↓mq_87_5, ↓mq_87_8, ↓mq_87_11, ↓mq_87_12, ↓mq_87_13, ↓mq_87_14, ↓mq_87_17, ↓mq_87_20, ↓mq_87_21, ↓mq_87_22, ↓mq_87_23, ↓mq_87_26, ↓mq_87_29, ↓mq_87_31, ↓mj_bs (mh_gf 1 o1 rfl), mh_isC Ro.1, ↓mj_bs (e31), Option.toList, List.cons_append, List.nil_append, mj_b0, Bool.true_eq_false, ↓mj_bs (e88)]
      · rw [mc_155]
        simp only [↓reduceIte, ↓mq_155_0, ↓mq_155_1, ↓mq_155_2, ↓mq_155_5, ↓mq_155_6, ↓mq_155_7, ↓mq_155_10, ↓mq_155_13, ↓mq_155_14, ↓mq_155_17, ↓mq_155_18, ↓mq_155_19, ↓mq_155_20, ↓mq_155_23, ↓mq_155_26, ↓mq_155_29, ↓mq_155_30, ↓mq_155_31, ↓mq_155_32, ↓mq_155_35, ↓mq_155_38, ↓mq_155_40, ↓mj_bs (mr_th hrb), mr_is hrb, ↓mj_bs (e120), Bool.not_true, Option.toList, List.cons_append, List.nil_append, mj_b0, ↓mj_bs (mt_103_0_99), mn_dno' hno (show 99 < 100 by omega) (by omega)]
  · have e31 := mt_31 Ro x
    rw [mn_dno hno] at e31
    have e120 := mt_120 wr hrb x
    rw [mn_dno hno] at e120
    refine mh_opQ (v := .int (-1)) JJ ?_ ?_
    · rw [mc_87]
      simp only [↓reduceIte, ↓mq_87_0, ↓mq_87_1, ↓mq_87_4, ↓mq_87_5, ↓mq_87_8, ↓mq_87_11, ↓mq_87_12, ↓mq_87_13, ↓mq_87_14, ↓mq_87_17, ↓mq_87_20, ↓mq_87_21, ↓mq_87_22, ↓mq_87_23, ↓mq_87_26, ↓mq_87_29, ↓mq_87_31, ↓mj_bs (mh_gf 1 o1 rfl), mh_isC Ro.1, ↓mj_bs (e31), Option.toList, List.cons_append, List.nil_append, mj_b0]
    · rw [mc_155]
      simp only [↓reduceIte, ↓mq_155_0, ↓mq_155_1, ↓mq_155_2, ↓mq_155_5, ↓mq_155_6, ↓mq_155_7, ↓mq_155_10, ↓mq_155_13, ↓mq_155_14, ↓mq_155_17, ↓mq_155_18, ↓mq_155_19, ↓mq_155_20, ↓mq_155_23, ↓mq_155_26, ↓mq_155_29, ↓mq_155_30, ↓mq_155_31, ↓mq_155_32, ↓mq_155_35, ↓mq_155_38, ↓mq_155_40, ↓mj_bs (mr_th hrb), mr_is hrb, ↓mj_bs (e120), Bool.not_false, Option.toList, List.cons_append, List.nil_append, mj_b0, Bool.true_eq_false]
def mm_env (ρ : mm_Ro) (μ : mm_Ma) (t : Nat) : Nat → Nat
  | 0 => 0
  | k + 1 => if (ma_b μ).testBit k = true ∧ mm_share ρ μ k t < ma_g μ k then mm_env ρ μ t k ||| 2 ^ k else mm_env ρ μ t k
theorem mo_90 (J : mh_J S h) (y : Int32) : mh_op 90 157 [.int y] h := by
  have JJ := J
  obtain ⟨w, C, R⟩ := J
  have wr := w.2.2.1
  have wm := w.2.2.2.1
  have hbd := mw_b wr wm
  have Rr := R.rr
  have hrb := Rr.1
  have G := R.pg
  have C' := C
  obtain ⟨o1, -, Ro, -, M, -⟩ := C
  have hn9 := wr.1
  rcases mn_range 100 (by omega) y with ⟨t, ht, rfl, -, -⟩ | ⟨-, hno⟩
  · have e88 := mt_88 (h := h) (x := nI t)
    rw [mn_dle (by omega) (by omega), decide_eq_true (show t ≤ 99 by omega)] at e88
    have loopC : ∀ d i, i + d = mr_n (ms_r S) → mj_R 90 (14, [.ref 1, .int (nI t), .int (nI (mm_env (ms_r S) (ms_m S) t i)), .int (nI i)], [], h) = some (some (.int (nI (mm_env (ms_r S) (ms_m S) t (mr_n (ms_r S))))), h) := by
      intro d
      induction d with
      | zero =>
        intro i hi
        obtain rfl : i = mr_n (ms_r S) := by omega
        simp only [↓reduceIte, ↓mq_90_0, ↓mq_90_1, ↓mq_90_4, ↓mq_90_7, ↓mq_90_9, ↓mq_90_10, ↓mq_90_11, ↓mq_90_12, ↓mq_90_13, ↓mq_90_14, ↓mq_90_15, ↓mq_90_16, ↓mq_90_19, ↓mq_90_22, ↓mq_90_25, ↓mq_90_26, ↓mq_90_29, ↓mq_90_30, ↓mq_90_33, ↓mq_90_36, ↓mq_90_37, ↓mq_90_38, ↓mq_90_39, ↓mq_90_42, ↓mq_90_43, ↓mq_90_46, ↓mq_90_49, ↓mq_90_50, ↓mq_90_51, ↓mq_90_54, ↓mq_90_55, ↓mq_90_56, ↓mq_90_57, ↓mq_90_58, ↓mq_90_59, ↓mq_90_60, ↓mq_90_63, ↓mq_90_66, ↓mq_90_67, ↓mj_bs (mh_gf 1 o1 rfl), ↓mj_bs (mh_gf 1 Ro.1 rfl), mt_le (Nat.le_refl (mr_n (ms_r S)))]
      | succ d ih =>
        intro i hi
        have hin : i < mr_n (ms_r S) := by omega
        have ih' := ih (i + 1) (by omega)
        have hsh := mm_share_le (μ := ms_m S) (show t ≤ 99 by omega) (wr.2.2.2.1 i hin).2.2.2.2.1
        rw [mq_90_14]
        cases hbi : (ma_b (ms_m S)).testBit i
        · simp only [↓reduceIte, ↓mq_90_0, ↓mq_90_1, ↓mq_90_4, ↓mq_90_7, ↓mq_90_9, ↓mq_90_10, ↓mq_90_11, ↓mq_90_12, ↓mq_90_13, ↓mq_90_15, ↓mq_90_16, ↓mq_90_19, ↓mq_90_22, ↓mq_90_25, ↓mq_90_26, ↓mq_90_29, ↓mq_90_30, ↓mq_90_33, ↓mq_90_36, ↓mq_90_37, ↓mq_90_38, ↓mq_90_39, ↓mq_90_42, ↓mq_90_43, ↓mq_90_46, ↓mq_90_49, ↓mq_90_50, ↓mq_90_51, ↓mq_90_54, ↓mq_90_55, ↓mq_90_56, ↓mq_90_57, ↓mq_90_58, ↓mq_90_59, ↓mq_90_60, ↓mq_90_63, ↓mq_90_66, ↓mq_90_67, ↓mj_bs (mh_gf 1 o1 rfl), ↓mj_bs (mh_gf 1 Ro.1 rfl), mf_le hin, ↓mj_bs (mh_gf 3 o1 rfl), mh_isC M.1, ↓mj_bs (mt_15 M hbd (show i < 6 by omega)), Option.toList, List.cons_append, List.nil_append, hbi, mj_b0, mn_add]
          simpa only [mm_env, hbi, Bool.false_eq_true, false_and, if_false] using ih'
        · have hg := wm.2.2.2.2 i (by omega) hbi
          by_cases hlt : mm_share (ms_r S) (ms_m S) i t < ma_g (ms_m S) i
          · simp only [↓reduceIte, ↓mq_90_0, ↓mq_90_1, ↓mq_90_4, ↓mq_90_7, ↓mq_90_9, ↓mq_90_10, ↓mq_90_11, ↓mq_90_12, ↓mq_90_13, ↓mq_90_15, ↓mq_90_16, ↓mq_90_19, ↓mq_90_22, ↓mq_90_25, ↓mq_90_26, ↓mq_90_29, ↓mq_90_30, ↓mq_90_33, ↓mq_90_36, ↓mq_90_37, ↓mq_90_38, ↓mq_90_39, ↓mq_90_42, ↓mq_90_43, ↓mq_90_46, ↓mq_90_49, ↓mq_90_50, ↓mq_90_51, ↓mq_90_54, ↓mq_90_55, ↓mq_90_56, ↓mq_90_57, ↓mq_90_58, ↓mq_90_59, ↓mq_90_60, ↓mq_90_63, ↓mq_90_66, ↓mq_90_67, ↓mj_bs (mh_gf 1 o1 rfl), ↓mj_bs (mh_gf 1 Ro.1 rfl), mf_le hin, ↓mj_bs (mh_gf 3 o1 rfl), mh_isC M.1, ↓mj_bs (mt_15 M hbd (show i < 6 by omega)), Option.toList, List.cons_append, List.nil_append, hbi, mj_b0, Bool.true_eq_false, mh_isC o1, ↓mj_bs (mt_89 w C' hin (show t ≤ 99 by omega)), ↓mj_bs (mh_gf 6 M.1 rfl), ↓mj_bs (M.2.gt (show i < 6 by omega) hbi), mf_le hlt, mn_shl i (show i < 31 by omega), mn_or, mn_add]
            simpa only [mm_env, hbi, hlt, and_self, if_true] using ih'
          · simp only [↓reduceIte, ↓mq_90_0, ↓mq_90_1, ↓mq_90_4, ↓mq_90_7, ↓mq_90_9, ↓mq_90_10, ↓mq_90_11, ↓mq_90_12, ↓mq_90_13, ↓mq_90_15, ↓mq_90_16, ↓mq_90_19, ↓mq_90_22, ↓mq_90_25, ↓mq_90_26, ↓mq_90_29, ↓mq_90_30, ↓mq_90_33, ↓mq_90_36, ↓mq_90_37, ↓mq_90_38, ↓mq_90_39, ↓mq_90_42, ↓mq_90_43, ↓mq_90_46, ↓mq_90_49, ↓mq_90_50, ↓mq_90_51, ↓mq_90_54, ↓mq_90_55, ↓mq_90_56, ↓mq_90_57, ↓mq_90_58, ↓mq_90_59, ↓mq_90_60, ↓mq_90_63, ↓mq_90_66, ↓mq_90_67, ↓mj_bs (mh_gf 1 o1 rfl), ↓mj_bs (mh_gf 1 Ro.1 rfl), mf_le hin, ↓mj_bs (mh_gf 3 o1 rfl), mh_isC M.1, ↓mj_bs (mt_15 M hbd (show i < 6 by omega)), Option.toList, List.cons_append, List.nil_append, hbi, mj_b0, Bool.true_eq_false, mh_isC o1, ↓mj_bs (mt_89 w C' hin (show t ≤ 99 by omega)), ↓mj_bs (mh_gf 6 M.1 rfl), ↓mj_bs (M.2.gt (show i < 6 by omega) hbi), mt_le (Nat.le_of_not_lt hlt), mn_add]
            simpa only [mm_env, hlt, and_false, if_false] using ih'
    have loopR : ∀ d i, i + d = mr_n (ms_r S) → mj_R 157 (24, [.ref 65, .int (nI t), .int (nI (mm_env (ms_r S) (ms_m S) t i)), .int (nI i)], [], h) = some (some (.int (nI (mm_env (ms_r S) (ms_m S) t (mr_n (ms_r S))))), h) := by
      intro d
      induction d with
      | zero =>
        intro i hi
        obtain rfl : i = mr_n (ms_r S) := by omega
        simp only [↓reduceIte, ↓mq_157_0, ↓mq_157_1, ↓mq_157_2, ↓mq_157_5, ↓mq_157_6, ↓mq_157_7, ↓mq_157_8, ↓mq_157_11, ↓mq_157_14, ↓mq_157_17, ↓mq_157_19, ↓mq_157_20, ↓mq_157_21, ↓mq_157_22, ↓mq_157_23, ↓mq_157_24, ↓mq_157_25, ↓mq_157_26, ↓mq_157_29, ↓mq_157_32, ↓mq_157_33, ↓mq_157_34, ↓mq_157_37, ↓mq_157_38, ↓mq_157_39, ↓mq_157_40, ↓mq_157_43, ↓mq_157_46, ↓mq_157_47, ↓mq_157_48, ↓mq_157_49, ↓mq_157_52, ↓mq_157_53, ↓mq_157_56, ↓mq_157_57, ↓mq_157_58, ↓mq_157_59, ↓mq_157_60, ↓mq_157_63, ↓mq_157_64, ↓mq_157_65, ↓mq_157_66, ↓mq_157_69, ↓mq_157_70, ↓mq_157_71, ↓mq_157_72, ↓mq_157_75, ↓mq_157_78, ↓mq_157_79, ↓mj_bs (mr_bn hrb), mt_le (Nat.le_refl (mr_n (ms_r S)))]
      | succ d ih =>
        intro i hi
        have hin : i < mr_n (ms_r S) := by omega
        have ih' := ih (i + 1) (by omega)
        have hsh := mm_share_le (μ := ms_m S) (show t ≤ 99 by omega) (wr.2.2.2.1 i hin).2.2.2.2.1
        rw [mq_157_24]
        cases hbi : (ma_b (ms_m S)).testBit i
        · simp only [↓reduceIte, ↓mq_157_0, ↓mq_157_1, ↓mq_157_2, ↓mq_157_5, ↓mq_157_6, ↓mq_157_7, ↓mq_157_8, ↓mq_157_11, ↓mq_157_14, ↓mq_157_17, ↓mq_157_19, ↓mq_157_20, ↓mq_157_21, ↓mq_157_22, ↓mq_157_23, ↓mq_157_25, ↓mq_157_26, ↓mq_157_29, ↓mq_157_32, ↓mq_157_33, ↓mq_157_34, ↓mq_157_37, ↓mq_157_38, ↓mq_157_39, ↓mq_157_40, ↓mq_157_43, ↓mq_157_46, ↓mq_157_47, ↓mq_157_48, ↓mq_157_49, ↓mq_157_52, ↓mq_157_53, ↓mq_157_56, ↓mq_157_57, ↓mq_157_58, ↓mq_157_59, ↓mq_157_60, ↓mq_157_63, ↓mq_157_64, ↓mq_157_65, ↓mq_157_66, ↓mq_157_69, ↓mq_157_70, ↓mq_157_71, ↓mq_157_72, ↓mq_157_75, ↓mq_157_78, ↓mq_157_79, ↓mj_bs (mr_bn hrb), mf_le hin, ↓mj_bs (mr_b15 hrb), ↓mj_bs (mp_1 G), ↓mj_bs (mt_113 hbd (show i < 6 by omega)), Option.toList, List.cons_append, List.nil_append, hbi, mj_b0, mn_add, mn_or, Nat.or_zero]
          simpa only [mm_env, hbi, Bool.false_eq_true, false_and, if_false] using ih'
        · have hg := wm.2.2.2.2 i (by omega) hbi
          by_cases hlt : mm_share (ms_r S) (ms_m S) i t < ma_g (ms_m S) i
          · simp only [↓reduceIte, ↓mq_157_0, ↓mq_157_1, ↓mq_157_2, ↓mq_157_5, ↓mq_157_6, ↓mq_157_7, ↓mq_157_8, ↓mq_157_11, ↓mq_157_14, ↓mq_157_17, ↓mq_157_19, ↓mq_157_20, ↓mq_157_21, ↓mq_157_22, ↓mq_157_23, ↓mq_157_25, ↓mq_157_26, ↓mq_157_29, ↓mq_157_32, ↓mq_157_33, ↓mq_157_34, ↓mq_157_37, ↓mq_157_38, ↓mq_157_39, ↓mq_157_40, ↓mq_157_43, ↓mq_157_46, ↓mq_157_47, ↓mq_157_48, ↓mq_157_49, ↓mq_157_52, ↓mq_157_53, ↓mq_157_56, ↓mq_157_57, ↓mq_157_58, ↓mq_157_59, ↓mq_157_60, ↓mq_157_63, ↓mq_157_64, ↓mq_157_65, ↓mq_157_66, ↓mq_157_69, ↓mq_157_70, ↓mq_157_71, ↓mq_157_72, ↓mq_157_75, ↓mq_157_78, ↓mq_157_79, ↓mj_bs (mr_bn hrb), mf_le hin, ↓mj_bs (mr_b15 hrb), ↓mj_bs (mp_1 G), ↓mj_bs (mt_113 hbd (show i < 6 by omega)), Option.toList, List.cons_append, List.nil_append, hbi, mj_b0, Bool.true_eq_false, mr_is hrb, ↓mj_bs (mt_156 wr wm Rr G hin (show t ≤ 99 by omega)), mn_add, ↓mj_bs (mp_5 G (show i < 6 by omega) hbi), mf_le hlt, mn_shl i (show i < 31 by omega), mn_or]
            simpa only [mm_env, hbi, hlt, and_self, if_true] using ih'
          · simp only [↓reduceIte, ↓mq_157_0, ↓mq_157_1, ↓mq_157_2, ↓mq_157_5, ↓mq_157_6, ↓mq_157_7, ↓mq_157_8, ↓mq_157_11, ↓mq_157_14, ↓mq_157_17, ↓mq_157_19, ↓mq_157_20, ↓mq_157_21, ↓mq_157_22, ↓mq_157_23, ↓mq_157_25, ↓mq_157_26, ↓mq_157_29, ↓mq_157_32, ↓mq_157_33, ↓mq_157_34, ↓mq_157_37, ↓mq_157_38, ↓mq_157_39, ↓mq_157_40, ↓mq_157_43, ↓mq_157_46, ↓mq_157_47, ↓mq_157_48, ↓mq_157_49, ↓mq_157_52, ↓mq_157_53, ↓mq_157_56, ↓mq_157_57, ↓mq_157_58, ↓mq_157_59, ↓mq_157_60, ↓mq_157_63, ↓mq_157_64, ↓mq_157_65, ↓mq_157_66, ↓mq_157_69, ↓mq_157_70, ↓mq_157_71, ↓mq_157_72, ↓mq_157_75, ↓mq_157_78, ↓mq_157_79, ↓mj_bs (mr_bn hrb), mf_le hin, ↓mj_bs (mr_b15 hrb), ↓mj_bs (mp_1 G), ↓mj_bs (mt_113 hbd (show i < 6 by omega)), Option.toList, List.cons_append, List.nil_append, hbi, mj_b0, Bool.true_eq_false, mr_is hrb, ↓mj_bs (mt_156 wr wm Rr G hin (show t ≤ 99 by omega)), mn_add, ↓mj_bs (mp_5 G (show i < 6 by omega) hbi), mt_le (Nat.le_of_not_lt hlt), mn_or, Nat.or_zero]
            simpa only [mm_env, hlt, and_false, if_false] using ih'
    refine mh_opQ (v := .int (nI (mm_env (ms_r S) (ms_m S) t (mr_n (ms_r S))))) JJ ?_ ?_
    · rw [mc_90]
      simp only [↓reduceIte, ↓mq_90_0, ↓mq_90_1, ↓mq_90_4, ↓mq_90_7, ↓mq_90_9, ↓mq_90_10, ↓mq_90_11, ↓mq_90_12, ↓mq_90_13, ↓mq_90_15, ↓mq_90_16, ↓mq_90_19, ↓mq_90_22, ↓mq_90_25, ↓mq_90_26, ↓mq_90_29, ↓mq_90_30, ↓mq_90_33, ↓mq_90_36, ↓mq_90_37, ↓mq_90_38, ↓mq_90_39, ↓mq_90_42, ↓mq_90_43, ↓mq_90_46, ↓mq_90_49, ↓mq_90_50, ↓mq_90_51, ↓mq_90_54, ↓mq_90_55, ↓mq_90_56, ↓mq_90_57, ↓mq_90_58, ↓mq_90_59, ↓mq_90_60, ↓mq_90_63, ↓mq_90_66, ↓mq_90_67, ↓mj_bs (e88), Option.toList, List.cons_append, List.nil_append, mj_b0, Bool.true_eq_false]
      exact loopC (mr_n (ms_r S)) 0 (by omega)
    · rw [mc_157]
      simp only [↓reduceIte, ↓mq_157_0, ↓mq_157_1, ↓mq_157_2, ↓mq_157_5, ↓mq_157_6, ↓mq_157_7, ↓mq_157_8, ↓mq_157_11, ↓mq_157_14, ↓mq_157_17, ↓mq_157_19, ↓mq_157_20, ↓mq_157_21, ↓mq_157_22, ↓mq_157_23, ↓mq_157_25, ↓mq_157_26, ↓mq_157_29, ↓mq_157_32, ↓mq_157_33, ↓mq_157_34, ↓mq_157_37, ↓mq_157_38, ↓mq_157_39, ↓mq_157_40, ↓mq_157_43, ↓mq_157_46, ↓mq_157_47, ↓mq_157_48, ↓mq_157_49, ↓mq_157_52, ↓mq_157_53, ↓mq_157_56, ↓mq_157_57, ↓mq_157_58, ↓mq_157_59, ↓mq_157_60, ↓mq_157_63, ↓mq_157_64, ↓mq_157_65, ↓mq_157_66, ↓mq_157_69, ↓mq_157_70, ↓mq_157_71, ↓mq_157_72, ↓mq_157_75, ↓mq_157_78, ↓mq_157_79, ↓mj_bs (mr_th hrb), Option.toList, List.cons_append, List.nil_append, mj_b0, ↓mj_bs (mt_103_0_99), mn_dle (show t < 2 ^ 31 by omega) (show 99 < 2 ^ 31 by omega), show t ≤ 99 by omega, decide_true, Bool.true_eq_false]
      exact loopR (mr_n (ms_r S)) 0 (by omega)
  · have e88 := mt_88 (h := h) (x := y)
    rw [mn_dno' hno (show 99 < 100 by omega) (by omega)] at e88
    refine mh_opQ (v := .int (-2)) JJ ?_ ?_
    · rw [mc_90]
      simp only [↓reduceIte, ↓mq_90_0, ↓mq_90_1, ↓mq_90_4, ↓mq_90_7, ↓mq_90_9, ↓mq_90_10, ↓mq_90_11, ↓mq_90_12, ↓mq_90_13, ↓mq_90_14, ↓mq_90_15, ↓mq_90_16, ↓mq_90_19, ↓mq_90_22, ↓mq_90_25, ↓mq_90_26, ↓mq_90_29, ↓mq_90_30, ↓mq_90_33, ↓mq_90_36, ↓mq_90_37, ↓mq_90_38, ↓mq_90_39, ↓mq_90_42, ↓mq_90_43, ↓mq_90_46, ↓mq_90_49, ↓mq_90_50, ↓mq_90_51, ↓mq_90_54, ↓mq_90_55, ↓mq_90_56, ↓mq_90_57, ↓mq_90_58, ↓mq_90_59, ↓mq_90_60, ↓mq_90_63, ↓mq_90_66, ↓mq_90_67, ↓mj_bs (e88), Option.toList, List.cons_append, List.nil_append, mj_b0]
    · rw [mc_157]
      simp only [↓reduceIte, ↓mq_157_0, ↓mq_157_1, ↓mq_157_2, ↓mq_157_5, ↓mq_157_6, ↓mq_157_7, ↓mq_157_8, ↓mq_157_11, ↓mq_157_14, ↓mq_157_17, ↓mq_157_19, ↓mq_157_20, ↓mq_157_21, ↓mq_157_22, ↓mq_157_23, ↓mq_157_24, ↓mq_157_25, ↓mq_157_26, ↓mq_157_29, ↓mq_157_32, ↓mq_157_33, ↓mq_157_34, ↓mq_157_37, ↓mq_157_38, ↓mq_157_39, ↓mq_157_40, ↓mq_157_43, ↓mq_157_46, ↓mq_157_47, ↓mq_157_48, ↓mq_157_49, ↓mq_157_52, ↓mq_157_53, ↓mq_157_56, ↓mq_157_57, ↓mq_157_58, ↓mq_157_59, ↓mq_157_60, ↓mq_157_63, ↓mq_157_64, ↓mq_157_65, ↓mq_157_66, ↓mq_157_69, ↓mq_157_70, ↓mq_157_71, ↓mq_157_72, ↓mq_157_75, ↓mq_157_78, ↓mq_157_79, ↓mj_bs (mr_th hrb), Option.toList, List.cons_append, List.nil_append, mj_b0, ↓mj_bs (mt_103_0_99), mn_dno' hno (show 99 < 100 by omega) (by omega)]
/-! who goes first -/
def mm_abl (ρ : mm_Ro) (μ : mm_Ma) (g k : Nat) : Bool := (ma_b μ).testBit k && decide (mr_W ρ k = mr_gS ρ g)
def mm_fsv (ρ : mm_Ro) (o : Option Nat) : Nat := match o with
  | some b => mr_S ρ b
  | none => 0
def mm_fi (ρ : mm_Ro) (μ : mm_Ma) (g : Nat) : Nat → Option Nat
  | 0 => none
  | k + 1 => if mm_abl ρ μ g k = true ∧ mm_fsv ρ (mm_fi ρ μ g k) < mr_S ρ k then some k else mm_fi ρ μ g k
def mm_ov (o : Option Nat) : Int32 := match o with
  | some b => nI b
  | none => -9
theorem mm_fi_lt {ρ : mm_Ro} {μ : mm_Ma} {g : Nat} : ∀ k b, mm_fi ρ μ g k = some b → b < k := by
  intro k
  induction k with
  | zero => intro b hb; cases hb
  | succ k ih =>
    intro b hb
    simp only [mm_fi] at hb
    split at hb
    · cases hb; omega
    · have := ih b hb; omega
theorem mm_fsv9 {ρ : mm_Ro} (w : mw_R ρ) {μ : mm_Ma} {g k : Nat} (hk : k ≤ mr_n ρ) : mm_fsv ρ (mm_fi ρ μ g k) ≤ 9 := by
  cases hq : mm_fi ρ μ g k with
  | none => simp [mm_fsv]
  | some b =>
    have := mm_fi_lt k b hq
    exact (w.2.2.2.1 b (by omega)).2.2.2.2.1
theorem mo_85 (J : mh_J S h) (x : Int32) : mh_op 85 152 [.int x] h := by
  have JJ := J
  obtain ⟨w, C, R⟩ := J
  have wr := w.2.2.1
  have wm := w.2.2.2.1
  have hbd := mw_b wr wm
  have Rr := R.rr
  have hrb := Rr.1
  have G := R.pg
  obtain ⟨o1, -, Ro, -, M, -⟩ := C
  have hn9 := wr.1
  have hg9 := wr.2.1
  rcases mn_range (mr_g (ms_r S)) (by omega) x with ⟨g, hgn, rfl, -, -⟩ | ⟨-, hno⟩
  · have e39 := mt_39 Ro (nI g)
    rw [mn_dlt (by omega) (by omega), decide_eq_true hgn] at e39
    have e123 := mt_123 wr hrb (nI g)
    rw [mn_dlt (by omega) (by omega), decide_eq_true hgn] at e123
    have hgS := (wr.2.2.2.2 g hgn).1
    have loopC : ∀ d i l5, i + d = mr_n (ms_r S) → mj_R 85 (21, [.ref 1, .int (nI g), .int (mm_ov (mm_fi (ms_r S) (ms_m S) g i)), .int (nI (mm_fsv (ms_r S) (mm_fi (ms_r S) (ms_m S) g i))), .int (nI i), l5], [], h) = some (some (.int (mm_ov (mm_fi (ms_r S) (ms_m S) g (mr_n (ms_r S))))), h) := by
      intro d
      induction d with
      | zero =>
        intro i l5 hi
        obtain rfl : i = mr_n (ms_r S) := by omega
        simp only [↓reduceIte, ↓mq_85_0, ↓mq_85_1, ↓mq_85_4, ↓mq_85_5, ↓mq_85_8, ↓mq_85_11, ↓mq_85_12, ↓mq_85_13, ↓mq_85_15, ↓mq_85_16, ↓mq_85_17, ↓mq_85_18, ↓mq_85_19, ↓mq_85_21, ↓mq_85_23, ↓mq_85_24, ↓mq_85_27, ↓mq_85_30, ↓mq_85_33, ↓mq_85_34, ↓mq_85_37, ↓mq_85_39, ↓mq_85_42, ↓mq_85_45, ↓mq_85_46, ↓mq_85_49, ↓mq_85_52, ↓mq_85_54, ↓mq_85_55, ↓mq_85_56, ↓mq_85_59, ↓mq_85_62, ↓mq_85_63, ↓mq_85_64, ↓mq_85_67, ↓mq_85_68, ↓mq_85_71, ↓mq_85_72, ↓mq_85_74, ↓mq_85_76, ↓mq_85_79, ↓mq_85_80, ↓mq_85_83, ↓mq_85_86, ↓mq_85_88, ↓mq_85_89, ↓mq_85_90, ↓mq_85_93, ↓mq_85_95, ↓mq_85_96, ↓mq_85_97, ↓mq_85_100, ↓mq_85_103, ↓mq_85_105, ↓mq_85_106, ↓mq_85_107, ↓mq_85_110, ↓mq_85_113, ↓mq_85_114, ↓mj_bs (mh_gf 1 o1 rfl), ↓mj_bs (mh_gf 1 Ro.1 rfl), mt_le (Nat.le_refl (mr_n (ms_r S)))]
      | succ d ih =>
        intro i l5 hi
        have hin : i < mr_n (ms_r S) := by omega
        have hf9 := mm_fsv9 wr (μ := ms_m S) (g := g) (show i ≤ mr_n (ms_r S) by omega)
        have hW := wr.2.2.2.1 i hin
        rw [mq_85_21]
        cases hbi : (ma_b (ms_m S)).testBit i
        · have e : mm_fi (ms_r S) (ms_m S) g (i + 1) = mm_fi (ms_r S) (ms_m S) g i := by simp [mm_fi, mm_abl, hbi]
          have ih' := ih (i + 1) (.int (nI 0)) (by omega)
          rw [e] at ih'
          simp only [↓reduceIte, ↓mq_85_0, ↓mq_85_1, ↓mq_85_4, ↓mq_85_5, ↓mq_85_8, ↓mq_85_11, ↓mq_85_12, ↓mq_85_13, ↓mq_85_15, ↓mq_85_16, ↓mq_85_17, ↓mq_85_18, ↓mq_85_19, ↓mq_85_23, ↓mq_85_24, ↓mq_85_27, ↓mq_85_30, ↓mq_85_33, ↓mq_85_34, ↓mq_85_37, ↓mq_85_39, ↓mq_85_42, ↓mq_85_45, ↓mq_85_46, ↓mq_85_49, ↓mq_85_52, ↓mq_85_54, ↓mq_85_55, ↓mq_85_56, ↓mq_85_59, ↓mq_85_62, ↓mq_85_63, ↓mq_85_64, ↓mq_85_67, ↓mq_85_68, ↓mq_85_71, ↓mq_85_72, ↓mq_85_74, ↓mq_85_76, ↓mq_85_79, ↓mq_85_80, ↓mq_85_83, ↓mq_85_86, ↓mq_85_88, ↓mq_85_89, ↓mq_85_90, ↓mq_85_93, ↓mq_85_95, ↓mq_85_96, ↓mq_85_97, ↓mq_85_100, ↓mq_85_103, ↓mq_85_105, ↓mq_85_106, ↓mq_85_107, ↓mq_85_110, ↓mq_85_113, ↓mq_85_114, ↓mj_bs (mh_gf 1 o1 rfl), ↓mj_bs (mh_gf 1 Ro.1 rfl), mf_le hin, ↓mj_bs (mh_gf 3 o1 rfl), mh_isC M.1, ↓mj_bs (mt_15 M hbd (show i < 6 by omega)), Option.toList, List.cons_append, List.nil_append, hbi, mj_b0, mn_add]
          exact ih'
        · by_cases hs : mr_W (ms_r S) i = mr_gS (ms_r S) g
          · by_cases hlt : mm_fsv (ms_r S) (mm_fi (ms_r S) (ms_m S) g i) < mr_S (ms_r S) i
            · have e : mm_fi (ms_r S) (ms_m S) g (i + 1) = some i := by simp [mm_fi, mm_abl, hbi, hs, hlt]
              have ih' := ih (i + 1) (.int (nI 1)) (by omega)
              rw [e] at ih'
              simp only [↓reduceIte, ↓mq_85_0, ↓mq_85_1, ↓mq_85_4, ↓mq_85_5, ↓mq_85_8, ↓mq_85_11, ↓mq_85_12, ↓mq_85_13, ↓mq_85_15, ↓mq_85_16, ↓mq_85_17, ↓mq_85_18, ↓mq_85_19, ↓mq_85_23, ↓mq_85_24, ↓mq_85_27, ↓mq_85_30, ↓mq_85_33, ↓mq_85_34, ↓mq_85_37, ↓mq_85_39, ↓mq_85_42, ↓mq_85_45, ↓mq_85_46, ↓mq_85_49, ↓mq_85_52, ↓mq_85_54, ↓mq_85_55, ↓mq_85_56, ↓mq_85_59, ↓mq_85_62, ↓mq_85_63, ↓mq_85_64, ↓mq_85_67, ↓mq_85_68, ↓mq_85_71, ↓mq_85_72, ↓mq_85_74, ↓mq_85_76, ↓mq_85_79, ↓mq_85_80, ↓mq_85_83, ↓mq_85_86, ↓mq_85_88, ↓mq_85_89, ↓mq_85_90, ↓mq_85_93, ↓mq_85_95, ↓mq_85_96, ↓mq_85_97, ↓mq_85_100, ↓mq_85_103, ↓mq_85_105, ↓mq_85_106, ↓mq_85_107, ↓mq_85_110, ↓mq_85_113, ↓mq_85_114, ↓mj_bs (mh_gf 1 o1 rfl), ↓mj_bs (mh_gf 1 Ro.1 rfl), mf_le hin, ↓mj_bs (mh_gf 3 o1 rfl), mh_isC M.1, ↓mj_bs (mt_15 M hbd (show i < 6 by omega)), Option.toList, List.cons_append, List.nil_append, hbi, mj_b0, Bool.true_eq_false, ↓mj_bs (mh_gf 6 Ro.1 rfl), ↓mj_bs (Ro.2.2.2.2.1.gt (show i < 6 by omega) hin), ↓mj_bs (mh_gf 8 Ro.1 rfl), ↓mj_bs (Ro.2.2.2.2.2.2.1.gt (show g < 3 by omega) hgn), mt_eq hs, mf_eq (show 1 ≠ 0 by omega), ↓mj_bs (mh_gf 5 Ro.1 rfl), ↓mj_bs (Ro.2.2.2.1.gt (show i < 6 by omega) hin), mf_le hlt, mn_add]
              exact ih'
            · have e : mm_fi (ms_r S) (ms_m S) g (i + 1) = mm_fi (ms_r S) (ms_m S) g i := by simp [mm_fi, hlt]
              have ih' := ih (i + 1) (.int (nI 1)) (by omega)
              rw [e] at ih'
              simp only [↓reduceIte, ↓mq_85_0, ↓mq_85_1, ↓mq_85_4, ↓mq_85_5, ↓mq_85_8, ↓mq_85_11, ↓mq_85_12, ↓mq_85_13, ↓mq_85_15, ↓mq_85_16, ↓mq_85_17, ↓mq_85_18, ↓mq_85_19, ↓mq_85_23, ↓mq_85_24, ↓mq_85_27, ↓mq_85_30, ↓mq_85_33, ↓mq_85_34, ↓mq_85_37, ↓mq_85_39, ↓mq_85_42, ↓mq_85_45, ↓mq_85_46, ↓mq_85_49, ↓mq_85_52, ↓mq_85_54, ↓mq_85_55, ↓mq_85_56, ↓mq_85_59, ↓mq_85_62, ↓mq_85_63, ↓mq_85_64, ↓mq_85_67, ↓mq_85_68, ↓mq_85_71, ↓mq_85_72, ↓mq_85_74, ↓mq_85_76, ↓mq_85_79, ↓mq_85_80, ↓mq_85_83, ↓mq_85_86, ↓mq_85_88, ↓mq_85_89, ↓mq_85_90, ↓mq_85_93, ↓mq_85_95, ↓mq_85_96, ↓mq_85_97, ↓mq_85_100, ↓mq_85_103, ↓mq_85_105, ↓mq_85_106, ↓mq_85_107, ↓mq_85_110, ↓mq_85_113, ↓mq_85_114, ↓mj_bs (mh_gf 1 o1 rfl), ↓mj_bs (mh_gf 1 Ro.1 rfl), mf_le hin, ↓mj_bs (mh_gf 3 o1 rfl), mh_isC M.1, ↓mj_bs (mt_15 M hbd (show i < 6 by omega)), Option.toList, List.cons_append, List.nil_append, hbi, mj_b0, Bool.true_eq_false, ↓mj_bs (mh_gf 6 Ro.1 rfl), ↓mj_bs (Ro.2.2.2.2.1.gt (show i < 6 by omega) hin), ↓mj_bs (mh_gf 8 Ro.1 rfl), ↓mj_bs (Ro.2.2.2.2.2.2.1.gt (show g < 3 by omega) hgn), mt_eq hs, mf_eq (show 1 ≠ 0 by omega), ↓mj_bs (mh_gf 5 Ro.1 rfl), ↓mj_bs (Ro.2.2.2.1.gt (show i < 6 by omega) hin), mt_le (Nat.le_of_not_lt hlt), mn_add]
              exact ih'
          · have e : mm_fi (ms_r S) (ms_m S) g (i + 1) = mm_fi (ms_r S) (ms_m S) g i := by simp [mm_fi, mm_abl, hs]
            have ih' := ih (i + 1) (.int (nI 0)) (by omega)
            rw [e] at ih'
            simp only [↓reduceIte, ↓mq_85_0, ↓mq_85_1, ↓mq_85_4, ↓mq_85_5, ↓mq_85_8, ↓mq_85_11, ↓mq_85_12, ↓mq_85_13, ↓mq_85_15, ↓mq_85_16, ↓mq_85_17, ↓mq_85_18, ↓mq_85_19, ↓mq_85_23, ↓mq_85_24, ↓mq_85_27, ↓mq_85_30, ↓mq_85_33, ↓mq_85_34, ↓mq_85_37, ↓mq_85_39, ↓mq_85_42, ↓mq_85_45, ↓mq_85_46, ↓mq_85_49, ↓mq_85_52, ↓mq_85_54, ↓mq_85_55, ↓mq_85_56, ↓mq_85_59, ↓mq_85_62, ↓mq_85_63, ↓mq_85_64, ↓mq_85_67, ↓mq_85_68, ↓mq_85_71, ↓mq_85_72, ↓mq_85_74, ↓mq_85_76, ↓mq_85_79, ↓mq_85_80, ↓mq_85_83, ↓mq_85_86, ↓mq_85_88, ↓mq_85_89, ↓mq_85_90, ↓mq_85_93, ↓mq_85_95, ↓mq_85_96, ↓mq_85_97, ↓mq_85_100, ↓mq_85_103, ↓mq_85_105, ↓mq_85_106, ↓mq_85_107, ↓mq_85_110, ↓mq_85_113, ↓mq_85_114, ↓mj_bs (mh_gf 1 o1 rfl), ↓mj_bs (mh_gf 1 Ro.1 rfl), mf_le hin, ↓mj_bs (mh_gf 3 o1 rfl), mh_isC M.1, ↓mj_bs (mt_15 M hbd (show i < 6 by omega)), Option.toList, List.cons_append, List.nil_append, hbi, mj_b0, Bool.true_eq_false, ↓mj_bs (mh_gf 6 Ro.1 rfl), ↓mj_bs (Ro.2.2.2.2.1.gt (show i < 6 by omega) hin), ↓mj_bs (mh_gf 8 Ro.1 rfl), ↓mj_bs (Ro.2.2.2.2.2.2.1.gt (show g < 3 by omega) hgn), mf_eq hs, mn_add]
            exact ih'
    have loopR : ∀ d i, i + d = mr_n (ms_r S) → mj_R 152 (20, [.ref 65, .int (nI g), .int (mm_ov (mm_fi (ms_r S) (ms_m S) g i)), .int (nI i)], [], h) = some (some (.int (mm_ov (mm_fi (ms_r S) (ms_m S) g (mr_n (ms_r S))))), h) := by
      intro d
      induction d with
      | zero =>
        intro i hi
        obtain rfl : i = mr_n (ms_r S) := by omega
        simp only [↓reduceIte, ↓mq_152_0, ↓mq_152_1, ↓mq_152_2, ↓mq_152_5, ↓mq_152_6, ↓mq_152_7, ↓mq_152_10, ↓mq_152_13, ↓mq_152_14, ↓mq_152_15, ↓mq_152_17, ↓mq_152_18, ↓mq_152_19, ↓mq_152_20, ↓mq_152_21, ↓mq_152_22, ↓mq_152_25, ↓mq_152_28, ↓mq_152_29, ↓mq_152_30, ↓mq_152_31, ↓mq_152_34, ↓mq_152_37, ↓mq_152_38, ↓mq_152_40, ↓mq_152_43, ↓mq_152_44, ↓mq_152_47, ↓mq_152_48, ↓mq_152_49, ↓mq_152_50, ↓mq_152_51, ↓mq_152_52, ↓mq_152_53, ↓mq_152_54, ↓mq_152_57, ↓mq_152_58, ↓mq_152_59, ↓mq_152_60, ↓mq_152_61, ↓mq_152_62, ↓mq_152_63, ↓mq_152_66, ↓mq_152_67, ↓mq_152_70, ↓mq_152_71, ↓mq_152_72, ↓mq_152_75, ↓mq_152_78, ↓mq_152_79, ↓mj_bs (mr_bn hrb), mt_le (Nat.le_refl (mr_n (ms_r S)))]
      | succ d ih =>
        intro i hi
        have hin : i < mr_n (ms_r S) := by omega
        have ih' := ih (i + 1) (by omega)
        have hW := wr.2.2.2.1 i hin
        have e149 := mt_149 wr wm Rr G hin hgn
        rw [show ((ma_b (ms_m S)).testBit i && decide (mr_W (ms_r S) i = mr_gS (ms_r S) g)) = mm_abl (ms_r S) (ms_m S) g i from rfl] at e149
        rw [mq_152_20]
        cases hab : mm_abl (ms_r S) (ms_m S) g i
        · simp only [mm_fi, hab, Bool.false_eq_true, false_and, if_false] at ih'
          simp only [↓reduceIte, ↓mq_152_0, ↓mq_152_1, ↓mq_152_2, ↓mq_152_5, ↓mq_152_6, ↓mq_152_7, ↓mq_152_10, ↓mq_152_13, ↓mq_152_14, ↓mq_152_15, ↓mq_152_17, ↓mq_152_18, ↓mq_152_19, ↓mq_152_21, ↓mq_152_22, ↓mq_152_25, ↓mq_152_28, ↓mq_152_29, ↓mq_152_30, ↓mq_152_31, ↓mq_152_34, ↓mq_152_37, ↓mq_152_38, ↓mq_152_40, ↓mq_152_43, ↓mq_152_44, ↓mq_152_47, ↓mq_152_48, ↓mq_152_49, ↓mq_152_50, ↓mq_152_51, ↓mq_152_52, ↓mq_152_53, ↓mq_152_54, ↓mq_152_57, ↓mq_152_58, ↓mq_152_59, ↓mq_152_60, ↓mq_152_61, ↓mq_152_62, ↓mq_152_63, ↓mq_152_66, ↓mq_152_67, ↓mq_152_70, ↓mq_152_71, ↓mq_152_72, ↓mq_152_75, ↓mq_152_78, ↓mq_152_79, ↓mj_bs (mr_bn hrb), mf_le hin, mr_is hrb, ↓mj_bs (e149), Option.toList, List.cons_append, List.nil_append, hab, mj_b0, mn_add]
          exact ih'
        · cases hf : mm_fi (ms_r S) (ms_m S) g i with
          | none =>
            have hpos : 0 < mr_S (ms_r S) i := by omega
            simp only [mm_fi, hab, hf, mm_fsv, hpos, and_self, if_true] at ih'
            simp only [↓reduceIte, ↓mq_152_0, ↓mq_152_1, ↓mq_152_2, ↓mq_152_5, ↓mq_152_6, ↓mq_152_7, ↓mq_152_10, ↓mq_152_13, ↓mq_152_14, ↓mq_152_15, ↓mq_152_17, ↓mq_152_18, ↓mq_152_19, ↓mq_152_21, ↓mq_152_22, ↓mq_152_25, ↓mq_152_28, ↓mq_152_29, ↓mq_152_30, ↓mq_152_31, ↓mq_152_34, ↓mq_152_37, ↓mq_152_38, ↓mq_152_40, ↓mq_152_43, ↓mq_152_44, ↓mq_152_47, ↓mq_152_48, ↓mq_152_49, ↓mq_152_50, ↓mq_152_51, ↓mq_152_52, ↓mq_152_53, ↓mq_152_54, ↓mq_152_57, ↓mq_152_58, ↓mq_152_59, ↓mq_152_60, ↓mq_152_61, ↓mq_152_62, ↓mq_152_63, ↓mq_152_66, ↓mq_152_67, ↓mq_152_70, ↓mq_152_71, ↓mq_152_72, ↓mq_152_75, ↓mq_152_78, ↓mq_152_79, ↓mj_bs (mr_bn hrb), mf_le hin, mr_is hrb, ↓mj_bs (e149), Option.toList, List.cons_append, List.nil_append, hab, mj_b0, Bool.true_eq_false, mm_ov, mn_add]
            exact ih'
          | some b =>
            have hbi := mm_fi_lt i b hf
            have hbn : b < mr_n (ms_r S) := by omega
            have hSb := wr.2.2.2.1 b hbn
            by_cases hlt : mr_S (ms_r S) b < mr_S (ms_r S) i
            · simp only [mm_fi, hab, hf, mm_fsv, hlt, and_self, if_true] at ih'
              simp only [↓reduceIte, ↓mq_152_0, ↓mq_152_1, ↓mq_152_2, ↓mq_152_5, ↓mq_152_6, ↓mq_152_7, ↓mq_152_10, ↓mq_152_13, ↓mq_152_14, ↓mq_152_15, ↓mq_152_17, ↓mq_152_18, ↓mq_152_19, ↓mq_152_21, ↓mq_152_22, ↓mq_152_25, ↓mq_152_28, ↓mq_152_29, ↓mq_152_30, ↓mq_152_31, ↓mq_152_34, ↓mq_152_37, ↓mq_152_38, ↓mq_152_40, ↓mq_152_43, ↓mq_152_44, ↓mq_152_47, ↓mq_152_48, ↓mq_152_49, ↓mq_152_50, ↓mq_152_51, ↓mq_152_52, ↓mq_152_53, ↓mq_152_54, ↓mq_152_57, ↓mq_152_58, ↓mq_152_59, ↓mq_152_60, ↓mq_152_61, ↓mq_152_62, ↓mq_152_63, ↓mq_152_66, ↓mq_152_67, ↓mq_152_70, ↓mq_152_71, ↓mq_152_72, ↓mq_152_75, ↓mq_152_78, ↓mq_152_79, ↓mj_bs (mr_bn hrb), mf_le hin, mr_is hrb, ↓mj_bs (e149), Option.toList, List.cons_append, List.nil_append, hab, mj_b0, Bool.true_eq_false, mm_ov, mf_m9 (d := b) (by omega), ↓mj_bs (mr_b6 hrb), mn_mul, mn_add, ↓mj_bs (mr_S4 Rr hn9 hin), ↓mj_bs (mr_S4 Rr hn9 hbn), mf_le hlt]
              exact ih'
            · simp only [mm_fi, hab, hf, mm_fsv, hlt, and_false, if_false] at ih'
              simp only [↓reduceIte, ↓mq_152_0, ↓mq_152_1, ↓mq_152_2, ↓mq_152_5, ↓mq_152_6, ↓mq_152_7, ↓mq_152_10, ↓mq_152_13, ↓mq_152_14, ↓mq_152_15, ↓mq_152_17, ↓mq_152_18, ↓mq_152_19, ↓mq_152_21, ↓mq_152_22, ↓mq_152_25, ↓mq_152_28, ↓mq_152_29, ↓mq_152_30, ↓mq_152_31, ↓mq_152_34, ↓mq_152_37, ↓mq_152_38, ↓mq_152_40, ↓mq_152_43, ↓mq_152_44, ↓mq_152_47, ↓mq_152_48, ↓mq_152_49, ↓mq_152_50, ↓mq_152_51, ↓mq_152_52, ↓mq_152_53, ↓mq_152_54, ↓mq_152_57, ↓mq_152_58, ↓mq_152_59, ↓mq_152_60, ↓mq_152_61, ↓mq_152_62, ↓mq_152_63, ↓mq_152_66, ↓mq_152_67, ↓mq_152_70, ↓mq_152_71, ↓mq_152_72, ↓mq_152_75, ↓mq_152_78, ↓mq_152_79, ↓mj_bs (mr_bn hrb), mf_le hin, mr_is hrb, ↓mj_bs (e149), Option.toList, List.cons_append, List.nil_append, hab, mj_b0, Bool.true_eq_false, mm_ov, mf_m9 (d := b) (by omega), ↓mj_bs (mr_b6 hrb), mn_mul, mn_add, ↓mj_bs (mr_S4 Rr hn9 hin), ↓mj_bs (mr_S4 Rr hn9 hbn), mt_le (Nat.le_of_not_lt hlt)]
              exact ih'
    refine mh_opQ (v := .int (mm_ov (mm_fi (ms_r S) (ms_m S) g (mr_n (ms_r S))))) JJ ?_ ?_
    · rw [mc_85]
      simp only [↓reduceIte, ↓mq_85_0, ↓mq_85_1, ↓mq_85_4, ↓mq_85_5, ↓mq_85_8, ↓mq_85_11, ↓mq_85_12, ↓mq_85_13, ↓mq_85_15, ↓mq_85_16, ↓mq_85_17, ↓mq_85_18, ↓mq_85_19, ↓mq_85_23, ↓mq_85_24, ↓mq_85_27, ↓mq_85_30, ↓mq_85_33, ↓mq_85_34, ↓mq_85_37, ↓mq_85_39, ↓mq_85_42, ↓mq_85_45, ↓mq_85_46, ↓mq_85_49, ↓mq_85_52, ↓mq_85_54, ↓mq_85_55, ↓mq_85_56, ↓mq_85_59, ↓mq_85_62, ↓mq_85_63, ↓mq_85_64, ↓mq_85_67, ↓mq_85_68, ↓mq_85_71, ↓mq_85_72, ↓mq_85_74, ↓mq_85_76, ↓mq_85_79, ↓mq_85_80, ↓mq_85_83, ↓mq_85_86, ↓mq_85_88, ↓mq_85_89, ↓mq_85_90, ↓mq_85_93, ↓mq_85_95, ↓mq_85_96, ↓mq_85_97, ↓mq_85_100, ↓mq_85_103, ↓mq_85_105, ↓mq_85_106, ↓mq_85_107, ↓mq_85_110, ↓mq_85_113, ↓mq_85_114, ↓mj_bs (mh_gf 1 o1 rfl), mh_isC Ro.1, ↓mj_bs (e39), Option.toList, List.cons_append, List.nil_append, mj_b0, Bool.true_eq_false]
      exact loopC (mr_n (ms_r S)) 0 _ (by omega)
    · rw [mc_152]
      simp only [↓reduceIte, ↓mq_152_0, ↓mq_152_1, ↓mq_152_2, ↓mq_152_5, ↓mq_152_6, ↓mq_152_7, ↓mq_152_10, ↓mq_152_13, ↓mq_152_14, ↓mq_152_15, ↓mq_152_17, ↓mq_152_18, ↓mq_152_19, ↓mq_152_21, ↓mq_152_22, ↓mq_152_25, ↓mq_152_28, ↓mq_152_29, ↓mq_152_30, ↓mq_152_31, ↓mq_152_34, ↓mq_152_37, ↓mq_152_38, ↓mq_152_40, ↓mq_152_43, ↓mq_152_44, ↓mq_152_47, ↓mq_152_48, ↓mq_152_49, ↓mq_152_50, ↓mq_152_51, ↓mq_152_52, ↓mq_152_53, ↓mq_152_54, ↓mq_152_57, ↓mq_152_58, ↓mq_152_59, ↓mq_152_60, ↓mq_152_61, ↓mq_152_62, ↓mq_152_63, ↓mq_152_66, ↓mq_152_67, ↓mq_152_70, ↓mq_152_71, ↓mq_152_72, ↓mq_152_75, ↓mq_152_78, ↓mq_152_79, ↓mj_bs (mr_th hrb), mr_is hrb, ↓mj_bs (e123), Bool.not_true, Option.toList, List.cons_append, List.nil_append, mj_b0]
      exact loopR (mr_n (ms_r S)) 0 (by omega)
  · have e39 := mt_39 Ro x
    rw [mn_dno hno] at e39
    have e123 := mt_123 wr hrb x
    rw [mn_dno hno] at e123
    refine mh_opQ (v := .int (-1)) JJ ?_ ?_
    · rw [mc_85]
      simp only [↓reduceIte, ↓mq_85_0, ↓mq_85_1, ↓mq_85_4, ↓mq_85_5, ↓mq_85_8, ↓mq_85_11, ↓mq_85_12, ↓mq_85_13, ↓mq_85_15, ↓mq_85_16, ↓mq_85_17, ↓mq_85_18, ↓mq_85_19, ↓mq_85_21, ↓mq_85_23, ↓mq_85_24, ↓mq_85_27, ↓mq_85_30, ↓mq_85_33, ↓mq_85_34, ↓mq_85_37, ↓mq_85_39, ↓mq_85_42, ↓mq_85_45, ↓mq_85_46, ↓mq_85_49, ↓mq_85_52, ↓mq_85_54, ↓mq_85_55, ↓mq_85_56, ↓mq_85_59, ↓mq_85_62, ↓mq_85_63, ↓mq_85_64, ↓mq_85_67, ↓mq_85_68, ↓mq_85_71, ↓mq_85_72, ↓mq_85_74, ↓mq_85_76, ↓mq_85_79, ↓mq_85_80, ↓mq_85_83, ↓mq_85_86, ↓mq_85_88, ↓mq_85_89, ↓mq_85_90, ↓mq_85_93, ↓mq_85_95, ↓mq_85_96, ↓mq_85_97, ↓mq_85_100, ↓mq_85_103, ↓mq_85_105, ↓mq_85_106, ↓mq_85_107, ↓mq_85_110, ↓mq_85_113, ↓mq_85_114, ↓mj_bs (mh_gf 1 o1 rfl), mh_isC Ro.1, ↓mj_bs (e39), Option.toList, List.cons_append, List.nil_append, mj_b0]
    · rw [mc_152]
      simp only [↓reduceIte, ↓mq_152_0, ↓mq_152_1, ↓mq_152_2, ↓mq_152_5, ↓mq_152_6, ↓mq_152_7, ↓mq_152_10, ↓mq_152_13, ↓mq_152_14, ↓mq_152_15, ↓mq_152_17, ↓mq_152_18, ↓mq_152_19, ↓mq_152_20, ↓mq_152_21, ↓mq_152_22, ↓mq_152_25, ↓mq_152_28, ↓mq_152_29, ↓mq_152_30, ↓mq_152_31, ↓mq_152_34, ↓mq_152_37, ↓mq_152_38, ↓mq_152_40, ↓mq_152_43, ↓mq_152_44, ↓mq_152_47, ↓mq_152_48, ↓mq_152_49, ↓mq_152_50, ↓mq_152_51, ↓mq_152_52, ↓mq_152_53, ↓mq_152_54, ↓mq_152_57, ↓mq_152_58, ↓mq_152_59, ↓mq_152_60, ↓mq_152_61, ↓mq_152_62, ↓mq_152_63, ↓mq_152_66, ↓mq_152_67, ↓mq_152_70, ↓mq_152_71, ↓mq_152_72, ↓mq_152_75, ↓mq_152_78, ↓mq_152_79, ↓mj_bs (mr_th hrb), mr_is hrb, ↓mj_bs (e123), Bool.not_false, Option.toList, List.cons_append, List.nil_append, mj_b0, Bool.true_eq_false]
end
