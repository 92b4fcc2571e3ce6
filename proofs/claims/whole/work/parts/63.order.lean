/-! ORDERS: the reference's search -/
theorem mn_dec (k : Nat) : nI (k + 1) + (-1) = nI k := by
  rw [← mn_add, Int32.add_assoc, show nI 1 + (-1) = 0 from by decide, Int32.add_zero]
section
variable {h : mj_H} {ρ : mm_Ro}
theorem mt_145 (w : mw_R ρ) (H : mh_RR h ρ) {f : Nat → Int32} {p : Nat → Nat} {k b : Nat} (O : mh_ar h 82 6 f) (hk : k ≤ 6) (hf : ∀ i, i < k → f i = nI (p i)) (hp : ∀ i, i < k → p i < mr_n ρ) (hb : b < mr_n ρ) : mj_C 145 [.ref 65, .int (nI k), .int (nI b)] h = some (some (.int (mj_bI (!(mm_st p k).testBit b && mm_cont ρ b (mm_st p k)))), h) := by
  have hn := w.1
  have hPb := (w.2.2.2.1 b hb).2.2.1
  have hmx9 : ∀ i, i ≤ k → mm_mx ρ p i ≤ 9 := fun i hi => (mm_mx_le i).mpr (fun j hj => (mm_pa9 w (hp j (by omega))).2)
  have hcont : mm_cont ρ b (mm_st p k) = decide (mr_K ρ b ≠ 2 ∨ mm_mx ρ p k ≤ mr_P ρ b) := by
    unfold mm_cont
    refine decide_eq_decide.mpr ?_
    refine or_congr_right ?_
    rw [mm_mx_le]
    constructor
    · intro z i hi
      have := hp i hi
      exact z (p i) this ((mm_st_at (by omega) k (fun i hi => by have := hp i hi; omega)).mpr ⟨i, hi, rfl⟩)
    · intro z j hj hjb
      obtain ⟨i, hi, rfl⟩ := (mm_st_at (by omega) k (fun i hi => by have := hp i hi; omega)).mp hjb
      exact z i hi
  have loop : ∀ d i c l6 l7, i + d = k → c = !(mm_st p i).testBit b → mj_R 145 (8, [.ref 65, .int (nI k), .int (nI b), .int (nI (mm_mx ρ p i)), .int (mj_bI c), .int (nI i), l6, l7], [], h) = some (some (.int (mj_bI (!(mm_st p k).testBit b && mm_cont ρ b (mm_st p k)))), h) := by
    intro d
    induction d with
    | zero =>
      intro i c l6 l7 hi hc
      obtain rfl : i = k := by omega
      rw [← hc, hcont]
      have hm9 := hmx9 i (Nat.le_refl _)
      cases c
      · simp only [↓reduceIte, ↓mq_145_0, ↓mq_145_1, ↓mq_145_2, ↓mq_145_3, ↓mq_145_5, ↓mq_145_6, ↓mq_145_8, ↓mq_145_10, ↓mq_145_11, ↓mq_145_14, ↓mq_145_15, ↓mq_145_18, ↓mq_145_20, ↓mq_145_21, ↓mq_145_23, ↓mq_145_24, ↓mq_145_27, ↓mq_145_28, ↓mq_145_30, ↓mq_145_31, ↓mq_145_32, ↓mq_145_33, ↓mq_145_36, ↓mq_145_37, ↓mq_145_40, ↓mq_145_41, ↓mq_145_43, ↓mq_145_44, ↓mq_145_45, ↓mq_145_46, ↓mq_145_47, ↓mq_145_48, ↓mq_145_49, ↓mq_145_50, ↓mq_145_51, ↓mq_145_54, ↓mq_145_55, ↓mq_145_58, ↓mq_145_59, ↓mq_145_61, ↓mq_145_62, ↓mq_145_63, ↓mq_145_64, ↓mq_145_65, ↓mq_145_67, ↓mq_145_69, ↓mq_145_70, ↓mq_145_73, ↓mq_145_75, ↓mq_145_78, ↓mq_145_79, ↓mq_145_80, ↓mq_145_82, ↓mq_145_85, ↓mq_145_87, ↓mq_145_88, ↓mq_145_91, ↓mq_145_92, ↓mq_145_95, ↓mq_145_96, ↓mq_145_98, ↓mq_145_101, ↓mq_145_104, ↓mq_145_106, ↓mq_145_109, ↓mq_145_110, ↓mq_145_113, ↓mq_145_114, ↓mq_145_115, ↓mq_145_116, ↓mq_145_117, ↓mq_145_118, ↓mq_145_121, ↓mq_145_122, ↓mq_145_123, ↓mq_145_126, ↓mq_145_127, ↓mq_145_128, ↓mq_145_129, ↓mq_145_130, ↓mq_145_131, ↓mq_145_132, ↓mq_145_135, ↓mq_145_136, ↓mq_145_139, ↓mq_145_140, mt_le (Nat.le_refl i) (show i < 2 ^ 31 by omega), mj_b0, mj_z0]
        rfl
      · by_cases hK : mr_K ρ b = 2
        · by_cases hm : mm_mx ρ p i ≤ mr_P ρ b
          · simp only [↓reduceIte, ↓mq_145_0, ↓mq_145_1, ↓mq_145_2, ↓mq_145_3, ↓mq_145_5, ↓mq_145_6, ↓mq_145_8, ↓mq_145_10, ↓mq_145_11, ↓mq_145_14, ↓mq_145_15, ↓mq_145_18, ↓mq_145_20, ↓mq_145_21, ↓mq_145_23, ↓mq_145_24, ↓mq_145_27, ↓mq_145_28, ↓mq_145_30, ↓mq_145_31, ↓mq_145_32, ↓mq_145_33, ↓mq_145_36, ↓mq_145_37, ↓mq_145_40, ↓mq_145_41, ↓mq_145_43, ↓mq_145_44, ↓mq_145_45, ↓mq_145_46, ↓mq_145_47, ↓mq_145_48, ↓mq_145_49, ↓mq_145_50, ↓mq_145_51, ↓mq_145_54, ↓mq_145_55, ↓mq_145_58, ↓mq_145_59, ↓mq_145_61, ↓mq_145_62, ↓mq_145_63, ↓mq_145_64, ↓mq_145_65, ↓mq_145_67, ↓mq_145_69, ↓mq_145_70, ↓mq_145_73, ↓mq_145_75, ↓mq_145_78, ↓mq_145_79, ↓mq_145_80, ↓mq_145_82, ↓mq_145_85, ↓mq_145_87, ↓mq_145_88, ↓mq_145_91, ↓mq_145_92, ↓mq_145_95, ↓mq_145_96, ↓mq_145_98, ↓mq_145_101, ↓mq_145_104, ↓mq_145_106, ↓mq_145_109, ↓mq_145_110, ↓mq_145_113, ↓mq_145_114, ↓mq_145_115, ↓mq_145_116, ↓mq_145_117, ↓mq_145_118, ↓mq_145_121, ↓mq_145_122, ↓mq_145_123, ↓mq_145_126, ↓mq_145_127, ↓mq_145_128, ↓mq_145_129, ↓mq_145_130, ↓mq_145_131, ↓mq_145_132, ↓mq_145_135, ↓mq_145_136, ↓mq_145_139, ↓mq_145_140, mt_le (Nat.le_refl i) (show i < 2 ^ 31 by omega), mj_b0, Bool.true_eq_false, ↓mj_bs (mr_b6 H.1), mn_mul, mn_add, ↓mj_bs (mr_K4 H hn hb), mt_eq hK, ↓mj_bs (mr_P4 H hn hb), mf_lt hm, mj_z1]
            simp [hm, mj_bI]
          · simp only [↓reduceIte, ↓mq_145_0, ↓mq_145_1, ↓mq_145_2, ↓mq_145_3, ↓mq_145_5, ↓mq_145_6, ↓mq_145_8, ↓mq_145_10, ↓mq_145_11, ↓mq_145_14, ↓mq_145_15, ↓mq_145_18, ↓mq_145_20, ↓mq_145_21, ↓mq_145_23, ↓mq_145_24, ↓mq_145_27, ↓mq_145_28, ↓mq_145_30, ↓mq_145_31, ↓mq_145_32, ↓mq_145_33, ↓mq_145_36, ↓mq_145_37, ↓mq_145_40, ↓mq_145_41, ↓mq_145_43, ↓mq_145_44, ↓mq_145_45, ↓mq_145_46, ↓mq_145_47, ↓mq_145_48, ↓mq_145_49, ↓mq_145_50, ↓mq_145_51, ↓mq_145_54, ↓mq_145_55, ↓mq_145_58, ↓mq_145_59, ↓mq_145_61, ↓mq_145_62, ↓mq_145_63, ↓mq_145_64, ↓mq_145_65, ↓mq_145_67, ↓mq_145_69, ↓mq_145_70, ↓mq_145_73, ↓mq_145_75, ↓mq_145_78, ↓mq_145_79, ↓mq_145_80, ↓mq_145_82, ↓mq_145_85, ↓mq_145_87, ↓mq_145_88, ↓mq_145_91, ↓mq_145_92, ↓mq_145_95, ↓mq_145_96, ↓mq_145_98, ↓mq_145_101, ↓mq_145_104, ↓mq_145_106, ↓mq_145_109, ↓mq_145_110, ↓mq_145_113, ↓mq_145_114, ↓mq_145_115, ↓mq_145_116, ↓mq_145_117, ↓mq_145_118, ↓mq_145_121, ↓mq_145_122, ↓mq_145_123, ↓mq_145_126, ↓mq_145_127, ↓mq_145_128, ↓mq_145_129, ↓mq_145_130, ↓mq_145_131, ↓mq_145_132, ↓mq_145_135, ↓mq_145_136, ↓mq_145_139, ↓mq_145_140, mt_le (Nat.le_refl i) (show i < 2 ^ 31 by omega), mj_b0, Bool.true_eq_false, ↓mj_bs (mr_b6 H.1), mn_mul, mn_add, ↓mj_bs (mr_K4 H hn hb), mt_eq hK, ↓mj_bs (mr_P4 H hn hb), mt_lt (Nat.lt_of_not_le hm), mj_z0]
            simp [hm, hK, mj_bI]
        · have hK3 := (w.2.2.2.1 b hb).1
          simp only [↓reduceIte, ↓mq_145_0, ↓mq_145_1, ↓mq_145_2, ↓mq_145_3, ↓mq_145_5, ↓mq_145_6, ↓mq_145_8, ↓mq_145_10, ↓mq_145_11, ↓mq_145_14, ↓mq_145_15, ↓mq_145_18, ↓mq_145_20, ↓mq_145_21, ↓mq_145_23, ↓mq_145_24, ↓mq_145_27, ↓mq_145_28, ↓mq_145_30, ↓mq_145_31, ↓mq_145_32, ↓mq_145_33, ↓mq_145_36, ↓mq_145_37, ↓mq_145_40, ↓mq_145_41, ↓mq_145_43, ↓mq_145_44, ↓mq_145_45, ↓mq_145_46, ↓mq_145_47, ↓mq_145_48, ↓mq_145_49, ↓mq_145_50, ↓mq_145_51, ↓mq_145_54, ↓mq_145_55, ↓mq_145_58, ↓mq_145_59, ↓mq_145_61, ↓mq_145_62, ↓mq_145_63, ↓mq_145_64, ↓mq_145_65, ↓mq_145_67, ↓mq_145_69, ↓mq_145_70, ↓mq_145_73, ↓mq_145_75, ↓mq_145_78, ↓mq_145_79, ↓mq_145_80, ↓mq_145_82, ↓mq_145_85, ↓mq_145_87, ↓mq_145_88, ↓mq_145_91, ↓mq_145_92, ↓mq_145_95, ↓mq_145_96, ↓mq_145_98, ↓mq_145_101, ↓mq_145_104, ↓mq_145_106, ↓mq_145_109, ↓mq_145_110, ↓mq_145_113, ↓mq_145_114, ↓mq_145_115, ↓mq_145_116, ↓mq_145_117, ↓mq_145_118, ↓mq_145_121, ↓mq_145_122, ↓mq_145_123, ↓mq_145_126, ↓mq_145_127, ↓mq_145_128, ↓mq_145_129, ↓mq_145_130, ↓mq_145_131, ↓mq_145_132, ↓mq_145_135, ↓mq_145_136, ↓mq_145_139, ↓mq_145_140, mt_le (Nat.le_refl i) (show i < 2 ^ 31 by omega), mj_b0, Bool.true_eq_false, ↓mj_bs (mr_b6 H.1), mn_mul, ↓mj_bs (mr_K4 H hn hb), mf_eq hK, mj_z1]
          simp [hK, mj_bI]
    | succ d ih =>
      intro i c l6 l7 hi hc
      have hik : i < k := by omega
      have hpi := hp i hik
      have hPi := w.2.2.2.1 (p i) hpi
      have hpa := mm_pa9 w hpi
      have hm9 := hmx9 i (by omega)
      have go : mj_gi h 82 (nI i) = some (nI (p i)) := by rw [O.gt (show i < 6 by omega) (by omega), hf i hik]
      have e1 : ∀ l3 l4, mj_R 145 (8, [.ref 65, .int (nI k), .int (nI b), l3, l4, .int (nI i), l6, l7], [], h) = mj_R 145 (65, [.ref 65, .int (nI k), .int (nI b), l3, l4, .int (nI i), .int (nI (p i)), l7], [.int (nI (mm_pa ρ (p i)))], h) := by
        intro l3 l4
        rw [mq_145_8]
        by_cases hK : mr_K ρ (p i) = 1
        · have e : mm_pa ρ (p i) = (mr_P ρ (p i) + 1) / 2 := by simp [mm_pa, hK]
          simp only [↓reduceIte, ↓mq_145_0, ↓mq_145_1, ↓mq_145_2, ↓mq_145_3, ↓mq_145_5, ↓mq_145_6, ↓mq_145_10, ↓mq_145_11, ↓mq_145_14, ↓mq_145_15, ↓mq_145_18, ↓mq_145_20, ↓mq_145_21, ↓mq_145_23, ↓mq_145_24, ↓mq_145_27, ↓mq_145_28, ↓mq_145_30, ↓mq_145_31, ↓mq_145_32, ↓mq_145_33, ↓mq_145_36, ↓mq_145_37, ↓mq_145_40, ↓mq_145_41, ↓mq_145_43, ↓mq_145_44, ↓mq_145_45, ↓mq_145_46, ↓mq_145_47, ↓mq_145_48, ↓mq_145_49, ↓mq_145_50, ↓mq_145_51, ↓mq_145_54, ↓mq_145_55, ↓mq_145_58, ↓mq_145_59, ↓mq_145_61, ↓mq_145_62, ↓mq_145_63, ↓mq_145_64, ↓mq_145_67, ↓mq_145_69, ↓mq_145_70, ↓mq_145_73, ↓mq_145_75, ↓mq_145_78, ↓mq_145_79, ↓mq_145_80, ↓mq_145_82, ↓mq_145_85, ↓mq_145_87, ↓mq_145_88, ↓mq_145_91, ↓mq_145_92, ↓mq_145_95, ↓mq_145_96, ↓mq_145_98, ↓mq_145_101, ↓mq_145_104, ↓mq_145_106, ↓mq_145_109, ↓mq_145_110, ↓mq_145_113, ↓mq_145_114, ↓mq_145_115, ↓mq_145_116, ↓mq_145_117, ↓mq_145_118, ↓mq_145_121, ↓mq_145_122, ↓mq_145_123, ↓mq_145_126, ↓mq_145_127, ↓mq_145_128, ↓mq_145_129, ↓mq_145_130, ↓mq_145_131, ↓mq_145_132, ↓mq_145_135, ↓mq_145_136, ↓mq_145_139, ↓mq_145_140, mf_le hik (show k < 2 ^ 31 by omega), ↓mj_bs (mr_b27 H.1), ↓mj_bs (go), ↓mj_bs (mr_b6 H.1), mn_mul, ↓mj_bs (mr_K4 H hn hpi), mt_eq hK, mn_add, ↓mj_bs (mr_P4 H hn hpi), show (nI 2 = 0) = False from by decide, mn_div (show mr_P ρ (p i) + 1 < 2 ^ 31 by omega) (show 2 < 2 ^ 31 by omega), e]
        · have e : mm_pa ρ (p i) = mr_P ρ (p i) := by simp [mm_pa, hK]
          simp only [↓reduceIte, ↓mq_145_0, ↓mq_145_1, ↓mq_145_2, ↓mq_145_3, ↓mq_145_5, ↓mq_145_6, ↓mq_145_10, ↓mq_145_11, ↓mq_145_14, ↓mq_145_15, ↓mq_145_18, ↓mq_145_20, ↓mq_145_21, ↓mq_145_23, ↓mq_145_24, ↓mq_145_27, ↓mq_145_28, ↓mq_145_30, ↓mq_145_31, ↓mq_145_32, ↓mq_145_33, ↓mq_145_36, ↓mq_145_37, ↓mq_145_40, ↓mq_145_41, ↓mq_145_43, ↓mq_145_44, ↓mq_145_45, ↓mq_145_46, ↓mq_145_47, ↓mq_145_48, ↓mq_145_49, ↓mq_145_50, ↓mq_145_51, ↓mq_145_54, ↓mq_145_55, ↓mq_145_58, ↓mq_145_59, ↓mq_145_61, ↓mq_145_62, ↓mq_145_63, ↓mq_145_64, ↓mq_145_67, ↓mq_145_69, ↓mq_145_70, ↓mq_145_73, ↓mq_145_75, ↓mq_145_78, ↓mq_145_79, ↓mq_145_80, ↓mq_145_82, ↓mq_145_85, ↓mq_145_87, ↓mq_145_88, ↓mq_145_91, ↓mq_145_92, ↓mq_145_95, ↓mq_145_96, ↓mq_145_98, ↓mq_145_101, ↓mq_145_104, ↓mq_145_106, ↓mq_145_109, ↓mq_145_110, ↓mq_145_113, ↓mq_145_114, ↓mq_145_115, ↓mq_145_116, ↓mq_145_117, ↓mq_145_118, ↓mq_145_121, ↓mq_145_122, ↓mq_145_123, ↓mq_145_126, ↓mq_145_127, ↓mq_145_128, ↓mq_145_129, ↓mq_145_130, ↓mq_145_131, ↓mq_145_132, ↓mq_145_135, ↓mq_145_136, ↓mq_145_139, ↓mq_145_140, mf_le hik (show k < 2 ^ 31 by omega), ↓mj_bs (mr_b27 H.1), ↓mj_bs (go), ↓mj_bs (mr_b6 H.1), mn_mul, ↓mj_bs (mr_K4 H hn hpi), mf_eq hK, mn_add, ↓mj_bs (mr_P4 H hn hpi), e]
      have e2 : ∀ l4, mj_R 145 (65, [.ref 65, .int (nI k), .int (nI b), .int (nI (mm_mx ρ p i)), l4, .int (nI i), .int (nI (p i)), l7], [.int (nI (mm_pa ρ (p i)))], h) = mj_R 145 (80, [.ref 65, .int (nI k), .int (nI b), .int (nI (mm_mx ρ p (i + 1))), l4, .int (nI i), .int (nI (p i)), .int (nI (mm_pa ρ (p i)))], [], h) := by
        intro l4
        by_cases hm : mm_pa ρ (p i) ≤ mm_mx ρ p i
        · have e : mm_mx ρ p (i + 1) = mm_mx ρ p i := if_pos hm
          simp only [↓reduceIte, ↓mq_145_0, ↓mq_145_1, ↓mq_145_2, ↓mq_145_3, ↓mq_145_5, ↓mq_145_6, ↓mq_145_10, ↓mq_145_11, ↓mq_145_14, ↓mq_145_15, ↓mq_145_18, ↓mq_145_20, ↓mq_145_21, ↓mq_145_23, ↓mq_145_24, ↓mq_145_27, ↓mq_145_28, ↓mq_145_30, ↓mq_145_31, ↓mq_145_32, ↓mq_145_33, ↓mq_145_36, ↓mq_145_37, ↓mq_145_40, ↓mq_145_41, ↓mq_145_43, ↓mq_145_44, ↓mq_145_45, ↓mq_145_46, ↓mq_145_47, ↓mq_145_48, ↓mq_145_49, ↓mq_145_50, ↓mq_145_51, ↓mq_145_54, ↓mq_145_55, ↓mq_145_58, ↓mq_145_59, ↓mq_145_61, ↓mq_145_62, ↓mq_145_63, ↓mq_145_64, ↓mq_145_65, ↓mq_145_67, ↓mq_145_69, ↓mq_145_70, ↓mq_145_73, ↓mq_145_75, ↓mq_145_78, ↓mq_145_79, ↓mq_145_82, ↓mq_145_85, ↓mq_145_87, ↓mq_145_88, ↓mq_145_91, ↓mq_145_92, ↓mq_145_95, ↓mq_145_96, ↓mq_145_98, ↓mq_145_101, ↓mq_145_104, ↓mq_145_106, ↓mq_145_109, ↓mq_145_110, ↓mq_145_113, ↓mq_145_114, ↓mq_145_115, ↓mq_145_116, ↓mq_145_117, ↓mq_145_118, ↓mq_145_121, ↓mq_145_122, ↓mq_145_123, ↓mq_145_126, ↓mq_145_127, ↓mq_145_128, ↓mq_145_129, ↓mq_145_130, ↓mq_145_131, ↓mq_145_132, ↓mq_145_135, ↓mq_145_136, ↓mq_145_139, ↓mq_145_140, mt_le hm (show mm_mx ρ p i < 2 ^ 31 by omega), e]
        · have e : mm_mx ρ p (i + 1) = mm_pa ρ (p i) := if_neg hm
          simp only [↓reduceIte, ↓mq_145_0, ↓mq_145_1, ↓mq_145_2, ↓mq_145_3, ↓mq_145_5, ↓mq_145_6, ↓mq_145_10, ↓mq_145_11, ↓mq_145_14, ↓mq_145_15, ↓mq_145_18, ↓mq_145_20, ↓mq_145_21, ↓mq_145_23, ↓mq_145_24, ↓mq_145_27, ↓mq_145_28, ↓mq_145_30, ↓mq_145_31, ↓mq_145_32, ↓mq_145_33, ↓mq_145_36, ↓mq_145_37, ↓mq_145_40, ↓mq_145_41, ↓mq_145_43, ↓mq_145_44, ↓mq_145_45, ↓mq_145_46, ↓mq_145_47, ↓mq_145_48, ↓mq_145_49, ↓mq_145_50, ↓mq_145_51, ↓mq_145_54, ↓mq_145_55, ↓mq_145_58, ↓mq_145_59, ↓mq_145_61, ↓mq_145_62, ↓mq_145_63, ↓mq_145_64, ↓mq_145_65, ↓mq_145_67, ↓mq_145_69, ↓mq_145_70, ↓mq_145_73, ↓mq_145_75, ↓mq_145_78, ↓mq_145_79, ↓mq_145_82, ↓mq_145_85, ↓mq_145_87, ↓mq_145_88, ↓mq_145_91, ↓mq_145_92, ↓mq_145_95, ↓mq_145_96, ↓mq_145_98, ↓mq_145_101, ↓mq_145_104, ↓mq_145_106, ↓mq_145_109, ↓mq_145_110, ↓mq_145_113, ↓mq_145_114, ↓mq_145_115, ↓mq_145_116, ↓mq_145_117, ↓mq_145_118, ↓mq_145_121, ↓mq_145_122, ↓mq_145_123, ↓mq_145_126, ↓mq_145_127, ↓mq_145_128, ↓mq_145_129, ↓mq_145_130, ↓mq_145_131, ↓mq_145_132, ↓mq_145_135, ↓mq_145_136, ↓mq_145_139, ↓mq_145_140, mf_le (Nat.lt_of_not_le hm) (show mm_pa ρ (p i) < 2 ^ 31 by omega), e]
      rw [e1, e2]
      have hst : (mm_st p (i + 1)).testBit b = ((mm_st p i).testBit b || decide (b = p i)) := by
        rw [mm_st, mm_add_at _ (mm_st_lt i (fun j hj => by have := hp j (by omega); omega)) _ (by omega) b (by omega)]
      cases c
      · have ih' := ih (i + 1) false (.int (nI (p i))) (.int (nI (mm_pa ρ (p i)))) (by omega) (by
          rw [hst]
          have : (mm_st p i).testBit b = true := by cases hq : (mm_st p i).testBit b <;> simp [hq] at hc ⊢
          rw [this]; rfl)
        simp only [↓reduceIte, ↓mq_145_0, ↓mq_145_1, ↓mq_145_2, ↓mq_145_3, ↓mq_145_5, ↓mq_145_6, ↓mq_145_10, ↓mq_145_11, ↓mq_145_14, ↓mq_145_15, ↓mq_145_18, ↓mq_145_20, ↓mq_145_21, ↓mq_145_23, ↓mq_145_24, ↓mq_145_27, ↓mq_145_28, ↓mq_145_30, ↓mq_145_31, ↓mq_145_32, ↓mq_145_33, ↓mq_145_36, ↓mq_145_37, ↓mq_145_40, ↓mq_145_41, ↓mq_145_43, ↓mq_145_44, ↓mq_145_45, ↓mq_145_46, ↓mq_145_47, ↓mq_145_48, ↓mq_145_49, ↓mq_145_50, ↓mq_145_51, ↓mq_145_54, ↓mq_145_55, ↓mq_145_58, ↓mq_145_59, ↓mq_145_61, ↓mq_145_62, ↓mq_145_63, ↓mq_145_64, ↓mq_145_65, ↓mq_145_67, ↓mq_145_69, ↓mq_145_70, ↓mq_145_73, ↓mq_145_75, ↓mq_145_78, ↓mq_145_79, ↓mq_145_80, ↓mq_145_82, ↓mq_145_85, ↓mq_145_87, ↓mq_145_88, ↓mq_145_91, ↓mq_145_92, ↓mq_145_95, ↓mq_145_96, ↓mq_145_98, ↓mq_145_101, ↓mq_145_104, ↓mq_145_106, ↓mq_145_109, ↓mq_145_110, ↓mq_145_113, ↓mq_145_114, ↓mq_145_115, ↓mq_145_116, ↓mq_145_117, ↓mq_145_118, ↓mq_145_121, ↓mq_145_122, ↓mq_145_123, ↓mq_145_126, ↓mq_145_127, ↓mq_145_128, ↓mq_145_129, ↓mq_145_130, ↓mq_145_131, ↓mq_145_132, ↓mq_145_135, ↓mq_145_136, ↓mq_145_139, ↓mq_145_140, mj_b0, mn_add]
        exact ih'
      · have hq : (mm_st p i).testBit b = false := by cases hq : (mm_st p i).testBit b <;> simp [hq] at hc ⊢
        by_cases e : p i = b
        · have ih' := ih (i + 1) false (.int (nI (p i))) (.int (nI (mm_pa ρ (p i)))) (by omega) (by
            rw [hst, hq, e]; simp)
          simp only [↓reduceIte, ↓mq_145_0, ↓mq_145_1, ↓mq_145_2, ↓mq_145_3, ↓mq_145_5, ↓mq_145_6, ↓mq_145_10, ↓mq_145_11, ↓mq_145_14, ↓mq_145_15, ↓mq_145_18, ↓mq_145_20, ↓mq_145_21, ↓mq_145_23, ↓mq_145_24, ↓mq_145_27, ↓mq_145_28, ↓mq_145_30, ↓mq_145_31, ↓mq_145_32, ↓mq_145_33, ↓mq_145_36, ↓mq_145_37, ↓mq_145_40, ↓mq_145_41, ↓mq_145_43, ↓mq_145_44, ↓mq_145_45, ↓mq_145_46, ↓mq_145_47, ↓mq_145_48, ↓mq_145_49, ↓mq_145_50, ↓mq_145_51, ↓mq_145_54, ↓mq_145_55, ↓mq_145_58, ↓mq_145_59, ↓mq_145_61, ↓mq_145_62, ↓mq_145_63, ↓mq_145_64, ↓mq_145_65, ↓mq_145_67, ↓mq_145_69, ↓mq_145_70, ↓mq_145_73, ↓mq_145_75, ↓mq_145_78, ↓mq_145_79, ↓mq_145_80, ↓mq_145_82, ↓mq_145_85, ↓mq_145_87, ↓mq_145_88, ↓mq_145_91, ↓mq_145_92, ↓mq_145_95, ↓mq_145_96, ↓mq_145_98, ↓mq_145_101, ↓mq_145_104, ↓mq_145_106, ↓mq_145_109, ↓mq_145_110, ↓mq_145_113, ↓mq_145_114, ↓mq_145_115, ↓mq_145_116, ↓mq_145_117, ↓mq_145_118, ↓mq_145_121, ↓mq_145_122, ↓mq_145_123, ↓mq_145_126, ↓mq_145_127, ↓mq_145_128, ↓mq_145_129, ↓mq_145_130, ↓mq_145_131, ↓mq_145_132, ↓mq_145_135, ↓mq_145_136, ↓mq_145_139, ↓mq_145_140, mj_b0, Bool.true_eq_false, mt_eq e, mn_add]
          exact ih'
        · have ih' := ih (i + 1) true (.int (nI (p i))) (.int (nI (mm_pa ρ (p i)))) (by omega) (by
            rw [hst, hq, decide_eq_false (fun z => e z.symm)]; rfl)
          simp only [↓reduceIte, ↓mq_145_0, ↓mq_145_1, ↓mq_145_2, ↓mq_145_3, ↓mq_145_5, ↓mq_145_6, ↓mq_145_10, ↓mq_145_11, ↓mq_145_14, ↓mq_145_15, ↓mq_145_18, ↓mq_145_20, ↓mq_145_21, ↓mq_145_23, ↓mq_145_24, ↓mq_145_27, ↓mq_145_28, ↓mq_145_30, ↓mq_145_31, ↓mq_145_32, ↓mq_145_33, ↓mq_145_36, ↓mq_145_37, ↓mq_145_40, ↓mq_145_41, ↓mq_145_43, ↓mq_145_44, ↓mq_145_45, ↓mq_145_46, ↓mq_145_47, ↓mq_145_48, ↓mq_145_49, ↓mq_145_50, ↓mq_145_51, ↓mq_145_54, ↓mq_145_55, ↓mq_145_58, ↓mq_145_59, ↓mq_145_61, ↓mq_145_62, ↓mq_145_63, ↓mq_145_64, ↓mq_145_65, ↓mq_145_67, ↓mq_145_69, ↓mq_145_70, ↓mq_145_73, ↓mq_145_75, ↓mq_145_78, ↓mq_145_79, ↓mq_145_80, ↓mq_145_82, ↓mq_145_85, ↓mq_145_87, ↓mq_145_88, ↓mq_145_91, ↓mq_145_92, ↓mq_145_95, ↓mq_145_96, ↓mq_145_98, ↓mq_145_101, ↓mq_145_104, ↓mq_145_106, ↓mq_145_109, ↓mq_145_110, ↓mq_145_113, ↓mq_145_114, ↓mq_145_115, ↓mq_145_116, ↓mq_145_117, ↓mq_145_118, ↓mq_145_121, ↓mq_145_122, ↓mq_145_123, ↓mq_145_126, ↓mq_145_127, ↓mq_145_128, ↓mq_145_129, ↓mq_145_130, ↓mq_145_131, ↓mq_145_132, ↓mq_145_135, ↓mq_145_136, ↓mq_145_139, ↓mq_145_140, mj_b0, Bool.true_eq_false, mf_eq e (show p i < 2 ^ 31 by omega) (show b < 2 ^ 31 by omega), mn_add]
          exact ih'
  rw [mc_145]
  simp only [↓reduceIte, ↓mq_145_0, ↓mq_145_1, ↓mq_145_2, ↓mq_145_3, ↓mq_145_5, ↓mq_145_6, ↓mq_145_10, ↓mq_145_11, ↓mq_145_14, ↓mq_145_15, ↓mq_145_18, ↓mq_145_20, ↓mq_145_21, ↓mq_145_23, ↓mq_145_24, ↓mq_145_27, ↓mq_145_28, ↓mq_145_30, ↓mq_145_31, ↓mq_145_32, ↓mq_145_33, ↓mq_145_36, ↓mq_145_37, ↓mq_145_40, ↓mq_145_41, ↓mq_145_43, ↓mq_145_44, ↓mq_145_45, ↓mq_145_46, ↓mq_145_47, ↓mq_145_48, ↓mq_145_49, ↓mq_145_50, ↓mq_145_51, ↓mq_145_54, ↓mq_145_55, ↓mq_145_58, ↓mq_145_59, ↓mq_145_61, ↓mq_145_62, ↓mq_145_63, ↓mq_145_64, ↓mq_145_65, ↓mq_145_67, ↓mq_145_69, ↓mq_145_70, ↓mq_145_73, ↓mq_145_75, ↓mq_145_78, ↓mq_145_79, ↓mq_145_80, ↓mq_145_82, ↓mq_145_85, ↓mq_145_87, ↓mq_145_88, ↓mq_145_91, ↓mq_145_92, ↓mq_145_95, ↓mq_145_96, ↓mq_145_98, ↓mq_145_101, ↓mq_145_104, ↓mq_145_106, ↓mq_145_109, ↓mq_145_110, ↓mq_145_113, ↓mq_145_114, ↓mq_145_115, ↓mq_145_116, ↓mq_145_117, ↓mq_145_118, ↓mq_145_121, ↓mq_145_122, ↓mq_145_123, ↓mq_145_126, ↓mq_145_127, ↓mq_145_128, ↓mq_145_129, ↓mq_145_130, ↓mq_145_131, ↓mq_145_132, ↓mq_145_135, ↓mq_145_136, ↓mq_145_139, ↓mq_145_140]
  exact loop k 0 true .null .null (by omega) (by simp [mm_st])
/-- what one place of the row gives, from a beast on -/
def mm_lv (ρ : mm_Ro) (set d : Nat) (p : Nat → Nat) (k b : Nat) : Nat := if mm_mc ρ set (mm_st p k) b = true then mm_pw ρ set d (mm_add (mm_st p k) b) set else 0
theorem mt_143l (w : mw_R ρ) (H : mh_RR h ρ) {set N : Nat} (hs : set < 64) (hN : mm_pop set 6 = N) : ∀ d k, k + d + 1 = N → ∀ (e s : Nat) (p : Nat → Nat) (hl : mj_H) (f : Nat → Int32) (cnt : Nat), s + e = mr_n ρ → mh_ar hl 82 6 f → (∀ i, i < k → f i = nI (p i)) → (∀ i, i < k → p i < mr_n ρ) → mm_dif (mm_st p k) set = 0 → mm_pop (mm_st p k) 6 = k → mh_F (fun q => q = 82) h hl → ∃ h' f' l5, mj_R 143 (92, [.ref 65, .int (nI set), .int (nI N), .int (nI cnt), .int (nI k), .int (nI s)], [], hl) = mj_R 143 (60, [.ref 65, .int (nI set), .int (nI N), .int (nI (cnt + mm_sg (mm_lv ρ set d p k) s e)), .int (nI k + (-1)), l5], [], h') ∧ mh_ar h' 82 6 f' ∧ (∀ i, i < k → f' i = f i) ∧ mh_F (fun q => q = 82) h h' := by
  have hn := w.1
  have hN6 := mm_pop6 set hs
  intro d
  induction d with
  | zero =>
    intro k hk e
    induction e with
    | zero =>
      intro s p hl f cnt hse O hf hp hm hpk F
      obtain rfl : s = mr_n ρ := by omega
      have Hl := H.1.kp F (by omega)
      refine ⟨hl, f, .int (nI (mr_n ρ)), ?_, O, fun _ _ => rfl, F⟩
      simp only [↓reduceIte, ↓mq_143_0, ↓mq_143_1, ↓mq_143_2, ↓mq_143_5, ↓mq_143_6, ↓mq_143_7, ↓mq_143_8, ↓mq_143_9, ↓mq_143_10, ↓mq_143_13, ↓mq_143_14, ↓mq_143_15, ↓mq_143_16, ↓mq_143_17, ↓mq_143_20, ↓mq_143_23, ↓mq_143_25, ↓mq_143_26, ↓mq_143_27, ↓mq_143_30, ↓mq_143_31, ↓mq_143_32, ↓mq_143_35, ↓mq_143_36, ↓mq_143_39, ↓mq_143_40, ↓mq_143_41, ↓mq_143_42, ↓mq_143_45, ↓mq_143_46, ↓mq_143_49, ↓mq_143_50, ↓mq_143_52, ↓mq_143_53, ↓mq_143_56, ↓mq_143_57, ↓mq_143_59, ↓mq_143_62, ↓mq_143_65, ↓mq_143_66, ↓mq_143_69, ↓mq_143_71, ↓mq_143_72, ↓mq_143_74, ↓mq_143_77, ↓mq_143_78, ↓mq_143_81, ↓mq_143_82, ↓mq_143_85, ↓mq_143_87, ↓mq_143_88, ↓mq_143_89, ↓mq_143_90, ↓mq_143_92, ↓mq_143_94, ↓mq_143_95, ↓mq_143_98, ↓mq_143_101, ↓mq_143_102, ↓mq_143_104, ↓mq_143_107, ↓mq_143_110, ↓mq_143_111, ↓mq_143_113, ↓mq_143_115, ↓mq_143_118, ↓mq_143_121, ↓mq_143_124, ↓mq_143_127, ↓mq_143_129, ↓mq_143_130, ↓mq_143_133, ↓mq_143_136, ↓mq_143_139, ↓mq_143_142, ↓mq_143_143, ↓mq_143_146, ↓mq_143_148, ↓mq_143_150, ↓mq_143_151, ↓mq_143_153, ↓mq_143_154, ↓mq_143_155, ↓mq_143_156, ↓mq_143_159, ↓mq_143_162, ↓mq_143_165, ↓mq_143_168, ↓mq_143_169, ↓mq_143_172, ↓mq_143_174, ↓mq_143_176, ↓mq_143_177, ↓mq_143_180, ↓mq_143_181, ↓mj_bs (mr_bn Hl), mt_le (Nat.le_refl (mr_n ρ)), mt_eq (show mr_n ρ = mr_n ρ from rfl), mm_sg, Nat.add_zero]
    | succ e ihe =>
      intro s p hl f cnt hse O hf hp hm hpk F
      have hsn : s < mr_n ρ := by omega
      have Hl := H.kp F (by omega) (by omega) (by omega) (by omega)
      have hst := mm_st_lt (p := p) k (fun i hi => by have := hp i hi; omega)
      have e145 := mt_145 w Hl O (show k ≤ 6 by omega) hf hp hsn
      have no : mm_mc ρ set (mm_st p k) s = false → ∃ h' f' l5, mj_R 143 (121, [.ref 65, .int (nI set), .int (nI N), .int (nI cnt), .int (nI k), .int (nI s)], [], hl) = mj_R 143 (60, [.ref 65, .int (nI set), .int (nI N), .int (nI (cnt + mm_sg (mm_lv ρ set 0 p k) s (e + 1))), .int (nI k + (-1)), l5], [], h') ∧ mh_ar h' 82 6 f' ∧ (∀ i, i < k → f' i = f i) ∧ mh_F (fun q => q = 82) h h' := by
        intro hz
        obtain ⟨h', f', l5, r1, r2⟩ := ihe (s + 1) p hl f cnt (by omega) O hf hp hm hpk F
        refine ⟨h', f', l5, ?_, r2⟩
        rw [mm_sg, show mm_lv ρ set 0 p k s = 0 by simp [mm_lv, hz], Nat.zero_add, ← r1]
        simp only [↓reduceIte, ↓mq_143_0, ↓mq_143_1, ↓mq_143_2, ↓mq_143_5, ↓mq_143_6, ↓mq_143_7, ↓mq_143_8, ↓mq_143_9, ↓mq_143_10, ↓mq_143_13, ↓mq_143_14, ↓mq_143_15, ↓mq_143_16, ↓mq_143_17, ↓mq_143_20, ↓mq_143_23, ↓mq_143_25, ↓mq_143_26, ↓mq_143_27, ↓mq_143_30, ↓mq_143_31, ↓mq_143_32, ↓mq_143_35, ↓mq_143_36, ↓mq_143_39, ↓mq_143_40, ↓mq_143_41, ↓mq_143_42, ↓mq_143_45, ↓mq_143_46, ↓mq_143_49, ↓mq_143_50, ↓mq_143_52, ↓mq_143_53, ↓mq_143_56, ↓mq_143_57, ↓mq_143_59, ↓mq_143_60, ↓mq_143_62, ↓mq_143_65, ↓mq_143_66, ↓mq_143_69, ↓mq_143_71, ↓mq_143_72, ↓mq_143_74, ↓mq_143_77, ↓mq_143_78, ↓mq_143_81, ↓mq_143_82, ↓mq_143_85, ↓mq_143_87, ↓mq_143_88, ↓mq_143_89, ↓mq_143_90, ↓mq_143_94, ↓mq_143_95, ↓mq_143_98, ↓mq_143_101, ↓mq_143_102, ↓mq_143_104, ↓mq_143_107, ↓mq_143_110, ↓mq_143_111, ↓mq_143_113, ↓mq_143_115, ↓mq_143_118, ↓mq_143_121, ↓mq_143_124, ↓mq_143_127, ↓mq_143_129, ↓mq_143_130, ↓mq_143_133, ↓mq_143_136, ↓mq_143_139, ↓mq_143_142, ↓mq_143_143, ↓mq_143_146, ↓mq_143_148, ↓mq_143_150, ↓mq_143_151, ↓mq_143_153, ↓mq_143_154, ↓mq_143_155, ↓mq_143_156, ↓mq_143_159, ↓mq_143_162, ↓mq_143_165, ↓mq_143_168, ↓mq_143_169, ↓mq_143_172, ↓mq_143_174, ↓mq_143_176, ↓mq_143_177, ↓mq_143_180, ↓mq_143_181, mn_add]
      rw [mq_143_92]
      cases hsb : set.testBit s
      · obtain ⟨h', f', l5, r1, r2⟩ := no (by simp [mm_mc, hsb])
        refine ⟨h', f', l5, ?_, r2⟩
        rw [← r1]
        simp only [↓reduceIte, ↓mq_143_0, ↓mq_143_1, ↓mq_143_2, ↓mq_143_5, ↓mq_143_6, ↓mq_143_7, ↓mq_143_8, ↓mq_143_9, ↓mq_143_10, ↓mq_143_13, ↓mq_143_14, ↓mq_143_15, ↓mq_143_16, ↓mq_143_17, ↓mq_143_20, ↓mq_143_23, ↓mq_143_25, ↓mq_143_26, ↓mq_143_27, ↓mq_143_30, ↓mq_143_31, ↓mq_143_32, ↓mq_143_35, ↓mq_143_36, ↓mq_143_39, ↓mq_143_40, ↓mq_143_41, ↓mq_143_42, ↓mq_143_45, ↓mq_143_46, ↓mq_143_49, ↓mq_143_50, ↓mq_143_52, ↓mq_143_53, ↓mq_143_56, ↓mq_143_57, ↓mq_143_59, ↓mq_143_60, ↓mq_143_62, ↓mq_143_65, ↓mq_143_66, ↓mq_143_69, ↓mq_143_71, ↓mq_143_72, ↓mq_143_74, ↓mq_143_77, ↓mq_143_78, ↓mq_143_81, ↓mq_143_82, ↓mq_143_85, ↓mq_143_87, ↓mq_143_88, ↓mq_143_89, ↓mq_143_90, ↓mq_143_94, ↓mq_143_95, ↓mq_143_98, ↓mq_143_101, ↓mq_143_102, ↓mq_143_104, ↓mq_143_107, ↓mq_143_110, ↓mq_143_111, ↓mq_143_113, ↓mq_143_115, ↓mq_143_118, ↓mq_143_124, ↓mq_143_127, ↓mq_143_129, ↓mq_143_130, ↓mq_143_133, ↓mq_143_136, ↓mq_143_139, ↓mq_143_142, ↓mq_143_143, ↓mq_143_146, ↓mq_143_148, ↓mq_143_150, ↓mq_143_151, ↓mq_143_153, ↓mq_143_154, ↓mq_143_155, ↓mq_143_156, ↓mq_143_159, ↓mq_143_162, ↓mq_143_165, ↓mq_143_168, ↓mq_143_169, ↓mq_143_172, ↓mq_143_174, ↓mq_143_176, ↓mq_143_177, ↓mq_143_180, ↓mq_143_181, ↓mj_bs (mr_bn Hl.1), mf_le hsn (show mr_n ρ < 2 ^ 31 by omega), ↓mj_bs (mt_113 hs (show s < 6 by omega)), Option.toList, List.cons_append, List.nil_append, hsb, mj_b0]
      · cases hmc : (!(mm_st p k).testBit s && mm_cont ρ s (mm_st p k))
        · rw [hmc] at e145
          obtain ⟨h', f', l5, r1, r2⟩ := no (by rw [mm_mc, hsb, Bool.true_and]; exact hmc)
          refine ⟨h', f', l5, ?_, r2⟩
          rw [← r1]
          simp only [↓reduceIte, ↓mq_143_0, ↓mq_143_1, ↓mq_143_2, ↓mq_143_5, ↓mq_143_6, ↓mq_143_7, ↓mq_143_8, ↓mq_143_9, ↓mq_143_10, ↓mq_143_13, ↓mq_143_14, ↓mq_143_15, ↓mq_143_16, ↓mq_143_17, ↓mq_143_20, ↓mq_143_23, ↓mq_143_25, ↓mq_143_26, ↓mq_143_27, ↓mq_143_30, ↓mq_143_31, ↓mq_143_32, ↓mq_143_35, ↓mq_143_36, ↓mq_143_39, ↓mq_143_40, ↓mq_143_41, ↓mq_143_42, ↓mq_143_45, ↓mq_143_46, ↓mq_143_49, ↓mq_143_50, ↓mq_143_52, ↓mq_143_53, ↓mq_143_56, ↓mq_143_57, ↓mq_143_59, ↓mq_143_60, ↓mq_143_62, ↓mq_143_65, ↓mq_143_66, ↓mq_143_69, ↓mq_143_71, ↓mq_143_72, ↓mq_143_74, ↓mq_143_77, ↓mq_143_78, ↓mq_143_81, ↓mq_143_82, ↓mq_143_85, ↓mq_143_87, ↓mq_143_88, ↓mq_143_89, ↓mq_143_90, ↓mq_143_94, ↓mq_143_95, ↓mq_143_98, ↓mq_143_101, ↓mq_143_102, ↓mq_143_104, ↓mq_143_107, ↓mq_143_110, ↓mq_143_111, ↓mq_143_113, ↓mq_143_115, ↓mq_143_118, ↓mq_143_124, ↓mq_143_127, ↓mq_143_129, ↓mq_143_130, ↓mq_143_133, ↓mq_143_136, ↓mq_143_139, ↓mq_143_142, ↓mq_143_143, ↓mq_143_146, ↓mq_143_148, ↓mq_143_150, ↓mq_143_151, ↓mq_143_153, ↓mq_143_154, ↓mq_143_155, ↓mq_143_156, ↓mq_143_159, ↓mq_143_162, ↓mq_143_165, ↓mq_143_168, ↓mq_143_169, ↓mq_143_172, ↓mq_143_174, ↓mq_143_176, ↓mq_143_177, ↓mq_143_180, ↓mq_143_181, ↓mj_bs (mr_bn Hl.1), mf_le hsn (show mr_n ρ < 2 ^ 31 by omega), ↓mj_bs (mt_113 hs (show s < 6 by omega)), Option.toList, List.cons_append, List.nil_append, hsb, mj_b0, Bool.true_eq_false, mr_is Hl.1, ↓mj_bs (e145)]
        · rw [hmc] at e145
          have hmc' : mm_mc ρ set (mm_st p k) s = true := by rw [mm_mc, hsb, Bool.true_and]; exact hmc
          have hnb : (mm_st p k).testBit s = false := by
            rw [Bool.and_eq_true, Bool.not_eq_true'] at hmc
            exact hmc.1
          have hadd := mm_add_lt _ hst s (by omega)
          have hend : mm_add (mm_st p k) s = set := by
            refine mm_subeq _ hadd _ hs ((mm_dif_sub hadd hs).mpr (fun j hj hjb => ?_)) ?_
            · rw [mm_add_at _ hst s (by omega) j hj, Bool.or_eq_true, decide_eq_true_eq] at hjb
              rcases hjb with z | z
              · exact (mm_dif_sub hst hs).mp hm j hj z
              · rw [z]; exact hsb
            · rw [mm_popa _ hst s (by omega) hnb, hpk, hN]; omega
          have hlv : mm_lv ρ set 0 p k s = 1 := by rw [mm_lv, if_pos hmc', hend, mm_pw, if_pos rfl]
          obtain ⟨h1, p1, O1, F1⟩ := O.pt (show k < 6 by omega) (by omega) (nI s)
          have Hl1 := H.1.kp (F.tt F1) (by omega)
          obtain ⟨h', f', l5, r1, r2, r3, r4⟩ := ihe (s + 1) p h1 _ (cnt + 1) (by omega) O1 (fun i hi => by rw [mh_u_ne (by omega)]; exact hf i hi) hp hm hpk (F.tt F1)
          have gk : mj_gi h1 82 (nI k) = some (nI s) := by rw [O1.gt (show k < 6 by omega) (by omega), mh_u_at]
          refine ⟨h', f', l5, ?_, r2, fun i hi => by rw [r3 i hi, mh_u_ne (by omega)], r4⟩
          rw [mm_sg, hlv, ← Nat.add_assoc, ← r1]
          have eN : nI N - nI 1 = nI (N - 1) := mn_sub (by omega)
          simp only [↓reduceIte, ↓mq_143_0, ↓mq_143_1, ↓mq_143_2, ↓mq_143_5, ↓mq_143_6, ↓mq_143_7, ↓mq_143_8, ↓mq_143_9, ↓mq_143_10, ↓mq_143_13, ↓mq_143_14, ↓mq_143_15, ↓mq_143_16, ↓mq_143_17, ↓mq_143_20, ↓mq_143_23, ↓mq_143_25, ↓mq_143_26, ↓mq_143_27, ↓mq_143_30, ↓mq_143_31, ↓mq_143_32, ↓mq_143_35, ↓mq_143_36, ↓mq_143_39, ↓mq_143_40, ↓mq_143_41, ↓mq_143_42, ↓mq_143_45, ↓mq_143_46, ↓mq_143_49, ↓mq_143_50, ↓mq_143_52, ↓mq_143_53, ↓mq_143_56, ↓mq_143_57, ↓mq_143_59, ↓mq_143_60, ↓mq_143_62, ↓mq_143_65, ↓mq_143_66, ↓mq_143_69, ↓mq_143_71, ↓mq_143_72, ↓mq_143_74, ↓mq_143_77, ↓mq_143_78, ↓mq_143_81, ↓mq_143_82, ↓mq_143_85, ↓mq_143_87, ↓mq_143_88, ↓mq_143_89, ↓mq_143_90, ↓mq_143_94, ↓mq_143_95, ↓mq_143_98, ↓mq_143_101, ↓mq_143_102, ↓mq_143_104, ↓mq_143_107, ↓mq_143_110, ↓mq_143_111, ↓mq_143_113, ↓mq_143_115, ↓mq_143_118, ↓mq_143_121, ↓mq_143_124, ↓mq_143_127, ↓mq_143_129, ↓mq_143_130, ↓mq_143_133, ↓mq_143_136, ↓mq_143_139, ↓mq_143_142, ↓mq_143_143, ↓mq_143_146, ↓mq_143_148, ↓mq_143_150, ↓mq_143_151, ↓mq_143_153, ↓mq_143_154, ↓mq_143_155, ↓mq_143_156, ↓mq_143_159, ↓mq_143_162, ↓mq_143_165, ↓mq_143_168, ↓mq_143_169, ↓mq_143_172, ↓mq_143_174, ↓mq_143_176, ↓mq_143_177, ↓mq_143_180, ↓mq_143_181, ↓mj_bs (mr_bn Hl.1), mf_le hsn (show mr_n ρ < 2 ^ 31 by omega), ↓mj_bs (mt_113 hs (show s < 6 by omega)), Option.toList, List.cons_append, List.nil_append, hsb, mj_b0, Bool.true_eq_false, mr_is Hl.1, ↓mj_bs (e145), mf_eq (show s ≠ mr_n ρ by omega) (show s < 2 ^ 31 by omega) (show mr_n ρ < 2 ^ 31 by omega), ↓mj_bs (mr_b27 Hl.1), ↓mj_bs (p1), eN, mt_eq (show k = N - 1 by omega), mf_lt (Nat.zero_le k) (show k < 2 ^ 31 by omega), ↓mj_bs (mr_b27 Hl1), ↓mj_bs (gk), mf_m9 (show s < 2 ^ 31 by omega), mn_add]
  | succ d ihd =>
    intro k hk e
    induction e with
    | zero =>
      intro s p hl f cnt hse O hf hp hm hpk F
      obtain rfl : s = mr_n ρ := by omega
      have Hl := H.1.kp F (by omega)
      refine ⟨hl, f, .int (nI (mr_n ρ)), ?_, O, fun _ _ => rfl, F⟩
      simp only [↓reduceIte, ↓mq_143_0, ↓mq_143_1, ↓mq_143_2, ↓mq_143_5, ↓mq_143_6, ↓mq_143_7, ↓mq_143_8, ↓mq_143_9, ↓mq_143_10, ↓mq_143_13, ↓mq_143_14, ↓mq_143_15, ↓mq_143_16, ↓mq_143_17, ↓mq_143_20, ↓mq_143_23, ↓mq_143_25, ↓mq_143_26, ↓mq_143_27, ↓mq_143_30, ↓mq_143_31, ↓mq_143_32, ↓mq_143_35, ↓mq_143_36, ↓mq_143_39, ↓mq_143_40, ↓mq_143_41, ↓mq_143_42, ↓mq_143_45, ↓mq_143_46, ↓mq_143_49, ↓mq_143_50, ↓mq_143_52, ↓mq_143_53, ↓mq_143_56, ↓mq_143_57, ↓mq_143_59, ↓mq_143_62, ↓mq_143_65, ↓mq_143_66, ↓mq_143_69, ↓mq_143_71, ↓mq_143_72, ↓mq_143_74, ↓mq_143_77, ↓mq_143_78, ↓mq_143_81, ↓mq_143_82, ↓mq_143_85, ↓mq_143_87, ↓mq_143_88, ↓mq_143_89, ↓mq_143_90, ↓mq_143_92, ↓mq_143_94, ↓mq_143_95, ↓mq_143_98, ↓mq_143_101, ↓mq_143_102, ↓mq_143_104, ↓mq_143_107, ↓mq_143_110, ↓mq_143_111, ↓mq_143_113, ↓mq_143_115, ↓mq_143_118, ↓mq_143_121, ↓mq_143_124, ↓mq_143_127, ↓mq_143_129, ↓mq_143_130, ↓mq_143_133, ↓mq_143_136, ↓mq_143_139, ↓mq_143_142, ↓mq_143_143, ↓mq_143_146, ↓mq_143_148, ↓mq_143_150, ↓mq_143_151, ↓mq_143_153, ↓mq_143_154, ↓mq_143_155, ↓mq_143_156, ↓mq_143_159, ↓mq_143_162, ↓mq_143_165, ↓mq_143_168, ↓mq_143_169, ↓mq_143_172, ↓mq_143_174, ↓mq_143_176, ↓mq_143_177, ↓mq_143_180, ↓mq_143_181, ↓mj_bs (mr_bn Hl), mt_le (Nat.le_refl (mr_n ρ)), mt_eq (show mr_n ρ = mr_n ρ from rfl), mm_sg, Nat.add_zero]
    | succ e ihe =>
      intro s p hl f cnt hse O hf hp hm hpk F
      have hsn : s < mr_n ρ := by omega
      have Hl := H.kp F (by omega) (by omega) (by omega) (by omega)
      have hst := mm_st_lt (p := p) k (fun i hi => by have := hp i hi; omega)
      have e145 := mt_145 w Hl O (show k ≤ 6 by omega) hf hp hsn
      have no : mm_mc ρ set (mm_st p k) s = false → ∃ h' f' l5, mj_R 143 (121, [.ref 65, .int (nI set), .int (nI N), .int (nI cnt), .int (nI k), .int (nI s)], [], hl) = mj_R 143 (60, [.ref 65, .int (nI set), .int (nI N), .int (nI (cnt + mm_sg (mm_lv ρ set (d + 1) p k) s (e + 1))), .int (nI k + (-1)), l5], [], h') ∧ mh_ar h' 82 6 f' ∧ (∀ i, i < k → f' i = f i) ∧ mh_F (fun q => q = 82) h h' := by
        intro hz
        obtain ⟨h', f', l5, r1, r2⟩ := ihe (s + 1) p hl f cnt (by omega) O hf hp hm hpk F
        refine ⟨h', f', l5, ?_, r2⟩
        rw [mm_sg, show mm_lv ρ set (d + 1) p k s = 0 by simp [mm_lv, hz], Nat.zero_add, ← r1]
        simp only [↓reduceIte, ↓mq_143_0, ↓mq_143_1, ↓mq_143_2, ↓mq_143_5, ↓mq_143_6, ↓mq_143_7, ↓mq_143_8, ↓mq_143_9, ↓mq_143_10, ↓mq_143_13, ↓mq_143_14, ↓mq_143_15, ↓mq_143_16, ↓mq_143_17, ↓mq_143_20, ↓mq_143_23, ↓mq_143_25, ↓mq_143_26, ↓mq_143_27, ↓mq_143_30, ↓mq_143_31, ↓mq_143_32, ↓mq_143_35, ↓mq_143_36, ↓mq_143_39, ↓mq_143_40, ↓mq_143_41, ↓mq_143_42, ↓mq_143_45, ↓mq_143_46, ↓mq_143_49, ↓mq_143_50, ↓mq_143_52, ↓mq_143_53, ↓mq_143_56, ↓mq_143_57, ↓mq_143_59, ↓mq_143_60, ↓mq_143_62, ↓mq_143_65, ↓mq_143_66, ↓mq_143_69, ↓mq_143_71, ↓mq_143_72, ↓mq_143_74, ↓mq_143_77, ↓mq_143_78, ↓mq_143_81, ↓mq_143_82, ↓mq_143_85, ↓mq_143_87, ↓mq_143_88, ↓mq_143_89, ↓mq_143_90, ↓mq_143_94, ↓mq_143_95, ↓mq_143_98, ↓mq_143_101, ↓mq_143_102, ↓mq_143_104, ↓mq_143_107, ↓mq_143_110, ↓mq_143_111, ↓mq_143_113, ↓mq_143_115, ↓mq_143_118, ↓mq_143_121, ↓mq_143_124, ↓mq_143_127, ↓mq_143_129, ↓mq_143_130, ↓mq_143_133, ↓mq_143_136, ↓mq_143_139, ↓mq_143_142, ↓mq_143_143, ↓mq_143_146, ↓mq_143_148, ↓mq_143_150, ↓mq_143_151, ↓mq_143_153, ↓mq_143_154, ↓mq_143_155, ↓mq_143_156, ↓mq_143_159, ↓mq_143_162, ↓mq_143_165, ↓mq_143_168, ↓mq_143_169, ↓mq_143_172, ↓mq_143_174, ↓mq_143_176, ↓mq_143_177, ↓mq_143_180, ↓mq_143_181, mn_add]
      rw [mq_143_92]
      cases hsb : set.testBit s
      · obtain ⟨h', f', l5, r1, r2⟩ := no (by simp [mm_mc, hsb])
        refine ⟨h', f', l5, ?_, r2⟩
        rw [← r1]
        simp only [↓reduceIte, ↓mq_143_0, ↓mq_143_1, ↓mq_143_2, ↓mq_143_5, ↓mq_143_6, ↓mq_143_7, ↓mq_143_8, ↓mq_143_9, ↓mq_143_10, ↓mq_143_13, ↓mq_143_14, ↓mq_143_15, ↓mq_143_16, ↓mq_143_17, ↓mq_143_20, ↓mq_143_23, ↓mq_143_25, ↓mq_143_26, ↓mq_143_27, ↓mq_143_30, ↓mq_143_31, ↓mq_143_32, ↓mq_143_35, ↓mq_143_36, ↓mq_143_39, ↓mq_143_40, ↓mq_143_41, ↓mq_143_42, ↓mq_143_45, ↓mq_143_46, ↓mq_143_49, ↓mq_143_50, ↓mq_143_52, ↓mq_143_53, ↓mq_143_56, ↓mq_143_57, ↓mq_143_59, ↓mq_143_60, ↓mq_143_62, ↓mq_143_65, ↓mq_143_66, ↓mq_143_69, ↓mq_143_71, ↓mq_143_72, ↓mq_143_74, ↓mq_143_77, ↓mq_143_78, ↓mq_143_81, ↓mq_143_82, ↓mq_143_85, ↓mq_143_87, ↓mq_143_88, ↓mq_143_89, ↓mq_143_90, ↓mq_143_94, ↓mq_143_95, ↓mq_143_98, ↓mq_143_101, ↓mq_143_102, ↓mq_143_104, ↓mq_143_107, ↓mq_143_110, ↓mq_143_111, ↓mq_143_113, ↓mq_143_115, ↓mq_143_118, ↓mq_143_124, ↓mq_143_127, ↓mq_143_129, ↓mq_143_130, ↓mq_143_133, ↓mq_143_136, ↓mq_143_139, ↓mq_143_142, ↓mq_143_143, ↓mq_143_146, ↓mq_143_148, ↓mq_143_150, ↓mq_143_151, ↓mq_143_153, ↓mq_143_154, ↓mq_143_155, ↓mq_143_156, ↓mq_143_159, ↓mq_143_162, ↓mq_143_165, ↓mq_143_168, ↓mq_143_169, ↓mq_143_172, ↓mq_143_174, ↓mq_143_176, ↓mq_143_177, ↓mq_143_180, ↓mq_143_181, ↓mj_bs (mr_bn Hl.1), mf_le hsn (show mr_n ρ < 2 ^ 31 by omega), ↓mj_bs (mt_113 hs (show s < 6 by omega)), Option.toList, List.cons_append, List.nil_append, hsb, mj_b0]
      · cases hmc : (!(mm_st p k).testBit s && mm_cont ρ s (mm_st p k))
        · rw [hmc] at e145
          obtain ⟨h', f', l5, r1, r2⟩ := no (by rw [mm_mc, hsb, Bool.true_and]; exact hmc)
          refine ⟨h', f', l5, ?_, r2⟩
          rw [← r1]
          simp only [↓reduceIte, ↓mq_143_0, ↓mq_143_1, ↓mq_143_2, ↓mq_143_5, ↓mq_143_6, ↓mq_143_7, ↓mq_143_8, ↓mq_143_9, ↓mq_143_10, ↓mq_143_13, ↓mq_143_14, ↓mq_143_15, ↓mq_143_16, ↓mq_143_17, ↓mq_143_20, ↓mq_143_23, ↓mq_143_25, ↓mq_143_26, ↓mq_143_27, ↓mq_143_30, ↓mq_143_31, ↓mq_143_32, ↓mq_143_35, ↓mq_143_36, ↓mq_143_39, ↓mq_143_40, ↓mq_143_41, ↓mq_143_42, ↓mq_143_45, ↓mq_143_46, ↓mq_143_49, ↓mq_143_50, ↓mq_143_52, ↓mq_143_53, ↓mq_143_56, ↓mq_143_57, ↓mq_143_59, ↓mq_143_60, ↓mq_143_62, ↓mq_143_65, ↓mq_143_66, ↓mq_143_69, ↓mq_143_71, ↓mq_143_72, ↓mq_143_74, ↓mq_143_77, ↓mq_143_78, ↓mq_143_81, ↓mq_143_82, ↓mq_143_85, ↓mq_143_87, ↓mq_143_88, ↓mq_143_89, ↓mq_143_90, ↓mq_143_94, ↓mq_143_95, ↓mq_143_98, ↓mq_143_101, ↓mq_143_102, ↓mq_143_104, ↓mq_143_107, ↓mq_143_110, ↓mq_143_111, ↓mq_143_113, ↓mq_143_115, ↓mq_143_118, ↓mq_143_124, ↓mq_143_127, ↓mq_143_129, ↓mq_143_130, ↓mq_143_133, ↓mq_143_136, ↓mq_143_139, ↓mq_143_142, ↓mq_143_143, ↓mq_143_146, ↓mq_143_148, ↓mq_143_150, ↓mq_143_151, ↓mq_143_153, ↓mq_143_154, ↓mq_143_155, ↓mq_143_156, ↓mq_143_159, ↓mq_143_162, ↓mq_143_165, ↓mq_143_168, ↓mq_143_169, ↓mq_143_172, ↓mq_143_174, ↓mq_143_176, ↓mq_143_177, ↓mq_143_180, ↓mq_143_181, ↓mj_bs (mr_bn Hl.1), mf_le hsn (show mr_n ρ < 2 ^ 31 by omega), ↓mj_bs (mt_113 hs (show s < 6 by omega)), Option.toList, List.cons_append, List.nil_append, hsb, mj_b0, Bool.true_eq_false, mr_is Hl.1, ↓mj_bs (e145)]
        · rw [hmc] at e145
          have hmc' : mm_mc ρ set (mm_st p k) s = true := by rw [mm_mc, hsb, Bool.true_and]; exact hmc
          have hnb : (mm_st p k).testBit s = false := by
            rw [Bool.and_eq_true, Bool.not_eq_true'] at hmc
            exact hmc.1
          have hadd := mm_add_lt _ hst s (by omega)
          have hsub : mm_dif (mm_add (mm_st p k) s) set = 0 := by
            refine (mm_dif_sub hadd hs).mpr (fun j hj hjb => ?_)
            rw [mm_add_at _ hst s (by omega) j hj, Bool.or_eq_true, decide_eq_true_eq] at hjb
            rcases hjb with z | z
            · exact (mm_dif_sub hst hs).mp hm j hj z
            · rw [z]; exact hsb
          have hst' : mm_st (mh_u p k s) (k + 1) = mm_add (mm_st p k) s := by
            rw [mm_st, mh_u_at, mm_st_cg (q := p) k (fun i hi => mh_u_ne (by omega))]
          have hlv : mm_lv ρ set (d + 1) p k s = mm_ss (mm_lv ρ set d (mh_u p k s) (k + 1)) (mr_n ρ) := by
            rw [mm_lv, if_pos hmc', mm_pw]
            refine mm_ss_cg _ (fun c hc => ?_)
            rw [mm_lv, hst']
          obtain ⟨h1, p1, O1, F1⟩ := O.pt (show k < 6 by omega) (by omega) (nI s)
          have F1' := F.tt F1
          have Hl1 := H.1.kp F1' (by omega)
          obtain ⟨h2, p2, O2, F2⟩ := O1.pt (show k + 1 < 6 by omega) (by omega) (-9)
          have F2' := F1'.tt F2
          have Hl2 := H.1.kp F2' (by omega)
          have g2 : mj_gi h2 82 (nI (k + 1)) = some (-9) := by rw [O2.gt (show k + 1 < 6 by omega) (by omega), mh_u_at]
          obtain ⟨h3, f3, m5, s1, s2, s3, s4⟩ := ihd (k + 1) (by omega) (mr_n ρ) 0 (mh_u p k s) h2 _ cnt (by omega) O2 (fun i hi => by
            rw [mh_u_ne (by omega)]
            by_cases ei : i = k
            · subst ei; rw [mh_u_at, mh_u_at]
            · rw [mh_u_ne ei, mh_u_ne ei]; exact hf i (by omega)) (fun i hi => by
            by_cases ei : i = k
            · subst ei; rw [mh_u_at]; exact hsn
            · rw [mh_u_ne ei]; exact hp i (by omega)) (by rw [hst']; exact hsub) (by rw [hst', mm_popa _ hst s (by omega) hnb, hpk]) F2'
          have h3k : f3 k = nI s := by rw [s3 k (by omega), mh_u_ne (by omega), mh_u_at]
          have Hl3 := H.1.kp s4 (by omega)
          have gk : mj_gi h3 82 (nI k) = some (nI s) := by rw [s2.gt (show k < 6 by omega) (by omega), h3k]
          obtain ⟨h', f', l5, r1, r2, r3, r4⟩ := ihe (s + 1) p h3 f3 (cnt + mm_sg (mm_lv ρ set d (mh_u p k s) (k + 1)) 0 (mr_n ρ)) (by omega) s2 (fun i hi => by
            rw [s3 i (by omega), mh_u_ne (by omega), mh_u_ne (by omega)]; exact hf i hi) hp hm hpk s4
          refine ⟨h', f', l5, ?_, r2, fun i hi => by rw [r3 i hi, s3 i (by omega), mh_u_ne (by omega), mh_u_ne (by omega)], r4⟩
          have hsf : mm_sg (mm_lv ρ set d (mh_u p k s) (k + 1)) 0 (mr_n ρ) = mm_ss (mm_lv ρ set d (mh_u p k s) (k + 1)) (mr_n ρ) := by
            have := mm_ss_sg (F := mm_lv ρ set d (mh_u p k s) (k + 1)) (mr_n ρ) 0
            rw [mm_ss, Nat.zero_add, Nat.zero_add] at this
            exact this
          rw [mm_sg, hlv, ← hsf, ← Nat.add_assoc, ← r1]
          have eN : nI N - nI 1 = nI (N - 1) := mn_sub (by omega)
          -- down one place, and up again
          have back : mj_R 143 (60, [.ref 65, .int (nI set), .int (nI N), .int (nI (cnt + mm_sg (mm_lv ρ set d (mh_u p k s) (k + 1)) 0 (mr_n ρ))), .int (nI (k + 1) + (-1)), m5], [], h3) = mj_R 143 (92, [.ref 65, .int (nI set), .int (nI N), .int (nI (cnt + mm_sg (mm_lv ρ set d (mh_u p k s) (k + 1)) 0 (mr_n ρ))), .int (nI k), .int (nI (s + 1))], [], h3) := by
            rw [mn_dec]
            simp only [↓reduceIte, ↓mq_143_0, ↓mq_143_1, ↓mq_143_2, ↓mq_143_5, ↓mq_143_6, ↓mq_143_7, ↓mq_143_8, ↓mq_143_9, ↓mq_143_10, ↓mq_143_13, ↓mq_143_14, ↓mq_143_15, ↓mq_143_16, ↓mq_143_17, ↓mq_143_20, ↓mq_143_23, ↓mq_143_25, ↓mq_143_26, ↓mq_143_27, ↓mq_143_30, ↓mq_143_31, ↓mq_143_32, ↓mq_143_35, ↓mq_143_36, ↓mq_143_39, ↓mq_143_40, ↓mq_143_41, ↓mq_143_42, ↓mq_143_45, ↓mq_143_46, ↓mq_143_49, ↓mq_143_50, ↓mq_143_52, ↓mq_143_53, ↓mq_143_56, ↓mq_143_57, ↓mq_143_59, ↓mq_143_60, ↓mq_143_62, ↓mq_143_65, ↓mq_143_66, ↓mq_143_69, ↓mq_143_71, ↓mq_143_72, ↓mq_143_74, ↓mq_143_77, ↓mq_143_78, ↓mq_143_81, ↓mq_143_82, ↓mq_143_85, ↓mq_143_87, ↓mq_143_88, ↓mq_143_89, ↓mq_143_90, ↓mq_143_94, ↓mq_143_95, ↓mq_143_98, ↓mq_143_101, ↓mq_143_102, ↓mq_143_104, ↓mq_143_107, ↓mq_143_110, ↓mq_143_111, ↓mq_143_113, ↓mq_143_115, ↓mq_143_118, ↓mq_143_121, ↓mq_143_124, ↓mq_143_127, ↓mq_143_129, ↓mq_143_130, ↓mq_143_133, ↓mq_143_136, ↓mq_143_139, ↓mq_143_142, ↓mq_143_143, ↓mq_143_146, ↓mq_143_148, ↓mq_143_150, ↓mq_143_151, ↓mq_143_153, ↓mq_143_154, ↓mq_143_155, ↓mq_143_156, ↓mq_143_159, ↓mq_143_162, ↓mq_143_165, ↓mq_143_168, ↓mq_143_169, ↓mq_143_172, ↓mq_143_174, ↓mq_143_176, ↓mq_143_177, ↓mq_143_180, ↓mq_143_181, mf_lt (Nat.zero_le k) (show k < 2 ^ 31 by omega), ↓mj_bs (mr_b27 Hl3), ↓mj_bs (gk), mf_m9 (show s < 2 ^ 31 by omega), mn_add]
          rw [← back, ← s1]
          simp only [↓reduceIte, ↓mq_143_0, ↓mq_143_1, ↓mq_143_2, ↓mq_143_5, ↓mq_143_6, ↓mq_143_7, ↓mq_143_8, ↓mq_143_9, ↓mq_143_10, ↓mq_143_13, ↓mq_143_14, ↓mq_143_15, ↓mq_143_16, ↓mq_143_17, ↓mq_143_20, ↓mq_143_23, ↓mq_143_25, ↓mq_143_26, ↓mq_143_27, ↓mq_143_30, ↓mq_143_31, ↓mq_143_32, ↓mq_143_35, ↓mq_143_36, ↓mq_143_39, ↓mq_143_40, ↓mq_143_41, ↓mq_143_42, ↓mq_143_45, ↓mq_143_46, ↓mq_143_49, ↓mq_143_50, ↓mq_143_52, ↓mq_143_53, ↓mq_143_56, ↓mq_143_57, ↓mq_143_59, ↓mq_143_60, ↓mq_143_62, ↓mq_143_65, ↓mq_143_66, ↓mq_143_69, ↓mq_143_71, ↓mq_143_72, ↓mq_143_74, ↓mq_143_77, ↓mq_143_78, ↓mq_143_81, ↓mq_143_82, ↓mq_143_85, ↓mq_143_87, ↓mq_143_88, ↓mq_143_89, ↓mq_143_90, ↓mq_143_94, ↓mq_143_95, ↓mq_143_98, ↓mq_143_101, ↓mq_143_102, ↓mq_143_104, ↓mq_143_107, ↓mq_143_110, ↓mq_143_111, ↓mq_143_113, ↓mq_143_115, ↓mq_143_118, ↓mq_143_121, ↓mq_143_124, ↓mq_143_127, ↓mq_143_129, ↓mq_143_130, ↓mq_143_133, ↓mq_143_136, ↓mq_143_139, ↓mq_143_142, ↓mq_143_143, ↓mq_143_146, ↓mq_143_148, ↓mq_143_150, ↓mq_143_151, ↓mq_143_153, ↓mq_143_154, ↓mq_143_155, ↓mq_143_156, ↓mq_143_159, ↓mq_143_162, ↓mq_143_165, ↓mq_143_168, ↓mq_143_169, ↓mq_143_172, ↓mq_143_174, ↓mq_143_176, ↓mq_143_177, ↓mq_143_180, ↓mq_143_181, ↓mj_bs (mr_bn Hl.1), mf_le hsn (show mr_n ρ < 2 ^ 31 by omega), ↓mj_bs (mt_113 hs (show s < 6 by omega)), Option.toList, List.cons_append, List.nil_append, hsb, mj_b0, Bool.true_eq_false, mr_is Hl.1, ↓mj_bs (e145), mf_eq (show s ≠ mr_n ρ by omega) (show s < 2 ^ 31 by omega) (show mr_n ρ < 2 ^ 31 by omega), ↓mj_bs (mr_b27 Hl.1), ↓mj_bs (p1), eN, mf_eq (show k ≠ N - 1 by omega) (show k < 2 ^ 31 by omega) (show N - 1 < 2 ^ 31 by omega), mn_add, ↓mj_bs (mr_b27 Hl1), ↓mj_bs (p2), mf_lt (Nat.zero_le (k + 1)) (show k + 1 < 2 ^ 31 by omega), ↓mj_bs (mr_b27 Hl2), ↓mj_bs (g2), show ((-9 : Int32) = -9) = True from eq_true rfl]
end
