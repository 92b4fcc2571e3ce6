/-! COMMANDS: chances; who ate it -/
section
variable {S : mm_St} {h h' : mj_H}
theorem mo_95 (J : mh_J S h) (x y : Int32) (u : Bool) : mh_op 95 161 [.int x, .int y, .int (mj_bI u)] h := by
  have JJ := J
  obtain ⟨w, C, R⟩ := J
  have wr := w.2.2.1
  have wm := w.2.2.2.1
  have hbd := mw_b wr wm
  have Rr := R.rr
  have hrb := Rr.1
  have G := R.pg
  obtain ⟨o1, -, Ro, -, M, -⟩ := C
  have hn9 := wr.1
  have hg9 := wr.2.1
  rcases mn_range (mr_g (ms_r S)) (by omega) x with ⟨g, hgn, rfl, -, -⟩ | ⟨-, hno⟩
  · have e39 := mt_39 Ro (nI g)
    rw [mn_dlt (by omega) (by omega), decide_eq_true hgn] at e39
    have e123 := mt_123 wr hrb (nI g)
    rw [mn_dlt (by omega) (by omega), decide_eq_true hgn] at e123
    rcases mn_range 11 (by omega) y with ⟨x, hx, rfl, -, -⟩ | ⟨-, hno⟩
    · have hx10 : x ≤ 10 := by omega
      have hp6 := mm_pop6 _ hbd
      have P1 : 0 < 10 ^ mm_pop (ma_b (ms_m S)) 6 := Nat.pow_pos (by decide)
      have P2 := mm_10_6 hp6
      have fin : ∀ z, z = nI ((if u = true then mm_lk (ms_r S) (ms_m S) g x (ma_b (ms_m S) + 1) else 10 ^ mm_pop (ma_b (ms_m S)) 6) / Nat.gcd (mm_lk (ms_r S) (ms_m S) g x (ma_b (ms_m S) + 1)) (10 ^ mm_pop (ma_b (ms_m S)) 6)) → mh_op 95 161 [.int (nI g), .int (nI x), .int (mj_bI u)] h := by
        intro z hz
        have hw30 : mm_lk (ms_r S) (ms_m S) g x (ma_b (ms_m S) + 1) < 2 ^ 30 := by
          have h1 := mm_lk_le (ρ := ms_r S) (μ := ms_m S) (g := g) hbd hx10 (ma_b (ms_m S) + 1) (by omega)
          have h2 : (ma_b (ms_m S) + 1) * 1000000 ≤ 64 * 1000000 := Nat.mul_le_mul_right _ (by omega)
          have h3 : (64 : Nat) * 1000000 < 2 ^ 30 := by decide
          exact Nat.lt_of_le_of_lt (Nat.le_trans h1 h2) h3
        have hp30 : 10 ^ mm_pop (ma_b (ms_m S)) 6 < 2 ^ 30 := Nat.lt_of_le_of_lt P2 (by decide)
        have e83 := mt_83 (h := h) hw30 hp30 P1 u
        rw [← hz] at e83
        have e150 := mt_150 (mr_is hrb) hw30 hp30 P1 u
        rw [← hz] at e150
        have e78 := mt_78 (h := h) (b := 10) (k := mm_pop (ma_b (ms_m S)) 6) (by omega)
        have loopC : ∀ d i l6, i + d = ma_b (ms_m S) + 1 → mj_R 95 (32, [.ref 1, .int (nI g), .int (nI x), .int (mj_bI u), .int (nI (mm_lk (ms_r S) (ms_m S) g x i)), .int (nI i), l6], [], h) = some (some (.int z), h) := by
          intro d
          induction d with
          | zero =>
            intro i l6 hi
            obtain rfl : i = ma_b (ms_m S) + 1 := by omega
            simp only [↓reduceIte, ↓mq_95_0, ↓mq_95_1, ↓mq_95_4, ↓mq_95_5, ↓mq_95_8, ↓mq_95_11, ↓mq_95_12, ↓mq_95_13, ↓mq_95_14, ↓mq_95_17, ↓mq_95_18, ↓mq_95_20, ↓mq_95_23, ↓mq_95_25, ↓mq_95_26, ↓mq_95_27, ↓mq_95_29, ↓mq_95_30, ↓mq_95_32, ↓mq_95_34, ↓mq_95_35, ↓mq_95_38, ↓mq_95_41, ↓mq_95_44, ↓mq_95_46, ↓mq_95_47, ↓mq_95_50, ↓mq_95_53, ↓mq_95_54, ↓mq_95_55, ↓mq_95_56, ↓mq_95_59, ↓mq_95_60, ↓mq_95_63, ↓mq_95_65, ↓mq_95_66, ↓mq_95_69, ↓mq_95_72, ↓mq_95_73, ↓mq_95_76, ↓mq_95_79, ↓mq_95_81, ↓mq_95_82, ↓mq_95_83, ↓mq_95_84, ↓mq_95_86, ↓mq_95_88, ↓mq_95_90, ↓mq_95_91, ↓mq_95_92, ↓mq_95_94, ↓mq_95_97, ↓mq_95_100, ↓mq_95_101, ↓mq_95_103, ↓mq_95_106, ↓mq_95_109, ↓mq_95_110, ↓mq_95_111, ↓mq_95_113, ↓mq_95_116, ↓mq_95_119, ↓mq_95_121, ↓mq_95_123, ↓mq_95_124, ↓mq_95_127, ↓mq_95_130, ↓mq_95_133, ↓mq_95_136, ↓mq_95_137, ↓mq_95_140, ↓mj_bs (mh_gf 3 o1 rfl), ↓mj_bs (mh_gf 2 M.1 rfl), mt_lt (show ma_b (ms_m S) < ma_b (ms_m S) + 1 by omega), ↓mj_bs (mt_166 hbd), Option.toList, List.cons_append, List.nil_append, ↓mj_bs (e78), ↓mj_bs (e83)]
          | succ d ih =>
            intro i l6 hi
            have hi64 : i < 64 := by omega
            have hd64 := mm_dif_lt i hi64 _ hbd
            rw [mq_95_32]
            by_cases hc : mm_dif i (ma_b (ms_m S)) = 0
            · have e40 := mt_40n wr Ro hi64 hgn
              cases hop : mm_opens (ms_r S) i g
              · have e : mm_lk (ms_r S) (ms_m S) g x (i + 1) = mm_lk (ms_r S) (ms_m S) g x i := by simp [mm_lk, mm_lc, hop]
                have ih' := ih (i + 1) l6 (by omega)
                rw [e] at ih'
                simp only [↓reduceIte, ↓mq_95_0, ↓mq_95_1, ↓mq_95_4, ↓mq_95_5, ↓mq_95_8, ↓mq_95_11, ↓mq_95_12, ↓mq_95_13, ↓mq_95_14, ↓mq_95_17, ↓mq_95_18, ↓mq_95_20, ↓mq_95_23, ↓mq_95_25, ↓mq_95_26, ↓mq_95_27, ↓mq_95_29, ↓mq_95_30, ↓mq_95_34, ↓mq_95_35, ↓mq_95_38, ↓mq_95_41, ↓mq_95_44, ↓mq_95_46, ↓mq_95_47, ↓mq_95_50, ↓mq_95_53, ↓mq_95_54, ↓mq_95_55, ↓mq_95_56, ↓mq_95_59, ↓mq_95_60, ↓mq_95_63, ↓mq_95_65, ↓mq_95_66, ↓mq_95_69, ↓mq_95_72, ↓mq_95_73, ↓mq_95_76, ↓mq_95_79, ↓mq_95_81, ↓mq_95_82, ↓mq_95_83, ↓mq_95_84, ↓mq_95_86, ↓mq_95_88, ↓mq_95_90, ↓mq_95_91, ↓mq_95_92, ↓mq_95_94, ↓mq_95_97, ↓mq_95_100, ↓mq_95_101, ↓mq_95_103, ↓mq_95_106, ↓mq_95_109, ↓mq_95_110, ↓mq_95_111, ↓mq_95_113, ↓mq_95_116, ↓mq_95_119, ↓mq_95_121, ↓mq_95_123, ↓mq_95_124, ↓mq_95_127, ↓mq_95_130, ↓mq_95_133, ↓mq_95_136, ↓mq_95_137, ↓mq_95_140, ↓mj_bs (mh_gf 3 o1 rfl), ↓mj_bs (mh_gf 2 M.1 rfl), mf_lt (show i ≤ ma_b (ms_m S) by omega), mn_dif i hi64 _ hbd, mt_eq hc, ↓mj_bs (mh_gf 1 o1 rfl), mh_isC Ro.1, ↓mj_bs (e40), Option.toList, List.cons_append, List.nil_append, hop, mj_b0, mn_add]
                exact ih'
              · have e : mm_lk (ms_r S) (ms_m S) g x (i + 1) = mm_lk (ms_r S) (ms_m S) g x i + mm_wt (ms_m S) x i := by simp [mm_lk, mm_lc, hop, hc]
                have ih' := ih (i + 1) (.int (nI (mm_dif (ma_b (ms_m S)) i))) (by omega)
                rw [e, mm_wt] at ih'
                have hgo := mm_dif_lt _ hbd i hi64
                have q1 := mm_pop6 i hi64
                have q2 := mm_pop6 _ hgo
                simp only [↓reduceIte, ↓mq_95_0, ↓mq_95_1, ↓mq_95_4, ↓mq_95_5, ↓mq_95_8, ↓mq_95_11, ↓mq_95_12, ↓mq_95_13, ↓mq_95_14, ↓mq_95_17, ↓mq_95_18, ↓mq_95_20, ↓mq_95_23, ↓mq_95_25, ↓mq_95_26, ↓mq_95_27, ↓mq_95_29, ↓mq_95_30, ↓mq_95_34, ↓mq_95_35, ↓mq_95_38, ↓mq_95_41, ↓mq_95_44, ↓mq_95_46, ↓mq_95_47, ↓mq_95_50, ↓mq_95_53, ↓mq_95_54, ↓mq_95_55, ↓mq_95_56, ↓mq_95_59, ↓mq_95_60, ↓mq_95_63, ↓mq_95_65, ↓mq_95_66, ↓mq_95_69, ↓mq_95_72, ↓mq_95_73, ↓mq_95_76, ↓mq_95_79, ↓mq_95_81, ↓mq_95_82, ↓mq_95_83, ↓mq_95_84, ↓mq_95_86, ↓mq_95_88, ↓mq_95_90, ↓mq_95_91, ↓mq_95_92, ↓mq_95_94, ↓mq_95_97, ↓mq_95_100, ↓mq_95_101, ↓mq_95_103, ↓mq_95_106, ↓mq_95_109, ↓mq_95_110, ↓mq_95_111, ↓mq_95_113, ↓mq_95_116, ↓mq_95_119, ↓mq_95_121, ↓mq_95_123, ↓mq_95_124, ↓mq_95_127, ↓mq_95_130, ↓mq_95_133, ↓mq_95_136, ↓mq_95_137, ↓mq_95_140, ↓mj_bs (mh_gf 3 o1 rfl), ↓mj_bs (mh_gf 2 M.1 rfl), mf_lt (show i ≤ ma_b (ms_m S) by omega), mn_dif i hi64 _ hbd, mt_eq hc, ↓mj_bs (mh_gf 1 o1 rfl), mh_isC Ro.1, ↓mj_bs (e40), Option.toList, List.cons_append, List.nil_append, hop, mj_b0, Bool.true_eq_false, mn_dif _ hbd i hi64, mn_sub hx10, ↓mj_bs (mt_166 hi64), ↓mj_bs (mt_78 (show mm_pop i 6 < 2 ^ 31 by omega)), ↓mj_bs (mt_166 hgo), ↓mj_bs (mt_78 (show mm_pop (mm_dif (ma_b (ms_m S)) i) 6 < 2 ^ 31 by omega)), mn_mul, mn_add]
                exact ih'
            · have e : mm_lk (ms_r S) (ms_m S) g x (i + 1) = mm_lk (ms_r S) (ms_m S) g x i := by simp [mm_lk, mm_lc, hc]
              have ih' := ih (i + 1) l6 (by omega)
              rw [e] at ih'
              simp only [↓reduceIte, ↓mq_95_0, ↓mq_95_1, ↓mq_95_4, ↓mq_95_5, ↓mq_95_8, ↓mq_95_11, ↓mq_95_12, ↓mq_95_13, ↓mq_95_14, ↓mq_95_17, ↓mq_95_18, ↓mq_95_20, ↓mq_95_23, ↓mq_95_25, ↓mq_95_26, ↓mq_95_27, ↓mq_95_29, ↓mq_95_30, ↓mq_95_34, ↓mq_95_35, ↓mq_95_38, ↓mq_95_41, ↓mq_95_44, ↓mq_95_46, ↓mq_95_47, ↓mq_95_50, ↓mq_95_53, ↓mq_95_54, ↓mq_95_55, ↓mq_95_56, ↓mq_95_59, ↓mq_95_60, ↓mq_95_63, ↓mq_95_65, ↓mq_95_66, ↓mq_95_69, ↓mq_95_72, ↓mq_95_73, ↓mq_95_76, ↓mq_95_79, ↓mq_95_81, ↓mq_95_82, ↓mq_95_83, ↓mq_95_84, ↓mq_95_86, ↓mq_95_88, ↓mq_95_90, ↓mq_95_91, ↓mq_95_92, ↓mq_95_94, ↓mq_95_97, ↓mq_95_100, ↓mq_95_101, ↓mq_95_103, ↓mq_95_106, ↓mq_95_109, ↓mq_95_110, ↓mq_95_111, ↓mq_95_113, ↓mq_95_116, ↓mq_95_119, ↓mq_95_121, ↓mq_95_123, ↓mq_95_124, ↓mq_95_127, ↓mq_95_130, ↓mq_95_133, ↓mq_95_136, ↓mq_95_137, ↓mq_95_140, ↓mj_bs (mh_gf 3 o1 rfl), ↓mj_bs (mh_gf 2 M.1 rfl), mf_lt (show i ≤ ma_b (ms_m S) by omega), mn_dif i hi64 _ hbd, mf_eq hc, mn_add]
              exact ih'
        have hn64 : 2 ^ mr_n (ms_r S) ≤ 64 := Nat.pow_le_pow_right (n := 2) (by decide) hn9
        have hb2 := wm.2.1
        have hup : mm_lk (ms_r S) (ms_m S) g x (2 ^ mr_n (ms_r S)) = mm_lk (ms_r S) (ms_m S) g x (ma_b (ms_m S) + 1) := by
          have := mm_lk_up (ρ := ms_r S) (g := g) (x := x) hbd (2 ^ mr_n (ms_r S) - (ma_b (ms_m S) + 1)) (by omega)
          rwa [show ma_b (ms_m S) + 1 + (2 ^ mr_n (ms_r S) - (ma_b (ms_m S) + 1)) = 2 ^ mr_n (ms_r S) by omega] at this
        have loopR : ∀ d i l6 l7, i + d = 2 ^ mr_n (ms_r S) → mj_R 161 (36, [.ref 65, .int (nI g), .int (nI x), .int (mj_bI u), .int (nI (mm_lk (ms_r S) (ms_m S) g x i)), .int (nI i), l6, l7], [], h) = some (some (.int z), h) := by
          intro d
          induction d with
          | zero =>
            intro i l6 l7 hi
            obtain rfl : i = 2 ^ mr_n (ms_r S) := by omega
            rw [hup]
            simp only [↓reduceIte, ↓mq_161_0, ↓mq_161_1, ↓mq_161_2, ↓mq_161_5, ↓mq_161_6, ↓mq_161_7, ↓mq_161_10, ↓mq_161_13, ↓mq_161_14, ↓mq_161_15, ↓mq_161_16, ↓mq_161_17, ↓mq_161_18, ↓mq_161_21, ↓mq_161_24, ↓mq_161_27, ↓mq_161_29, ↓mq_161_30, ↓mq_161_31, ↓mq_161_33, ↓mq_161_34, ↓mq_161_36, ↓mq_161_38, ↓mq_161_39, ↓mq_161_40, ↓mq_161_43, ↓mq_161_44, ↓mq_161_47, ↓mq_161_49, ↓mq_161_50, ↓mq_161_53, ↓mq_161_54, ↓mq_161_55, ↓mq_161_56, ↓mq_161_57, ↓mq_161_58, ↓mq_161_61, ↓mq_161_62, ↓mq_161_64, ↓mq_161_65, ↓mq_161_68, ↓mq_161_71, ↓mq_161_72, ↓mq_161_74, ↓mq_161_75, ↓mq_161_77, ↓mq_161_79, ↓mq_161_80, ↓mq_161_83, ↓mq_161_86, ↓mq_161_88, ↓mq_161_89, ↓mq_161_92, ↓mq_161_93, ↓mq_161_94, ↓mq_161_96, ↓mq_161_99, ↓mq_161_102, ↓mq_161_103, ↓mq_161_106, ↓mq_161_108, ↓mq_161_110, ↓mq_161_113, ↓mq_161_116, ↓mq_161_118, ↓mq_161_119, ↓mq_161_120, ↓mq_161_123, ↓mq_161_124, ↓mq_161_125, ↓mq_161_127, ↓mq_161_130, ↓mq_161_133, ↓mq_161_135, ↓mq_161_137, ↓mq_161_138, ↓mq_161_140, ↓mq_161_143, ↓mq_161_146, ↓mq_161_148, ↓mq_161_149, ↓mq_161_152, ↓mq_161_153, ↓mq_161_154, ↓mq_161_157, ↓mq_161_160, ↓mq_161_161, ↓mq_161_164, ↓mj_bs (mr_bn hrb), mn_shl (mr_n (ms_r S)) (show mr_n (ms_r S) < 31 by omega), mt_le (Nat.le_refl (2 ^ mr_n (ms_r S))) (show 2 ^ mr_n (ms_r S) < 2 ^ 31 by omega), ↓mj_bs (mr_b15 hrb), ↓mj_bs (mp_1 G), ↓mj_bs (mt_144 hbd), Option.toList, List.cons_append, List.nil_append, ↓mj_bs (mt_142 (show mm_pop (ma_b (ms_m S)) 6 < 2 ^ 31 by omega)), ↓mj_bs (e150)]
          | succ d ih =>
            intro i l6 l7 hi
            have hi2 : i < 2 ^ mr_n (ms_r S) := by omega
            have hi64 : i < 64 := by omega
            have hd64 := mm_dif_lt i hi64 _ hbd
            rw [mq_161_36]
            by_cases hc : mm_dif i (ma_b (ms_m S)) = 0
            · have e133 := mt_133 wr Rr hi64 hgn
              cases hop : mm_opens (ms_r S) i g
              · have e : mm_lk (ms_r S) (ms_m S) g x (i + 1) = mm_lk (ms_r S) (ms_m S) g x i := by simp [mm_lk, mm_lc, hop]
                have ih' := ih (i + 1) l6 l7 (by omega)
                rw [e] at ih'
                simp only [↓reduceIte, ↓mq_161_0, ↓mq_161_1, ↓mq_161_2, ↓mq_161_5, ↓mq_161_6, ↓mq_161_7, ↓mq_161_10, ↓mq_161_13, ↓mq_161_14, ↓mq_161_15, ↓mq_161_16, ↓mq_161_17, ↓mq_161_18, ↓mq_161_21, ↓mq_161_24, ↓mq_161_27, ↓mq_161_29, ↓mq_161_30, ↓mq_161_31, ↓mq_161_33, ↓mq_161_34, ↓mq_161_38, ↓mq_161_39, ↓mq_161_40, ↓mq_161_43, ↓mq_161_44, ↓mq_161_47, ↓mq_161_49, ↓mq_161_50, ↓mq_161_53, ↓mq_161_54, ↓mq_161_55, ↓mq_161_56, ↓mq_161_57, ↓mq_161_58, ↓mq_161_61, ↓mq_161_62, ↓mq_161_64, ↓mq_161_65, ↓mq_161_68, ↓mq_161_71, ↓mq_161_72, ↓mq_161_74, ↓mq_161_75, ↓mq_161_77, ↓mq_161_79, ↓mq_161_80, ↓mq_161_83, ↓mq_161_86, ↓mq_161_88, ↓mq_161_89, ↓mq_161_92, ↓mq_161_93, ↓mq_161_94, ↓mq_161_96, ↓mq_161_99, ↓mq_161_102, ↓mq_161_103, ↓mq_161_106, ↓mq_161_108, ↓mq_161_110, ↓mq_161_113, ↓mq_161_116, ↓mq_161_118, ↓mq_161_119, ↓mq_161_120, ↓mq_161_123, ↓mq_161_124, ↓mq_161_125, ↓mq_161_127, ↓mq_161_130, ↓mq_161_133, ↓mq_161_135, ↓mq_161_137, ↓mq_161_138, ↓mq_161_140, ↓mq_161_143, ↓mq_161_146, ↓mq_161_148, ↓mq_161_149, ↓mq_161_152, ↓mq_161_153, ↓mq_161_154, ↓mq_161_157, ↓mq_161_160, ↓mq_161_161, ↓mq_161_164, ↓mj_bs (mr_bn hrb), mn_shl (mr_n (ms_r S)) (show mr_n (ms_r S) < 31 by omega), mf_le hi2 (show 2 ^ mr_n (ms_r S) < 2 ^ 31 by omega), ↓mj_bs (mr_b15 hrb), ↓mj_bs (mp_1 G), mn_dif i hi64 _ hbd, mt_eq hc, mr_is hrb, ↓mj_bs (e133), Option.toList, List.cons_append, List.nil_append, hop, mj_b0, mn_add]
                exact ih'
              · have e : mm_lk (ms_r S) (ms_m S) g x (i + 1) = mm_lk (ms_r S) (ms_m S) g x i + mm_wt (ms_m S) x i := by simp [mm_lk, mm_lc, hop, hc]
                have ewt : mm_pr (ma_b (ms_m S)) x i (mr_n (ms_r S)) = mm_wt (ms_m S) x i := by
                  rw [mm_pr_eq hbd hi64 hc _ hn9, mm_wt]
                  have z1 := mm_pop_hi hn9 hi2 (6 - mr_n (ms_r S)) (by omega)
                  have z2 : mm_dif (ma_b (ms_m S)) i < 2 ^ mr_n (ms_r S) := Nat.lt_of_le_of_lt (Nat.sub_le _ _) hb2
                  have z3 := mm_pop_hi hn9 z2 (6 - mr_n (ms_r S)) (by omega)
                  rw [show mr_n (ms_r S) + (6 - mr_n (ms_r S)) = 6 by omega] at z1 z3
                  rw [z1, z3]
                have ih' := ih (i + 1) (.int (nI (mm_wt (ms_m S) x i))) (.int (nI (mr_n (ms_r S)))) (by omega)
                rw [e] at ih'
                have inner : ∀ d k, k + d = mr_n (ms_r S) → mj_R 161 (77, [.ref 65, .int (nI g), .int (nI x), .int (mj_bI u), .int (nI (mm_lk (ms_r S) (ms_m S) g x i)), .int (nI i), .int (nI (mm_pr (ma_b (ms_m S)) x i k)), .int (nI k)], [], h) = some (some (.int z), h) := by
                  intro d
                  induction d with
                  | zero =>
                    intro k hk
                    obtain rfl : k = mr_n (ms_r S) := by omega
                    rw [← ih', ewt]
                    simp only [↓reduceIte, ↓mq_161_0, ↓mq_161_1, ↓mq_161_2, ↓mq_161_5, ↓mq_161_6, ↓mq_161_7, ↓mq_161_10, ↓mq_161_13, ↓mq_161_14, ↓mq_161_15, ↓mq_161_16, ↓mq_161_17, ↓mq_161_18, ↓mq_161_21, ↓mq_161_24, ↓mq_161_27, ↓mq_161_29, ↓mq_161_30, ↓mq_161_31, ↓mq_161_33, ↓mq_161_34, ↓mq_161_38, ↓mq_161_39, ↓mq_161_40, ↓mq_161_43, ↓mq_161_44, ↓mq_161_47, ↓mq_161_49, ↓mq_161_50, ↓mq_161_53, ↓mq_161_54, ↓mq_161_55, ↓mq_161_56, ↓mq_161_57, ↓mq_161_58, ↓mq_161_61, ↓mq_161_62, ↓mq_161_64, ↓mq_161_65, ↓mq_161_68, ↓mq_161_71, ↓mq_161_72, ↓mq_161_74, ↓mq_161_75, ↓mq_161_77, ↓mq_161_79, ↓mq_161_80, ↓mq_161_83, ↓mq_161_86, ↓mq_161_88, ↓mq_161_89, ↓mq_161_92, ↓mq_161_93, ↓mq_161_94, ↓mq_161_96, ↓mq_161_99, ↓mq_161_102, ↓mq_161_103, ↓mq_161_106, ↓mq_161_108, ↓mq_161_110, ↓mq_161_113, ↓mq_161_116, ↓mq_161_118, ↓mq_161_119, ↓mq_161_120, ↓mq_161_123, ↓mq_161_124, ↓mq_161_125, ↓mq_161_127, ↓mq_161_130, ↓mq_161_133, ↓mq_161_135, ↓mq_161_137, ↓mq_161_138, ↓mq_161_140, ↓mq_161_143, ↓mq_161_146, ↓mq_161_148, ↓mq_161_149, ↓mq_161_152, ↓mq_161_153, ↓mq_161_154, ↓mq_161_157, ↓mq_161_160, ↓mq_161_161, ↓mq_161_164, ↓mj_bs (mr_bn hrb), mt_le (Nat.le_refl (mr_n (ms_r S))), mn_add]
                  | succ d ih2 =>
                    intro k hk
                    have hkn : k < mr_n (ms_r S) := by omega
                    have ih2' := ih2 (k + 1) (by omega)
                    rw [mq_161_77]
                    cases hbk : (ma_b (ms_m S)).testBit k
                    · simp only [mm_pr, hbk, Bool.false_eq_true, if_false] at ih2'
                      simp only [↓reduceIte, ↓mq_161_0, ↓mq_161_1, ↓mq_161_2, ↓mq_161_5, ↓mq_161_6, ↓mq_161_7, ↓mq_161_10, ↓mq_161_13, ↓mq_161_14, ↓mq_161_15, ↓mq_161_16, ↓mq_161_17, ↓mq_161_18, ↓mq_161_21, ↓mq_161_24, ↓mq_161_27, ↓mq_161_29, ↓mq_161_30, ↓mq_161_31, ↓mq_161_33, ↓mq_161_34, ↓mq_161_38, ↓mq_161_39, ↓mq_161_40, ↓mq_161_43, ↓mq_161_44, ↓mq_161_47, ↓mq_161_49, ↓mq_161_50, ↓mq_161_53, ↓mq_161_54, ↓mq_161_55, ↓mq_161_56, ↓mq_161_57, ↓mq_161_58, ↓mq_161_61, ↓mq_161_62, ↓mq_161_64, ↓mq_161_65, ↓mq_161_68, ↓mq_161_71, ↓mq_161_72, ↓mq_161_74, ↓mq_161_75, ↓mq_161_79, ↓mq_161_80, ↓mq_161_83, ↓mq_161_86, ↓mq_161_88, ↓mq_161_89, ↓mq_161_92, ↓mq_161_93, ↓mq_161_94, ↓mq_161_96, ↓mq_161_99, ↓mq_161_102, ↓mq_161_103, ↓mq_161_106, ↓mq_161_108, ↓mq_161_110, ↓mq_161_113, ↓mq_161_116, ↓mq_161_118, ↓mq_161_119, ↓mq_161_120, ↓mq_161_123, ↓mq_161_124, ↓mq_161_125, ↓mq_161_127, ↓mq_161_130, ↓mq_161_133, ↓mq_161_135, ↓mq_161_137, ↓mq_161_138, ↓mq_161_140, ↓mq_161_143, ↓mq_161_146, ↓mq_161_148, ↓mq_161_149, ↓mq_161_152, ↓mq_161_153, ↓mq_161_154, ↓mq_161_157, ↓mq_161_160, ↓mq_161_161, ↓mq_161_164, ↓mj_bs (mr_bn hrb), mf_le hkn, ↓mj_bs (mr_b15 hrb), ↓mj_bs (mp_1 G), ↓mj_bs (mt_113 hbd (show k < 6 by omega)), Option.toList, List.cons_append, List.nil_append, hbk, mj_b0, mn_mul, mn_add]
                      exact ih2'
                    · cases hik : i.testBit k
                      · simp only [mm_pr, hbk, hik, Bool.false_eq_true, if_false, if_true] at ih2'
                        simp only [↓reduceIte, ↓mq_161_0, ↓mq_161_1, ↓mq_161_2, ↓mq_161_5, ↓mq_161_6, ↓mq_161_7, ↓mq_161_10, ↓mq_161_13, ↓mq_161_14, ↓mq_161_15, ↓mq_161_16, ↓mq_161_17, ↓mq_161_18, ↓mq_161_21, ↓mq_161_24, ↓mq_161_27, ↓mq_161_29, ↓mq_161_30, ↓mq_161_31, ↓mq_161_33, ↓mq_161_34, ↓mq_161_38, ↓mq_161_39, ↓mq_161_40, ↓mq_161_43, ↓mq_161_44, ↓mq_161_47, ↓mq_161_49, ↓mq_161_50, ↓mq_161_53, ↓mq_161_54, ↓mq_161_55, ↓mq_161_56, ↓mq_161_57, ↓mq_161_58, ↓mq_161_61, ↓mq_161_62, ↓mq_161_64, ↓mq_161_65, ↓mq_161_68, ↓mq_161_71, ↓mq_161_72, ↓mq_161_74, ↓mq_161_75, ↓mq_161_79, ↓mq_161_80, ↓mq_161_83, ↓mq_161_86, ↓mq_161_88, ↓mq_161_89, ↓mq_161_92, ↓mq_161_93, ↓mq_161_94, ↓mq_161_96, ↓mq_161_99, ↓mq_161_102, ↓mq_161_103, ↓mq_161_106, ↓mq_161_108, ↓mq_161_110, ↓mq_161_113, ↓mq_161_116, ↓mq_161_118, ↓mq_161_119, ↓mq_161_120, ↓mq_161_123, ↓mq_161_124, ↓mq_161_125, ↓mq_161_127, ↓mq_161_130, ↓mq_161_133, ↓mq_161_135, ↓mq_161_137, ↓mq_161_138, ↓mq_161_140, ↓mq_161_143, ↓mq_161_146, ↓mq_161_148, ↓mq_161_149, ↓mq_161_152, ↓mq_161_153, ↓mq_161_154, ↓mq_161_157, ↓mq_161_160, ↓mq_161_161, ↓mq_161_164, ↓mj_bs (mr_bn hrb), mf_le hkn, ↓mj_bs (mr_b15 hrb), ↓mj_bs (mp_1 G), ↓mj_bs (mt_113 hbd (show k < 6 by omega)), Option.toList, List.cons_append, List.nil_append, hbk, mj_b0, Bool.true_eq_false, ↓mj_bs (mt_113 hi64 (show k < 6 by omega)), hik, mn_mul, mn_add]
                        exact ih2'
                      · simp only [mm_pr, hbk, hik, if_true] at ih2'
                        simp only [↓reduceIte, ↓mq_161_0, ↓mq_161_1, ↓mq_161_2, ↓mq_161_5, ↓mq_161_6, ↓mq_161_7, ↓mq_161_10, ↓mq_161_13, ↓mq_161_14, ↓mq_161_15, ↓mq_161_16, ↓mq_161_17, ↓mq_161_18, ↓mq_161_21, ↓mq_161_24, ↓mq_161_27, ↓mq_161_29, ↓mq_161_30, ↓mq_161_31, ↓mq_161_33, ↓mq_161_34, ↓mq_161_38, ↓mq_161_39, ↓mq_161_40, ↓mq_161_43, ↓mq_161_44, ↓mq_161_47, ↓mq_161_49, ↓mq_161_50, ↓mq_161_53, ↓mq_161_54, ↓mq_161_55, ↓mq_161_56, ↓mq_161_57, ↓mq_161_58, ↓mq_161_61, ↓mq_161_62, ↓mq_161_64, ↓mq_161_65, ↓mq_161_68, ↓mq_161_71, ↓mq_161_72, ↓mq_161_74, ↓mq_161_75, ↓mq_161_79, ↓mq_161_80, ↓mq_161_83, ↓mq_161_86, ↓mq_161_88, ↓mq_161_89, ↓mq_161_92, ↓mq_161_93, ↓mq_161_94, ↓mq_161_96, ↓mq_161_99, ↓mq_161_102, ↓mq_161_103, ↓mq_161_106, ↓mq_161_108, ↓mq_161_110, ↓mq_161_113, ↓mq_161_116, ↓mq_161_118, ↓mq_161_119, ↓mq_161_120, ↓mq_161_123, ↓mq_161_124, ↓mq_161_125, ↓mq_161_127, ↓mq_161_130, ↓mq_161_133, ↓mq_161_135, ↓mq_161_137, ↓mq_161_138, ↓mq_161_140, ↓mq_161_143, ↓mq_161_146, ↓mq_161_148, ↓mq_161_149, ↓mq_161_152, ↓mq_161_153, ↓mq_161_154, ↓mq_161_157, ↓mq_161_160, ↓mq_161_161, ↓mq_161_164, ↓mj_bs (mr_bn hrb), mf_le hkn, ↓mj_bs (mr_b15 hrb), ↓mj_bs (mp_1 G), ↓mj_bs (mt_113 hbd (show k < 6 by omega)), Option.toList, List.cons_append, List.nil_append, hbk, mj_b0, Bool.true_eq_false, ↓mj_bs (mt_113 hi64 (show k < 6 by omega)), hik, mn_sub hx10, mn_mul, mn_add]
                        exact ih2'
                simp only [↓reduceIte, ↓mq_161_0, ↓mq_161_1, ↓mq_161_2, ↓mq_161_5, ↓mq_161_6, ↓mq_161_7, ↓mq_161_10, ↓mq_161_13, ↓mq_161_14, ↓mq_161_15, ↓mq_161_16, ↓mq_161_17, ↓mq_161_18, ↓mq_161_21, ↓mq_161_24, ↓mq_161_27, ↓mq_161_29, ↓mq_161_30, ↓mq_161_31, ↓mq_161_33, ↓mq_161_34, ↓mq_161_38, ↓mq_161_39, ↓mq_161_40, ↓mq_161_43, ↓mq_161_44, ↓mq_161_47, ↓mq_161_49, ↓mq_161_50, ↓mq_161_53, ↓mq_161_54, ↓mq_161_55, ↓mq_161_56, ↓mq_161_57, ↓mq_161_58, ↓mq_161_61, ↓mq_161_62, ↓mq_161_64, ↓mq_161_65, ↓mq_161_68, ↓mq_161_71, ↓mq_161_72, ↓mq_161_74, ↓mq_161_75, ↓mq_161_79, ↓mq_161_80, ↓mq_161_83, ↓mq_161_86, ↓mq_161_88, ↓mq_161_89, ↓mq_161_92, ↓mq_161_93, ↓mq_161_94, ↓mq_161_96, ↓mq_161_99, ↓mq_161_102, ↓mq_161_103, ↓mq_161_106, ↓mq_161_108, ↓mq_161_110, ↓mq_161_113, ↓mq_161_116, ↓mq_161_118, ↓mq_161_119, ↓mq_161_120, ↓mq_161_123, ↓mq_161_124, ↓mq_161_125, ↓mq_161_127, ↓mq_161_130, ↓mq_161_133, ↓mq_161_135, ↓mq_161_137, ↓mq_161_138, ↓mq_161_140, ↓mq_161_143, ↓mq_161_146, ↓mq_161_148, ↓mq_161_149, ↓mq_161_152, ↓mq_161_153, ↓mq_161_154, ↓mq_161_157, ↓mq_161_160, ↓mq_161_161, ↓mq_161_164, ↓mj_bs (mr_bn hrb), mn_shl (mr_n (ms_r S)) (show mr_n (ms_r S) < 31 by omega), mf_le hi2 (show 2 ^ mr_n (ms_r S) < 2 ^ 31 by omega), ↓mj_bs (mr_b15 hrb), ↓mj_bs (mp_1 G), mn_dif i hi64 _ hbd, mt_eq hc, mr_is hrb, ↓mj_bs (e133), Option.toList, List.cons_append, List.nil_append, hop, mj_b0, Bool.true_eq_false]
                exact inner (mr_n (ms_r S)) 0 (by omega)
            · have e : mm_lk (ms_r S) (ms_m S) g x (i + 1) = mm_lk (ms_r S) (ms_m S) g x i := by simp [mm_lk, mm_lc, hc]
              have ih' := ih (i + 1) l6 l7 (by omega)
              rw [e] at ih'
              simp only [↓reduceIte, ↓mq_161_0, ↓mq_161_1, ↓mq_161_2, ↓mq_161_5, ↓mq_161_6, ↓mq_161_7, ↓mq_161_10, ↓mq_161_13, ↓mq_161_14, ↓mq_161_15, ↓mq_161_16, ↓mq_161_17, ↓mq_161_18, ↓mq_161_21, ↓mq_161_24, ↓mq_161_27, ↓mq_161_29, ↓mq_161_30, ↓mq_161_31, ↓mq_161_33, ↓mq_161_34, ↓mq_161_38, ↓mq_161_39, ↓mq_161_40, ↓mq_161_43, ↓mq_161_44, ↓mq_161_47, ↓mq_161_49, ↓mq_161_50, ↓mq_161_53, ↓mq_161_54, ↓mq_161_55, ↓mq_161_56, ↓mq_161_57, ↓mq_161_58, ↓mq_161_61, ↓mq_161_62, ↓mq_161_64, ↓mq_161_65, ↓mq_161_68, ↓mq_161_71, ↓mq_161_72, ↓mq_161_74, ↓mq_161_75, ↓mq_161_77, ↓mq_161_79, ↓mq_161_80, ↓mq_161_83, ↓mq_161_86, ↓mq_161_88, ↓mq_161_89, ↓mq_161_92, ↓mq_161_93, ↓mq_161_94, ↓mq_161_96, ↓mq_161_99, ↓mq_161_102, ↓mq_161_103, ↓mq_161_106, ↓mq_161_108, ↓mq_161_110, ↓mq_161_113, ↓mq_161_116, ↓mq_161_118, ↓mq_161_119, ↓mq_161_120, ↓mq_161_123, ↓mq_161_124, ↓mq_161_125, ↓mq_161_127, ↓mq_161_130, ↓mq_161_133, ↓mq_161_135, ↓mq_161_137, ↓mq_161_138, ↓mq_161_140, ↓mq_161_143, ↓mq_161_146, ↓mq_161_148, ↓mq_161_149, ↓mq_161_152, ↓mq_161_153, ↓mq_161_154, ↓mq_161_157, ↓mq_161_160, ↓mq_161_161, ↓mq_161_164, ↓mj_bs (mr_bn hrb), mn_shl (mr_n (ms_r S)) (show mr_n (ms_r S) < 31 by omega), mf_le hi2 (show 2 ^ mr_n (ms_r S) < 2 ^ 31 by omega), ↓mj_bs (mr_b15 hrb), ↓mj_bs (mp_1 G), mn_dif i hi64 _ hbd, mf_eq hc, mn_add]
              exact ih'
        refine mh_opQ (v := .int z) JJ ?_ ?_
        · rw [mc_95]
          simp only [↓reduceIte, ↓mq_95_0, ↓mq_95_1, ↓mq_95_4, ↓mq_95_5, ↓mq_95_8, ↓mq_95_11, ↓mq_95_12, ↓mq_95_13, ↓mq_95_14, ↓mq_95_17, ↓mq_95_18, ↓mq_95_20, ↓mq_95_23, ↓mq_95_25, ↓mq_95_26, ↓mq_95_27, ↓mq_95_29, ↓mq_95_30, ↓mq_95_34, ↓mq_95_35, ↓mq_95_38, ↓mq_95_41, ↓mq_95_44, ↓mq_95_46, ↓mq_95_47, ↓mq_95_50, ↓mq_95_53, ↓mq_95_54, ↓mq_95_55, ↓mq_95_56, ↓mq_95_59, ↓mq_95_60, ↓mq_95_63, ↓mq_95_65, ↓mq_95_66, ↓mq_95_69, ↓mq_95_72, ↓mq_95_73, ↓mq_95_76, ↓mq_95_79, ↓mq_95_81, ↓mq_95_82, ↓mq_95_83, ↓mq_95_84, ↓mq_95_86, ↓mq_95_88, ↓mq_95_90, ↓mq_95_91, ↓mq_95_92, ↓mq_95_94, ↓mq_95_97, ↓mq_95_100, ↓mq_95_101, ↓mq_95_103, ↓mq_95_106, ↓mq_95_109, ↓mq_95_110, ↓mq_95_111, ↓mq_95_113, ↓mq_95_116, ↓mq_95_119, ↓mq_95_121, ↓mq_95_123, ↓mq_95_124, ↓mq_95_127, ↓mq_95_130, ↓mq_95_133, ↓mq_95_136, ↓mq_95_137, ↓mq_95_140, ↓mj_bs (mh_gf 1 o1 rfl), mh_isC Ro.1, ↓mj_bs (e39), Option.toList, List.cons_append, List.nil_append, mj_b0, Bool.true_eq_false, mf_lt (Nat.zero_le x), mt_le hx10]
          exact loopC (ma_b (ms_m S) + 1) 0 _ (by omega)
        · rw [mc_161]
          simp only [↓reduceIte, ↓mq_161_0, ↓mq_161_1, ↓mq_161_2, ↓mq_161_5, ↓mq_161_6, ↓mq_161_7, ↓mq_161_10, ↓mq_161_13, ↓mq_161_14, ↓mq_161_15, ↓mq_161_16, ↓mq_161_17, ↓mq_161_18, ↓mq_161_21, ↓mq_161_24, ↓mq_161_27, ↓mq_161_29, ↓mq_161_30, ↓mq_161_31, ↓mq_161_33, ↓mq_161_34, ↓mq_161_38, ↓mq_161_39, ↓mq_161_40, ↓mq_161_43, ↓mq_161_44, ↓mq_161_47, ↓mq_161_49, ↓mq_161_50, ↓mq_161_53, ↓mq_161_54, ↓mq_161_55, ↓mq_161_56, ↓mq_161_57, ↓mq_161_58, ↓mq_161_61, ↓mq_161_62, ↓mq_161_64, ↓mq_161_65, ↓mq_161_68, ↓mq_161_71, ↓mq_161_72, ↓mq_161_74, ↓mq_161_75, ↓mq_161_77, ↓mq_161_79, ↓mq_161_80, ↓mq_161_83, ↓mq_161_86, ↓mq_161_88, ↓mq_161_89, ↓mq_161_92, ↓mq_161_93, ↓mq_161_94, ↓mq_161_96, ↓mq_161_99, ↓mq_161_102, ↓mq_161_103, ↓mq_161_106, ↓mq_161_108, ↓mq_161_110, ↓mq_161_113, ↓mq_161_116, ↓mq_161_118, ↓mq_161_119, ↓mq_161_120, ↓mq_161_123, ↓mq_161_124, ↓mq_161_125, ↓mq_161_127, ↓mq_161_130, ↓mq_161_133, ↓mq_161_135, ↓mq_161_137, ↓mq_161_138, ↓mq_161_140, ↓mq_161_143, ↓mq_161_146, ↓mq_161_148, ↓mq_161_149, ↓mq_161_152, ↓mq_161_153, ↓mq_161_154, ↓mq_161_157, ↓mq_161_160, ↓mq_161_161, ↓mq_161_164, ↓mj_bs (mr_th hrb), mr_is hrb, ↓mj_bs (e123), Bool.not_true, Option.toList, List.cons_append, List.nil_append, mj_b0, ↓mj_bs (mt_103_0_10), mn_dle (show x < 2 ^ 31 by omega) (show 10 < 2 ^ 31 by omega), hx10, decide_true, Bool.true_eq_false]
          exact loopR (2 ^ mr_n (ms_r S)) 0 _ _ (by omega)
      exact fin _ rfl
    · refine mh_opQ (v := .int (-2)) JJ ?_ ?_
      · rw [mc_95]
        rcases mn_out hno (by omega) with z | ⟨z1, z2⟩
        · simp only [↓reduceIte, ↓mq_95_0, ↓mq_95_1, ↓mq_95_4, ↓mq_95_5, ↓mq_95_8, ↓mq_95_11, ↓mq_95_12, ↓mq_95_13, ↓mq_95_14, ↓mq_95_17, ↓mq_95_18, ↓mq_95_20, ↓mq_95_23, ↓mq_95_25, ↓mq_95_26, ↓mq_95_27, ↓mq_95_29, ↓mq_95_30, ↓mq_95_32, ↓mq_95_34, ↓mq_95_35, ↓mq_95_38, ↓mq_95_41, ↓mq_95_44, ↓mq_95_46, ↓mq_95_47, ↓mq_95_50, ↓mq_95_53, ↓mq_95_54, ↓mq_95_55, ↓mq_95_56, ↓mq_95_59, ↓mq_95_60, ↓mq_95_63, ↓mq_95_65, ↓mq_95_66, ↓mq_95_69, ↓mq_95_72, ↓mq_95_73, ↓mq_95_76, ↓mq_95_79, ↓mq_95_81, ↓mq_95_82, ↓mq_95_83, ↓mq_95_84, ↓mq_95_86, ↓mq_95_88, ↓mq_95_90, ↓mq_95_91, ↓mq_95_92, ↓mq_95_94, ↓mq_95_97, ↓mq_95_100, ↓mq_95_101, ↓mq_95_103, ↓mq_95_106, ↓mq_95_109, ↓mq_95_110, ↓mq_95_111, ↓mq_95_113, ↓mq_95_116, ↓mq_95_119, ↓mq_95_121, ↓mq_95_123, ↓mq_95_124, ↓mq_95_127, ↓mq_95_130, ↓mq_95_133, ↓mq_95_136, ↓mq_95_137, ↓mq_95_140, ↓mj_bs (mh_gf 1 o1 rfl), mh_isC Ro.1, ↓mj_bs (e39), Option.toList, List.cons_append, List.nil_append, mj_b0, Bool.true_eq_false, z]
        · simp only [↓reduceIte, ↓mq_95_0, ↓mq_95_1, ↓mq_95_4, ↓mq_95_5, ↓mq_95_8, ↓mq_95_11, ↓mq_95_12, ↓mq_95_13, ↓mq_95_14, ↓mq_95_17, ↓mq_95_18, ↓mq_95_20, ↓mq_95_23, ↓mq_95_25, ↓mq_95_26, ↓mq_95_27, ↓mq_95_29, ↓mq_95_30, ↓mq_95_32, ↓mq_95_34, ↓mq_95_35, ↓mq_95_38, ↓mq_95_41, ↓mq_95_44, ↓mq_95_46, ↓mq_95_47, ↓mq_95_50, ↓mq_95_53, ↓mq_95_54, ↓mq_95_55, ↓mq_95_56, ↓mq_95_59, ↓mq_95_60, ↓mq_95_63, ↓mq_95_65, ↓mq_95_66, ↓mq_95_69, ↓mq_95_72, ↓mq_95_73, ↓mq_95_76, ↓mq_95_79, ↓mq_95_81, ↓mq_95_82, ↓mq_95_83, ↓mq_95_84, ↓mq_95_86, ↓mq_95_88, ↓mq_95_90, ↓mq_95_91, ↓mq_95_92, ↓mq_95_94, ↓mq_95_97, ↓mq_95_100, ↓mq_95_101, ↓mq_95_103, ↓mq_95_106, ↓mq_95_109, ↓mq_95_110, ↓mq_95_111, ↓mq_95_113, ↓mq_95_116, ↓mq_95_119, ↓mq_95_121, ↓mq_95_123, ↓mq_95_124, ↓mq_95_127, ↓mq_95_130, ↓mq_95_133, ↓mq_95_136, ↓mq_95_137, ↓mq_95_140, ↓mj_bs (mh_gf 1 o1 rfl), mh_isC Ro.1, ↓mj_bs (e39), Option.toList, List.cons_append, List.nil_append, mj_b0, Bool.true_eq_false, z1, z2]
      · rw [mc_161]
        simp only [↓reduceIte, ↓mq_161_0, ↓mq_161_1, ↓mq_161_2, ↓mq_161_5, ↓mq_161_6, ↓mq_161_7, ↓mq_161_10, ↓mq_161_13, ↓mq_161_14, ↓mq_161_15, ↓mq_161_16, ↓mq_161_17, ↓mq_161_18, ↓mq_161_21, ↓mq_161_24, ↓mq_161_27, ↓mq_161_29, ↓mq_161_30, ↓mq_161_31, ↓mq_161_33, ↓mq_161_34, ↓mq_161_36, ↓mq_161_38, ↓mq_161_39, ↓mq_161_40, ↓mq_161_43, ↓mq_161_44, ↓mq_161_47, ↓mq_161_49, ↓mq_161_50, ↓mq_161_53, ↓mq_161_54, ↓mq_161_55, ↓mq_161_56, ↓mq_161_57, ↓mq_161_58, ↓mq_161_61, ↓mq_161_62, ↓mq_161_64, ↓mq_161_65, ↓mq_161_68, ↓mq_161_71, ↓mq_161_72, ↓mq_161_74, ↓mq_161_75, ↓mq_161_77, ↓mq_161_79, ↓mq_161_80, ↓mq_161_83, ↓mq_161_86, ↓mq_161_88, ↓mq_161_89, ↓mq_161_92, ↓mq_161_93, ↓mq_161_94, ↓mq_161_96, ↓mq_161_99, ↓mq_161_102, ↓mq_161_103, ↓mq_161_106, ↓mq_161_108, ↓mq_161_110, ↓mq_161_113, ↓mq_161_116, ↓mq_161_118, ↓mq_161_119, ↓mq_161_120, ↓mq_161_123, ↓mq_161_124, ↓mq_161_125, ↓mq_161_127, ↓mq_161_130, ↓mq_161_133, ↓mq_161_135, ↓mq_161_137, ↓mq_161_138, ↓mq_161_140, ↓mq_161_143, ↓mq_161_146, ↓mq_161_148, ↓mq_161_149, ↓mq_161_152, ↓mq_161_153, ↓mq_161_154, ↓mq_161_157, ↓mq_161_160, ↓mq_161_161, ↓mq_161_164, ↓mj_bs (mr_th hrb), mr_is hrb, ↓mj_bs (e123), Bool.not_true, Option.toList, List.cons_append, List.nil_append, mj_b0, ↓mj_bs (mt_103_0_10), mn_dno' hno (show 10 < 11 by omega) (by omega)]
  · have e39 := mt_39 Ro x
    rw [mn_dno hno] at e39
    have e123 := mt_123 wr hrb x
    rw [mn_dno hno] at e123
    refine mh_opQ (v := .int (-1)) JJ ?_ ?_
    · rw [mc_95]
      simp only [↓reduceIte, ↓mq_95_0, ↓mq_95_1, ↓mq_95_4, ↓mq_95_5, ↓mq_95_8, ↓mq_95_11, ↓mq_95_12, ↓mq_95_13, ↓mq_95_14, ↓mq_95_17, ↓mq_95_18, ↓mq_95_20, ↓mq_95_23, ↓mq_95_25, ↓mq_95_26, ↓mq_95_27, ↓mq_95_29, ↓mq_95_30, ↓mq_95_32, ↓mq_95_34, ↓mq_95_35, ↓mq_95_38, ↓mq_95_41, ↓mq_95_44, ↓mq_95_46, ↓mq_95_47, ↓mq_95_50, ↓mq_95_53, ↓mq_95_54, ↓mq_95_55, ↓mq_95_56, ↓mq_95_59, ↓mq_95_60, ↓mq_95_63, ↓mq_95_65, ↓mq_95_66, ↓mq_95_69, ↓mq_95_72, ↓mq_95_73, ↓mq_95_76, ↓mq_95_79, ↓mq_95_81, ↓mq_95_82, ↓mq_95_83, ↓mq_95_84, ↓mq_95_86, ↓mq_95_88, ↓mq_95_90, ↓mq_95_91, ↓mq_95_92, ↓mq_95_94, ↓mq_95_97, ↓mq_95_100, ↓mq_95_101, ↓mq_95_103, ↓mq_95_106, ↓mq_95_109, ↓mq_95_110, ↓mq_95_111, ↓mq_95_113, ↓mq_95_116, ↓mq_95_119, ↓mq_95_121, ↓mq_95_123, ↓mq_95_124, ↓mq_95_127, ↓mq_95_130, ↓mq_95_133, ↓mq_95_136, ↓mq_95_137, ↓mq_95_140, ↓mj_bs (mh_gf 1 o1 rfl), mh_isC Ro.1, ↓mj_bs (e39), Option.toList, List.cons_append, List.nil_append, mj_b0]
    · rw [mc_161]
      simp only [↓reduceIte, ↓mq_161_0, ↓mq_161_1, ↓mq_161_2, ↓mq_161_5, ↓mq_161_6, ↓mq_161_7, ↓mq_161_10, ↓mq_161_13, ↓mq_161_14, ↓mq_161_15, ↓mq_161_16, ↓mq_161_17, ↓mq_161_18, ↓mq_161_21, ↓mq_161_24, ↓mq_161_27, ↓mq_161_29, ↓mq_161_30, ↓mq_161_31, ↓mq_161_33, ↓mq_161_34, ↓mq_161_36, ↓mq_161_38, ↓mq_161_39, ↓mq_161_40, ↓mq_161_43, ↓mq_161_44, ↓mq_161_47, ↓mq_161_49, ↓mq_161_50, ↓mq_161_53, ↓mq_161_54, ↓mq_161_55, ↓mq_161_56, ↓mq_161_57, ↓mq_161_58, ↓mq_161_61, ↓mq_161_62, ↓mq_161_64, ↓mq_161_65, ↓mq_161_68, ↓mq_161_71, ↓mq_161_72, ↓mq_161_74, ↓mq_161_75, ↓mq_161_77, ↓mq_161_79, ↓mq_161_80, ↓mq_161_83, ↓mq_161_86, ↓mq_161_88, ↓mq_161_89, ↓mq_161_92, ↓mq_161_93, ↓mq_161_94, ↓mq_161_96, ↓mq_161_99, ↓mq_161_102, ↓mq_161_103, ↓mq_161_106, ↓mq_161_108, ↓mq_161_110, ↓mq_161_113, ↓mq_161_116, ↓mq_161_118, ↓mq_161_119, ↓mq_161_120, ↓mq_161_123, ↓mq_161_124, ↓mq_161_125, ↓mq_161_127, ↓mq_161_130, ↓mq_161_133, ↓mq_161_135, ↓mq_161_137, ↓mq_161_138, ↓mq_161_140, ↓mq_161_143, ↓mq_161_146, ↓mq_161_148, ↓mq_161_149, ↓mq_161_152, ↓mq_161_153, ↓mq_161_154, ↓mq_161_157, ↓mq_161_160, ↓mq_161_161, ↓mq_161_164, ↓mj_bs (mr_th hrb), mr_is hrb, ↓mj_bs (e123), Bool.not_false, Option.toList, List.cons_append, List.nil_append, mj_b0, Bool.true_eq_false]
/-! who ate it -/
def mm_asx (n set : Nat) (x : Nat × Bool) : Bool := decide (n ≤ x.1) || (set.testBit x.1 == x.2)
def mm_as (l : List (Nat × Bool)) (n set : Nat) : Bool := l.all (mm_asx n set)
def mm_ec (ρ : mm_Ro) (l : List (Nat × Bool)) (v set : Nat) : Bool := decide (mm_sum (mr_P ρ) set (mr_n ρ) = v) && mm_as l (mr_n ρ) set
def mm_ea (ρ : mm_Ro) (l : List (Nat × Bool)) (v : Nat) : Nat → Nat × Nat
  | 0 => (0, 2 ^ mr_n ρ - 1)
  | k + 1 => if mm_ec ρ l v k = true then ((mm_ea ρ l v k).1 + 1, (mm_ea ρ l v k).2 &&& k) else mm_ea ρ l v k
theorem mm_mask_at {b : Bool} {j : Nat} (hj : j < 6) : ∀ (l : List (Nat × Bool)) (m : Nat), m < 64 → (∀ x ∈ l, x.1 < 6) → (l.foldl (fun m x => if x.2 = b then mm_add m x.1 else m) m).testBit j = (m.testBit j || l.any (fun x => decide (x.1 = j) && (x.2 == b))) := by
  intro l
  induction l with
  | nil => intro m hm _; simp
  | cons x l ih =>
    intro m hm hl
    have hx := hl x List.mem_cons_self
    have hl' : ∀ y ∈ l, y.1 < 6 := fun y hy => hl y (List.mem_cons_of_mem _ hy)
    simp only [List.foldl_cons, List.any_cons]
    split
    · rename_i hb
      rw [ih _ (mm_add_lt m hm x.1 hx) hl', mm_add_at m hm x.1 hx j hj, hb]
      by_cases e : j = x.1
      · subst e; simp
      · have e' : x.1 ≠ j := fun z => e z.symm
        simp [e, e']
    · rename_i hb
      rw [ih _ hm hl']
      have : (x.2 == b) = false := by simpa using hb
      rw [this]
      simp
theorem mm_as_ok {l : List (Nat × Bool)} (hl : ∀ x ∈ l, x.1 < 6) {n set : Nat} (hn : n ≤ 6) (hs : set < 2 ^ n) : mm_as l n set = (decide (set &&& (mm_mask l true &&& (2 ^ n - 1)) = mm_mask l true &&& (2 ^ n - 1)) && decide (set &&& mm_mask l false = 0)) := by
  have hmt := mm_mask_lt (b := true) hl
  have hmf := mm_mask_lt (b := false) hl
  have hs64 := mm_64 hs hn
  have at' : ∀ b j, j < 6 → (mm_mask l b).testBit j = l.any (fun x => decide (x.1 = j) && (x.2 == b)) := fun b j hj => by
    rw [mm_mask, mm_mask_at hj l 0 (by omega) hl, Nat.zero_testBit, Bool.false_or]
  have hA : mm_mask l true &&& (2 ^ n - 1) < 64 := mm_and_lt hmt
  rw [Bool.eq_iff_iff, Bool.and_eq_true, decide_eq_true_eq, decide_eq_true_eq, mm_as, List.all_eq_true]
  constructor
  · intro H
    constructor
    · refine mm_ext _ (mm_and_lt hs64) _ hA (fun j hj => ?_)
      rw [Nat.testBit_and]
      cases hq : (mm_mask l true &&& (2 ^ n - 1)).testBit j
      · rw [Bool.and_false]
      · rw [Nat.testBit_and, Bool.and_eq_true, at' true j hj, mm_all_at, decide_eq_true_eq, List.any_eq_true] at hq
        obtain ⟨⟨x, hx, hx2⟩, hjn⟩ := hq
        rw [Bool.and_eq_true, decide_eq_true_eq] at hx2
        have := H x hx
        simp only [mm_asx, Bool.or_eq_true, decide_eq_true_eq, beq_iff_eq] at this
        have hxb : x.2 = true := by simpa using hx2.2
        rw [hx2.1, hxb] at this
        rw [Bool.and_true]
        exact this.resolve_left (by omega)
    · refine mm_ext _ (mm_and_lt hs64) 0 (by omega) (fun j hj => ?_)
      rw [Nat.testBit_and, Nat.zero_testBit]
      cases hq : (mm_mask l false).testBit j
      · rw [Bool.and_false]
      · rw [at' false j hj, List.any_eq_true] at hq
        obtain ⟨x, hx, hx2⟩ := hq
        rw [Bool.and_eq_true, decide_eq_true_eq] at hx2
        have := H x hx
        simp only [mm_asx, Bool.or_eq_true, decide_eq_true_eq, beq_iff_eq] at this
        have hxb : x.2 = false := by simpa using hx2.2
        rw [hx2.1, hxb] at this
        rw [Bool.and_true]
        rcases this with z | z
        · exact mm_hi hs z
        · exact z
  · rintro ⟨H1, H2⟩ x hx
    have hx6 := hl x hx
    simp only [mm_asx, Bool.or_eq_true, decide_eq_true_eq, beq_iff_eq]
    by_cases hxn : n ≤ x.1
    · exact Or.inl hxn
    · refine Or.inr ?_
      have hmem : ∀ b, x.2 = b → (mm_mask l b).testBit x.1 = true := fun b hb => by
        rw [at' b x.1 hx6, List.any_eq_true]
        exact ⟨x, hx, by simp [hb]⟩
      cases hb : x.2
      · have h1 := congrArg (fun z => z.testBit x.1) H2
        simp only [Nat.testBit_and, hmem false hb, Nat.zero_testBit, Bool.and_true] at h1
        exact h1
      · have h1 := congrArg (fun z => z.testBit x.1) H1
        simp only [Nat.testBit_and, hmem true hb, mm_all_at, show x.1 < n by omega, decide_true, Bool.and_true] at h1
        exact h1
end
