/-! COMMANDS: the boat, the command -/
section
variable {S : mm_St} {h h' : mj_H}
theorem mh_JR.bo (H : mh_JR S h) (F : mh_F mh_ln h h') (T : mh_any h' 80 128) (L : mh_any h' 81 128) : mh_JR S h' := by
  have no : ∀ k, k ≠ 80 → k ≠ 81 → ¬ mh_ln k := fun k a b z => by rcases z with z | z <;> omega
  obtain ⟨h1, h2, ⟨h3, h4, h5⟩, ⟨h6, h7, h8⟩, h9, h10, h11, h12, h13, h14, h15, h16, h17⟩ := H
  exact ⟨h1.kp F (no _ (by omega) (by omega)), h2.kp F (no _ (by omega) (by omega)), ⟨h3.kp F (no _ (by omega) (by omega)), h4.kp F (no _ (by omega) (by omega)), h5.kp F (no _ (by omega) (by omega))⟩, ⟨h6.kp F (no _ (by omega) (by omega)), h7.kp F (no _ (by omega) (by omega)), h8.kp F (no _ (by omega) (by omega))⟩, h9.kp F (no _ (by omega) (by omega)), h10.kp F (no _ (by omega) (by omega)), h11.kp F (no _ (by omega) (by omega)), h12.kp F (no _ (by omega) (by omega)), (F.2 77 (no _ (by omega) (by omega))).trans h13, h14.kp F (no _ (by omega) (by omega)) (no _ (by omega) (by omega)), T, L, h17.kp F (no _ (by omega) (by omega))⟩
theorem mh_JC.fe (H : mh_JC S h) (F : mh_F (mh_A 56 58) h h') (B : mh_Fe0 h' 56) : mh_JC S h' := by
  have no : ∀ k, ¬ (56 ≤ k ∧ k ≤ 58) → ¬ mh_A 56 58 k := fun k z => z
  obtain ⟨h1, ⟨pl, sp, h2⟩, h3, ⟨ρ', h4⟩, h5, ⟨μ', h6⟩, h7, h8, h9, h10, ⟨f, h11⟩, h12, h13⟩ := H
  exact ⟨(F.2 1 (no _ (by omega))).trans h1, ⟨pl, sp, h2.kp F (no _ (by omega)) (no _ (by omega))⟩, h3.kp F (fun k a b => no _ (by omega)), ⟨ρ', h4.kp F (fun k a b => no _ (by omega))⟩, h5.kp F (no _ (by omega)) (no _ (by omega)), ⟨μ', h6.kp F (no _ (by omega)) (no _ (by omega))⟩, h7.kp F (fun k a b => no _ (by omega)), (F.2 54 (no _ (by omega))).trans h8, (F.2 55 (no _ (by omega))).trans h9, B, ⟨f, h11.kp F (no _ (by omega)) (no _ (by omega))⟩, h12.kp F (no _ (by omega)) (no _ (by omega)), h13.kp F (no _ (by omega)) (no _ (by omega))⟩
/-- the reference's boat -/
theorem mt_153 (w : mw_S S) (H : mh_JR S h) {k : Nat} (hk1 : 1 ≤ k) (hk : k < 4) : ∃ h', mj_C 153 [.ref 65, .int (nI k)] h = some (some (.int (if ma_b (ms_m S) = 0 then nI 0 else mh_tv (mm_bfs (ms_r S) k (ma_b (ms_m S)) 128).1 1)), h') ∧ mh_JR S h' ∧ mh_F mh_ln h h' := by
  have wr := w.2.2.1
  have wm := w.2.2.2.1
  have hn := wr.1
  have hb := mw_b wr wm
  have hRR := H.rr
  have hrb := hRR.1
  have hpg := H.pg
  obtain ⟨T0, t0⟩ := H.2.2.2.2.2.2.2.2.2.2.1
  obtain ⟨L0, l0⟩ := H.2.2.2.2.2.2.2.2.2.2.2.1
  have ein : decide (nI 1 ≤ nI k ∧ nI k ≤ nI 3) = true := decide_eq_true ⟨(mn_le (by omega) (by omega)).mpr hk1, (mn_le (by omega) (by omega)).mpr (by omega)⟩
  generalize hband : ma_b (ms_m S) = band at hb
  have g1 : mj_gi h 73 (nI 1) = some (nI band) := by rw [← hband]; exact mp_1 hpg
  have no : ∀ k, k ≠ 80 → k ≠ 81 → ¬ mh_ln k := fun k a b z => by rcases z with z | z <;> omega
  by_cases hb0 : band = 0
  · refine ⟨h, ?_, H, mh_F.rf⟩
    rw [mc_153]
    simp only [↓reduceIte, ↓mq_153_0, ↓mq_153_1, ↓mq_153_2, ↓mq_153_5, ↓mq_153_6, ↓mq_153_7, ↓mq_153_8, ↓mq_153_11, ↓mq_153_14, ↓mq_153_17, ↓mq_153_19, ↓mq_153_20, ↓mq_153_21, ↓mq_153_24, ↓mq_153_25, ↓mq_153_26, ↓mq_153_27, ↓mq_153_28, ↓mq_153_31, ↓mq_153_32, ↓mq_153_33, ↓mq_153_34, ↓mq_153_35, ↓mq_153_36, ↓mq_153_39, ↓mq_153_42, ↓mq_153_43, ↓mq_153_46, ↓mq_153_47, ↓mq_153_50, ↓mq_153_51, ↓mq_153_54, ↓mq_153_57, ↓mq_153_58, ↓mq_153_59, ↓mq_153_60, ↓mq_153_62, ↓mq_153_63, ↓mq_153_66, ↓mq_153_67, ↓mq_153_68, ↓mq_153_69, ↓mq_153_70, ↓mq_153_73, ↓mq_153_74, ↓mq_153_75, ↓mq_153_76, ↓mq_153_77, ↓mq_153_79, ↓mq_153_82, ↓mq_153_83, ↓mq_153_86, ↓mq_153_87, ↓mq_153_88, ↓mq_153_90, ↓mq_153_93, ↓mq_153_95, ↓mq_153_97, ↓mq_153_98, ↓mq_153_100, ↓mq_153_102, ↓mq_153_104, ↓mq_153_107, ↓mq_153_109, ↓mq_153_112, ↓mq_153_113, ↓mq_153_115, ↓mq_153_116, ↓mq_153_117, ↓mq_153_118, ↓mq_153_120, ↓mq_153_121, ↓mq_153_123, ↓mq_153_125, ↓mq_153_127, ↓mq_153_130, ↓mq_153_132, ↓mq_153_134, ↓mq_153_137, ↓mq_153_139, ↓mq_153_141, ↓mq_153_143, ↓mq_153_144, ↓mq_153_145, ↓mq_153_146, ↓mq_153_147, ↓mq_153_150, ↓mq_153_152, ↓mq_153_154, ↓mq_153_155, ↓mq_153_157, ↓mq_153_159, ↓mq_153_161, ↓mq_153_162, ↓mq_153_163, ↓mq_153_164, ↓mq_153_167, ↓mq_153_169, ↓mq_153_172, ↓mq_153_173, ↓mq_153_176, ↓mq_153_177, ↓mq_153_179, ↓mq_153_181, ↓mq_153_182, ↓mq_153_183, ↓mq_153_184, ↓mq_153_187, ↓mq_153_190, ↓mq_153_191, ↓mq_153_194, ↓mq_153_196, ↓mq_153_197, ↓mq_153_200, ↓mq_153_203, ↓mq_153_204, ↓mq_153_207, ↓mq_153_209, ↓mq_153_210, ↓mq_153_213, ↓mq_153_215, ↓mq_153_216, ↓mq_153_217, ↓mq_153_218, ↓mq_153_219, ↓mq_153_220, ↓mq_153_223, ↓mq_153_225, ↓mq_153_227, ↓mq_153_228, ↓mq_153_231, ↓mq_153_234, ↓mq_153_237, ↓mq_153_240, ↓mq_153_241, ↓mq_153_244, ↓mq_153_246, ↓mq_153_247, ↓mq_153_250, ↓mq_153_253, ↓mq_153_255, ↓mq_153_258, ↓mq_153_259, ↓mq_153_262, ↓mq_153_264, ↓mq_153_265, ↓mj_bs (mr_th hrb), ↓mj_bs (mt_103_1_3), ein, Option.toList, List.cons_append, List.nil_append, mj_b0, Bool.true_eq_false, ↓mj_bs (mr_b15 hrb), ↓mj_bs (g1), mt_eq hb0, hb0]
  · have loop1 : ∀ d j hj Tj, j + d = 128 → mh_ar hj 80 128 Tj → (∀ i, i < j → Tj i = nI 9999) → mh_F (fun k => k = 80) h hj → ∃ h1, mj_R 153 (35, [.ref 65, .int (nI k), .int (nI band), .int (nI j), .null, .null, .null, .null, .null, .null], [], hj) = mj_R 153 (57, [.ref 65, .int (nI k), .int (nI band), .int (nI 128), .null, .null, .null, .null, .null, .null], [], h1) ∧ mh_ar h1 80 128 (fun _ => nI 9999) ∧ mh_F (fun k => k = 80) h h1 := by
      intro d
      induction d with
      | zero =>
        intro j hj Tj hjd tt hall Fj
        obtain rfl : j = 128 := by omega
        refine ⟨hj, ?_, tt.cg hall, Fj⟩
        simp only [↓reduceIte, ↓mq_153_0, ↓mq_153_1, ↓mq_153_2, ↓mq_153_5, ↓mq_153_6, ↓mq_153_7, ↓mq_153_8, ↓mq_153_11, ↓mq_153_14, ↓mq_153_17, ↓mq_153_19, ↓mq_153_20, ↓mq_153_21, ↓mq_153_24, ↓mq_153_25, ↓mq_153_26, ↓mq_153_27, ↓mq_153_28, ↓mq_153_31, ↓mq_153_32, ↓mq_153_33, ↓mq_153_34, ↓mq_153_35, ↓mq_153_36, ↓mq_153_39, ↓mq_153_42, ↓mq_153_43, ↓mq_153_46, ↓mq_153_47, ↓mq_153_50, ↓mq_153_51, ↓mq_153_54, ↓mq_153_58, ↓mq_153_59, ↓mq_153_60, ↓mq_153_62, ↓mq_153_63, ↓mq_153_66, ↓mq_153_67, ↓mq_153_68, ↓mq_153_69, ↓mq_153_70, ↓mq_153_73, ↓mq_153_74, ↓mq_153_75, ↓mq_153_76, ↓mq_153_77, ↓mq_153_79, ↓mq_153_82, ↓mq_153_83, ↓mq_153_86, ↓mq_153_87, ↓mq_153_88, ↓mq_153_90, ↓mq_153_93, ↓mq_153_95, ↓mq_153_97, ↓mq_153_98, ↓mq_153_100, ↓mq_153_102, ↓mq_153_104, ↓mq_153_107, ↓mq_153_109, ↓mq_153_112, ↓mq_153_113, ↓mq_153_115, ↓mq_153_116, ↓mq_153_117, ↓mq_153_118, ↓mq_153_120, ↓mq_153_121, ↓mq_153_123, ↓mq_153_125, ↓mq_153_127, ↓mq_153_130, ↓mq_153_132, ↓mq_153_134, ↓mq_153_137, ↓mq_153_139, ↓mq_153_141, ↓mq_153_143, ↓mq_153_144, ↓mq_153_145, ↓mq_153_146, ↓mq_153_147, ↓mq_153_150, ↓mq_153_152, ↓mq_153_154, ↓mq_153_155, ↓mq_153_157, ↓mq_153_159, ↓mq_153_161, ↓mq_153_162, ↓mq_153_163, ↓mq_153_164, ↓mq_153_167, ↓mq_153_169, ↓mq_153_172, ↓mq_153_173, ↓mq_153_176, ↓mq_153_177, ↓mq_153_179, ↓mq_153_181, ↓mq_153_182, ↓mq_153_183, ↓mq_153_184, ↓mq_153_187, ↓mq_153_190, ↓mq_153_191, ↓mq_153_194, ↓mq_153_196, ↓mq_153_197, ↓mq_153_200, ↓mq_153_203, ↓mq_153_204, ↓mq_153_207, ↓mq_153_209, ↓mq_153_210, ↓mq_153_213, ↓mq_153_215, ↓mq_153_216, ↓mq_153_217, ↓mq_153_218, ↓mq_153_219, ↓mq_153_220, ↓mq_153_223, ↓mq_153_225, ↓mq_153_227, ↓mq_153_228, ↓mq_153_231, ↓mq_153_234, ↓mq_153_237, ↓mq_153_240, ↓mq_153_241, ↓mq_153_244, ↓mq_153_246, ↓mq_153_247, ↓mq_153_250, ↓mq_153_253, ↓mq_153_255, ↓mq_153_258, ↓mq_153_259, ↓mq_153_262, ↓mq_153_264, ↓mq_153_265, mt_le (Nat.le_refl 128)]
      | succ d ih =>
        intro j hj Tj hjd tt hall Fj
        have oj := hrb.kp Fj (by omega)
        obtain ⟨h1, e1, t1, F1⟩ := tt.pt (show j < 128 by omega) (by omega) (nI 9999)
        obtain ⟨h2, r1, r2, r3⟩ := ih (j + 1) h1 _ (by omega) t1 (fun i hi => by
          by_cases e : i = j
          · subst e; exact mh_u_at
          · rw [mh_u_ne e]; exact hall i (by omega)) (Fj.tt F1)
        refine ⟨h2, ?_, r2, r3⟩
        rw [mq_153_35]
        simp only [↓reduceIte, ↓mq_153_0, ↓mq_153_1, ↓mq_153_2, ↓mq_153_5, ↓mq_153_6, ↓mq_153_7, ↓mq_153_8, ↓mq_153_11, ↓mq_153_14, ↓mq_153_17, ↓mq_153_19, ↓mq_153_20, ↓mq_153_21, ↓mq_153_24, ↓mq_153_25, ↓mq_153_26, ↓mq_153_27, ↓mq_153_28, ↓mq_153_31, ↓mq_153_32, ↓mq_153_33, ↓mq_153_34, ↓mq_153_36, ↓mq_153_39, ↓mq_153_42, ↓mq_153_43, ↓mq_153_46, ↓mq_153_47, ↓mq_153_50, ↓mq_153_51, ↓mq_153_54, ↓mq_153_58, ↓mq_153_59, ↓mq_153_60, ↓mq_153_62, ↓mq_153_63, ↓mq_153_66, ↓mq_153_67, ↓mq_153_68, ↓mq_153_69, ↓mq_153_70, ↓mq_153_73, ↓mq_153_74, ↓mq_153_75, ↓mq_153_76, ↓mq_153_77, ↓mq_153_79, ↓mq_153_82, ↓mq_153_83, ↓mq_153_86, ↓mq_153_87, ↓mq_153_88, ↓mq_153_90, ↓mq_153_93, ↓mq_153_95, ↓mq_153_97, ↓mq_153_98, ↓mq_153_100, ↓mq_153_102, ↓mq_153_104, ↓mq_153_107, ↓mq_153_109, ↓mq_153_112, ↓mq_153_113, ↓mq_153_115, ↓mq_153_116, ↓mq_153_117, ↓mq_153_118, ↓mq_153_120, ↓mq_153_121, ↓mq_153_123, ↓mq_153_125, ↓mq_153_127, ↓mq_153_130, ↓mq_153_132, ↓mq_153_134, ↓mq_153_137, ↓mq_153_139, ↓mq_153_141, ↓mq_153_143, ↓mq_153_144, ↓mq_153_145, ↓mq_153_146, ↓mq_153_147, ↓mq_153_150, ↓mq_153_152, ↓mq_153_154, ↓mq_153_155, ↓mq_153_157, ↓mq_153_159, ↓mq_153_161, ↓mq_153_162, ↓mq_153_163, ↓mq_153_164, ↓mq_153_167, ↓mq_153_169, ↓mq_153_172, ↓mq_153_173, ↓mq_153_176, ↓mq_153_177, ↓mq_153_179, ↓mq_153_181, ↓mq_153_182, ↓mq_153_183, ↓mq_153_184, ↓mq_153_187, ↓mq_153_190, ↓mq_153_191, ↓mq_153_194, ↓mq_153_196, ↓mq_153_197, ↓mq_153_200, ↓mq_153_203, ↓mq_153_204, ↓mq_153_207, ↓mq_153_209, ↓mq_153_210, ↓mq_153_213, ↓mq_153_215, ↓mq_153_216, ↓mq_153_217, ↓mq_153_218, ↓mq_153_219, ↓mq_153_220, ↓mq_153_223, ↓mq_153_225, ↓mq_153_227, ↓mq_153_228, ↓mq_153_231, ↓mq_153_234, ↓mq_153_237, ↓mq_153_240, ↓mq_153_241, ↓mq_153_244, ↓mq_153_246, ↓mq_153_247, ↓mq_153_250, ↓mq_153_253, ↓mq_153_255, ↓mq_153_258, ↓mq_153_259, ↓mq_153_262, ↓mq_153_264, ↓mq_153_265, mf_le (show j < 128 by omega), ↓mj_bs (mr_b25 oj), ↓mj_bs (e1), mn_add]
        exact r1
    obtain ⟨h1, r1, t1, F1⟩ := loop1 128 0 h T0 (by omega) t0 (fun i hi => by omega) mh_F.rf
    have F1' : mh_F mh_ln h h1 := F1.mo (fun k z => Or.inl z)
    have hrb1 := hrb.kp F1' (no _ (by omega) (by omega))
    obtain ⟨h2, e2, l2, F2⟩ := (l0.kp F1 (by omega)).pt (show 0 < 128 by omega) (by omega) (nI band)
    have F2' : mh_F mh_ln h h2 := F1'.tt (F2.mo (fun k z => Or.inr z))
    have hrb2 := hrb.kp F2' (no _ (by omega) (by omega))
    obtain ⟨h3, e3, t3, F3⟩ := (t1.kp F2 (by omega)).pt (show band < 128 by omega) (by omega) (nI 0)
    have F3' : mh_F mh_ln h h3 := F2'.tt (F3.mo (fun k z => Or.inl z))
    have hb2 : mm_bfs (ms_r S) k band 0 = (mh_u (fun _ => none) (2 * band) (some 0), [2 * band]) := by simp [mm_bfs, mm_ent]
    have hph0 : mm_ph (2 * band) = band := by unfold mm_ph; omega
    have B3 : mh_Bf h3 (mm_bfs (ms_r S) k band 0) := by
      rw [hb2]
      refine ⟨⟨_, t3, fun s hs => ?_⟩, _, l2.kp F3 (by omega), fun i s hi => ?_⟩
      · by_cases e : s = 2 * band
        · subst e; rw [hph0, mh_u_at]; simp [mh_tr, mh_u_at]
        · rw [mh_u_ne (fun z => e (mm_ph_inj hs (by omega) (by rw [hph0]; exact z)))]; simp [mh_tr, mh_u_ne e]
      · have hi' : ([2 * band] : List Nat)[i]? = some s := hi
        have hi0 : i < 1 := (List.getElem?_eq_some_iff.mp hi').1
        have : i = 0 := by omega
        subst this
        cases hi'
        rw [mh_u_at, hph0]
    have loop2 : ∀ d i hi l5 l6 l7 l8 l9, i + d = 128 → mh_Bf hi (mm_bfs (ms_r S) k band i) → mh_F mh_ln h hi → ∃ h', mj_R 153 (76, [.ref 65, .int (nI k), .int (nI band), .int (nI i), .int (nI (mm_bfs (ms_r S) k band i).2.length), l5, l6, l7, l8, l9], [], hi) = some (some (.int (mh_tv (mm_bfs (ms_r S) k band 128).1 1)), h') ∧ mh_JR S h' ∧ mh_F mh_ln h h' := by
      intro d
      induction d with
      | zero =>
        intro i hi l5 l6 l7 l8 l9 hid Bi Fi
        obtain rfl : i = 128 := by omega
        have ok := mm_bfs_ok (ms_r S) k hb 128
        have hlen : (mm_bfs (ms_r S) k band 128).2.length ≤ 128 := by have := ok.1.1; omega
        have hri := hrb.kp Fi (no _ (by omega) (by omega))
        have g64 : mj_gi hi 80 (nI 64) = some (mh_tr (mm_bfs (ms_r S) k band 128).1 1) := Bi.gt (show 1 < 128 by omega)
        obtain ⟨⟨T, tT, -⟩, L, tL, -⟩ := Bi
        refine ⟨hi, ?_, H.bo Fi ⟨T, tT⟩ ⟨L, tL⟩, Fi⟩
        cases hc : (mm_bfs (ms_r S) k band 128).1 1 with
        | none =>
          have g64' : mj_gi hi 80 (nI 64) = some (nI 9999) := by rw [g64]; simp [mh_tr, hc]
          simp only [↓reduceIte, ↓mq_153_0, ↓mq_153_1, ↓mq_153_2, ↓mq_153_5, ↓mq_153_6, ↓mq_153_7, ↓mq_153_8, ↓mq_153_11, ↓mq_153_14, ↓mq_153_17, ↓mq_153_19, ↓mq_153_20, ↓mq_153_21, ↓mq_153_24, ↓mq_153_25, ↓mq_153_26, ↓mq_153_27, ↓mq_153_28, ↓mq_153_31, ↓mq_153_32, ↓mq_153_33, ↓mq_153_34, ↓mq_153_35, ↓mq_153_36, ↓mq_153_39, ↓mq_153_42, ↓mq_153_43, ↓mq_153_46, ↓mq_153_47, ↓mq_153_50, ↓mq_153_51, ↓mq_153_54, ↓mq_153_57, ↓mq_153_58, ↓mq_153_59, ↓mq_153_60, ↓mq_153_62, ↓mq_153_63, ↓mq_153_66, ↓mq_153_67, ↓mq_153_68, ↓mq_153_69, ↓mq_153_70, ↓mq_153_73, ↓mq_153_74, ↓mq_153_75, ↓mq_153_76, ↓mq_153_77, ↓mq_153_79, ↓mq_153_82, ↓mq_153_83, ↓mq_153_86, ↓mq_153_87, ↓mq_153_88, ↓mq_153_90, ↓mq_153_93, ↓mq_153_95, ↓mq_153_97, ↓mq_153_98, ↓mq_153_100, ↓mq_153_102, ↓mq_153_104, ↓mq_153_107, ↓mq_153_109, ↓mq_153_112, ↓mq_153_113, ↓mq_153_115, ↓mq_153_116, ↓mq_153_117, ↓mq_153_118, ↓mq_153_120, ↓mq_153_121, ↓mq_153_123, ↓mq_153_125, ↓mq_153_127, ↓mq_153_130, ↓mq_153_132, ↓mq_153_134, ↓mq_153_137, ↓mq_153_139, ↓mq_153_141, ↓mq_153_143, ↓mq_153_144, ↓mq_153_145, ↓mq_153_146, ↓mq_153_147, ↓mq_153_150, ↓mq_153_152, ↓mq_153_154, ↓mq_153_155, ↓mq_153_157, ↓mq_153_159, ↓mq_153_161, ↓mq_153_162, ↓mq_153_163, ↓mq_153_164, ↓mq_153_167, ↓mq_153_169, ↓mq_153_172, ↓mq_153_173, ↓mq_153_176, ↓mq_153_177, ↓mq_153_179, ↓mq_153_181, ↓mq_153_182, ↓mq_153_183, ↓mq_153_184, ↓mq_153_187, ↓mq_153_190, ↓mq_153_191, ↓mq_153_194, ↓mq_153_196, ↓mq_153_197, ↓mq_153_200, ↓mq_153_203, ↓mq_153_204, ↓mq_153_207, ↓mq_153_209, ↓mq_153_210, ↓mq_153_213, ↓mq_153_215, ↓mq_153_216, ↓mq_153_217, ↓mq_153_218, ↓mq_153_219, ↓mq_153_220, ↓mq_153_223, ↓mq_153_225, ↓mq_153_227, ↓mq_153_228, ↓mq_153_231, ↓mq_153_234, ↓mq_153_237, ↓mq_153_240, ↓mq_153_241, ↓mq_153_244, ↓mq_153_246, ↓mq_153_247, ↓mq_153_250, ↓mq_153_253, ↓mq_153_255, ↓mq_153_258, ↓mq_153_259, ↓mq_153_262, ↓mq_153_264, ↓mq_153_265, mt_le hlen, ↓mj_bs (mr_b25 hri), ↓mj_bs (g64')]
          simp [mh_tv, hc]
        | some c =>
          have g64' : mj_gi hi 80 (nI 64) = some (nI c) := by rw [g64]; simp [mh_tr, hc]
          have hc9 := ok.2 1 c hc
          simp only [↓reduceIte, ↓mq_153_0, ↓mq_153_1, ↓mq_153_2, ↓mq_153_5, ↓mq_153_6, ↓mq_153_7, ↓mq_153_8, ↓mq_153_11, ↓mq_153_14, ↓mq_153_17, ↓mq_153_19, ↓mq_153_20, ↓mq_153_21, ↓mq_153_24, ↓mq_153_25, ↓mq_153_26, ↓mq_153_27, ↓mq_153_28, ↓mq_153_31, ↓mq_153_32, ↓mq_153_33, ↓mq_153_34, ↓mq_153_35, ↓mq_153_36, ↓mq_153_39, ↓mq_153_42, ↓mq_153_43, ↓mq_153_46, ↓mq_153_47, ↓mq_153_50, ↓mq_153_51, ↓mq_153_54, ↓mq_153_57, ↓mq_153_58, ↓mq_153_59, ↓mq_153_60, ↓mq_153_62, ↓mq_153_63, ↓mq_153_66, ↓mq_153_67, ↓mq_153_68, ↓mq_153_69, ↓mq_153_70, ↓mq_153_73, ↓mq_153_74, ↓mq_153_75, ↓mq_153_76, ↓mq_153_77, ↓mq_153_79, ↓mq_153_82, ↓mq_153_83, ↓mq_153_86, ↓mq_153_87, ↓mq_153_88, ↓mq_153_90, ↓mq_153_93, ↓mq_153_95, ↓mq_153_97, ↓mq_153_98, ↓mq_153_100, ↓mq_153_102, ↓mq_153_104, ↓mq_153_107, ↓mq_153_109, ↓mq_153_112, ↓mq_153_113, ↓mq_153_115, ↓mq_153_116, ↓mq_153_117, ↓mq_153_118, ↓mq_153_120, ↓mq_153_121, ↓mq_153_123, ↓mq_153_125, ↓mq_153_127, ↓mq_153_130, ↓mq_153_132, ↓mq_153_134, ↓mq_153_137, ↓mq_153_139, ↓mq_153_141, ↓mq_153_143, ↓mq_153_144, ↓mq_153_145, ↓mq_153_146, ↓mq_153_147, ↓mq_153_150, ↓mq_153_152, ↓mq_153_154, ↓mq_153_155, ↓mq_153_157, ↓mq_153_159, ↓mq_153_161, ↓mq_153_162, ↓mq_153_163, ↓mq_153_164, ↓mq_153_167, ↓mq_153_169, ↓mq_153_172, ↓mq_153_173, ↓mq_153_176, ↓mq_153_177, ↓mq_153_179, ↓mq_153_181, ↓mq_153_182, ↓mq_153_183, ↓mq_153_184, ↓mq_153_187, ↓mq_153_190, ↓mq_153_191, ↓mq_153_194, ↓mq_153_196, ↓mq_153_197, ↓mq_153_200, ↓mq_153_203, ↓mq_153_204, ↓mq_153_207, ↓mq_153_209, ↓mq_153_210, ↓mq_153_213, ↓mq_153_215, ↓mq_153_216, ↓mq_153_217, ↓mq_153_218, ↓mq_153_219, ↓mq_153_220, ↓mq_153_223, ↓mq_153_225, ↓mq_153_227, ↓mq_153_228, ↓mq_153_231, ↓mq_153_234, ↓mq_153_237, ↓mq_153_240, ↓mq_153_241, ↓mq_153_244, ↓mq_153_246, ↓mq_153_247, ↓mq_153_250, ↓mq_153_253, ↓mq_153_255, ↓mq_153_258, ↓mq_153_259, ↓mq_153_262, ↓mq_153_264, ↓mq_153_265, mt_le hlen, ↓mj_bs (mr_b25 hri), ↓mj_bs (g64'), mf_eq (show c ≠ 9999 by omega)]
          simp [mh_tv, hc]
      | succ d ih =>
        intro i hi l5 l6 l7 l8 l9 hid Bi Fi
        have ok := mm_bfs_ok (ms_r S) k hb i
        have hlen : (mm_bfs (ms_r S) k band i).2.length ≤ 128 := by have := ok.1.1; omega
        have hRi := hRR.kp Fi (no _ (by omega) (by omega)) (no _ (by omega) (by omega)) (no _ (by omega) (by omega)) (no _ (by omega) (by omega))
        rw [mq_153_76]
        by_cases hil : i < (mm_bfs (ms_r S) k band i).2.length
        · have hq : (mm_bfs (ms_r S) k band i).2[i]? = some ((mm_bfs (ms_r S) k band i).2[i]) := List.getElem?_eq_getElem hil
          generalize (mm_bfs (ms_r S) k band i).2[i] = s at hq
          have hmem := ok.1.2 s (List.mem_of_getElem? hq)
          have gl : mj_gi hi 81 (nI i) = some (nI (mm_ph s)) := by
            obtain ⟨-, L, tL, tq⟩ := Bi
            rw [tL.gt (show i < 128 by omega) (by omega), tq i s hq]
          have hsp := mm_ph_lt hmem.1
          cases hc : (mm_bfs (ms_r S) k band i).1 s with
          | none => exact absurd hc hmem.2
          | some c =>
            have hnx : mm_bfs (ms_r S) k band (i + 1) = mm_row (ms_r S) k band s (mm_bfs (ms_r S) k band i) := by rw [mm_bfs, hq]
            obtain ⟨h6, m8, m9, e6, B6, F6⟩ := mt_153r wr hRi Bi ok.1 (fun x c h => by have := ok.2 x c h; omega) hb hmem.1 hc hk (i := i + 1) l9
            obtain ⟨h', s1, s2, s3⟩ := ih (i + 1) h6 (.int (nI (mm_ph s))) (.int (nI (s / 2))) (.int (nI (mm_bank band s))) m8 m9 (by omega) (by rw [hnx]; exact B6) (Fi.tt F6)
            refine ⟨h', ?_, s2, s3⟩
            rw [hnx] at s1
            rw [← s1, ← e6]
            have hrem := mn_rem (a := mm_ph s) (b := 64) (by omega) (by omega)
            have hmod : mm_ph s % 64 = s / 2 := by have := hmem.1; unfold mm_ph; omega
            by_cases hsd : s % 2 = 0
            · have hph : mm_ph s < 64 := by unfold mm_ph; omega
              have hbe : mm_bank band s = s / 2 := by simp [mm_bank, hsd]
              rw [hbe]
              simp only [↓reduceIte, ↓mq_153_0, ↓mq_153_1, ↓mq_153_2, ↓mq_153_5, ↓mq_153_6, ↓mq_153_7, ↓mq_153_8, ↓mq_153_11, ↓mq_153_14, ↓mq_153_17, ↓mq_153_19, ↓mq_153_20, ↓mq_153_21, ↓mq_153_24, ↓mq_153_25, ↓mq_153_26, ↓mq_153_27, ↓mq_153_28, ↓mq_153_31, ↓mq_153_32, ↓mq_153_33, ↓mq_153_34, ↓mq_153_35, ↓mq_153_36, ↓mq_153_39, ↓mq_153_42, ↓mq_153_43, ↓mq_153_46, ↓mq_153_47, ↓mq_153_50, ↓mq_153_51, ↓mq_153_54, ↓mq_153_57, ↓mq_153_58, ↓mq_153_59, ↓mq_153_60, ↓mq_153_62, ↓mq_153_63, ↓mq_153_66, ↓mq_153_67, ↓mq_153_68, ↓mq_153_69, ↓mq_153_70, ↓mq_153_73, ↓mq_153_74, ↓mq_153_75, ↓mq_153_77, ↓mq_153_79, ↓mq_153_82, ↓mq_153_83, ↓mq_153_86, ↓mq_153_87, ↓mq_153_88, ↓mq_153_90, ↓mq_153_93, ↓mq_153_95, ↓mq_153_97, ↓mq_153_98, ↓mq_153_100, ↓mq_153_102, ↓mq_153_104, ↓mq_153_107, ↓mq_153_109, ↓mq_153_112, ↓mq_153_113, ↓mq_153_115, ↓mq_153_116, ↓mq_153_117, ↓mq_153_118, ↓mq_153_120, ↓mq_153_121, ↓mq_153_125, ↓mq_153_127, ↓mq_153_130, ↓mq_153_132, ↓mq_153_134, ↓mq_153_137, ↓mq_153_139, ↓mq_153_141, ↓mq_153_143, ↓mq_153_144, ↓mq_153_145, ↓mq_153_146, ↓mq_153_147, ↓mq_153_150, ↓mq_153_152, ↓mq_153_154, ↓mq_153_155, ↓mq_153_157, ↓mq_153_159, ↓mq_153_161, ↓mq_153_162, ↓mq_153_163, ↓mq_153_164, ↓mq_153_167, ↓mq_153_169, ↓mq_153_172, ↓mq_153_173, ↓mq_153_176, ↓mq_153_177, ↓mq_153_179, ↓mq_153_181, ↓mq_153_182, ↓mq_153_183, ↓mq_153_184, ↓mq_153_187, ↓mq_153_190, ↓mq_153_191, ↓mq_153_194, ↓mq_153_196, ↓mq_153_197, ↓mq_153_200, ↓mq_153_203, ↓mq_153_204, ↓mq_153_207, ↓mq_153_209, ↓mq_153_210, ↓mq_153_213, ↓mq_153_215, ↓mq_153_216, ↓mq_153_217, ↓mq_153_218, ↓mq_153_219, ↓mq_153_220, ↓mq_153_223, ↓mq_153_225, ↓mq_153_227, ↓mq_153_228, ↓mq_153_231, ↓mq_153_234, ↓mq_153_237, ↓mq_153_240, ↓mq_153_241, ↓mq_153_244, ↓mq_153_246, ↓mq_153_247, ↓mq_153_250, ↓mq_153_253, ↓mq_153_255, ↓mq_153_258, ↓mq_153_259, ↓mq_153_262, ↓mq_153_264, ↓mq_153_265, mf_le hil, ↓mj_bs (mr_b26 hRi.1), ↓mj_bs (gl), mn_add, show (nI 64 = 0) = False from by decide, hrem, hmod, mf_le hph]
            · have hph : 64 ≤ mm_ph s := by unfold mm_ph; omega
              have hbe : mm_bank band s = mm_dif band (s / 2) := by simp [mm_bank, hsd]
              rw [hbe]
              simp only [↓reduceIte, ↓mq_153_0, ↓mq_153_1, ↓mq_153_2, ↓mq_153_5, ↓mq_153_6, ↓mq_153_7, ↓mq_153_8, ↓mq_153_11, ↓mq_153_14, ↓mq_153_17, ↓mq_153_19, ↓mq_153_20, ↓mq_153_21, ↓mq_153_24, ↓mq_153_25, ↓mq_153_26, ↓mq_153_27, ↓mq_153_28, ↓mq_153_31, ↓mq_153_32, ↓mq_153_33, ↓mq_153_34, ↓mq_153_35, ↓mq_153_36, ↓mq_153_39, ↓mq_153_42, ↓mq_153_43, ↓mq_153_46, ↓mq_153_47, ↓mq_153_50, ↓mq_153_51, ↓mq_153_54, ↓mq_153_57, ↓mq_153_58, ↓mq_153_59, ↓mq_153_60, ↓mq_153_62, ↓mq_153_63, ↓mq_153_66, ↓mq_153_67, ↓mq_153_68, ↓mq_153_69, ↓mq_153_70, ↓mq_153_73, ↓mq_153_74, ↓mq_153_75, ↓mq_153_77, ↓mq_153_79, ↓mq_153_82, ↓mq_153_83, ↓mq_153_86, ↓mq_153_87, ↓mq_153_88, ↓mq_153_90, ↓mq_153_93, ↓mq_153_95, ↓mq_153_97, ↓mq_153_98, ↓mq_153_100, ↓mq_153_102, ↓mq_153_104, ↓mq_153_107, ↓mq_153_109, ↓mq_153_112, ↓mq_153_113, ↓mq_153_115, ↓mq_153_116, ↓mq_153_117, ↓mq_153_118, ↓mq_153_120, ↓mq_153_121, ↓mq_153_125, ↓mq_153_127, ↓mq_153_130, ↓mq_153_132, ↓mq_153_134, ↓mq_153_137, ↓mq_153_139, ↓mq_153_141, ↓mq_153_143, ↓mq_153_144, ↓mq_153_145, ↓mq_153_146, ↓mq_153_147, ↓mq_153_150, ↓mq_153_152, ↓mq_153_154, ↓mq_153_155, ↓mq_153_157, ↓mq_153_159, ↓mq_153_161, ↓mq_153_162, ↓mq_153_163, ↓mq_153_164, ↓mq_153_167, ↓mq_153_169, ↓mq_153_172, ↓mq_153_173, ↓mq_153_176, ↓mq_153_177, ↓mq_153_179, ↓mq_153_181, ↓mq_153_182, ↓mq_153_183, ↓mq_153_184, ↓mq_153_187, ↓mq_153_190, ↓mq_153_191, ↓mq_153_194, ↓mq_153_196, ↓mq_153_197, ↓mq_153_200, ↓mq_153_203, ↓mq_153_204, ↓mq_153_207, ↓mq_153_209, ↓mq_153_210, ↓mq_153_213, ↓mq_153_215, ↓mq_153_216, ↓mq_153_217, ↓mq_153_218, ↓mq_153_219, ↓mq_153_220, ↓mq_153_223, ↓mq_153_225, ↓mq_153_227, ↓mq_153_228, ↓mq_153_231, ↓mq_153_234, ↓mq_153_237, ↓mq_153_240, ↓mq_153_241, ↓mq_153_244, ↓mq_153_246, ↓mq_153_247, ↓mq_153_250, ↓mq_153_253, ↓mq_153_255, ↓mq_153_258, ↓mq_153_259, ↓mq_153_262, ↓mq_153_264, ↓mq_153_265, mf_le hil, ↓mj_bs (mr_b26 hRi.1), ↓mj_bs (gl), mn_add, show (nI 64 = 0) = False from by decide, hrem, hmod, mt_le hph (show mm_ph s < 2 ^ 31 by omega), mn_dif _ hb _ (show s / 2 < 64 by omega)]
        · have hend := mm_bfs_end (ρ := ms_r S) (k := k) (band := band) (i := i) (by omega) (128 - i)
          rw [show i + (128 - i) = 128 by omega] at hend
          rw [hend]
          have hri := hRi.1
          have g64 : mj_gi hi 80 (nI 64) = some (mh_tr (mm_bfs (ms_r S) k band i).1 1) := Bi.gt (show 1 < 128 by omega)
          obtain ⟨⟨T, tT, -⟩, L, tL, -⟩ := Bi
          refine ⟨hi, ?_, H.bo Fi ⟨T, tT⟩ ⟨L, tL⟩, Fi⟩
          cases hc : (mm_bfs (ms_r S) k band i).1 1 with
          | none =>
            have g64' : mj_gi hi 80 (nI 64) = some (nI 9999) := by rw [g64]; simp [mh_tr, hc]
            simp only [↓reduceIte, ↓mq_153_0, ↓mq_153_1, ↓mq_153_2, ↓mq_153_5, ↓mq_153_6, ↓mq_153_7, ↓mq_153_8, ↓mq_153_11, ↓mq_153_14, ↓mq_153_17, ↓mq_153_19, ↓mq_153_20, ↓mq_153_21, ↓mq_153_24, ↓mq_153_25, ↓mq_153_26, ↓mq_153_27, ↓mq_153_28, ↓mq_153_31, ↓mq_153_32, ↓mq_153_33, ↓mq_153_34, ↓mq_153_35, ↓mq_153_36, ↓mq_153_39, ↓mq_153_42, ↓mq_153_43, ↓mq_153_46, ↓mq_153_47, ↓mq_153_50, ↓mq_153_51, ↓mq_153_54, ↓mq_153_57, ↓mq_153_58, ↓mq_153_59, ↓mq_153_60, ↓mq_153_62, ↓mq_153_63, ↓mq_153_66, ↓mq_153_67, ↓mq_153_68, ↓mq_153_69, ↓mq_153_70, ↓mq_153_73, ↓mq_153_74, ↓mq_153_75, ↓mq_153_77, ↓mq_153_79, ↓mq_153_82, ↓mq_153_83, ↓mq_153_86, ↓mq_153_87, ↓mq_153_88, ↓mq_153_90, ↓mq_153_93, ↓mq_153_95, ↓mq_153_97, ↓mq_153_98, ↓mq_153_100, ↓mq_153_102, ↓mq_153_104, ↓mq_153_107, ↓mq_153_109, ↓mq_153_112, ↓mq_153_113, ↓mq_153_115, ↓mq_153_116, ↓mq_153_117, ↓mq_153_118, ↓mq_153_120, ↓mq_153_121, ↓mq_153_123, ↓mq_153_125, ↓mq_153_127, ↓mq_153_130, ↓mq_153_132, ↓mq_153_134, ↓mq_153_137, ↓mq_153_139, ↓mq_153_141, ↓mq_153_143, ↓mq_153_144, ↓mq_153_145, ↓mq_153_146, ↓mq_153_147, ↓mq_153_150, ↓mq_153_152, ↓mq_153_154, ↓mq_153_155, ↓mq_153_157, ↓mq_153_159, ↓mq_153_161, ↓mq_153_162, ↓mq_153_163, ↓mq_153_164, ↓mq_153_167, ↓mq_153_169, ↓mq_153_172, ↓mq_153_173, ↓mq_153_176, ↓mq_153_177, ↓mq_153_179, ↓mq_153_181, ↓mq_153_182, ↓mq_153_183, ↓mq_153_184, ↓mq_153_187, ↓mq_153_190, ↓mq_153_191, ↓mq_153_194, ↓mq_153_196, ↓mq_153_197, ↓mq_153_200, ↓mq_153_203, ↓mq_153_204, ↓mq_153_207, ↓mq_153_209, ↓mq_153_210, ↓mq_153_213, ↓mq_153_215, ↓mq_153_216, ↓mq_153_217, ↓mq_153_218, ↓mq_153_219, ↓mq_153_220, ↓mq_153_223, ↓mq_153_225, ↓mq_153_227, ↓mq_153_228, ↓mq_153_231, ↓mq_153_234, ↓mq_153_237, ↓mq_153_240, ↓mq_153_241, ↓mq_153_244, ↓mq_153_246, ↓mq_153_247, ↓mq_153_250, ↓mq_153_253, ↓mq_153_255, ↓mq_153_258, ↓mq_153_259, ↓mq_153_262, ↓mq_153_264, ↓mq_153_265, mt_le (Nat.le_of_not_lt hil) (show i < 2 ^ 31 by omega), ↓mj_bs (mr_b25 hri), ↓mj_bs (g64')]
            simp [mh_tv, hc]
          | some c =>
            have g64' : mj_gi hi 80 (nI 64) = some (nI c) := by rw [g64]; simp [mh_tr, hc]
            have hc9 := ok.2 1 c hc
            simp only [↓reduceIte, ↓mq_153_0, ↓mq_153_1, ↓mq_153_2, ↓mq_153_5, ↓mq_153_6, ↓mq_153_7, ↓mq_153_8, ↓mq_153_11, ↓mq_153_14, ↓mq_153_17, ↓mq_153_19, ↓mq_153_20, ↓mq_153_21, ↓mq_153_24, ↓mq_153_25, ↓mq_153_26, ↓mq_153_27, ↓mq_153_28, ↓mq_153_31, ↓mq_153_32, ↓mq_153_33, ↓mq_153_34, ↓mq_153_35, ↓mq_153_36, ↓mq_153_39, ↓mq_153_42, ↓mq_153_43, ↓mq_153_46, ↓mq_153_47, ↓mq_153_50, ↓mq_153_51, ↓mq_153_54, ↓mq_153_57, ↓mq_153_58, ↓mq_153_59, ↓mq_153_60, ↓mq_153_62, ↓mq_153_63, ↓mq_153_66, ↓mq_153_67, ↓mq_153_68, ↓mq_153_69, ↓mq_153_70, ↓mq_153_73, ↓mq_153_74, ↓mq_153_75, ↓mq_153_77, ↓mq_153_79, ↓mq_153_82, ↓mq_153_83, ↓mq_153_86, ↓mq_153_87, ↓mq_153_88, ↓mq_153_90, ↓mq_153_93, ↓mq_153_95, ↓mq_153_97, ↓mq_153_98, ↓mq_153_100, ↓mq_153_102, ↓mq_153_104, ↓mq_153_107, ↓mq_153_109, ↓mq_153_112, ↓mq_153_113, ↓mq_153_115, ↓mq_153_116, ↓mq_153_117, ↓mq_153_118, ↓mq_153_120, ↓mq_153_121, ↓mq_153_123, ↓mq_153_125, ↓mq_153_127, ↓mq_153_130, ↓mq_153_132, ↓mq_153_134, ↓mq_153_137, ↓mq_153_139, ↓mq_153_141, ↓mq_153_143, ↓mq_153_144, ↓mq_153_145, ↓mq_153_146, ↓mq_153_147, ↓mq_153_150, ↓mq_153_152, ↓mq_153_154, ↓mq_153_155, ↓mq_153_157, ↓mq_153_159, ↓mq_153_161, ↓mq_153_162, ↓mq_153_163, ↓mq_153_164, ↓mq_153_167, ↓mq_153_169, ↓mq_153_172, ↓mq_153_173, ↓mq_153_176, ↓mq_153_177, ↓mq_153_179, ↓mq_153_181, ↓mq_153_182, ↓mq_153_183, ↓mq_153_184, ↓mq_153_187, ↓mq_153_190, ↓mq_153_191, ↓mq_153_194, ↓mq_153_196, ↓mq_153_197, ↓mq_153_200, ↓mq_153_203, ↓mq_153_204, ↓mq_153_207, ↓mq_153_209, ↓mq_153_210, ↓mq_153_213, ↓mq_153_215, ↓mq_153_216, ↓mq_153_217, ↓mq_153_218, ↓mq_153_219, ↓mq_153_220, ↓mq_153_223, ↓mq_153_225, ↓mq_153_227, ↓mq_153_228, ↓mq_153_231, ↓mq_153_234, ↓mq_153_237, ↓mq_153_240, ↓mq_153_241, ↓mq_153_244, ↓mq_153_246, ↓mq_153_247, ↓mq_153_250, ↓mq_153_253, ↓mq_153_255, ↓mq_153_258, ↓mq_153_259, ↓mq_153_262, ↓mq_153_264, ↓mq_153_265, mt_le (Nat.le_of_not_lt hil) (show i < 2 ^ 31 by omega), ↓mj_bs (mr_b25 hri), ↓mj_bs (g64'), mf_eq (show c ≠ 9999 by omega)]
            simp [mh_tv, hc]
    obtain ⟨h', s1, s2, s3⟩ := loop2 128 0 h3 .null .null .null .null .null rfl B3 F3'
    refine ⟨h', ?_, s2, s3⟩
    rw [if_neg hb0, ← s1, mc_153]
    simp only [↓reduceIte, ↓mq_153_0, ↓mq_153_1, ↓mq_153_2, ↓mq_153_5, ↓mq_153_6, ↓mq_153_7, ↓mq_153_8, ↓mq_153_11, ↓mq_153_14, ↓mq_153_17, ↓mq_153_19, ↓mq_153_20, ↓mq_153_21, ↓mq_153_24, ↓mq_153_25, ↓mq_153_26, ↓mq_153_27, ↓mq_153_28, ↓mq_153_31, ↓mq_153_32, ↓mq_153_33, ↓mq_153_34, ↓mq_153_36, ↓mq_153_39, ↓mq_153_42, ↓mq_153_43, ↓mq_153_46, ↓mq_153_47, ↓mq_153_50, ↓mq_153_51, ↓mq_153_54, ↓mq_153_58, ↓mq_153_59, ↓mq_153_60, ↓mq_153_62, ↓mq_153_63, ↓mq_153_66, ↓mq_153_67, ↓mq_153_68, ↓mq_153_69, ↓mq_153_70, ↓mq_153_73, ↓mq_153_74, ↓mq_153_75, ↓mq_153_77, ↓mq_153_79, ↓mq_153_82, ↓mq_153_83, ↓mq_153_86, ↓mq_153_87, ↓mq_153_88, ↓mq_153_90, ↓mq_153_93, ↓mq_153_95, ↓mq_153_97, ↓mq_153_98, ↓mq_153_100, ↓mq_153_102, ↓mq_153_104, ↓mq_153_107, ↓mq_153_109, ↓mq_153_112, ↓mq_153_113, ↓mq_153_115, ↓mq_153_116, ↓mq_153_117, ↓mq_153_118, ↓mq_153_120, ↓mq_153_121, ↓mq_153_123, ↓mq_153_125, ↓mq_153_127, ↓mq_153_130, ↓mq_153_132, ↓mq_153_134, ↓mq_153_137, ↓mq_153_139, ↓mq_153_141, ↓mq_153_143, ↓mq_153_144, ↓mq_153_145, ↓mq_153_146, ↓mq_153_147, ↓mq_153_150, ↓mq_153_152, ↓mq_153_154, ↓mq_153_155, ↓mq_153_157, ↓mq_153_159, ↓mq_153_161, ↓mq_153_162, ↓mq_153_163, ↓mq_153_164, ↓mq_153_167, ↓mq_153_169, ↓mq_153_172, ↓mq_153_173, ↓mq_153_176, ↓mq_153_177, ↓mq_153_179, ↓mq_153_181, ↓mq_153_182, ↓mq_153_183, ↓mq_153_184, ↓mq_153_187, ↓mq_153_190, ↓mq_153_191, ↓mq_153_194, ↓mq_153_196, ↓mq_153_197, ↓mq_153_200, ↓mq_153_203, ↓mq_153_204, ↓mq_153_207, ↓mq_153_209, ↓mq_153_210, ↓mq_153_213, ↓mq_153_215, ↓mq_153_216, ↓mq_153_217, ↓mq_153_218, ↓mq_153_219, ↓mq_153_220, ↓mq_153_223, ↓mq_153_225, ↓mq_153_227, ↓mq_153_228, ↓mq_153_231, ↓mq_153_234, ↓mq_153_237, ↓mq_153_240, ↓mq_153_241, ↓mq_153_244, ↓mq_153_246, ↓mq_153_247, ↓mq_153_250, ↓mq_153_253, ↓mq_153_255, ↓mq_153_258, ↓mq_153_259, ↓mq_153_262, ↓mq_153_264, ↓mq_153_265, ↓mj_bs (mr_th hrb), ↓mj_bs (mt_103_1_3), ein, Option.toList, List.cons_append, List.nil_append, mj_b0, Bool.true_eq_false, ↓mj_bs (mr_b15 hrb), ↓mj_bs (g1), mf_eq hb0]
    rw [r1, hb2]
    simp only [↓reduceIte, ↓mq_153_0, ↓mq_153_1, ↓mq_153_2, ↓mq_153_5, ↓mq_153_6, ↓mq_153_7, ↓mq_153_8, ↓mq_153_11, ↓mq_153_14, ↓mq_153_17, ↓mq_153_19, ↓mq_153_20, ↓mq_153_21, ↓mq_153_24, ↓mq_153_25, ↓mq_153_26, ↓mq_153_27, ↓mq_153_28, ↓mq_153_31, ↓mq_153_32, ↓mq_153_33, ↓mq_153_34, ↓mq_153_36, ↓mq_153_39, ↓mq_153_42, ↓mq_153_43, ↓mq_153_46, ↓mq_153_47, ↓mq_153_50, ↓mq_153_51, ↓mq_153_54, ↓mq_153_57, ↓mq_153_58, ↓mq_153_59, ↓mq_153_60, ↓mq_153_62, ↓mq_153_63, ↓mq_153_66, ↓mq_153_67, ↓mq_153_68, ↓mq_153_69, ↓mq_153_70, ↓mq_153_73, ↓mq_153_74, ↓mq_153_75, ↓mq_153_77, ↓mq_153_79, ↓mq_153_82, ↓mq_153_83, ↓mq_153_86, ↓mq_153_87, ↓mq_153_88, ↓mq_153_90, ↓mq_153_93, ↓mq_153_95, ↓mq_153_97, ↓mq_153_98, ↓mq_153_100, ↓mq_153_102, ↓mq_153_104, ↓mq_153_107, ↓mq_153_109, ↓mq_153_112, ↓mq_153_113, ↓mq_153_115, ↓mq_153_116, ↓mq_153_117, ↓mq_153_118, ↓mq_153_120, ↓mq_153_121, ↓mq_153_123, ↓mq_153_125, ↓mq_153_127, ↓mq_153_130, ↓mq_153_132, ↓mq_153_134, ↓mq_153_137, ↓mq_153_139, ↓mq_153_141, ↓mq_153_143, ↓mq_153_144, ↓mq_153_145, ↓mq_153_146, ↓mq_153_147, ↓mq_153_150, ↓mq_153_152, ↓mq_153_154, ↓mq_153_155, ↓mq_153_157, ↓mq_153_159, ↓mq_153_161, ↓mq_153_162, ↓mq_153_163, ↓mq_153_164, ↓mq_153_167, ↓mq_153_169, ↓mq_153_172, ↓mq_153_173, ↓mq_153_176, ↓mq_153_177, ↓mq_153_179, ↓mq_153_181, ↓mq_153_182, ↓mq_153_183, ↓mq_153_184, ↓mq_153_187, ↓mq_153_190, ↓mq_153_191, ↓mq_153_194, ↓mq_153_196, ↓mq_153_197, ↓mq_153_200, ↓mq_153_203, ↓mq_153_204, ↓mq_153_207, ↓mq_153_209, ↓mq_153_210, ↓mq_153_213, ↓mq_153_215, ↓mq_153_216, ↓mq_153_217, ↓mq_153_218, ↓mq_153_219, ↓mq_153_220, ↓mq_153_223, ↓mq_153_225, ↓mq_153_227, ↓mq_153_228, ↓mq_153_231, ↓mq_153_234, ↓mq_153_237, ↓mq_153_240, ↓mq_153_241, ↓mq_153_244, ↓mq_153_246, ↓mq_153_247, ↓mq_153_250, ↓mq_153_253, ↓mq_153_255, ↓mq_153_258, ↓mq_153_259, ↓mq_153_262, ↓mq_153_264, ↓mq_153_265, ↓mj_bs (mr_b26 hrb1), ↓mj_bs (e2), ↓mj_bs (mr_b25 hrb2), ↓mj_bs (e3), List.length_cons, List.length_nil]
theorem mh_Fe0.is {h : mj_H} {f : Nat} (H : mh_Fe0 h f) : mj_isC h f 1 = true := by
  obtain ⟨c, t, q, o, -⟩ := H
  exact mh_isC o
theorem mo_86 (J : mh_J S h) (x : Int32) : mh_op 86 153 [.int x] h := by
  have JJ := J
  obtain ⟨w, C, R⟩ := J
  have wr := w.2.2.1
  have wm := w.2.2.2.1
  have hb := mw_b wr wm
  have hrb := R.rr.1
  have o1 := C.1
  rcases mn_range 4 (by omega) x with ⟨k, hk, rfl, -, -⟩ | ⟨hxn, hno⟩
  · by_cases hk0 : k = 0
    · subst hk0
      have ein : decide (nI 1 ≤ nI 0 ∧ nI 0 ≤ nI 3) = false := by decide
      refine mh_opQ (v := .int (-2)) JJ ?_ ?_
      · rw [mc_86]
        simp only [↓reduceIte, ↓mq_86_0, ↓mq_86_1, ↓mq_86_2, ↓mq_86_5, ↓mq_86_6, ↓mq_86_7, ↓mq_86_10, ↓mq_86_12, ↓mq_86_15, ↓mq_86_16, ↓mq_86_19, ↓mq_86_20, ↓mq_86_23, ↓mq_86_24, ↓mq_86_27, ↓mq_86_30, ↓mq_86_31, ↓mq_86_34, mt_lt (show 0 < 1 by omega)]
      · rw [mc_153]
        simp only [↓reduceIte, ↓mq_153_0, ↓mq_153_1, ↓mq_153_2, ↓mq_153_5, ↓mq_153_6, ↓mq_153_7, ↓mq_153_8, ↓mq_153_11, ↓mq_153_14, ↓mq_153_17, ↓mq_153_19, ↓mq_153_20, ↓mq_153_21, ↓mq_153_24, ↓mq_153_25, ↓mq_153_26, ↓mq_153_27, ↓mq_153_28, ↓mq_153_31, ↓mq_153_32, ↓mq_153_33, ↓mq_153_34, ↓mq_153_35, ↓mq_153_36, ↓mq_153_39, ↓mq_153_42, ↓mq_153_43, ↓mq_153_46, ↓mq_153_47, ↓mq_153_50, ↓mq_153_51, ↓mq_153_54, ↓mq_153_57, ↓mq_153_58, ↓mq_153_59, ↓mq_153_60, ↓mq_153_62, ↓mq_153_63, ↓mq_153_66, ↓mq_153_67, ↓mq_153_68, ↓mq_153_69, ↓mq_153_70, ↓mq_153_73, ↓mq_153_74, ↓mq_153_75, ↓mq_153_76, ↓mq_153_77, ↓mq_153_79, ↓mq_153_82, ↓mq_153_83, ↓mq_153_86, ↓mq_153_87, ↓mq_153_88, ↓mq_153_90, ↓mq_153_93, ↓mq_153_95, ↓mq_153_97, ↓mq_153_98, ↓mq_153_100, ↓mq_153_102, ↓mq_153_104, ↓mq_153_107, ↓mq_153_109, ↓mq_153_112, ↓mq_153_113, ↓mq_153_115, ↓mq_153_116, ↓mq_153_117, ↓mq_153_118, ↓mq_153_120, ↓mq_153_121, ↓mq_153_123, ↓mq_153_125, ↓mq_153_127, ↓mq_153_130, ↓mq_153_132, ↓mq_153_134, ↓mq_153_137, ↓mq_153_139, ↓mq_153_141, ↓mq_153_143, ↓mq_153_144, ↓mq_153_145, ↓mq_153_146, ↓mq_153_147, ↓mq_153_150, ↓mq_153_152, ↓mq_153_154, ↓mq_153_155, ↓mq_153_157, ↓mq_153_159, ↓mq_153_161, ↓mq_153_162, ↓mq_153_163, ↓mq_153_164, ↓mq_153_167, ↓mq_153_169, ↓mq_153_172, ↓mq_153_173, ↓mq_153_176, ↓mq_153_177, ↓mq_153_179, ↓mq_153_181, ↓mq_153_182, ↓mq_153_183, ↓mq_153_184, ↓mq_153_187, ↓mq_153_190, ↓mq_153_191, ↓mq_153_194, ↓mq_153_196, ↓mq_153_197, ↓mq_153_200, ↓mq_153_203, ↓mq_153_204, ↓mq_153_207, ↓mq_153_209, ↓mq_153_210, ↓mq_153_213, ↓mq_153_215, ↓mq_153_216, ↓mq_153_217, ↓mq_153_218, ↓mq_153_219, ↓mq_153_220, ↓mq_153_223, ↓mq_153_225, ↓mq_153_227, ↓mq_153_228, ↓mq_153_231, ↓mq_153_234, ↓mq_153_237, ↓mq_153_240, ↓mq_153_241, ↓mq_153_244, ↓mq_153_246, ↓mq_153_247, ↓mq_153_250, ↓mq_153_253, ↓mq_153_255, ↓mq_153_258, ↓mq_153_259, ↓mq_153_262, ↓mq_153_264, ↓mq_153_265, ↓mj_bs (mr_th hrb), ↓mj_bs (mt_103_1_3), ein, Option.toList, List.cons_append, List.nil_append, mj_b0]
    · have C' := C
      obtain ⟨-, -, Ro, -, M, -, -, -, -, Fe, -⟩ := C
      obtain ⟨h1, e1, B1, F1⟩ := mt_6 wr Ro (by omega) Fe hb hk
      refine mh_opI (v := .int (if ma_b (ms_m S) = 0 then nI 0 else mh_tv (mm_bfs (ms_r S) k (ma_b (ms_m S)) 128).1 1)) (S' := S) JJ (h1 := h1) w ?_ (F1.mo (fun k z => ⟨by have := z.1; omega, by have := z.2; omega⟩)) (C'.fe F1 B1) ?_
      · rw [mc_86]
        simp only [↓reduceIte, ↓mq_86_0, ↓mq_86_1, ↓mq_86_2, ↓mq_86_5, ↓mq_86_6, ↓mq_86_7, ↓mq_86_10, ↓mq_86_12, ↓mq_86_15, ↓mq_86_16, ↓mq_86_19, ↓mq_86_20, ↓mq_86_23, ↓mq_86_24, ↓mq_86_27, ↓mq_86_30, ↓mq_86_31, ↓mq_86_34, mf_lt (show 1 ≤ k by omega), mt_le (show k ≤ 3 by omega), ↓mj_bs (mh_gf 8 o1 rfl), ↓mj_bs (mh_gf 1 o1 rfl), ↓mj_bs (mh_gf 3 o1 rfl), ↓mj_bs (mh_gf 2 M.1 rfl), mh_Fe0.is Fe, ↓mj_bs (e1), Option.toList, List.cons_append, List.nil_append]
      · intro R
        obtain ⟨h2, f1, R2, F2⟩ := mt_153 w R (show 1 ≤ k by omega) hk
        exact ⟨h2, f1, R2, F2.mo (fun k z => by rcases z with z | z <;> omega)⟩
  · have ein : decide (nI 1 ≤ x ∧ x ≤ nI 3) = false := decide_eq_false (fun z => hno ⟨by
        have z1 := z.1
        rw [Int32.le_iff_toInt_le, nI_toInt (by omega)] at z1 ⊢
        omega, (mn_lesuc (by omega)).mp z.2⟩)
    refine mh_opQ (v := .int (-2)) JJ ?_ ?_
    · rw [mc_86]
      by_cases z1 : x < nI 1
      · simp only [↓reduceIte, ↓mq_86_0, ↓mq_86_1, ↓mq_86_2, ↓mq_86_5, ↓mq_86_6, ↓mq_86_7, ↓mq_86_10, ↓mq_86_12, ↓mq_86_15, ↓mq_86_16, ↓mq_86_19, ↓mq_86_20, ↓mq_86_23, ↓mq_86_24, ↓mq_86_27, ↓mq_86_30, ↓mq_86_31, ↓mq_86_34, z1]
      · have z2 : ¬ x ≤ nI 3 := fun z2 => by
          have : decide (nI 1 ≤ x ∧ x ≤ nI 3) = true := decide_eq_true ⟨mn_nlt.mp z1, z2⟩
          rw [ein] at this; cases this
        simp only [↓reduceIte, ↓mq_86_0, ↓mq_86_1, ↓mq_86_2, ↓mq_86_5, ↓mq_86_6, ↓mq_86_7, ↓mq_86_10, ↓mq_86_12, ↓mq_86_15, ↓mq_86_16, ↓mq_86_19, ↓mq_86_20, ↓mq_86_23, ↓mq_86_24, ↓mq_86_27, ↓mq_86_30, ↓mq_86_31, ↓mq_86_34, z1, z2]
    · rw [mc_153]
      simp only [↓reduceIte, ↓mq_153_0, ↓mq_153_1, ↓mq_153_2, ↓mq_153_5, ↓mq_153_6, ↓mq_153_7, ↓mq_153_8, ↓mq_153_11, ↓mq_153_14, ↓mq_153_17, ↓mq_153_19, ↓mq_153_20, ↓mq_153_21, ↓mq_153_24, ↓mq_153_25, ↓mq_153_26, ↓mq_153_27, ↓mq_153_28, ↓mq_153_31, ↓mq_153_32, ↓mq_153_33, ↓mq_153_34, ↓mq_153_35, ↓mq_153_36, ↓mq_153_39, ↓mq_153_42, ↓mq_153_43, ↓mq_153_46, ↓mq_153_47, ↓mq_153_50, ↓mq_153_51, ↓mq_153_54, ↓mq_153_57, ↓mq_153_58, ↓mq_153_59, ↓mq_153_60, ↓mq_153_62, ↓mq_153_63, ↓mq_153_66, ↓mq_153_67, ↓mq_153_68, ↓mq_153_69, ↓mq_153_70, ↓mq_153_73, ↓mq_153_74, ↓mq_153_75, ↓mq_153_76, ↓mq_153_77, ↓mq_153_79, ↓mq_153_82, ↓mq_153_83, ↓mq_153_86, ↓mq_153_87, ↓mq_153_88, ↓mq_153_90, ↓mq_153_93, ↓mq_153_95, ↓mq_153_97, ↓mq_153_98, ↓mq_153_100, ↓mq_153_102, ↓mq_153_104, ↓mq_153_107, ↓mq_153_109, ↓mq_153_112, ↓mq_153_113, ↓mq_153_115, ↓mq_153_116, ↓mq_153_117, ↓mq_153_118, ↓mq_153_120, ↓mq_153_121, ↓mq_153_123, ↓mq_153_125, ↓mq_153_127, ↓mq_153_130, ↓mq_153_132, ↓mq_153_134, ↓mq_153_137, ↓mq_153_139, ↓mq_153_141, ↓mq_153_143, ↓mq_153_144, ↓mq_153_145, ↓mq_153_146, ↓mq_153_147, ↓mq_153_150, ↓mq_153_152, ↓mq_153_154, ↓mq_153_155, ↓mq_153_157, ↓mq_153_159, ↓mq_153_161, ↓mq_153_162, ↓mq_153_163, ↓mq_153_164, ↓mq_153_167, ↓mq_153_169, ↓mq_153_172, ↓mq_153_173, ↓mq_153_176, ↓mq_153_177, ↓mq_153_179, ↓mq_153_181, ↓mq_153_182, ↓mq_153_183, ↓mq_153_184, ↓mq_153_187, ↓mq_153_190, ↓mq_153_191, ↓mq_153_194, ↓mq_153_196, ↓mq_153_197, ↓mq_153_200, ↓mq_153_203, ↓mq_153_204, ↓mq_153_207, ↓mq_153_209, ↓mq_153_210, ↓mq_153_213, ↓mq_153_215, ↓mq_153_216, ↓mq_153_217, ↓mq_153_218, ↓mq_153_219, ↓mq_153_220, ↓mq_153_223, ↓mq_153_225, ↓mq_153_227, ↓mq_153_228, ↓mq_153_231, ↓mq_153_234, ↓mq_153_237, ↓mq_153_240, ↓mq_153_241, ↓mq_153_244, ↓mq_153_246, ↓mq_153_247, ↓mq_153_250, ↓mq_153_253, ↓mq_153_255, ↓mq_153_258, ↓mq_153_259, ↓mq_153_262, ↓mq_153_264, ↓mq_153_265, ↓mj_bs (mr_th hrb), ↓mj_bs (mt_103_1_3), ein, Option.toList, List.cons_append, List.nil_append, mj_b0]
end
