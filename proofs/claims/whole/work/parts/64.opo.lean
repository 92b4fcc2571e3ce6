/-! COMMANDS: orders -/
section
variable {S : mm_St} {h h' : mj_H}
theorem mh_JR.od (H : mh_JR S h) (F : mh_F (fun k => k = 82) h h') (T : mh_any h' 82 6) : mh_JR S h' := by
  obtain ⟨h1, h2, ⟨h3, h4, h5⟩, ⟨h6, h7, h8⟩, h9, h10, h11, h12, h13, h14, h15, h16, h17⟩ := H
  exact ⟨h1.kp F (by omega), h2.kp F (by omega), ⟨h3.kp F (by omega), h4.kp F (by omega), h5.kp F (by omega)⟩, ⟨h6.kp F (by omega), h7.kp F (by omega), h8.kp F (by omega)⟩, h9.kp F (by omega), h10.kp F (by omega), h11.kp F (by omega), h12.kp F (by omega), (F.2 77 (by omega)).trans h13, h14.kp F (by omega) (by omega), h15.kp F (by omega), h16.kp F (by omega), T⟩
theorem mh_JC.rw (H : mh_JC S h) (F : mh_F (fun k => k = 60) h h') {f : Nat → Int32} (Y : mh_Rw h' 59 f) : mh_JC S h' := by
  obtain ⟨h1, ⟨pl, sp, h2⟩, h3, ⟨ρ', h4⟩, h5, ⟨μ', h6⟩, h7, h8, h9, h10, -, h12, h13⟩ := H
  exact ⟨(F.2 1 (by omega)).trans h1, ⟨pl, sp, h2.kp F (by omega) (by omega)⟩, h3.kp F (fun k a b => by omega), ⟨ρ', h4.kp F (fun k a b => by omega)⟩, h5.kp F (by omega) (by omega), ⟨μ', h6.kp F (by omega) (by omega)⟩, h7.kp F (fun k a b => by omega), (F.2 54 (by omega)).trans h8, (F.2 55 (by omega)).trans h9, h10.kp F (by omega) (by omega) (by omega), ⟨f, Y⟩, h12.kp F (by omega) (by omega), h13.kp F (by omega) (by omega)⟩
theorem mt_143 (w : mw_S S) (R : mh_JR S h) {set : Nat} (hset : set < 2 ^ mr_n (ms_r S)) : ∃ h', mj_C 143 [.ref 65, .int (nI set)] h = some (some (.int (nI (mm_pw (ms_r S) set (mm_pop set 6) 0 set))), h') ∧ mh_JR S h' ∧ mh_F (fun k => k = 82) h h' := by
  have wr := w.2.2.1
  have hn9 := wr.1
  have hs := mm_64 hset hn9
  have hn64 : 2 ^ mr_n (ms_r S) ≤ 64 := Nat.pow_le_pow_right (n := 2) (by decide) hn9
  have hRR := R.rr
  have hrb := hRR.1
  have hN6 := mm_pop6 set hs
  have e103 := mt_103m (h := h) (x := nI set) (n := 2 ^ mr_n (ms_r S)) (by omega)
  rw [mn_dlt (show set < 2 ^ 31 by omega) (show 2 ^ mr_n (ms_r S) < 2 ^ 31 by omega), decide_eq_true hset] at e103
  have hsh : nI 1 <<< (nI (mr_n (ms_r S)) &&& 31) = nI (2 ^ mr_n (ms_r S)) := mn_shl _ (by omega)
  obtain ⟨f0, O0⟩ := R.2.2.2.2.2.2.2.2.2.2.2.2
  obtain ⟨h1, p1, O1, F1⟩ := O0.pt (show 0 < 6 by omega) (by omega) (-9)
  have m9 : ((-9 : Int32) = -9) = True := eq_true rfl
  have l1 : ((-1 : Int32) < nI 0) = True := eq_true (by decide)
  have l2 : (nI 0 + (-1) < nI 0) = True := eq_true (by decide)
  by_cases hN : mm_pop set 6 = 0
  · have hz := mm_popz set hs hN
    refine ⟨h1, ?_, R.od F1 ⟨_, O1⟩, F1⟩
    rw [mc_143]
    simp only [↓reduceIte, ↓mq_143_0, ↓mq_143_1, ↓mq_143_2, ↓mq_143_5, ↓mq_143_6, ↓mq_143_7, ↓mq_143_8, ↓mq_143_9, ↓mq_143_10, ↓mq_143_13, ↓mq_143_14, ↓mq_143_15, ↓mq_143_16, ↓mq_143_17, ↓mq_143_20, ↓mq_143_23, ↓mq_143_25, ↓mq_143_26, ↓mq_143_27, ↓mq_143_30, ↓mq_143_31, ↓mq_143_32, ↓mq_143_35, ↓mq_143_36, ↓mq_143_39, ↓mq_143_40, ↓mq_143_41, ↓mq_143_42, ↓mq_143_45, ↓mq_143_46, ↓mq_143_49, ↓mq_143_50, ↓mq_143_52, ↓mq_143_53, ↓mq_143_56, ↓mq_143_57, ↓mq_143_59, ↓mq_143_60, ↓mq_143_62, ↓mq_143_65, ↓mq_143_66, ↓mq_143_69, ↓mq_143_71, ↓mq_143_72, ↓mq_143_74, ↓mq_143_77, ↓mq_143_78, ↓mq_143_81, ↓mq_143_82, ↓mq_143_85, ↓mq_143_87, ↓mq_143_88, ↓mq_143_89, ↓mq_143_90, ↓mq_143_92, ↓mq_143_94, ↓mq_143_95, ↓mq_143_98, ↓mq_143_101, ↓mq_143_102, ↓mq_143_104, ↓mq_143_107, ↓mq_143_110, ↓mq_143_111, ↓mq_143_113, ↓mq_143_115, ↓mq_143_118, ↓mq_143_121, ↓mq_143_124, ↓mq_143_127, ↓mq_143_129, ↓mq_143_130, ↓mq_143_133, ↓mq_143_136, ↓mq_143_139, ↓mq_143_142, ↓mq_143_143, ↓mq_143_146, ↓mq_143_148, ↓mq_143_150, ↓mq_143_151, ↓mq_143_153, ↓mq_143_154, ↓mq_143_155, ↓mq_143_156, ↓mq_143_159, ↓mq_143_162, ↓mq_143_165, ↓mq_143_168, ↓mq_143_169, ↓mq_143_172, ↓mq_143_174, ↓mq_143_176, ↓mq_143_177, ↓mq_143_180, ↓mq_143_181, ↓mj_bs (mr_th hrb), ↓mj_bs (mr_bn hrb), hsh, ↓mj_bs (e103), Option.toList, List.cons_append, List.nil_append, mj_b0, Bool.true_eq_false, ↓mj_bs (mt_144 hs), mt_eq hN, ↓mj_bs (mr_b27 hrb), ↓mj_bs (p1), l1]
    rw [hN, hz]
    rfl
  · obtain ⟨d, hd⟩ : ∃ d, mm_pop set 6 = d + 1 := ⟨mm_pop set 6 - 1, by omega⟩
    have Hl1 := hrb.kp F1 (by omega)
    have g1 : mj_gi h1 82 (nI 0) = some (-9) := by rw [O1.gt (show 0 < 6 by omega) (by omega), mh_u_at]
    obtain ⟨h', f', l5, r1, r2, -, r4⟩ := mt_143l wr hRR hs rfl d 0 (by omega) (mr_n (ms_r S)) 0 (fun _ => 0) h1 _ 0 (by omega) O1 (fun i hi => by omega) (fun i hi => by omega) (by show mm_dif 0 set = 0; unfold mm_dif; omega) (by show mm_pop 0 6 = 0; decide) F1
    refine ⟨h', ?_, R.od r4 ⟨_, r2⟩, r4⟩
    have hsf : 0 + mm_sg (mm_lv (ms_r S) set d (fun _ => 0) 0) 0 (mr_n (ms_r S)) = mm_pw (ms_r S) set (mm_pop set 6) 0 set := by
      have := mm_ss_sg (F := mm_lv (ms_r S) set d (fun _ => 0) 0) (mr_n (ms_r S)) 0
      rw [mm_ss, Nat.zero_add (mr_n (ms_r S))] at this
      rw [this, hd]
      rfl
    rw [← hsf]
    have fin : mj_R 143 (60, [.ref 65, .int (nI set), .int (nI (mm_pop set 6)), .int (nI (0 + mm_sg (mm_lv (ms_r S) set d (fun _ => 0) 0) 0 (mr_n (ms_r S)))), .int (nI 0 + (-1)), l5], [], h') = some (some (.int (nI (0 + mm_sg (mm_lv (ms_r S) set d (fun _ => 0) 0) 0 (mr_n (ms_r S))))), h') := by
      simp only [↓reduceIte, ↓mq_143_0, ↓mq_143_1, ↓mq_143_2, ↓mq_143_5, ↓mq_143_6, ↓mq_143_7, ↓mq_143_8, ↓mq_143_9, ↓mq_143_10, ↓mq_143_13, ↓mq_143_14, ↓mq_143_15, ↓mq_143_16, ↓mq_143_17, ↓mq_143_20, ↓mq_143_23, ↓mq_143_25, ↓mq_143_26, ↓mq_143_27, ↓mq_143_30, ↓mq_143_31, ↓mq_143_32, ↓mq_143_35, ↓mq_143_36, ↓mq_143_39, ↓mq_143_40, ↓mq_143_41, ↓mq_143_42, ↓mq_143_45, ↓mq_143_46, ↓mq_143_49, ↓mq_143_50, ↓mq_143_52, ↓mq_143_53, ↓mq_143_56, ↓mq_143_57, ↓mq_143_59, ↓mq_143_60, ↓mq_143_62, ↓mq_143_65, ↓mq_143_66, ↓mq_143_69, ↓mq_143_71, ↓mq_143_72, ↓mq_143_74, ↓mq_143_77, ↓mq_143_78, ↓mq_143_81, ↓mq_143_82, ↓mq_143_85, ↓mq_143_87, ↓mq_143_88, ↓mq_143_89, ↓mq_143_90, ↓mq_143_92, ↓mq_143_94, ↓mq_143_95, ↓mq_143_98, ↓mq_143_101, ↓mq_143_102, ↓mq_143_104, ↓mq_143_107, ↓mq_143_110, ↓mq_143_111, ↓mq_143_113, ↓mq_143_115, ↓mq_143_118, ↓mq_143_121, ↓mq_143_124, ↓mq_143_127, ↓mq_143_129, ↓mq_143_130, ↓mq_143_133, ↓mq_143_136, ↓mq_143_139, ↓mq_143_142, ↓mq_143_143, ↓mq_143_146, ↓mq_143_148, ↓mq_143_150, ↓mq_143_151, ↓mq_143_153, ↓mq_143_154, ↓mq_143_155, ↓mq_143_156, ↓mq_143_159, ↓mq_143_162, ↓mq_143_165, ↓mq_143_168, ↓mq_143_169, ↓mq_143_172, ↓mq_143_174, ↓mq_143_176, ↓mq_143_177, ↓mq_143_180, ↓mq_143_181, l2]
    rw [← fin, ← r1, mc_143]
    simp only [↓reduceIte, ↓mq_143_0, ↓mq_143_1, ↓mq_143_2, ↓mq_143_5, ↓mq_143_6, ↓mq_143_7, ↓mq_143_8, ↓mq_143_9, ↓mq_143_10, ↓mq_143_13, ↓mq_143_14, ↓mq_143_15, ↓mq_143_16, ↓mq_143_17, ↓mq_143_20, ↓mq_143_23, ↓mq_143_25, ↓mq_143_26, ↓mq_143_27, ↓mq_143_30, ↓mq_143_31, ↓mq_143_32, ↓mq_143_35, ↓mq_143_36, ↓mq_143_39, ↓mq_143_40, ↓mq_143_41, ↓mq_143_42, ↓mq_143_45, ↓mq_143_46, ↓mq_143_49, ↓mq_143_50, ↓mq_143_52, ↓mq_143_53, ↓mq_143_56, ↓mq_143_57, ↓mq_143_59, ↓mq_143_60, ↓mq_143_62, ↓mq_143_65, ↓mq_143_66, ↓mq_143_69, ↓mq_143_71, ↓mq_143_72, ↓mq_143_74, ↓mq_143_77, ↓mq_143_78, ↓mq_143_81, ↓mq_143_82, ↓mq_143_85, ↓mq_143_87, ↓mq_143_88, ↓mq_143_89, ↓mq_143_90, ↓mq_143_94, ↓mq_143_95, ↓mq_143_98, ↓mq_143_101, ↓mq_143_102, ↓mq_143_104, ↓mq_143_107, ↓mq_143_110, ↓mq_143_111, ↓mq_143_113, ↓mq_143_115, ↓mq_143_118, ↓mq_143_121, ↓mq_143_124, ↓mq_143_127, ↓mq_143_129, ↓mq_143_130, ↓mq_143_133, ↓mq_143_136, ↓mq_143_139, ↓mq_143_142, ↓mq_143_143, ↓mq_143_146, ↓mq_143_148, ↓mq_143_150, ↓mq_143_151, ↓mq_143_153, ↓mq_143_154, ↓mq_143_155, ↓mq_143_156, ↓mq_143_159, ↓mq_143_162, ↓mq_143_165, ↓mq_143_168, ↓mq_143_169, ↓mq_143_172, ↓mq_143_174, ↓mq_143_176, ↓mq_143_177, ↓mq_143_180, ↓mq_143_181, ↓mj_bs (mr_th hrb), ↓mj_bs (mr_bn hrb), hsh, ↓mj_bs (e103), Option.toList, List.cons_append, List.nil_append, mj_b0, Bool.true_eq_false, ↓mj_bs (mt_144 hs), mf_eq hN, ↓mj_bs (mr_b27 hrb), ↓mj_bs (p1), mf_lt (Nat.le_refl 0), ↓mj_bs (mr_b27 Hl1), ↓mj_bs (g1), m9]
theorem mt_143n (w : mw_S S) (R : mh_JR S h) {x : Int32} (hx : ¬ (nI 0 ≤ x ∧ x < nI (2 ^ mr_n (ms_r S)))) : mj_C 143 [.ref 65, .int x] h = some (some (.int (-2)), h) := by
  have wr := w.2.2.1
  have hn9 := wr.1
  have hn64 : 2 ^ mr_n (ms_r S) ≤ 64 := Nat.pow_le_pow_right (n := 2) (by decide) hn9
  have hrb := R.rr.1
  have e103 := mt_103m (h := h) (x := x) (n := 2 ^ mr_n (ms_r S)) (by omega)
  rw [decide_eq_false hx] at e103
  have hsh : nI 1 <<< (nI (mr_n (ms_r S)) &&& 31) = nI (2 ^ mr_n (ms_r S)) := mn_shl _ (by omega)
  rw [mc_143]
  simp only [↓reduceIte, ↓mq_143_0, ↓mq_143_1, ↓mq_143_2, ↓mq_143_5, ↓mq_143_6, ↓mq_143_7, ↓mq_143_8, ↓mq_143_9, ↓mq_143_10, ↓mq_143_13, ↓mq_143_14, ↓mq_143_15, ↓mq_143_16, ↓mq_143_17, ↓mq_143_20, ↓mq_143_23, ↓mq_143_25, ↓mq_143_26, ↓mq_143_27, ↓mq_143_30, ↓mq_143_31, ↓mq_143_32, ↓mq_143_35, ↓mq_143_36, ↓mq_143_39, ↓mq_143_40, ↓mq_143_41, ↓mq_143_42, ↓mq_143_45, ↓mq_143_46, ↓mq_143_49, ↓mq_143_50, ↓mq_143_52, ↓mq_143_53, ↓mq_143_56, ↓mq_143_57, ↓mq_143_59, ↓mq_143_60, ↓mq_143_62, ↓mq_143_65, ↓mq_143_66, ↓mq_143_69, ↓mq_143_71, ↓mq_143_72, ↓mq_143_74, ↓mq_143_77, ↓mq_143_78, ↓mq_143_81, ↓mq_143_82, ↓mq_143_85, ↓mq_143_87, ↓mq_143_88, ↓mq_143_89, ↓mq_143_90, ↓mq_143_92, ↓mq_143_94, ↓mq_143_95, ↓mq_143_98, ↓mq_143_101, ↓mq_143_102, ↓mq_143_104, ↓mq_143_107, ↓mq_143_110, ↓mq_143_111, ↓mq_143_113, ↓mq_143_115, ↓mq_143_118, ↓mq_143_121, ↓mq_143_124, ↓mq_143_127, ↓mq_143_129, ↓mq_143_130, ↓mq_143_133, ↓mq_143_136, ↓mq_143_139, ↓mq_143_142, ↓mq_143_143, ↓mq_143_146, ↓mq_143_148, ↓mq_143_150, ↓mq_143_151, ↓mq_143_153, ↓mq_143_154, ↓mq_143_155, ↓mq_143_156, ↓mq_143_159, ↓mq_143_162, ↓mq_143_165, ↓mq_143_168, ↓mq_143_169, ↓mq_143_172, ↓mq_143_174, ↓mq_143_176, ↓mq_143_177, ↓mq_143_180, ↓mq_143_181, ↓mj_bs (mr_th hrb), ↓mj_bs (mr_bn hrb), hsh, ↓mj_bs (e103), Option.toList, List.cons_append, List.nil_append, mj_b0]
theorem mo_79 (J : mh_J S h) (x : Int32) : mh_op 79 143 [.int x] h := by
  have JJ := J
  obtain ⟨w, C, R⟩ := J
  have wr := w.2.2.1
  have hn9 := wr.1
  have hn64 : 2 ^ mr_n (ms_r S) ≤ 64 := Nat.pow_le_pow_right (n := 2) (by decide) hn9
  have o1 := C.1
  have C' := C
  obtain ⟨-, -, Ro, -, -, -, -, -, -, -, ⟨fy, Y⟩, -⟩ := C
  have e41 := mt_41 wr Ro x
  rcases mn_range (2 ^ mr_n (ms_r S)) (by omega) x with ⟨s, hs, rfl, z1, z2⟩ | ⟨hxn, hno⟩
  · have hs64 := mm_64 hs hn9
    rw [mn_dle (show s < 2 ^ 31 by omega) (show 2 ^ mr_n (ms_r S) - 1 < 2 ^ 31 by omega), decide_eq_true (show s ≤ 2 ^ mr_n (ms_r S) - 1 by omega)] at e41
    obtain ⟨h1, e1, ⟨f1, Y1⟩, F1⟩ := mt_45 wr Ro (by omega) Y hs64
    refine mh_opI (v := .int (nI (mm_tab (ms_r S) s s s))) (S' := S) JJ (h1 := h1) w ?_ (F1.mo (fun k z => by subst z; exact ⟨by omega, by omega⟩)) (C'.rw F1 Y1) ?_
    · rw [mc_79]
      simp only [↓reduceIte, ↓mq_79_0, ↓mq_79_1, ↓mq_79_4, ↓mq_79_5, ↓mq_79_8, ↓mq_79_11, ↓mq_79_12, ↓mq_79_15, ↓mq_79_16, ↓mq_79_19, ↓mq_79_20, ↓mq_79_23, ↓mq_79_26, ↓mq_79_28, ↓mj_bs (mh_gf 1 o1 rfl), mh_isC Ro.1, ↓mj_bs (e41), Option.toList, List.cons_append, List.nil_append, mj_b0, Bool.true_eq_false, ↓mj_bs (mh_gf 9 o1 rfl), mh_isC Y.1, ↓mj_bs (e1)]
    · intro R
      obtain ⟨h2, f1, R2, F2⟩ := mt_143 w R hs
      rw [← mm_tab_end hn9 hs64] at f1
      exact ⟨h2, f1, R2, F2.mo (fun k z => by omega)⟩
  · have hp : 0 < 2 ^ mr_n (ms_r S) := Nat.two_pow_pos _
    rw [mn_dno' hno (show 2 ^ mr_n (ms_r S) - 1 < 2 ^ mr_n (ms_r S) by omega) (by omega)] at e41
    refine mh_opQ (v := .int (-2)) JJ ?_ (mt_143n w R hno)
    rw [mc_79]
    simp only [↓reduceIte, ↓mq_79_0, ↓mq_79_1, ↓mq_79_4, ↓mq_79_5, ↓mq_79_8, ↓mq_79_11, ↓mq_79_12, ↓mq_79_15, ↓mq_79_16, ↓mq_79_19, ↓mq_79_20, ↓mq_79_23, ↓mq_79_26, ↓mq_79_28, ↓mj_bs (mh_gf 1 o1 rfl), mh_isC Ro.1, ↓mj_bs (e41), Option.toList, List.cons_append, List.nil_append, mj_b0]
end
