/-! THE REFERENCE READS: enemies, a part, the road -/
section
variable {h h' : mj_H} {S : mm_St} {ρ : mm_Ro} {d : Int32} {pl : Nat}
theorem mm_xg (w : mw_S S) (H : mh_RP h S d pl ρ) (hp : pl < (ms_t S).length) : ∃ c, mj_gi h 66 (nI pl) = some (nI c) ∧ (ms_t S)[pl]? = some c ∧ mm_xv (ms_t S) pl = nI c - nI 48 := by
  have h64 := w.1
  have e : (ms_t S)[pl]? = some ((ms_t S).getD pl 0) := by simp [List.getD, hp]
  exact ⟨_, H.2.1.gt (show pl < 64 by omega) hp, e, by simp only [mm_xv, e]⟩
theorem mt_112 (w : mw_S S) (wρ : mw_R ρ) (H : mh_RP h S d pl ρ) (hp : pl ≤ (ms_t S).length) : ∃ h' b, mj_C 112 [.ref 65] h = some (some (.int (mj_bI b)), h') ∧ mh_rt h h' S d ρ (mm_pE (ms_t S) pl ρ) b := by
  have h64 := w.1
  have ht := w.2.1
  have hn := wρ.1
  have o := H.1
  have may_at : ∀ v, v < 6 → (mm_may ρ (mr_n ρ)).testBit v = true → v < mr_n ρ := fun v _ hv => by
    rw [mm_may_at _ hn, Bool.and_eq_true, decide_eq_true_eq] at hv; exact hv.1
  -- the first figure
  have st1 : mj_C 112 [.ref 65] h = mj_R 112 (29, [.ref 65, .int (mm_xv (ms_t S) pl), .null], [], h) := by
    rw [mc_112]
    by_cases hc : pl < (ms_t S).length
    · obtain ⟨c, g1, g2, g3⟩ := mm_xg w H hc
      rw [g3]
      simp only [↓reduceIte, ↓mq_112_0, ↓mq_112_1, ↓mq_112_4, ↓mq_112_5, ↓mq_112_8, ↓mq_112_11, ↓mq_112_12, ↓mq_112_15, ↓mq_112_16, ↓mq_112_19, ↓mq_112_20, ↓mq_112_22, ↓mq_112_23, ↓mq_112_26, ↓mq_112_28, ↓mq_112_30, ↓mq_112_31, ↓mq_112_32, ↓mq_112_33, ↓mq_112_36, ↓mq_112_37, ↓mq_112_38, ↓mq_112_39, ↓mq_112_42, ↓mq_112_45, ↓mq_112_46, ↓mq_112_47, ↓mq_112_50, ↓mq_112_53, ↓mq_112_54, ↓mq_112_55, ↓mq_112_56, ↓mq_112_57, ↓mq_112_60, ↓mq_112_61, ↓mq_112_62, ↓mq_112_65, ↓mq_112_66, ↓mq_112_69, ↓mq_112_70, ↓mq_112_73, ↓mq_112_76, ↓mq_112_77, ↓mq_112_80, ↓mq_112_81, ↓mq_112_84, ↓mq_112_85, ↓mq_112_87, ↓mq_112_88, ↓mq_112_91, ↓mq_112_93, ↓mq_112_94, ↓mq_112_95, ↓mq_112_96, ↓mq_112_97, ↓mq_112_98, ↓mq_112_101, ↓mq_112_102, ↓mq_112_103, ↓mq_112_104, ↓mq_112_107, ↓mq_112_110, ↓mq_112_111, ↓mq_112_112, ↓mq_112_115, ↓mq_112_116, ↓mq_112_119, ↓mq_112_122, ↓mq_112_123, ↓mq_112_124, ↓mq_112_125, ↓mq_112_126, ↓mq_112_129, ↓mq_112_130, ↓mq_112_131, ↓mq_112_134, ↓mq_112_135, ↓mq_112_138, ↓mq_112_139, ↓mq_112_140, ↓mq_112_141, ↓mq_112_142, ↓mq_112_143, ↓mq_112_144, ↓mq_112_145, ↓mq_112_146, ↓mq_112_147, ↓mq_112_150, ↓mq_112_151, ↓mq_112_152, ↓mq_112_153, ↓mq_112_154, ↓mq_112_155, ↓mq_112_156, ↓mq_112_157, ↓mq_112_158, ↓mq_112_159, ↓mj_bs (mh_gf 3 o rfl), ↓mj_bs (mh_gf 2 o rfl), mf_le hc, ↓mj_bs (mh_gf 1 o rfl), ↓mj_bs (g1)]
    · have e : mm_xv (ms_t S) pl = -9 := by simp only [mm_xv, List.getElem?_eq_none (show (ms_t S).length ≤ pl by omega)]
      rw [e]
      simp only [↓reduceIte, ↓mq_112_0, ↓mq_112_1, ↓mq_112_4, ↓mq_112_5, ↓mq_112_8, ↓mq_112_11, ↓mq_112_12, ↓mq_112_15, ↓mq_112_16, ↓mq_112_19, ↓mq_112_20, ↓mq_112_22, ↓mq_112_23, ↓mq_112_26, ↓mq_112_28, ↓mq_112_30, ↓mq_112_31, ↓mq_112_32, ↓mq_112_33, ↓mq_112_36, ↓mq_112_37, ↓mq_112_38, ↓mq_112_39, ↓mq_112_42, ↓mq_112_45, ↓mq_112_46, ↓mq_112_47, ↓mq_112_50, ↓mq_112_53, ↓mq_112_54, ↓mq_112_55, ↓mq_112_56, ↓mq_112_57, ↓mq_112_60, ↓mq_112_61, ↓mq_112_62, ↓mq_112_65, ↓mq_112_66, ↓mq_112_69, ↓mq_112_70, ↓mq_112_73, ↓mq_112_76, ↓mq_112_77, ↓mq_112_80, ↓mq_112_81, ↓mq_112_84, ↓mq_112_85, ↓mq_112_87, ↓mq_112_88, ↓mq_112_91, ↓mq_112_93, ↓mq_112_94, ↓mq_112_95, ↓mq_112_96, ↓mq_112_97, ↓mq_112_98, ↓mq_112_101, ↓mq_112_102, ↓mq_112_103, ↓mq_112_104, ↓mq_112_107, ↓mq_112_110, ↓mq_112_111, ↓mq_112_112, ↓mq_112_115, ↓mq_112_116, ↓mq_112_119, ↓mq_112_122, ↓mq_112_123, ↓mq_112_124, ↓mq_112_125, ↓mq_112_126, ↓mq_112_129, ↓mq_112_130, ↓mq_112_131, ↓mq_112_134, ↓mq_112_135, ↓mq_112_138, ↓mq_112_139, ↓mq_112_140, ↓mq_112_141, ↓mq_112_142, ↓mq_112_143, ↓mq_112_144, ↓mq_112_145, ↓mq_112_146, ↓mq_112_147, ↓mq_112_150, ↓mq_112_151, ↓mq_112_152, ↓mq_112_153, ↓mq_112_154, ↓mq_112_155, ↓mq_112_156, ↓mq_112_157, ↓mq_112_158, ↓mq_112_159, ↓mj_bs (mh_gf 3 o rfl), ↓mj_bs (mh_gf 2 o rfl), mt_le (Nat.le_of_not_lt hc)]
  have e103 := mt_103m (h := h) (x := mm_xv (ms_t S) pl) (n := mr_n ρ) (by omega)
  rcases mm_fofx ht hn may_at (pl := pl) with ⟨i, f0, x0, hi, hb, hpl⟩ | ⟨f0, hno⟩
  · have hop : mm_open ρ i ≠ 0 := by
      rw [mm_may_at _ hn, Bool.and_eq_true, decide_eq_true_eq, decide_eq_true_eq] at hb; exact hb.2
    have hE := mm_64 (wρ.2.2.2.1 i hi).2.2.2.2.2.2.1 hn
    have hop64 := mm_open_lt wρ (show i < 6 by omega) hE
    rw [x0] at e103 st1
    rw [mn_dlt (show i < 2 ^ 31 by omega) (show mr_n ρ < 2 ^ 31 by omega), decide_eq_true hi] at e103
    obtain ⟨g1, b1, H1, F1⟩ := H.sp (pl + 1)
    have o1 := H1.1
    have open_at : ∀ v, v < 6 → (mm_open ρ i).testBit v = true → v < mr_n ρ := fun v hv hb => by
      rw [mm_open_at wρ (by omega) hE hv] at hb
      simp only [Bool.and_eq_true, decide_eq_true_eq] at hb
      exact hb.1.1
    have st2 : mj_C 112 [.ref 65] h = mj_R 112 (94, [.ref 65, .int (nI i), .int (mm_xv (ms_t S) (pl + 1))], [], g1) := by
      rw [st1]
      by_cases hc : pl + 1 < (ms_t S).length
      · obtain ⟨c, k1, k2, k3⟩ := mm_xg w H1 hc
        rw [k3]
        simp only [↓reduceIte, ↓mq_112_0, ↓mq_112_1, ↓mq_112_4, ↓mq_112_5, ↓mq_112_8, ↓mq_112_11, ↓mq_112_12, ↓mq_112_15, ↓mq_112_16, ↓mq_112_19, ↓mq_112_20, ↓mq_112_22, ↓mq_112_23, ↓mq_112_26, ↓mq_112_28, ↓mq_112_29, ↓mq_112_30, ↓mq_112_31, ↓mq_112_32, ↓mq_112_33, ↓mq_112_36, ↓mq_112_37, ↓mq_112_38, ↓mq_112_39, ↓mq_112_42, ↓mq_112_45, ↓mq_112_46, ↓mq_112_47, ↓mq_112_50, ↓mq_112_53, ↓mq_112_54, ↓mq_112_55, ↓mq_112_56, ↓mq_112_57, ↓mq_112_60, ↓mq_112_61, ↓mq_112_62, ↓mq_112_65, ↓mq_112_66, ↓mq_112_69, ↓mq_112_70, ↓mq_112_73, ↓mq_112_76, ↓mq_112_77, ↓mq_112_80, ↓mq_112_81, ↓mq_112_84, ↓mq_112_85, ↓mq_112_87, ↓mq_112_88, ↓mq_112_91, ↓mq_112_93, ↓mq_112_95, ↓mq_112_96, ↓mq_112_97, ↓mq_112_98, ↓mq_112_101, ↓mq_112_102, ↓mq_112_103, ↓mq_112_104, ↓mq_112_107, ↓mq_112_110, ↓mq_112_111, ↓mq_112_112, ↓mq_112_115, ↓mq_112_116, ↓mq_112_119, ↓mq_112_122, ↓mq_112_123, ↓mq_112_124, ↓mq_112_125, ↓mq_112_126, ↓mq_112_129, ↓mq_112_130, ↓mq_112_131, ↓mq_112_134, ↓mq_112_135, ↓mq_112_138, ↓mq_112_139, ↓mq_112_140, ↓mq_112_141, ↓mq_112_142, ↓mq_112_143, ↓mq_112_144, ↓mq_112_145, ↓mq_112_146, ↓mq_112_147, ↓mq_112_150, ↓mq_112_151, ↓mq_112_152, ↓mq_112_153, ↓mq_112_154, ↓mq_112_155, ↓mq_112_156, ↓mq_112_157, ↓mq_112_158, ↓mq_112_159, ↓mj_bs (mh_gf 9 o rfl), ↓mj_bs (e103), Option.toList, List.cons_append, List.nil_append, mj_b0, Bool.true_eq_false, mh_isC o, ↓mj_bs (mt_110 wρ H hi), mf_eq hop, ↓mj_bs (mh_gf 3 o rfl), mn_add, ↓mj_bs (b1), ↓mj_bs (mh_gf 3 o1 rfl), ↓mj_bs (mh_gf 2 o1 rfl), mf_le hc, ↓mj_bs (mh_gf 1 o1 rfl), ↓mj_bs (k1)]
      · have e : mm_xv (ms_t S) (pl + 1) = -9 := by simp only [mm_xv, List.getElem?_eq_none (show (ms_t S).length ≤ pl + 1 by omega)]
        rw [e]
        simp only [↓reduceIte, ↓mq_112_0, ↓mq_112_1, ↓mq_112_4, ↓mq_112_5, ↓mq_112_8, ↓mq_112_11, ↓mq_112_12, ↓mq_112_15, ↓mq_112_16, ↓mq_112_19, ↓mq_112_20, ↓mq_112_22, ↓mq_112_23, ↓mq_112_26, ↓mq_112_28, ↓mq_112_29, ↓mq_112_30, ↓mq_112_31, ↓mq_112_32, ↓mq_112_33, ↓mq_112_36, ↓mq_112_37, ↓mq_112_38, ↓mq_112_39, ↓mq_112_42, ↓mq_112_45, ↓mq_112_46, ↓mq_112_47, ↓mq_112_50, ↓mq_112_53, ↓mq_112_54, ↓mq_112_55, ↓mq_112_56, ↓mq_112_57, ↓mq_112_60, ↓mq_112_61, ↓mq_112_62, ↓mq_112_65, ↓mq_112_66, ↓mq_112_69, ↓mq_112_70, ↓mq_112_73, ↓mq_112_76, ↓mq_112_77, ↓mq_112_80, ↓mq_112_81, ↓mq_112_84, ↓mq_112_85, ↓mq_112_87, ↓mq_112_88, ↓mq_112_91, ↓mq_112_93, ↓mq_112_95, ↓mq_112_96, ↓mq_112_97, ↓mq_112_98, ↓mq_112_101, ↓mq_112_102, ↓mq_112_103, ↓mq_112_104, ↓mq_112_107, ↓mq_112_110, ↓mq_112_111, ↓mq_112_112, ↓mq_112_115, ↓mq_112_116, ↓mq_112_119, ↓mq_112_122, ↓mq_112_123, ↓mq_112_124, ↓mq_112_125, ↓mq_112_126, ↓mq_112_129, ↓mq_112_130, ↓mq_112_131, ↓mq_112_134, ↓mq_112_135, ↓mq_112_138, ↓mq_112_139, ↓mq_112_140, ↓mq_112_141, ↓mq_112_142, ↓mq_112_143, ↓mq_112_144, ↓mq_112_145, ↓mq_112_146, ↓mq_112_147, ↓mq_112_150, ↓mq_112_151, ↓mq_112_152, ↓mq_112_153, ↓mq_112_154, ↓mq_112_155, ↓mq_112_156, ↓mq_112_157, ↓mq_112_158, ↓mq_112_159, ↓mj_bs (mh_gf 9 o rfl), ↓mj_bs (e103), Option.toList, List.cons_append, List.nil_append, mj_b0, Bool.true_eq_false, mh_isC o, ↓mj_bs (mt_110 wρ H hi), mf_eq hop, ↓mj_bs (mh_gf 3 o rfl), mn_add, ↓mj_bs (b1), ↓mj_bs (mh_gf 3 o1 rfl), ↓mj_bs (mh_gf 2 o1 rfl), mt_le (show (ms_t S).length ≤ pl + 1 by omega)]
    have e103' := mt_103m (h := g1) (x := mm_xv (ms_t S) (pl + 1)) (n := mr_n ρ) (by omega)
    rcases mm_fofx ht hn open_at (pl := pl + 1) with ⟨j, f1, x1, hj, hbj, hpl1⟩ | ⟨f1, hno⟩
    · rw [x1] at e103' st2
      rw [mn_dlt (show j < 2 ^ 31 by omega) (show mr_n ρ < 2 ^ 31 by omega), decide_eq_true hj] at e103'
      have hji : j ≠ i := by
        rw [mm_open_at wρ (by omega) hE (by omega)] at hbj
        simp only [Bool.and_eq_true, decide_eq_true_eq] at hbj
        exact hbj.2
      have hEj := mm_64 (wρ.2.2.2.1 j hj).2.2.2.2.2.2.1 hn
      obtain ⟨g2, b2, H2, F2⟩ := H1.sp (pl + 2)
      obtain ⟨o2, t6, t7, t71, t72⟩ := H2
      obtain ⟨g3, b3, E3, F3⟩ := t71.pt (P' := fun x => x < mr_n ρ) (X' := mh_u (mr_E ρ) i (mm_add (mr_E ρ i) j)) (show i < 6 by omega) (mm_add (mr_E ρ i) j) (fun x _ hx => by
        by_cases e : x = i
        · subst e; exact Or.inl ⟨rfl, mh_u_at⟩
        · exact Or.inr ⟨e, hx, mh_u_ne e⟩)
      have gj := E3.gt (show j < 6 by omega) hj
      rw [mh_u_ne hji] at gj
      obtain ⟨g4, b4, E4, F4⟩ := E3.pt (P' := fun x => x < mr_n ρ) (X' := mh_u (mh_u (mr_E ρ) i (mm_add (mr_E ρ i) j)) j (mm_add (mr_E ρ j) i)) (show j < 6 by omega) (mm_add (mr_E ρ j) i) (fun x _ hx => by
        by_cases e : x = j
        · subst e; exact Or.inl ⟨rfl, mh_u_at⟩
        · exact Or.inr ⟨e, hx, mh_u_ne e⟩)
      have o3 := (F3.2 65 (by omega)).trans o2
      have o4 := (F4.2 65 (by omega)).trans o3
      have eX : mm_pE (ms_t S) pl ρ = (pl + 2, some (mm_roE ρ i j)) := by simp only [mm_pE, f0, f1]
      rw [eX]
      have K : ∀ {x n P X}, mh_ap g2 x n P X → x ≠ 71 → mh_ap g4 x n P X := fun z n1 => (z.kp F3 (by omega)).kp F4 (by omega)
      refine ⟨g4, true, ?_, mm_roE ρ i j, ⟨o4, K t6 (by omega), K t7 (by omega), E4, K t72 (by omega)⟩, (((F1.mo (fun k z => Or.inl z)).tt (F2.mo (fun k z => Or.inl z))).tt (F3.mo (fun k z => Or.inr (Or.inr (Or.inl z))))).tt (F4.mo (fun k z => Or.inr (Or.inr (Or.inl z)))), by show pl + 2 ≤ _; omega, rfl, fun z => by cases z⟩
      rw [st2]
      simp only [↓reduceIte, ↓mq_112_0, ↓mq_112_1, ↓mq_112_4, ↓mq_112_5, ↓mq_112_8, ↓mq_112_11, ↓mq_112_12, ↓mq_112_15, ↓mq_112_16, ↓mq_112_19, ↓mq_112_20, ↓mq_112_22, ↓mq_112_23, ↓mq_112_26, ↓mq_112_28, ↓mq_112_29, ↓mq_112_30, ↓mq_112_31, ↓mq_112_32, ↓mq_112_33, ↓mq_112_36, ↓mq_112_37, ↓mq_112_38, ↓mq_112_39, ↓mq_112_42, ↓mq_112_45, ↓mq_112_46, ↓mq_112_47, ↓mq_112_50, ↓mq_112_53, ↓mq_112_54, ↓mq_112_55, ↓mq_112_56, ↓mq_112_57, ↓mq_112_60, ↓mq_112_61, ↓mq_112_62, ↓mq_112_65, ↓mq_112_66, ↓mq_112_69, ↓mq_112_70, ↓mq_112_73, ↓mq_112_76, ↓mq_112_77, ↓mq_112_80, ↓mq_112_81, ↓mq_112_84, ↓mq_112_85, ↓mq_112_87, ↓mq_112_88, ↓mq_112_91, ↓mq_112_93, ↓mq_112_94, ↓mq_112_95, ↓mq_112_96, ↓mq_112_97, ↓mq_112_98, ↓mq_112_101, ↓mq_112_102, ↓mq_112_103, ↓mq_112_104, ↓mq_112_107, ↓mq_112_110, ↓mq_112_111, ↓mq_112_112, ↓mq_112_115, ↓mq_112_116, ↓mq_112_119, ↓mq_112_122, ↓mq_112_123, ↓mq_112_124, ↓mq_112_125, ↓mq_112_126, ↓mq_112_129, ↓mq_112_130, ↓mq_112_131, ↓mq_112_134, ↓mq_112_135, ↓mq_112_138, ↓mq_112_139, ↓mq_112_140, ↓mq_112_141, ↓mq_112_142, ↓mq_112_143, ↓mq_112_144, ↓mq_112_145, ↓mq_112_146, ↓mq_112_147, ↓mq_112_150, ↓mq_112_151, ↓mq_112_152, ↓mq_112_153, ↓mq_112_154, ↓mq_112_155, ↓mq_112_156, ↓mq_112_157, ↓mq_112_158, ↓mq_112_159, ↓mj_bs (mh_gf 9 o1 rfl), ↓mj_bs (e103'), Option.toList, List.cons_append, List.nil_append, mj_b0, Bool.true_eq_false, mh_isC o1, ↓mj_bs (mt_110 wρ H1 hi), ↓mj_bs (mt_113 hop64 (show j < 6 by omega)), hbj, ↓mj_bs (mh_gf 3 o1 rfl), mn_add, ↓mj_bs (b2), ↓mj_bs (mh_gf 13 o2 rfl), ↓mj_bs (t71.gt (show i < 6 by omega) hi), mn_shl j (show j < 31 by omega), mn_or, mn_bor _ hE j (show j < 6 by omega), ↓mj_bs (b3), ↓mj_bs (mh_gf 13 o3 rfl), ↓mj_bs (gj), mn_shl i (show i < 31 by omega), mn_bor _ hEj i (show i < 6 by omega), ↓mj_bs (b4), mj_z1]
      rfl
    · have eX : mm_pE (ms_t S) pl ρ = (pl + 1, none) := by simp only [mm_pE, f0, f1]
      rw [eX]
      refine ⟨g1, false, ?_, ρ, H1, F1.mo (fun k z => Or.inl z), hpl, rfl, fun _ => rfl⟩
      rw [st2]
      rcases hno with ⟨j, hj, x1, hbj⟩ | hno
      · rw [x1] at e103' ⊢
        rw [mn_dlt (show j < 2 ^ 31 by omega) (show mr_n ρ < 2 ^ 31 by omega), decide_eq_true hj] at e103'
        simp only [↓reduceIte, ↓mq_112_0, ↓mq_112_1, ↓mq_112_4, ↓mq_112_5, ↓mq_112_8, ↓mq_112_11, ↓mq_112_12, ↓mq_112_15, ↓mq_112_16, ↓mq_112_19, ↓mq_112_20, ↓mq_112_22, ↓mq_112_23, ↓mq_112_26, ↓mq_112_28, ↓mq_112_29, ↓mq_112_30, ↓mq_112_31, ↓mq_112_32, ↓mq_112_33, ↓mq_112_36, ↓mq_112_37, ↓mq_112_38, ↓mq_112_39, ↓mq_112_42, ↓mq_112_45, ↓mq_112_46, ↓mq_112_47, ↓mq_112_50, ↓mq_112_53, ↓mq_112_54, ↓mq_112_55, ↓mq_112_56, ↓mq_112_57, ↓mq_112_60, ↓mq_112_61, ↓mq_112_62, ↓mq_112_65, ↓mq_112_66, ↓mq_112_69, ↓mq_112_70, ↓mq_112_73, ↓mq_112_76, ↓mq_112_77, ↓mq_112_80, ↓mq_112_81, ↓mq_112_84, ↓mq_112_85, ↓mq_112_87, ↓mq_112_88, ↓mq_112_91, ↓mq_112_93, ↓mq_112_94, ↓mq_112_95, ↓mq_112_96, ↓mq_112_97, ↓mq_112_98, ↓mq_112_101, ↓mq_112_102, ↓mq_112_103, ↓mq_112_104, ↓mq_112_107, ↓mq_112_110, ↓mq_112_111, ↓mq_112_112, ↓mq_112_115, ↓mq_112_116, ↓mq_112_119, ↓mq_112_122, ↓mq_112_123, ↓mq_112_124, ↓mq_112_125, ↓mq_112_126, ↓mq_112_129, ↓mq_112_130, ↓mq_112_131, ↓mq_112_134, ↓mq_112_135, ↓mq_112_138, ↓mq_112_139, ↓mq_112_140, ↓mq_112_141, ↓mq_112_142, ↓mq_112_143, ↓mq_112_144, ↓mq_112_145, ↓mq_112_146, ↓mq_112_147, ↓mq_112_150, ↓mq_112_151, ↓mq_112_152, ↓mq_112_153, ↓mq_112_154, ↓mq_112_155, ↓mq_112_156, ↓mq_112_157, ↓mq_112_158, ↓mq_112_159, ↓mj_bs (mh_gf 9 o1 rfl), ↓mj_bs (e103'), Option.toList, List.cons_append, List.nil_append, mj_b0, Bool.true_eq_false, mh_isC o1, ↓mj_bs (mt_110 wρ H1 hi), ↓mj_bs (mt_113 hop64 (show j < 6 by omega)), hbj, mj_z0]
        rfl
      · rw [decide_eq_false hno] at e103'
        simp only [↓reduceIte, ↓mq_112_0, ↓mq_112_1, ↓mq_112_4, ↓mq_112_5, ↓mq_112_8, ↓mq_112_11, ↓mq_112_12, ↓mq_112_15, ↓mq_112_16, ↓mq_112_19, ↓mq_112_20, ↓mq_112_22, ↓mq_112_23, ↓mq_112_26, ↓mq_112_28, ↓mq_112_29, ↓mq_112_30, ↓mq_112_31, ↓mq_112_32, ↓mq_112_33, ↓mq_112_36, ↓mq_112_37, ↓mq_112_38, ↓mq_112_39, ↓mq_112_42, ↓mq_112_45, ↓mq_112_46, ↓mq_112_47, ↓mq_112_50, ↓mq_112_53, ↓mq_112_54, ↓mq_112_55, ↓mq_112_56, ↓mq_112_57, ↓mq_112_60, ↓mq_112_61, ↓mq_112_62, ↓mq_112_65, ↓mq_112_66, ↓mq_112_69, ↓mq_112_70, ↓mq_112_73, ↓mq_112_76, ↓mq_112_77, ↓mq_112_80, ↓mq_112_81, ↓mq_112_84, ↓mq_112_85, ↓mq_112_87, ↓mq_112_88, ↓mq_112_91, ↓mq_112_93, ↓mq_112_94, ↓mq_112_95, ↓mq_112_96, ↓mq_112_97, ↓mq_112_98, ↓mq_112_101, ↓mq_112_102, ↓mq_112_103, ↓mq_112_104, ↓mq_112_107, ↓mq_112_110, ↓mq_112_111, ↓mq_112_112, ↓mq_112_115, ↓mq_112_116, ↓mq_112_119, ↓mq_112_122, ↓mq_112_123, ↓mq_112_124, ↓mq_112_125, ↓mq_112_126, ↓mq_112_129, ↓mq_112_130, ↓mq_112_131, ↓mq_112_134, ↓mq_112_135, ↓mq_112_138, ↓mq_112_139, ↓mq_112_140, ↓mq_112_141, ↓mq_112_142, ↓mq_112_143, ↓mq_112_144, ↓mq_112_145, ↓mq_112_146, ↓mq_112_147, ↓mq_112_150, ↓mq_112_151, ↓mq_112_152, ↓mq_112_153, ↓mq_112_154, ↓mq_112_155, ↓mq_112_156, ↓mq_112_157, ↓mq_112_158, ↓mq_112_159, ↓mj_bs (mh_gf 9 o1 rfl), ↓mj_bs (e103'), Option.toList, List.cons_append, List.nil_append, mj_b0, mj_z0]
        rfl
  · have eX : mm_pE (ms_t S) pl ρ = (pl, none) := by simp only [mm_pE, f0]
    rw [eX]
    refine ⟨h, false, ?_, ρ, H, mh_F.rf, hp, rfl, fun _ => rfl⟩
    rw [st1]
    rcases hno with ⟨i, hi, x0, hb⟩ | hno
    · have hop : mm_open ρ i = 0 := by
        rw [mm_may_at _ hn, decide_eq_true hi, Bool.true_and, decide_eq_false_iff_not] at hb
        exact Decidable.not_not.mp hb
      rw [x0] at e103 ⊢
      rw [mn_dlt (show i < 2 ^ 31 by omega) (show mr_n ρ < 2 ^ 31 by omega), decide_eq_true hi] at e103
      simp only [↓reduceIte, ↓mq_112_0, ↓mq_112_1, ↓mq_112_4, ↓mq_112_5, ↓mq_112_8, ↓mq_112_11, ↓mq_112_12, ↓mq_112_15, ↓mq_112_16, ↓mq_112_19, ↓mq_112_20, ↓mq_112_22, ↓mq_112_23, ↓mq_112_26, ↓mq_112_28, ↓mq_112_29, ↓mq_112_30, ↓mq_112_31, ↓mq_112_32, ↓mq_112_33, ↓mq_112_36, ↓mq_112_37, ↓mq_112_38, ↓mq_112_39, ↓mq_112_42, ↓mq_112_45, ↓mq_112_46, ↓mq_112_47, ↓mq_112_50, ↓mq_112_53, ↓mq_112_54, ↓mq_112_55, ↓mq_112_56, ↓mq_112_57, ↓mq_112_60, ↓mq_112_61, ↓mq_112_62, ↓mq_112_65, ↓mq_112_66, ↓mq_112_69, ↓mq_112_70, ↓mq_112_73, ↓mq_112_76, ↓mq_112_77, ↓mq_112_80, ↓mq_112_81, ↓mq_112_84, ↓mq_112_85, ↓mq_112_87, ↓mq_112_88, ↓mq_112_91, ↓mq_112_93, ↓mq_112_94, ↓mq_112_95, ↓mq_112_96, ↓mq_112_97, ↓mq_112_98, ↓mq_112_101, ↓mq_112_102, ↓mq_112_103, ↓mq_112_104, ↓mq_112_107, ↓mq_112_110, ↓mq_112_111, ↓mq_112_112, ↓mq_112_115, ↓mq_112_116, ↓mq_112_119, ↓mq_112_122, ↓mq_112_123, ↓mq_112_124, ↓mq_112_125, ↓mq_112_126, ↓mq_112_129, ↓mq_112_130, ↓mq_112_131, ↓mq_112_134, ↓mq_112_135, ↓mq_112_138, ↓mq_112_139, ↓mq_112_140, ↓mq_112_141, ↓mq_112_142, ↓mq_112_143, ↓mq_112_144, ↓mq_112_145, ↓mq_112_146, ↓mq_112_147, ↓mq_112_150, ↓mq_112_151, ↓mq_112_152, ↓mq_112_153, ↓mq_112_154, ↓mq_112_155, ↓mq_112_156, ↓mq_112_157, ↓mq_112_158, ↓mq_112_159, ↓mj_bs (mh_gf 9 o rfl), ↓mj_bs (e103), Option.toList, List.cons_append, List.nil_append, mj_b0, Bool.true_eq_false, mh_isC o, ↓mj_bs (mt_110 wρ H hi), mt_eq hop, mj_z0]
      rfl
    · rw [decide_eq_false hno] at e103
      simp only [↓reduceIte, ↓mq_112_0, ↓mq_112_1, ↓mq_112_4, ↓mq_112_5, ↓mq_112_8, ↓mq_112_11, ↓mq_112_12, ↓mq_112_15, ↓mq_112_16, ↓mq_112_19, ↓mq_112_20, ↓mq_112_22, ↓mq_112_23, ↓mq_112_26, ↓mq_112_28, ↓mq_112_29, ↓mq_112_30, ↓mq_112_31, ↓mq_112_32, ↓mq_112_33, ↓mq_112_36, ↓mq_112_37, ↓mq_112_38, ↓mq_112_39, ↓mq_112_42, ↓mq_112_45, ↓mq_112_46, ↓mq_112_47, ↓mq_112_50, ↓mq_112_53, ↓mq_112_54, ↓mq_112_55, ↓mq_112_56, ↓mq_112_57, ↓mq_112_60, ↓mq_112_61, ↓mq_112_62, ↓mq_112_65, ↓mq_112_66, ↓mq_112_69, ↓mq_112_70, ↓mq_112_73, ↓mq_112_76, ↓mq_112_77, ↓mq_112_80, ↓mq_112_81, ↓mq_112_84, ↓mq_112_85, ↓mq_112_87, ↓mq_112_88, ↓mq_112_91, ↓mq_112_93, ↓mq_112_94, ↓mq_112_95, ↓mq_112_96, ↓mq_112_97, ↓mq_112_98, ↓mq_112_101, ↓mq_112_102, ↓mq_112_103, ↓mq_112_104, ↓mq_112_107, ↓mq_112_110, ↓mq_112_111, ↓mq_112_112, ↓mq_112_115, ↓mq_112_116, ↓mq_112_119, ↓mq_112_122, ↓mq_112_123, ↓mq_112_124, ↓mq_112_125, ↓mq_112_126, ↓mq_112_129, ↓mq_112_130, ↓mq_112_131, ↓mq_112_134, ↓mq_112_135, ↓mq_112_138, ↓mq_112_139, ↓mq_112_140, ↓mq_112_141, ↓mq_112_142, ↓mq_112_143, ↓mq_112_144, ↓mq_112_145, ↓mq_112_146, ↓mq_112_147, ↓mq_112_150, ↓mq_112_151, ↓mq_112_152, ↓mq_112_153, ↓mq_112_154, ↓mq_112_155, ↓mq_112_156, ↓mq_112_157, ↓mq_112_158, ↓mq_112_159, ↓mj_bs (mh_gf 9 o rfl), ↓mj_bs (e103), Option.toList, List.cons_append, List.nil_append, mj_b0, mj_z0]
      rfl
theorem mt_108 (w : mw_S S) (wρ : mw_R ρ) (H : mh_RP h S d pl ρ) (hp : pl < (ms_t S).length) : ∃ h' b, mj_C 108 [.ref 65] h = some (some (.int (mj_bI b)), h') ∧ mh_rt h h' S d ρ (mm_part (ms_t S) pl ρ) b := by
  have h64 := w.1
  have ht := w.2.1
  have hn := wρ.1
  have hg := wρ.2.1
  have o := H.1
  obtain ⟨c, g0, ec, -⟩ := mm_xg w H hp
  have hc256 := ht c (List.mem_of_getElem? ec)
  obtain ⟨g1, b1, H1, F1⟩ := H.sp (pl + 1)
  have o1 := H1.1
  have F1' : mh_F mh_RF h g1 := F1.mo (fun k z => Or.inl z)
  have e109 := mt_109 wρ H
  have st : mj_C 108 [.ref 65] h = mj_R 108 (71, [.ref 65, .int (nI c), .int (mj_bI (decide (c = 66 ∧ mr_n ρ < 6))), .int (mj_bI (decide (c = 69 ∧ mm_may ρ (mr_n ρ) ≠ 0))), .int (mj_bI (decide (c = 71 ∧ mr_g ρ < 3)))], [], h) := by
    rw [mc_108]
    by_cases c66 : c = 66
    · by_cases q : mr_n ρ < 6
      · simp only [↓reduceIte, ↓mq_108_0, ↓mq_108_1, ↓mq_108_4, ↓mq_108_5, ↓mq_108_8, ↓mq_108_9, ↓mq_108_10, ↓mq_108_11, ↓mq_108_13, ↓mq_108_16, ↓mq_108_17, ↓mq_108_20, ↓mq_108_22, ↓mq_108_25, ↓mq_108_26, ↓mq_108_29, ↓mq_108_30, ↓mq_108_31, ↓mq_108_32, ↓mq_108_34, ↓mq_108_37, ↓mq_108_38, ↓mq_108_41, ↓mq_108_44, ↓mq_108_45, ↓mq_108_48, ↓mq_108_49, ↓mq_108_50, ↓mq_108_51, ↓mq_108_53, ↓mq_108_56, ↓mq_108_57, ↓mq_108_60, ↓mq_108_61, ↓mq_108_64, ↓mq_108_65, ↓mq_108_68, ↓mq_108_69, ↓mq_108_72, ↓mq_108_75, ↓mq_108_76, ↓mq_108_79, ↓mq_108_81, ↓mq_108_84, ↓mq_108_85, ↓mq_108_86, ↓mq_108_87, ↓mq_108_88, ↓mq_108_91, ↓mq_108_92, ↓mq_108_93, ↓mq_108_96, ↓mq_108_97, ↓mq_108_100, ↓mq_108_101, ↓mq_108_104, ↓mq_108_107, ↓mq_108_108, ↓mq_108_111, ↓mq_108_112, ↓mq_108_115, ↓mq_108_118, ↓mq_108_119, ↓mq_108_122, ↓mj_bs (mh_gf 1 o rfl), ↓mj_bs (mh_gf 3 o rfl), ↓mj_bs (g0), mt_eq c66, ↓mj_bs (mh_gf 9 o rfl), mf_le q, mf_eq (show c ≠ 69 by omega), mf_eq (show c ≠ 71 by omega)]
        simp [c66, q, mj_bI]
      · simp only [↓reduceIte, ↓mq_108_0, ↓mq_108_1, ↓mq_108_4, ↓mq_108_5, ↓mq_108_8, ↓mq_108_9, ↓mq_108_10, ↓mq_108_11, ↓mq_108_13, ↓mq_108_16, ↓mq_108_17, ↓mq_108_20, ↓mq_108_22, ↓mq_108_25, ↓mq_108_26, ↓mq_108_29, ↓mq_108_30, ↓mq_108_31, ↓mq_108_32, ↓mq_108_34, ↓mq_108_37, ↓mq_108_38, ↓mq_108_41, ↓mq_108_44, ↓mq_108_45, ↓mq_108_48, ↓mq_108_49, ↓mq_108_50, ↓mq_108_51, ↓mq_108_53, ↓mq_108_56, ↓mq_108_57, ↓mq_108_60, ↓mq_108_61, ↓mq_108_64, ↓mq_108_65, ↓mq_108_68, ↓mq_108_69, ↓mq_108_72, ↓mq_108_75, ↓mq_108_76, ↓mq_108_79, ↓mq_108_81, ↓mq_108_84, ↓mq_108_85, ↓mq_108_86, ↓mq_108_87, ↓mq_108_88, ↓mq_108_91, ↓mq_108_92, ↓mq_108_93, ↓mq_108_96, ↓mq_108_97, ↓mq_108_100, ↓mq_108_101, ↓mq_108_104, ↓mq_108_107, ↓mq_108_108, ↓mq_108_111, ↓mq_108_112, ↓mq_108_115, ↓mq_108_118, ↓mq_108_119, ↓mq_108_122, ↓mj_bs (mh_gf 1 o rfl), ↓mj_bs (mh_gf 3 o rfl), ↓mj_bs (g0), mt_eq c66, ↓mj_bs (mh_gf 9 o rfl), mt_le (Nat.le_of_not_lt q), mf_eq (show c ≠ 69 by omega), mf_eq (show c ≠ 71 by omega)]
        simp [c66, q, mj_bI]
    · by_cases c69 : c = 69
      · by_cases q : mm_may ρ (mr_n ρ) ≠ 0
        · rw [decide_eq_true q] at e109
          simp only [↓reduceIte, ↓mq_108_0, ↓mq_108_1, ↓mq_108_4, ↓mq_108_5, ↓mq_108_8, ↓mq_108_9, ↓mq_108_10, ↓mq_108_11, ↓mq_108_13, ↓mq_108_16, ↓mq_108_17, ↓mq_108_20, ↓mq_108_22, ↓mq_108_25, ↓mq_108_26, ↓mq_108_29, ↓mq_108_30, ↓mq_108_31, ↓mq_108_32, ↓mq_108_34, ↓mq_108_37, ↓mq_108_38, ↓mq_108_41, ↓mq_108_44, ↓mq_108_45, ↓mq_108_48, ↓mq_108_49, ↓mq_108_50, ↓mq_108_51, ↓mq_108_53, ↓mq_108_56, ↓mq_108_57, ↓mq_108_60, ↓mq_108_61, ↓mq_108_64, ↓mq_108_65, ↓mq_108_68, ↓mq_108_69, ↓mq_108_72, ↓mq_108_75, ↓mq_108_76, ↓mq_108_79, ↓mq_108_81, ↓mq_108_84, ↓mq_108_85, ↓mq_108_86, ↓mq_108_87, ↓mq_108_88, ↓mq_108_91, ↓mq_108_92, ↓mq_108_93, ↓mq_108_96, ↓mq_108_97, ↓mq_108_100, ↓mq_108_101, ↓mq_108_104, ↓mq_108_107, ↓mq_108_108, ↓mq_108_111, ↓mq_108_112, ↓mq_108_115, ↓mq_108_118, ↓mq_108_119, ↓mq_108_122, ↓mj_bs (mh_gf 1 o rfl), ↓mj_bs (mh_gf 3 o rfl), ↓mj_bs (g0), mf_eq c66, mt_eq c69, mh_isC o, ↓mj_bs (e109), Option.toList, List.cons_append, List.nil_append, mj_b0, Bool.true_eq_false, mf_eq (show c ≠ 71 by omega)]
          simp [c69, q, mj_bI]
        · rw [decide_eq_false q] at e109
          simp only [↓reduceIte, ↓mq_108_0, ↓mq_108_1, ↓mq_108_4, ↓mq_108_5, ↓mq_108_8, ↓mq_108_9, ↓mq_108_10, ↓mq_108_11, ↓mq_108_13, ↓mq_108_16, ↓mq_108_17, ↓mq_108_20, ↓mq_108_22, ↓mq_108_25, ↓mq_108_26, ↓mq_108_29, ↓mq_108_30, ↓mq_108_31, ↓mq_108_32, ↓mq_108_34, ↓mq_108_37, ↓mq_108_38, ↓mq_108_41, ↓mq_108_44, ↓mq_108_45, ↓mq_108_48, ↓mq_108_49, ↓mq_108_50, ↓mq_108_51, ↓mq_108_53, ↓mq_108_56, ↓mq_108_57, ↓mq_108_60, ↓mq_108_61, ↓mq_108_64, ↓mq_108_65, ↓mq_108_68, ↓mq_108_69, ↓mq_108_72, ↓mq_108_75, ↓mq_108_76, ↓mq_108_79, ↓mq_108_81, ↓mq_108_84, ↓mq_108_85, ↓mq_108_86, ↓mq_108_87, ↓mq_108_88, ↓mq_108_91, ↓mq_108_92, ↓mq_108_93, ↓mq_108_96, ↓mq_108_97, ↓mq_108_100, ↓mq_108_101, ↓mq_108_104, ↓mq_108_107, ↓mq_108_108, ↓mq_108_111, ↓mq_108_112, ↓mq_108_115, ↓mq_108_118, ↓mq_108_119, ↓mq_108_122, ↓mj_bs (mh_gf 1 o rfl), ↓mj_bs (mh_gf 3 o rfl), ↓mj_bs (g0), mf_eq c66, mt_eq c69, mh_isC o, ↓mj_bs (e109), Option.toList, List.cons_append, List.nil_append, mj_b0, mf_eq (show c ≠ 71 by omega)]
          have q' := Decidable.not_not.mp q
          simp [c69, q', mj_bI]
      · by_cases c71 : c = 71
        · by_cases q : mr_g ρ < 3
          · simp only [↓reduceIte, ↓mq_108_0, ↓mq_108_1, ↓mq_108_4, ↓mq_108_5, ↓mq_108_8, ↓mq_108_9, ↓mq_108_10, ↓mq_108_11, ↓mq_108_13, ↓mq_108_16, ↓mq_108_17, ↓mq_108_20, ↓mq_108_22, ↓mq_108_25, ↓mq_108_26, ↓mq_108_29, ↓mq_108_30, ↓mq_108_31, ↓mq_108_32, ↓mq_108_34, ↓mq_108_37, ↓mq_108_38, ↓mq_108_41, ↓mq_108_44, ↓mq_108_45, ↓mq_108_48, ↓mq_108_49, ↓mq_108_50, ↓mq_108_51, ↓mq_108_53, ↓mq_108_56, ↓mq_108_57, ↓mq_108_60, ↓mq_108_61, ↓mq_108_64, ↓mq_108_65, ↓mq_108_68, ↓mq_108_69, ↓mq_108_72, ↓mq_108_75, ↓mq_108_76, ↓mq_108_79, ↓mq_108_81, ↓mq_108_84, ↓mq_108_85, ↓mq_108_86, ↓mq_108_87, ↓mq_108_88, ↓mq_108_91, ↓mq_108_92, ↓mq_108_93, ↓mq_108_96, ↓mq_108_97, ↓mq_108_100, ↓mq_108_101, ↓mq_108_104, ↓mq_108_107, ↓mq_108_108, ↓mq_108_111, ↓mq_108_112, ↓mq_108_115, ↓mq_108_118, ↓mq_108_119, ↓mq_108_122, ↓mj_bs (mh_gf 1 o rfl), ↓mj_bs (mh_gf 3 o rfl), ↓mj_bs (g0), mf_eq c66, mf_eq c69, mt_eq c71, ↓mj_bs (mh_gf 10 o rfl), mf_le q]
            simp [c71, q, mj_bI]
          · simp only [↓reduceIte, ↓mq_108_0, ↓mq_108_1, ↓mq_108_4, ↓mq_108_5, ↓mq_108_8, ↓mq_108_9, ↓mq_108_10, ↓mq_108_11, ↓mq_108_13, ↓mq_108_16, ↓mq_108_17, ↓mq_108_20, ↓mq_108_22, ↓mq_108_25, ↓mq_108_26, ↓mq_108_29, ↓mq_108_30, ↓mq_108_31, ↓mq_108_32, ↓mq_108_34, ↓mq_108_37, ↓mq_108_38, ↓mq_108_41, ↓mq_108_44, ↓mq_108_45, ↓mq_108_48, ↓mq_108_49, ↓mq_108_50, ↓mq_108_51, ↓mq_108_53, ↓mq_108_56, ↓mq_108_57, ↓mq_108_60, ↓mq_108_61, ↓mq_108_64, ↓mq_108_65, ↓mq_108_68, ↓mq_108_69, ↓mq_108_72, ↓mq_108_75, ↓mq_108_76, ↓mq_108_79, ↓mq_108_81, ↓mq_108_84, ↓mq_108_85, ↓mq_108_86, ↓mq_108_87, ↓mq_108_88, ↓mq_108_91, ↓mq_108_92, ↓mq_108_93, ↓mq_108_96, ↓mq_108_97, ↓mq_108_100, ↓mq_108_101, ↓mq_108_104, ↓mq_108_107, ↓mq_108_108, ↓mq_108_111, ↓mq_108_112, ↓mq_108_115, ↓mq_108_118, ↓mq_108_119, ↓mq_108_122, ↓mj_bs (mh_gf 1 o rfl), ↓mj_bs (mh_gf 3 o rfl), ↓mj_bs (g0), mf_eq c66, mf_eq c69, mt_eq c71, ↓mj_bs (mh_gf 10 o rfl), mt_le (Nat.le_of_not_lt q)]
            simp [c71, q, mj_bI]
        · simp only [↓reduceIte, ↓mq_108_0, ↓mq_108_1, ↓mq_108_4, ↓mq_108_5, ↓mq_108_8, ↓mq_108_9, ↓mq_108_10, ↓mq_108_11, ↓mq_108_13, ↓mq_108_16, ↓mq_108_17, ↓mq_108_20, ↓mq_108_22, ↓mq_108_25, ↓mq_108_26, ↓mq_108_29, ↓mq_108_30, ↓mq_108_31, ↓mq_108_32, ↓mq_108_34, ↓mq_108_37, ↓mq_108_38, ↓mq_108_41, ↓mq_108_44, ↓mq_108_45, ↓mq_108_48, ↓mq_108_49, ↓mq_108_50, ↓mq_108_51, ↓mq_108_53, ↓mq_108_56, ↓mq_108_57, ↓mq_108_60, ↓mq_108_61, ↓mq_108_64, ↓mq_108_65, ↓mq_108_68, ↓mq_108_69, ↓mq_108_72, ↓mq_108_75, ↓mq_108_76, ↓mq_108_79, ↓mq_108_81, ↓mq_108_84, ↓mq_108_85, ↓mq_108_86, ↓mq_108_87, ↓mq_108_88, ↓mq_108_91, ↓mq_108_92, ↓mq_108_93, ↓mq_108_96, ↓mq_108_97, ↓mq_108_100, ↓mq_108_101, ↓mq_108_104, ↓mq_108_107, ↓mq_108_108, ↓mq_108_111, ↓mq_108_112, ↓mq_108_115, ↓mq_108_118, ↓mq_108_119, ↓mq_108_122, ↓mj_bs (mh_gf 1 o rfl), ↓mj_bs (mh_gf 3 o rfl), ↓mj_bs (g0), mf_eq c66, mf_eq c69, mf_eq c71]
          simp [c66, c69, c71, mj_bI]
  rw [st]
  have lift : ∀ {X : Nat × Option mm_Ro} {b g}, mh_rt g1 g S d ρ X b → mh_rt h g S d ρ X b := fun z => by
    obtain ⟨ρ', z1, z2, z3⟩ := z
    exact ⟨ρ', z1, F1'.tt z2, z3⟩
  by_cases k66 : c = 66 ∧ mr_n ρ < 6
  · obtain ⟨g, b, e, Z⟩ := mt_111 w wρ H1 hp k66.2
    have eX : mm_part (ms_t S) pl ρ = mm_pB (ms_t S) (pl + 1) ρ := by unfold mm_part; rw [ec, if_pos ⟨by rw [k66.1], k66.2⟩]
    rw [eX, decide_eq_true k66]
    refine ⟨g, b, ?_, lift Z⟩
    simp only [↓reduceIte, ↓mq_108_0, ↓mq_108_1, ↓mq_108_4, ↓mq_108_5, ↓mq_108_8, ↓mq_108_9, ↓mq_108_10, ↓mq_108_11, ↓mq_108_13, ↓mq_108_16, ↓mq_108_17, ↓mq_108_20, ↓mq_108_22, ↓mq_108_25, ↓mq_108_26, ↓mq_108_29, ↓mq_108_30, ↓mq_108_31, ↓mq_108_32, ↓mq_108_34, ↓mq_108_37, ↓mq_108_38, ↓mq_108_41, ↓mq_108_44, ↓mq_108_45, ↓mq_108_48, ↓mq_108_49, ↓mq_108_50, ↓mq_108_51, ↓mq_108_53, ↓mq_108_56, ↓mq_108_57, ↓mq_108_60, ↓mq_108_61, ↓mq_108_64, ↓mq_108_65, ↓mq_108_68, ↓mq_108_69, ↓mq_108_71, ↓mq_108_72, ↓mq_108_75, ↓mq_108_76, ↓mq_108_79, ↓mq_108_81, ↓mq_108_84, ↓mq_108_85, ↓mq_108_86, ↓mq_108_87, ↓mq_108_88, ↓mq_108_91, ↓mq_108_92, ↓mq_108_93, ↓mq_108_96, ↓mq_108_97, ↓mq_108_100, ↓mq_108_101, ↓mq_108_104, ↓mq_108_107, ↓mq_108_108, ↓mq_108_111, ↓mq_108_112, ↓mq_108_115, ↓mq_108_118, ↓mq_108_119, ↓mq_108_122, mj_b0, Bool.true_eq_false, ↓mj_bs (mh_gf 3 o rfl), mn_add, ↓mj_bs (b1), mh_isC o1, ↓mj_bs (e), Option.toList, List.cons_append, List.nil_append, mj_zb]
  · rw [decide_eq_false k66]
    have n66 : ¬ ((ms_t S)[pl]? = some 66 ∧ mr_n ρ < 6) := fun z => k66 ⟨by have := z.1; rw [ec] at this; exact Option.some.inj this, z.2⟩
    by_cases k69 : c = 69 ∧ mm_may ρ (mr_n ρ) ≠ 0
    · obtain ⟨g, b, e, Z⟩ := mt_112 w wρ H1 hp
      have eX : mm_part (ms_t S) pl ρ = mm_pE (ms_t S) (pl + 1) ρ := by unfold mm_part; rw [if_neg n66, ec, if_pos ⟨by rw [k69.1], k69.2⟩]
      rw [eX, decide_eq_true k69]
      refine ⟨g, b, ?_, lift Z⟩
      simp only [↓reduceIte, ↓mq_108_0, ↓mq_108_1, ↓mq_108_4, ↓mq_108_5, ↓mq_108_8, ↓mq_108_9, ↓mq_108_10, ↓mq_108_11, ↓mq_108_13, ↓mq_108_16, ↓mq_108_17, ↓mq_108_20, ↓mq_108_22, ↓mq_108_25, ↓mq_108_26, ↓mq_108_29, ↓mq_108_30, ↓mq_108_31, ↓mq_108_32, ↓mq_108_34, ↓mq_108_37, ↓mq_108_38, ↓mq_108_41, ↓mq_108_44, ↓mq_108_45, ↓mq_108_48, ↓mq_108_49, ↓mq_108_50, ↓mq_108_51, ↓mq_108_53, ↓mq_108_56, ↓mq_108_57, ↓mq_108_60, ↓mq_108_61, ↓mq_108_64, ↓mq_108_65, ↓mq_108_68, ↓mq_108_69, ↓mq_108_71, ↓mq_108_72, ↓mq_108_75, ↓mq_108_76, ↓mq_108_79, ↓mq_108_81, ↓mq_108_84, ↓mq_108_85, ↓mq_108_86, ↓mq_108_87, ↓mq_108_88, ↓mq_108_91, ↓mq_108_92, ↓mq_108_93, ↓mq_108_96, ↓mq_108_97, ↓mq_108_100, ↓mq_108_101, ↓mq_108_104, ↓mq_108_107, ↓mq_108_108, ↓mq_108_111, ↓mq_108_112, ↓mq_108_115, ↓mq_108_118, ↓mq_108_119, ↓mq_108_122, mj_b0, Bool.true_eq_false, ↓mj_bs (mh_gf 3 o rfl), mn_add, ↓mj_bs (b1), mh_isC o1, ↓mj_bs (e), Option.toList, List.cons_append, List.nil_append, mj_zb]
    · rw [decide_eq_false k69]
      have n69 : ¬ ((ms_t S)[pl]? = some 69 ∧ mm_may ρ (mr_n ρ) ≠ 0) := fun z => k69 ⟨by have := z.1; rw [ec] at this; exact Option.some.inj this, z.2⟩
      by_cases k71 : c = 71 ∧ mr_g ρ < 3
      · obtain ⟨g, b, e, Z⟩ := mt_114 w wρ H1 hp k71.2
        have eX : mm_part (ms_t S) pl ρ = mm_pG (ms_t S) (pl + 1) ρ := by unfold mm_part; rw [if_neg n66, if_neg n69, ec, if_pos ⟨by rw [k71.1], k71.2⟩]
        rw [eX, decide_eq_true k71]
        refine ⟨g, b, ?_, lift Z⟩
        simp only [↓reduceIte, ↓mq_108_0, ↓mq_108_1, ↓mq_108_4, ↓mq_108_5, ↓mq_108_8, ↓mq_108_9, ↓mq_108_10, ↓mq_108_11, ↓mq_108_13, ↓mq_108_16, ↓mq_108_17, ↓mq_108_20, ↓mq_108_22, ↓mq_108_25, ↓mq_108_26, ↓mq_108_29, ↓mq_108_30, ↓mq_108_31, ↓mq_108_32, ↓mq_108_34, ↓mq_108_37, ↓mq_108_38, ↓mq_108_41, ↓mq_108_44, ↓mq_108_45, ↓mq_108_48, ↓mq_108_49, ↓mq_108_50, ↓mq_108_51, ↓mq_108_53, ↓mq_108_56, ↓mq_108_57, ↓mq_108_60, ↓mq_108_61, ↓mq_108_64, ↓mq_108_65, ↓mq_108_68, ↓mq_108_69, ↓mq_108_71, ↓mq_108_72, ↓mq_108_75, ↓mq_108_76, ↓mq_108_79, ↓mq_108_81, ↓mq_108_84, ↓mq_108_85, ↓mq_108_86, ↓mq_108_87, ↓mq_108_88, ↓mq_108_91, ↓mq_108_92, ↓mq_108_93, ↓mq_108_96, ↓mq_108_97, ↓mq_108_100, ↓mq_108_101, ↓mq_108_104, ↓mq_108_107, ↓mq_108_108, ↓mq_108_111, ↓mq_108_112, ↓mq_108_115, ↓mq_108_118, ↓mq_108_119, ↓mq_108_122, mj_b0, Bool.true_eq_false, ↓mj_bs (mh_gf 3 o rfl), mn_add, ↓mj_bs (b1), mh_isC o1, ↓mj_bs (e), Option.toList, List.cons_append, List.nil_append, mj_zb]
      · rw [decide_eq_false k71]
        have n71 : ¬ ((ms_t S)[pl]? = some 71 ∧ mr_g ρ < 3) := fun z => k71 ⟨by have := z.1; rw [ec] at this; exact Option.some.inj this, z.2⟩
        have eX : mm_part (ms_t S) pl ρ = (pl, none) := by unfold mm_part; rw [if_neg n66, if_neg n69, if_neg n71]
        rw [eX]
        refine ⟨h, false, ?_, ρ, H, mh_F.rf, Nat.le_of_lt hp, rfl, fun _ => rfl⟩
        simp only [↓reduceIte, ↓mq_108_0, ↓mq_108_1, ↓mq_108_4, ↓mq_108_5, ↓mq_108_8, ↓mq_108_9, ↓mq_108_10, ↓mq_108_11, ↓mq_108_13, ↓mq_108_16, ↓mq_108_17, ↓mq_108_20, ↓mq_108_22, ↓mq_108_25, ↓mq_108_26, ↓mq_108_29, ↓mq_108_30, ↓mq_108_31, ↓mq_108_32, ↓mq_108_34, ↓mq_108_37, ↓mq_108_38, ↓mq_108_41, ↓mq_108_44, ↓mq_108_45, ↓mq_108_48, ↓mq_108_49, ↓mq_108_50, ↓mq_108_51, ↓mq_108_53, ↓mq_108_56, ↓mq_108_57, ↓mq_108_60, ↓mq_108_61, ↓mq_108_64, ↓mq_108_65, ↓mq_108_68, ↓mq_108_69, ↓mq_108_71, ↓mq_108_72, ↓mq_108_75, ↓mq_108_76, ↓mq_108_79, ↓mq_108_81, ↓mq_108_84, ↓mq_108_85, ↓mq_108_86, ↓mq_108_87, ↓mq_108_88, ↓mq_108_91, ↓mq_108_92, ↓mq_108_93, ↓mq_108_96, ↓mq_108_97, ↓mq_108_100, ↓mq_108_101, ↓mq_108_104, ↓mq_108_107, ↓mq_108_108, ↓mq_108_111, ↓mq_108_112, ↓mq_108_115, ↓mq_108_118, ↓mq_108_119, ↓mq_108_122, mj_b0, mj_z0]
        rfl
end
