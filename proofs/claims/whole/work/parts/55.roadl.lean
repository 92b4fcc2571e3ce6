/-! COMMAND road -/
section
variable {S : mm_St} {h h' : mj_H}

theorem mt_115a {ρ : mm_Ro} {ts pl rb rg rp ac ta : Int32} {sd : Int64} (wρ : mw_R ρ) {X : Nat → Nat} (SRC : mh_ap h 70 24 (fun k => k < 4 * mr_n ρ) X) (o : h.1 65 = some (.inr (7, mr_fs ts pl (nI (mr_n ρ)) (nI (mr_g ρ)) rb rg rp ac ta sd))) (DST : mh_any h 67 24) : ∃ h', mj_R 115 (35, [.ref 65, .int (nI 0)], [], h) = mj_R 115 (63, [.ref 65, .int (nI (4 * mr_n ρ))], [], h') ∧ mh_ap h' 67 24 (fun k => k < 4 * mr_n ρ) X ∧ mh_F (fun k => k = 67) h h' := by
  have hn := wρ.1
  have hg := wρ.2.1
  obtain ⟨f, DST⟩ := DST
  have loop : ∀ e i hk, i + e = 4 * mr_n ρ → mh_ap hk 67 24 (fun k => k < i) X → mh_F (fun k => k = 67) h hk → ∃ h', mj_R 115 (35, [.ref 65, .int (nI i)], [], hk) = mj_R 115 (63, [.ref 65, .int (nI (4 * mr_n ρ))], [], h') ∧ mh_ap h' 67 24 (fun k => k < 4 * mr_n ρ) X ∧ mh_F (fun k => k = 67) h h' := by
    intro e
    induction e with
    | zero =>
      intro i hk hi T F
      obtain rfl : i = 4 * mr_n ρ := by omega
      have ok := (F.2 65 (by omega)).trans o
      refine ⟨hk, ?_, T, F⟩
      rw [mq_115_35]
      simp only [↓reduceIte, ↓mq_115_0, ↓mq_115_1, ↓mq_115_2, ↓mq_115_5, ↓mq_115_6, ↓mq_115_9, ↓mq_115_11, ↓mq_115_14, ↓mq_115_16, ↓mq_115_17, ↓mq_115_18, ↓mq_115_19, ↓mq_115_22, ↓mq_115_25, ↓mq_115_26, ↓mq_115_27, ↓mq_115_30, ↓mq_115_33, ↓mq_115_34, ↓mq_115_36, ↓mq_115_37, ↓mq_115_38, ↓mq_115_41, ↓mq_115_42, ↓mq_115_45, ↓mq_115_46, ↓mq_115_49, ↓mq_115_50, ↓mq_115_51, ↓mq_115_54, ↓mq_115_55, ↓mq_115_56, ↓mq_115_57, ↓mq_115_60, ↓mq_115_64, ↓mq_115_65, ↓mq_115_66, ↓mq_115_67, ↓mq_115_70, ↓mq_115_73, ↓mq_115_74, ↓mq_115_77, ↓mq_115_78, ↓mq_115_79, ↓mq_115_82, ↓mq_115_83, ↓mq_115_84, ↓mq_115_85, ↓mq_115_88, ↓mq_115_91, ↓mq_115_92, ↓mq_115_93, ↓mq_115_94, ↓mq_115_95, ↓mq_115_96, ↓mq_115_99, ↓mq_115_100, ↓mq_115_103, ↓mq_115_104, ↓mq_115_107, ↓mq_115_108, ↓mq_115_109, ↓mq_115_112, ↓mq_115_113, ↓mq_115_114, ↓mq_115_115, ↓mq_115_118, ↓mq_115_121, ↓mq_115_122, ↓mq_115_123, ↓mq_115_124, ↓mq_115_126, ↓mq_115_129, ↓mq_115_130, ↓mq_115_133, ↓mq_115_134, ↓mq_115_135, ↓mq_115_136, ↓mq_115_139, ↓mq_115_142, ↓mq_115_143, ↓mq_115_146, ↓mq_115_147, ↓mq_115_148, ↓mq_115_151, ↓mq_115_152, ↓mq_115_153, ↓mq_115_154, ↓mq_115_157, ↓mq_115_158, ↓mq_115_161, ↓mq_115_162, ↓mq_115_163, ↓mq_115_164, ↓mq_115_165, ↓mq_115_168, ↓mq_115_169, ↓mq_115_170, ↓mq_115_171, ↓mq_115_172, ↓mq_115_175, ↓mj_bs (mh_gf 4 ok rfl), mn_mul, mt_le (Nat.le_refl (4 * mr_n ρ)) (show 4 * mr_n ρ < 2 ^ 31 by omega)]
    | succ e ih =>
      intro i hk hi T F
      have ok := (F.2 65 (by omega)).trans o
      have hin : i < 4 * mr_n ρ := by omega
      have Sk := SRC.kp F (by omega)
      obtain ⟨g, b, T2, F2⟩ := T.pt (P' := fun k => k < i + 1) (X' := X) (show i < 24 by omega) (X i) (fun j _ hj => by
        by_cases z : j = i
        · subst z; exact Or.inl ⟨rfl, rfl⟩
        · exact Or.inr ⟨z, by omega, rfl⟩)
      obtain ⟨h', r1, r2⟩ := ih (i + 1) g (by omega) T2 (F.tt F2)
      refine ⟨h', ?_, r2⟩
      rw [← r1, mq_115_35]
      simp only [↓reduceIte, ↓mq_115_0, ↓mq_115_1, ↓mq_115_2, ↓mq_115_5, ↓mq_115_6, ↓mq_115_9, ↓mq_115_11, ↓mq_115_14, ↓mq_115_16, ↓mq_115_17, ↓mq_115_18, ↓mq_115_19, ↓mq_115_22, ↓mq_115_25, ↓mq_115_26, ↓mq_115_27, ↓mq_115_30, ↓mq_115_33, ↓mq_115_34, ↓mq_115_36, ↓mq_115_37, ↓mq_115_38, ↓mq_115_41, ↓mq_115_42, ↓mq_115_45, ↓mq_115_46, ↓mq_115_49, ↓mq_115_50, ↓mq_115_51, ↓mq_115_54, ↓mq_115_55, ↓mq_115_56, ↓mq_115_57, ↓mq_115_60, ↓mq_115_64, ↓mq_115_65, ↓mq_115_66, ↓mq_115_67, ↓mq_115_70, ↓mq_115_73, ↓mq_115_74, ↓mq_115_77, ↓mq_115_78, ↓mq_115_79, ↓mq_115_82, ↓mq_115_83, ↓mq_115_84, ↓mq_115_85, ↓mq_115_88, ↓mq_115_91, ↓mq_115_92, ↓mq_115_93, ↓mq_115_94, ↓mq_115_95, ↓mq_115_96, ↓mq_115_99, ↓mq_115_100, ↓mq_115_103, ↓mq_115_104, ↓mq_115_107, ↓mq_115_108, ↓mq_115_109, ↓mq_115_112, ↓mq_115_113, ↓mq_115_114, ↓mq_115_115, ↓mq_115_118, ↓mq_115_121, ↓mq_115_122, ↓mq_115_123, ↓mq_115_124, ↓mq_115_126, ↓mq_115_129, ↓mq_115_130, ↓mq_115_133, ↓mq_115_134, ↓mq_115_135, ↓mq_115_136, ↓mq_115_139, ↓mq_115_142, ↓mq_115_143, ↓mq_115_146, ↓mq_115_147, ↓mq_115_148, ↓mq_115_151, ↓mq_115_152, ↓mq_115_153, ↓mq_115_154, ↓mq_115_157, ↓mq_115_158, ↓mq_115_161, ↓mq_115_162, ↓mq_115_163, ↓mq_115_164, ↓mq_115_165, ↓mq_115_168, ↓mq_115_169, ↓mq_115_170, ↓mq_115_171, ↓mq_115_172, ↓mq_115_175, ↓mj_bs (mh_gf 4 ok rfl), mn_mul, mf_le hin (show 4 * mr_n ρ < 2 ^ 31 by omega), ↓mj_bs (mh_gf 6 ok rfl), ↓mj_bs (mh_gf 12 ok rfl), ↓mj_bs (Sk.gt (show i < 24 by omega) hin), ↓mj_bs (b), mn_add]
  exact loop (4 * mr_n ρ) 0 h (by omega) (mh_ap.of DST (fun k _ z => absurd z (Nat.not_lt_zero k))) mh_F.rf

theorem mt_115b {ρ : mm_Ro} {ts pl rb rg rp ac ta : Int32} {sd : Int64} (wρ : mw_R ρ) {X : Nat → Nat} (SRC : mh_ap h 71 6 (fun k => k < mr_n ρ) X) (o : h.1 65 = some (.inr (7, mr_fs ts pl (nI (mr_n ρ)) (nI (mr_g ρ)) rb rg rp ac ta sd))) (DST : mh_any h 68 6) : ∃ h', mj_R 115 (65, [.ref 65, .int (nI 0)], [], h) = mj_R 115 (91, [.ref 65, .int (nI (mr_n ρ))], [], h') ∧ mh_ap h' 68 6 (fun k => k < mr_n ρ) X ∧ mh_F (fun k => k = 68) h h' := by
  have hn := wρ.1
  have hg := wρ.2.1
  obtain ⟨f, DST⟩ := DST
  have loop : ∀ e i hk, i + e = mr_n ρ → mh_ap hk 68 6 (fun k => k < i) X → mh_F (fun k => k = 68) h hk → ∃ h', mj_R 115 (65, [.ref 65, .int (nI i)], [], hk) = mj_R 115 (91, [.ref 65, .int (nI (mr_n ρ))], [], h') ∧ mh_ap h' 68 6 (fun k => k < mr_n ρ) X ∧ mh_F (fun k => k = 68) h h' := by
    intro e
    induction e with
    | zero =>
      intro i hk hi T F
      obtain rfl : i = mr_n ρ := by omega
      have ok := (F.2 65 (by omega)).trans o
      refine ⟨hk, ?_, T, F⟩
      rw [mq_115_65]
      simp only [↓reduceIte, ↓mq_115_0, ↓mq_115_1, ↓mq_115_2, ↓mq_115_5, ↓mq_115_6, ↓mq_115_9, ↓mq_115_11, ↓mq_115_14, ↓mq_115_16, ↓mq_115_17, ↓mq_115_18, ↓mq_115_19, ↓mq_115_22, ↓mq_115_25, ↓mq_115_26, ↓mq_115_27, ↓mq_115_30, ↓mq_115_33, ↓mq_115_34, ↓mq_115_35, ↓mq_115_36, ↓mq_115_37, ↓mq_115_38, ↓mq_115_41, ↓mq_115_42, ↓mq_115_45, ↓mq_115_46, ↓mq_115_49, ↓mq_115_50, ↓mq_115_51, ↓mq_115_54, ↓mq_115_55, ↓mq_115_56, ↓mq_115_57, ↓mq_115_60, ↓mq_115_63, ↓mq_115_64, ↓mq_115_66, ↓mq_115_67, ↓mq_115_70, ↓mq_115_73, ↓mq_115_74, ↓mq_115_77, ↓mq_115_78, ↓mq_115_79, ↓mq_115_82, ↓mq_115_83, ↓mq_115_84, ↓mq_115_85, ↓mq_115_88, ↓mq_115_92, ↓mq_115_93, ↓mq_115_94, ↓mq_115_95, ↓mq_115_96, ↓mq_115_99, ↓mq_115_100, ↓mq_115_103, ↓mq_115_104, ↓mq_115_107, ↓mq_115_108, ↓mq_115_109, ↓mq_115_112, ↓mq_115_113, ↓mq_115_114, ↓mq_115_115, ↓mq_115_118, ↓mq_115_121, ↓mq_115_122, ↓mq_115_123, ↓mq_115_124, ↓mq_115_126, ↓mq_115_129, ↓mq_115_130, ↓mq_115_133, ↓mq_115_134, ↓mq_115_135, ↓mq_115_136, ↓mq_115_139, ↓mq_115_142, ↓mq_115_143, ↓mq_115_146, ↓mq_115_147, ↓mq_115_148, ↓mq_115_151, ↓mq_115_152, ↓mq_115_153, ↓mq_115_154, ↓mq_115_157, ↓mq_115_158, ↓mq_115_161, ↓mq_115_162, ↓mq_115_163, ↓mq_115_164, ↓mq_115_165, ↓mq_115_168, ↓mq_115_169, ↓mq_115_170, ↓mq_115_171, ↓mq_115_172, ↓mq_115_175, ↓mj_bs (mh_gf 4 ok rfl), mn_mul, mt_le (Nat.le_refl (mr_n ρ)) (show mr_n ρ < 2 ^ 31 by omega)]
    | succ e ih =>
      intro i hk hi T F
      have ok := (F.2 65 (by omega)).trans o
      have hin : i < mr_n ρ := by omega
      have Sk := SRC.kp F (by omega)
      obtain ⟨g, b, T2, F2⟩ := T.pt (P' := fun k => k < i + 1) (X' := X) (show i < 6 by omega) (X i) (fun j _ hj => by
        by_cases z : j = i
        · subst z; exact Or.inl ⟨rfl, rfl⟩
        · exact Or.inr ⟨z, by omega, rfl⟩)
      obtain ⟨h', r1, r2⟩ := ih (i + 1) g (by omega) T2 (F.tt F2)
      refine ⟨h', ?_, r2⟩
      rw [← r1, mq_115_65]
      simp only [↓reduceIte, ↓mq_115_0, ↓mq_115_1, ↓mq_115_2, ↓mq_115_5, ↓mq_115_6, ↓mq_115_9, ↓mq_115_11, ↓mq_115_14, ↓mq_115_16, ↓mq_115_17, ↓mq_115_18, ↓mq_115_19, ↓mq_115_22, ↓mq_115_25, ↓mq_115_26, ↓mq_115_27, ↓mq_115_30, ↓mq_115_33, ↓mq_115_34, ↓mq_115_35, ↓mq_115_36, ↓mq_115_37, ↓mq_115_38, ↓mq_115_41, ↓mq_115_42, ↓mq_115_45, ↓mq_115_46, ↓mq_115_49, ↓mq_115_50, ↓mq_115_51, ↓mq_115_54, ↓mq_115_55, ↓mq_115_56, ↓mq_115_57, ↓mq_115_60, ↓mq_115_63, ↓mq_115_64, ↓mq_115_66, ↓mq_115_67, ↓mq_115_70, ↓mq_115_73, ↓mq_115_74, ↓mq_115_77, ↓mq_115_78, ↓mq_115_79, ↓mq_115_82, ↓mq_115_83, ↓mq_115_84, ↓mq_115_85, ↓mq_115_88, ↓mq_115_92, ↓mq_115_93, ↓mq_115_94, ↓mq_115_95, ↓mq_115_96, ↓mq_115_99, ↓mq_115_100, ↓mq_115_103, ↓mq_115_104, ↓mq_115_107, ↓mq_115_108, ↓mq_115_109, ↓mq_115_112, ↓mq_115_113, ↓mq_115_114, ↓mq_115_115, ↓mq_115_118, ↓mq_115_121, ↓mq_115_122, ↓mq_115_123, ↓mq_115_124, ↓mq_115_126, ↓mq_115_129, ↓mq_115_130, ↓mq_115_133, ↓mq_115_134, ↓mq_115_135, ↓mq_115_136, ↓mq_115_139, ↓mq_115_142, ↓mq_115_143, ↓mq_115_146, ↓mq_115_147, ↓mq_115_148, ↓mq_115_151, ↓mq_115_152, ↓mq_115_153, ↓mq_115_154, ↓mq_115_157, ↓mq_115_158, ↓mq_115_161, ↓mq_115_162, ↓mq_115_163, ↓mq_115_164, ↓mq_115_165, ↓mq_115_168, ↓mq_115_169, ↓mq_115_170, ↓mq_115_171, ↓mq_115_172, ↓mq_115_175, ↓mj_bs (mh_gf 4 ok rfl), mn_mul, mf_le hin (show mr_n ρ < 2 ^ 31 by omega), ↓mj_bs (mh_gf 7 ok rfl), ↓mj_bs (mh_gf 13 ok rfl), ↓mj_bs (Sk.gt (show i < 6 by omega) hin), ↓mj_bs (b), mn_add]
  exact loop (mr_n ρ) 0 h (by omega) (mh_ap.of DST (fun k _ z => absurd z (Nat.not_lt_zero k))) mh_F.rf

theorem mt_115c {ρ : mm_Ro} {ts pl rb rg rp ac ta : Int32} {sd : Int64} (wρ : mw_R ρ) {X : Nat → Nat} (SRC : mh_ap h 72 6 (fun k => k < 2 * mr_g ρ) X) (o : h.1 65 = some (.inr (7, mr_fs ts pl (nI (mr_n ρ)) (nI (mr_g ρ)) rb rg rp ac ta sd))) (DST : mh_any h 69 6) : ∃ h', mj_R 115 (93, [.ref 65, .int (nI 0)], [], h) = mj_R 115 (121, [.ref 65, .int (nI (2 * mr_g ρ))], [], h') ∧ mh_ap h' 69 6 (fun k => k < 2 * mr_g ρ) X ∧ mh_F (fun k => k = 69) h h' := by
  have hn := wρ.1
  have hg := wρ.2.1
  obtain ⟨f, DST⟩ := DST
  have loop : ∀ e i hk, i + e = 2 * mr_g ρ → mh_ap hk 69 6 (fun k => k < i) X → mh_F (fun k => k = 69) h hk → ∃ h', mj_R 115 (93, [.ref 65, .int (nI i)], [], hk) = mj_R 115 (121, [.ref 65, .int (nI (2 * mr_g ρ))], [], h') ∧ mh_ap h' 69 6 (fun k => k < 2 * mr_g ρ) X ∧ mh_F (fun k => k = 69) h h' := by
    intro e
    induction e with
    | zero =>
      intro i hk hi T F
      obtain rfl : i = 2 * mr_g ρ := by omega
      have ok := (F.2 65 (by omega)).trans o
      refine ⟨hk, ?_, T, F⟩
      rw [mq_115_93]
      simp only [↓reduceIte, ↓mq_115_0, ↓mq_115_1, ↓mq_115_2, ↓mq_115_5, ↓mq_115_6, ↓mq_115_9, ↓mq_115_11, ↓mq_115_14, ↓mq_115_16, ↓mq_115_17, ↓mq_115_18, ↓mq_115_19, ↓mq_115_22, ↓mq_115_25, ↓mq_115_26, ↓mq_115_27, ↓mq_115_30, ↓mq_115_33, ↓mq_115_34, ↓mq_115_35, ↓mq_115_36, ↓mq_115_37, ↓mq_115_38, ↓mq_115_41, ↓mq_115_42, ↓mq_115_45, ↓mq_115_46, ↓mq_115_49, ↓mq_115_50, ↓mq_115_51, ↓mq_115_54, ↓mq_115_55, ↓mq_115_56, ↓mq_115_57, ↓mq_115_60, ↓mq_115_63, ↓mq_115_64, ↓mq_115_65, ↓mq_115_66, ↓mq_115_67, ↓mq_115_70, ↓mq_115_73, ↓mq_115_74, ↓mq_115_77, ↓mq_115_78, ↓mq_115_79, ↓mq_115_82, ↓mq_115_83, ↓mq_115_84, ↓mq_115_85, ↓mq_115_88, ↓mq_115_91, ↓mq_115_92, ↓mq_115_94, ↓mq_115_95, ↓mq_115_96, ↓mq_115_99, ↓mq_115_100, ↓mq_115_103, ↓mq_115_104, ↓mq_115_107, ↓mq_115_108, ↓mq_115_109, ↓mq_115_112, ↓mq_115_113, ↓mq_115_114, ↓mq_115_115, ↓mq_115_118, ↓mq_115_122, ↓mq_115_123, ↓mq_115_124, ↓mq_115_126, ↓mq_115_129, ↓mq_115_130, ↓mq_115_133, ↓mq_115_134, ↓mq_115_135, ↓mq_115_136, ↓mq_115_139, ↓mq_115_142, ↓mq_115_143, ↓mq_115_146, ↓mq_115_147, ↓mq_115_148, ↓mq_115_151, ↓mq_115_152, ↓mq_115_153, ↓mq_115_154, ↓mq_115_157, ↓mq_115_158, ↓mq_115_161, ↓mq_115_162, ↓mq_115_163, ↓mq_115_164, ↓mq_115_165, ↓mq_115_168, ↓mq_115_169, ↓mq_115_170, ↓mq_115_171, ↓mq_115_172, ↓mq_115_175, ↓mj_bs (mh_gf 5 ok rfl), mn_mul, mt_le (Nat.le_refl (2 * mr_g ρ)) (show 2 * mr_g ρ < 2 ^ 31 by omega)]
    | succ e ih =>
      intro i hk hi T F
      have ok := (F.2 65 (by omega)).trans o
      have hin : i < 2 * mr_g ρ := by omega
      have Sk := SRC.kp F (by omega)
      obtain ⟨g, b, T2, F2⟩ := T.pt (P' := fun k => k < i + 1) (X' := X) (show i < 6 by omega) (X i) (fun j _ hj => by
        by_cases z : j = i
        · subst z; exact Or.inl ⟨rfl, rfl⟩
        · exact Or.inr ⟨z, by omega, rfl⟩)
      obtain ⟨h', r1, r2⟩ := ih (i + 1) g (by omega) T2 (F.tt F2)
      refine ⟨h', ?_, r2⟩
      rw [← r1, mq_115_93]
      simp only [↓reduceIte, ↓mq_115_0, ↓mq_115_1, ↓mq_115_2, ↓mq_115_5, ↓mq_115_6, ↓mq_115_9, ↓mq_115_11, ↓mq_115_14, ↓mq_115_16, ↓mq_115_17, ↓mq_115_18, ↓mq_115_19, ↓mq_115_22, ↓mq_115_25, ↓mq_115_26, ↓mq_115_27, ↓mq_115_30, ↓mq_115_33, ↓mq_115_34, ↓mq_115_35, ↓mq_115_36, ↓mq_115_37, ↓mq_115_38, ↓mq_115_41, ↓mq_115_42, ↓mq_115_45, ↓mq_115_46, ↓mq_115_49, ↓mq_115_50, ↓mq_115_51, ↓mq_115_54, ↓mq_115_55, ↓mq_115_56, ↓mq_115_57, ↓mq_115_60, ↓mq_115_63, ↓mq_115_64, ↓mq_115_65, ↓mq_115_66, ↓mq_115_67, ↓mq_115_70, ↓mq_115_73, ↓mq_115_74, ↓mq_115_77, ↓mq_115_78, ↓mq_115_79, ↓mq_115_82, ↓mq_115_83, ↓mq_115_84, ↓mq_115_85, ↓mq_115_88, ↓mq_115_91, ↓mq_115_92, ↓mq_115_94, ↓mq_115_95, ↓mq_115_96, ↓mq_115_99, ↓mq_115_100, ↓mq_115_103, ↓mq_115_104, ↓mq_115_107, ↓mq_115_108, ↓mq_115_109, ↓mq_115_112, ↓mq_115_113, ↓mq_115_114, ↓mq_115_115, ↓mq_115_118, ↓mq_115_122, ↓mq_115_123, ↓mq_115_124, ↓mq_115_126, ↓mq_115_129, ↓mq_115_130, ↓mq_115_133, ↓mq_115_134, ↓mq_115_135, ↓mq_115_136, ↓mq_115_139, ↓mq_115_142, ↓mq_115_143, ↓mq_115_146, ↓mq_115_147, ↓mq_115_148, ↓mq_115_151, ↓mq_115_152, ↓mq_115_153, ↓mq_115_154, ↓mq_115_157, ↓mq_115_158, ↓mq_115_161, ↓mq_115_162, ↓mq_115_163, ↓mq_115_164, ↓mq_115_165, ↓mq_115_168, ↓mq_115_169, ↓mq_115_170, ↓mq_115_171, ↓mq_115_172, ↓mq_115_175, ↓mj_bs (mh_gf 5 ok rfl), mn_mul, mf_le hin (show 2 * mr_g ρ < 2 ^ 31 by omega), ↓mj_bs (mh_gf 8 ok rfl), ↓mj_bs (mh_gf 14 ok rfl), ↓mj_bs (Sk.gt (show i < 6 by omega) hin), ↓mj_bs (b), mn_add]
  exact loop (2 * mr_g ρ) 0 h (by omega) (mh_ap.of DST (fun k _ z => absurd z (Nat.not_lt_zero k))) mh_F.rf

theorem mt_115d {ts pl n g rb rg rp ac ta : Int32} {sd : Int64} (o : h.1 65 = some (.inr (7, mr_fs ts pl n g rb rg rp ac ta sd))) (DST : mh_any h 73 11) : ∃ h', mj_R 115 (123, [.ref 65, .int (nI 0)], [], h) = mj_R 115 (142, [.ref 65, .int (nI 11)], [], h') ∧ mh_ap h' 73 11 (fun k => k < 11) (fun _ => 0) ∧ mh_F (fun k => k = 73) h h' := by
  obtain ⟨f, DST⟩ := DST
  have loop : ∀ e i hk, i + e = 11 → mh_ap hk 73 11 (fun k => k < i) (fun _ => 0) → mh_F (fun k => k = 73) h hk → ∃ h', mj_R 115 (123, [.ref 65, .int (nI i)], [], hk) = mj_R 115 (142, [.ref 65, .int (nI 11)], [], h') ∧ mh_ap h' 73 11 (fun k => k < 11) (fun _ => 0) ∧ mh_F (fun k => k = 73) h h' := by
    intro e
    induction e with
    | zero =>
      intro i hk hi T F
      obtain rfl : i = 11 := by omega
      refine ⟨hk, ?_, T, F⟩
      rw [mq_115_123]
      simp only [↓reduceIte, ↓mq_115_0, ↓mq_115_1, ↓mq_115_2, ↓mq_115_5, ↓mq_115_6, ↓mq_115_9, ↓mq_115_11, ↓mq_115_14, ↓mq_115_16, ↓mq_115_17, ↓mq_115_18, ↓mq_115_19, ↓mq_115_22, ↓mq_115_25, ↓mq_115_26, ↓mq_115_27, ↓mq_115_30, ↓mq_115_33, ↓mq_115_34, ↓mq_115_35, ↓mq_115_36, ↓mq_115_37, ↓mq_115_38, ↓mq_115_41, ↓mq_115_42, ↓mq_115_45, ↓mq_115_46, ↓mq_115_49, ↓mq_115_50, ↓mq_115_51, ↓mq_115_54, ↓mq_115_55, ↓mq_115_56, ↓mq_115_57, ↓mq_115_60, ↓mq_115_63, ↓mq_115_64, ↓mq_115_65, ↓mq_115_66, ↓mq_115_67, ↓mq_115_70, ↓mq_115_73, ↓mq_115_74, ↓mq_115_77, ↓mq_115_78, ↓mq_115_79, ↓mq_115_82, ↓mq_115_83, ↓mq_115_84, ↓mq_115_85, ↓mq_115_88, ↓mq_115_91, ↓mq_115_92, ↓mq_115_93, ↓mq_115_94, ↓mq_115_95, ↓mq_115_96, ↓mq_115_99, ↓mq_115_100, ↓mq_115_103, ↓mq_115_104, ↓mq_115_107, ↓mq_115_108, ↓mq_115_109, ↓mq_115_112, ↓mq_115_113, ↓mq_115_114, ↓mq_115_115, ↓mq_115_118, ↓mq_115_121, ↓mq_115_122, ↓mq_115_124, ↓mq_115_126, ↓mq_115_129, ↓mq_115_130, ↓mq_115_133, ↓mq_115_134, ↓mq_115_135, ↓mq_115_136, ↓mq_115_139, ↓mq_115_143, ↓mq_115_146, ↓mq_115_147, ↓mq_115_148, ↓mq_115_151, ↓mq_115_152, ↓mq_115_153, ↓mq_115_154, ↓mq_115_157, ↓mq_115_158, ↓mq_115_161, ↓mq_115_162, ↓mq_115_163, ↓mq_115_164, ↓mq_115_165, ↓mq_115_168, ↓mq_115_169, ↓mq_115_170, ↓mq_115_171, ↓mq_115_172, ↓mq_115_175, mt_le (Nat.le_refl 11)]
    | succ e ih =>
      intro i hk hi T F
      have ok := (F.2 65 (by omega)).trans o
      obtain ⟨g, b, T2, F2⟩ := T.pt (P' := fun k => k < i + 1) (X' := fun _ => 0) (show i < 11 by omega) 0 (fun j _ hj => by
        by_cases z : j = i
        · subst z; exact Or.inl ⟨rfl, rfl⟩
        · exact Or.inr ⟨z, by omega, rfl⟩)
      obtain ⟨h', r1, r2⟩ := ih (i + 1) g (by omega) T2 (F.tt F2)
      refine ⟨h', ?_, r2⟩
      rw [← r1, mq_115_123]
      simp only [↓reduceIte, ↓mq_115_0, ↓mq_115_1, ↓mq_115_2, ↓mq_115_5, ↓mq_115_6, ↓mq_115_9, ↓mq_115_11, ↓mq_115_14, ↓mq_115_16, ↓mq_115_17, ↓mq_115_18, ↓mq_115_19, ↓mq_115_22, ↓mq_115_25, ↓mq_115_26, ↓mq_115_27, ↓mq_115_30, ↓mq_115_33, ↓mq_115_34, ↓mq_115_35, ↓mq_115_36, ↓mq_115_37, ↓mq_115_38, ↓mq_115_41, ↓mq_115_42, ↓mq_115_45, ↓mq_115_46, ↓mq_115_49, ↓mq_115_50, ↓mq_115_51, ↓mq_115_54, ↓mq_115_55, ↓mq_115_56, ↓mq_115_57, ↓mq_115_60, ↓mq_115_63, ↓mq_115_64, ↓mq_115_65, ↓mq_115_66, ↓mq_115_67, ↓mq_115_70, ↓mq_115_73, ↓mq_115_74, ↓mq_115_77, ↓mq_115_78, ↓mq_115_79, ↓mq_115_82, ↓mq_115_83, ↓mq_115_84, ↓mq_115_85, ↓mq_115_88, ↓mq_115_91, ↓mq_115_92, ↓mq_115_93, ↓mq_115_94, ↓mq_115_95, ↓mq_115_96, ↓mq_115_99, ↓mq_115_100, ↓mq_115_103, ↓mq_115_104, ↓mq_115_107, ↓mq_115_108, ↓mq_115_109, ↓mq_115_112, ↓mq_115_113, ↓mq_115_114, ↓mq_115_115, ↓mq_115_118, ↓mq_115_121, ↓mq_115_122, ↓mq_115_124, ↓mq_115_126, ↓mq_115_129, ↓mq_115_130, ↓mq_115_133, ↓mq_115_134, ↓mq_115_135, ↓mq_115_136, ↓mq_115_139, ↓mq_115_143, ↓mq_115_146, ↓mq_115_147, ↓mq_115_148, ↓mq_115_151, ↓mq_115_152, ↓mq_115_153, ↓mq_115_154, ↓mq_115_157, ↓mq_115_158, ↓mq_115_161, ↓mq_115_162, ↓mq_115_163, ↓mq_115_164, ↓mq_115_165, ↓mq_115_168, ↓mq_115_169, ↓mq_115_170, ↓mq_115_171, ↓mq_115_172, ↓mq_115_175, mf_le (show i < 11 by omega), ↓mj_bs (mh_gf 15 ok rfl), ↓mj_bs (b), mn_add]
  exact loop 11 0 h (by omega) (mh_ap.of DST (fun k _ z => absurd z (Nat.not_lt_zero k))) mh_F.rf
end

