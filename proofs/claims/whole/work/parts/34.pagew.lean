/-! THE REFERENCE'S PAGE: a giving, a dusk; its book -/
section
variable {h : mj_H} {ρ : mm_Ro} {μ : mm_Ma} {a : Nat}
theorem mm_outAdd {b q k : Nat} (hb : b < 64) (hq : q < 64) (hk : k < 6) (hqk : q.testBit k = true) (hs : ∀ j, j < 6 → q.testBit j = true → b.testBit j = true) : mm_dif b q ||| 2 ^ k = mm_dif b (mm_del q k) := by
  have hd := mm_dif_lt b hb q hq
  have he := mm_del_lt q hq k hk
  rw [mn_bor _ hd k hk]
  refine mm_ext _ (mm_add_lt _ hd k hk) _ (mm_dif_lt b hb _ he) (fun j hj => ?_)
  rw [mm_add_at _ hd k hk j hj, mm_dif_at b hb q hq j hj, mm_dif_at b hb _ he j hj, mm_del_at q hq k hk j hj]
  by_cases e : j = k
  · subst e
    rw [hqk, hs j hj hqk]
    simp
  · simp [e]
theorem mt_127 (w : mw_R ρ) (wm : mw_M ρ μ) (H : mh_RR h ρ) (G : mh_pg h a μ) (ha : 69 < a) (hc : mm_can ρ μ = true) : ∃ h', mj_C 127 [.ref 65, .ref a] h = some (some (.int (nI (mm_left ρ μ))), h') ∧ mh_pg h' a (mm_come ρ μ) ∧ mh_F (fun k => k = a) h h' := by
  have hn := w.1
  have hb := mw_b w wm
  have hp99 := wm.1
  simp only [mm_can, mm_has, Bool.and_eq_true, decide_eq_true_eq] at hc
  obtain ⟨hone, hask⟩ := hc
  have h99 := mm_ask99 w wm hone
  have hE := w.2.2.2.1 _ hone
  have hE64 := mm_64 hE.2.2.2.2.2.2.1 hn
  obtain ⟨one, hone'⟩ : ∃ one, one = ma_n μ := ⟨_, rfl⟩
  have hb0 := mm_add_lt (ma_b μ) hb one (by omega)
  obtain ⟨b0, hb0'⟩ : ∃ b0, b0 = mm_add (ma_b μ) one := ⟨_, rfl⟩
  rw [← hone'] at hone hask h99 hE hE64
  rw [← hb0'] at hb0
  have A : ∀ {h' : mj_H}, mh_F (fun k => k = a) h h' → mh_RR h' ρ := fun F => H.kp F (by omega) (by omega) (by omega) (by omega)
  obtain ⟨h1, e1, G1, F1⟩ := mh_ap.pu G (show 5 + one < 11 by omega) (mm_ask ρ μ one)
  obtain ⟨h2, e2, G2, F2⟩ := G1.pu (show 0 < 11 by omega) (ma_p μ - mm_ask ρ μ one)
  obtain ⟨h3, e3, G3, F3⟩ := G2.pu (show 1 < 11 by omega) b0
  obtain ⟨h4, e4, G4, F4⟩ := G3.pu (show 3 < 11 by omega) (one + 1)
  have r0 : mj_gi h1 a (nI 0) = some (nI (ma_p μ)) := by
    rw [G1.gt (by omega) (Or.inl (Or.inl (by omega))), mh_u_ne (by omega)]; rfl
  have r5 : mj_gi h1 a (nI (5 + one)) = some (nI (mm_ask ρ μ one)) := by
    rw [G1.gt (by omega) (Or.inr rfl), mh_u_at]
  have r1 : mj_gi h2 a (nI 1) = some (nI (ma_b μ)) := by
    rw [G2.gt (by omega) (Or.inl (Or.inl (Or.inl (by omega)))), mh_u_ne (by omega), mh_u_ne (by omega)]; rfl
  have r3 : mj_gi h3 a (nI 3) = some (nI one) := by
    rw [G3.gt (by omega) (Or.inl (Or.inl (Or.inl (Or.inl (by omega))))), mh_u_ne (by omega), mh_u_ne (by omega), mh_u_ne (by omega), hone']; rfl
  have G5 : mh_pg h4 a (ma_p μ - mm_ask ρ μ one, b0, ma_d μ, one + 1, ma_o μ, mh_u (ma_g μ) one (mm_ask ρ μ one)) := by
    refine G4.mo (fun j hj11 hj => ?_)
    constructor
    · rcases hj with hj | hj
      · exact Or.inl (Or.inl (Or.inl (Or.inl (Or.inl hj))))
      · by_cases h5 : j < 5
        · exact Or.inl (Or.inl (Or.inl (Or.inl (Or.inl h5))))
        · by_cases e : j = 5 + one
          · exact Or.inl (Or.inl (Or.inl (Or.inr e)))
          · have hj' : b0.testBit (j - 5) = true := hj
            rw [hb0', mm_add_at _ hb one (by omega) _ (by omega), Bool.or_eq_true, decide_eq_true_eq] at hj'
            exact Or.inl (Or.inl (Or.inl (Or.inl (Or.inr (hj'.resolve_right (by omega))))))
    · by_cases z3 : j = 3
      · subst z3; rw [mh_u_at]; rfl
      · rw [mh_u_ne z3]
        by_cases z1 : j = 1
        · subst z1; rw [mh_u_at]; rfl
        · rw [mh_u_ne z1]
          by_cases z0 : j = 0
          · subst z0; rw [mh_u_at]; rfl
          · rw [mh_u_ne z0]
            by_cases z5 : j = 5 + one
            · subst z5
              rw [mh_u_at]
              simp [mm_pgX, show 5 + one ≠ 0 by omega, show 5 + one ≠ 1 by omega, show 5 + one ≠ 2 by omega, show 5 + one ≠ 3 by omega, show 5 + one ≠ 4 by omega, ma_g, mh_u_at]
            · rw [mh_u_ne z5]
              by_cases z2 : j = 2
              · subst z2; rfl
              · by_cases z4 : j = 4
                · subst z4; rfl
                · simp only [mm_pgX, if_neg z0, if_neg z1, if_neg z2, if_neg z3, if_neg z4]
                  exact mh_u_ne (by omega)
  have F := ((F1.tt F2).tt F3).tt F4
  have loop : ∀ d i hk l5, i + d = mr_n ρ → mh_pg hk a (ma_p μ - mm_ask ρ μ one, mm_qr ρ one b0 i, ma_d μ, one + 1, ma_o μ, mh_u (ma_g μ) one (mm_ask ρ μ one)) → mh_F (fun k => k = a) h hk → ∃ h', mj_R 127 (47, [.ref 65, .ref a, .int (nI one), .int (nI (mm_dif b0 (mm_qr ρ one b0 i))), .int (nI i), l5], [], hk) = some (some (.int (nI (mm_dif b0 (mm_qr ρ one b0 (mr_n ρ))))), h') ∧ mh_pg h' a (ma_p μ - mm_ask ρ μ one, mm_qr ρ one b0 (mr_n ρ), ma_d μ, one + 1, ma_o μ, mh_u (ma_g μ) one (mm_ask ρ μ one)) ∧ mh_F (fun k => k = a) h h' := by
    intro d
    induction d with
    | zero =>
      intro i hk l5 hi G hF
      obtain rfl : i = mr_n ρ := by omega
      refine ⟨hk, ?_, G, hF⟩
      simp only [↓reduceIte, ↓mq_127_0, ↓mq_127_1, ↓mq_127_2, ↓mq_127_3, ↓mq_127_4, ↓mq_127_5, ↓mq_127_6, ↓mq_127_7, ↓mq_127_8, ↓mq_127_9, ↓mq_127_10, ↓mq_127_11, ↓mq_127_12, ↓mq_127_13, ↓mq_127_16, ↓mq_127_17, ↓mq_127_18, ↓mq_127_19, ↓mq_127_20, ↓mq_127_21, ↓mq_127_22, ↓mq_127_23, ↓mq_127_24, ↓mq_127_25, ↓mq_127_26, ↓mq_127_27, ↓mq_127_28, ↓mq_127_29, ↓mq_127_30, ↓mq_127_31, ↓mq_127_32, ↓mq_127_33, ↓mq_127_34, ↓mq_127_35, ↓mq_127_36, ↓mq_127_37, ↓mq_127_38, ↓mq_127_39, ↓mq_127_40, ↓mq_127_41, ↓mq_127_42, ↓mq_127_43, ↓mq_127_44, ↓mq_127_45, ↓mq_127_47, ↓mq_127_49, ↓mq_127_50, ↓mq_127_53, ↓mq_127_56, ↓mq_127_57, ↓mq_127_58, ↓mq_127_59, ↓mq_127_60, ↓mq_127_63, ↓mq_127_66, ↓mq_127_68, ↓mq_127_69, ↓mq_127_72, ↓mq_127_73, ↓mq_127_74, ↓mq_127_75, ↓mq_127_76, ↓mq_127_79, ↓mq_127_80, ↓mq_127_81, ↓mq_127_82, ↓mq_127_84, ↓mq_127_87, ↓mq_127_90, ↓mq_127_91, ↓mq_127_94, ↓mq_127_95, ↓mq_127_97, ↓mq_127_98, ↓mq_127_99, ↓mq_127_100, ↓mq_127_101, ↓mq_127_102, ↓mq_127_105, ↓mq_127_106, ↓mq_127_107, ↓mq_127_108, ↓mq_127_109, ↓mq_127_110, ↓mq_127_111, ↓mq_127_114, ↓mq_127_116, ↓mq_127_119, ↓mq_127_120, ↓mq_127_122, ↓mq_127_123, ↓mq_127_124, ↓mq_127_125, ↓mq_127_126, ↓mq_127_127, ↓mq_127_129, ↓mq_127_130, ↓mq_127_131, ↓mq_127_132, ↓mq_127_133, ↓mq_127_134, ↓mq_127_135, ↓mq_127_136, ↓mq_127_138, ↓mq_127_139, ↓mq_127_140, ↓mq_127_141, ↓mq_127_144, ↓mq_127_147, ↓mq_127_148, ↓mj_bs (mr_bn (A hF).1), mt_le (Nat.le_refl (mr_n ρ))]
    | succ d ih =>
      intro i hk l5 hi G hF
      have hin : i < mr_n ρ := by omega
      have hq := mm_qr_lt (ρ := ρ) hb0 (show one < 6 by omega) i (by omega)
      have hA := A hF
      have hSi := w.2.2.2.1 i hin
      rw [mq_127_47]
      cases hq1 : (mm_qr ρ one b0 i).testBit one
      · have hend := mm_qr_end hq1 (d + 1)
        rw [hi] at hend
        have e := mt_113 (h := hk) hq (show one < 6 by omega)
        refine ⟨hk, ?_, by rw [hend]; exact G, hF⟩
        simp only [↓reduceIte, ↓mq_127_0, ↓mq_127_1, ↓mq_127_2, ↓mq_127_3, ↓mq_127_4, ↓mq_127_5, ↓mq_127_6, ↓mq_127_7, ↓mq_127_8, ↓mq_127_9, ↓mq_127_10, ↓mq_127_11, ↓mq_127_12, ↓mq_127_13, ↓mq_127_16, ↓mq_127_17, ↓mq_127_18, ↓mq_127_19, ↓mq_127_20, ↓mq_127_21, ↓mq_127_22, ↓mq_127_23, ↓mq_127_24, ↓mq_127_25, ↓mq_127_26, ↓mq_127_27, ↓mq_127_28, ↓mq_127_29, ↓mq_127_30, ↓mq_127_31, ↓mq_127_32, ↓mq_127_33, ↓mq_127_34, ↓mq_127_35, ↓mq_127_36, ↓mq_127_37, ↓mq_127_38, ↓mq_127_39, ↓mq_127_40, ↓mq_127_41, ↓mq_127_42, ↓mq_127_43, ↓mq_127_44, ↓mq_127_45, ↓mq_127_49, ↓mq_127_50, ↓mq_127_53, ↓mq_127_56, ↓mq_127_57, ↓mq_127_58, ↓mq_127_59, ↓mq_127_60, ↓mq_127_63, ↓mq_127_66, ↓mq_127_68, ↓mq_127_69, ↓mq_127_72, ↓mq_127_73, ↓mq_127_74, ↓mq_127_75, ↓mq_127_76, ↓mq_127_79, ↓mq_127_80, ↓mq_127_81, ↓mq_127_82, ↓mq_127_84, ↓mq_127_87, ↓mq_127_90, ↓mq_127_91, ↓mq_127_94, ↓mq_127_95, ↓mq_127_97, ↓mq_127_98, ↓mq_127_99, ↓mq_127_100, ↓mq_127_101, ↓mq_127_102, ↓mq_127_105, ↓mq_127_106, ↓mq_127_107, ↓mq_127_108, ↓mq_127_109, ↓mq_127_110, ↓mq_127_111, ↓mq_127_114, ↓mq_127_116, ↓mq_127_119, ↓mq_127_120, ↓mq_127_122, ↓mq_127_123, ↓mq_127_124, ↓mq_127_125, ↓mq_127_126, ↓mq_127_127, ↓mq_127_129, ↓mq_127_130, ↓mq_127_131, ↓mq_127_132, ↓mq_127_133, ↓mq_127_134, ↓mq_127_135, ↓mq_127_136, ↓mq_127_138, ↓mq_127_139, ↓mq_127_140, ↓mq_127_141, ↓mq_127_144, ↓mq_127_147, ↓mq_127_148, ↓mj_bs (mr_bn hA.1), mf_le hin, ↓mj_bs (mp_1 G), ma_b_mk, ↓mj_bs (e), Option.toList, List.cons_append, List.nil_append, hq1, mj_b0, hend]
      · have e1 := mt_113 (h := hk) hq (show one < 6 by omega)
        by_cases hio : i = one
        · have hnx : mm_qr ρ one b0 (i + 1) = mm_qr ρ one b0 i := by
            have hz : (mr_E ρ one).testBit i = false := by rw [hio]; exact hE.2.2.2.2.2.2.2
            simp only [mm_qr, hz]
            simp
          obtain ⟨h', r1, r2, r3⟩ := ih (i + 1) hk l5 (by omega) (by rw [hnx]; exact G) hF
          refine ⟨h', ?_, r2, r3⟩
          rw [hnx] at r1
          simp only [↓reduceIte, ↓mq_127_0, ↓mq_127_1, ↓mq_127_2, ↓mq_127_3, ↓mq_127_4, ↓mq_127_5, ↓mq_127_6, ↓mq_127_7, ↓mq_127_8, ↓mq_127_9, ↓mq_127_10, ↓mq_127_11, ↓mq_127_12, ↓mq_127_13, ↓mq_127_16, ↓mq_127_17, ↓mq_127_18, ↓mq_127_19, ↓mq_127_20, ↓mq_127_21, ↓mq_127_22, ↓mq_127_23, ↓mq_127_24, ↓mq_127_25, ↓mq_127_26, ↓mq_127_27, ↓mq_127_28, ↓mq_127_29, ↓mq_127_30, ↓mq_127_31, ↓mq_127_32, ↓mq_127_33, ↓mq_127_34, ↓mq_127_35, ↓mq_127_36, ↓mq_127_37, ↓mq_127_38, ↓mq_127_39, ↓mq_127_40, ↓mq_127_41, ↓mq_127_42, ↓mq_127_43, ↓mq_127_44, ↓mq_127_45, ↓mq_127_49, ↓mq_127_50, ↓mq_127_53, ↓mq_127_56, ↓mq_127_57, ↓mq_127_58, ↓mq_127_59, ↓mq_127_60, ↓mq_127_63, ↓mq_127_66, ↓mq_127_68, ↓mq_127_69, ↓mq_127_72, ↓mq_127_73, ↓mq_127_74, ↓mq_127_75, ↓mq_127_76, ↓mq_127_79, ↓mq_127_80, ↓mq_127_81, ↓mq_127_82, ↓mq_127_84, ↓mq_127_87, ↓mq_127_90, ↓mq_127_91, ↓mq_127_94, ↓mq_127_95, ↓mq_127_97, ↓mq_127_98, ↓mq_127_99, ↓mq_127_100, ↓mq_127_101, ↓mq_127_102, ↓mq_127_105, ↓mq_127_106, ↓mq_127_107, ↓mq_127_108, ↓mq_127_109, ↓mq_127_110, ↓mq_127_111, ↓mq_127_114, ↓mq_127_116, ↓mq_127_119, ↓mq_127_120, ↓mq_127_122, ↓mq_127_123, ↓mq_127_124, ↓mq_127_125, ↓mq_127_126, ↓mq_127_127, ↓mq_127_129, ↓mq_127_130, ↓mq_127_131, ↓mq_127_132, ↓mq_127_133, ↓mq_127_134, ↓mq_127_135, ↓mq_127_136, ↓mq_127_138, ↓mq_127_139, ↓mq_127_140, ↓mq_127_141, ↓mq_127_144, ↓mq_127_147, ↓mq_127_148, ↓mj_bs (mr_bn hA.1), mf_le hin, ↓mj_bs (mp_1 G), ma_b_mk, ↓mj_bs (e1), Option.toList, List.cons_append, List.nil_append, hq1, mj_b0, Bool.true_eq_false, mt_eq hio, mn_add]
          exact r1
        · have e2 := mt_113 (h := hk) (mm_and_lt (t := mr_E ρ one) hq) (show i < 6 by omega)
          by_cases hb2 : (mm_qr ρ one b0 i &&& mr_E ρ one).testBit i = true
          · have hb3 : (mm_qr ρ one b0 i).testBit i = true ∧ (mr_E ρ one).testBit i = true := by
              rw [Nat.testBit_and, Bool.and_eq_true] at hb2; exact hb2
            obtain ⟨who, hwho⟩ : ∃ who, who = if mr_S ρ i < mr_S ρ one then i else one := ⟨_, rfl⟩
            have hS9 : mr_S ρ i ≤ 9 ∧ mr_S ρ one ≤ 9 := ⟨hSi.2.2.2.2.1, hE.2.2.2.2.1⟩
            have hnx : mm_qr ρ one b0 (i + 1) = mm_del (mm_qr ρ one b0 i) who := by
              simp only [mm_qr, hq1, hb3.1, hb3.2, and_self, if_true, hwho]
            have hw6 : who < 6 := by rw [hwho]; split <;> omega
            have hw6' : who < 31 := by omega
            have hwq : (mm_qr ρ one b0 i).testBit who = true := by
              rw [hwho]
              split
              · exact hb3.1
              · exact hq1
            have hsub := mm_qr_sub (ρ := ρ) hb0 (show one < 6 by omega) i (by omega)
            have hdl := mm_del_lt _ hq who hw6
            obtain ⟨h6, e6, G6, F6⟩ := mp_u1 G (mm_del (mm_qr ρ one b0 i) who) (fun j hj hjb => by
              rw [mm_del_at _ hq who hw6 j hj, Bool.and_eq_true] at hjb
              exact hjb.1)
            obtain ⟨h', r1, r2, r3⟩ := ih (i + 1) h6 (.int (nI who)) (by omega) (by rw [hnx]; exact G6) (hF.tt F6)
            refine ⟨h', ?_, r2, r3⟩
            rw [hnx, ← mm_outAdd hb0 hq hw6 hwq hsub] at r1
            by_cases hSS : mr_S ρ i < mr_S ρ one
            · rw [if_pos hSS] at hwho
              subst hwho
              simp only [↓reduceIte, ↓mq_127_0, ↓mq_127_1, ↓mq_127_2, ↓mq_127_3, ↓mq_127_4, ↓mq_127_5, ↓mq_127_6, ↓mq_127_7, ↓mq_127_8, ↓mq_127_9, ↓mq_127_10, ↓mq_127_11, ↓mq_127_12, ↓mq_127_13, ↓mq_127_16, ↓mq_127_17, ↓mq_127_18, ↓mq_127_19, ↓mq_127_20, ↓mq_127_21, ↓mq_127_22, ↓mq_127_23, ↓mq_127_24, ↓mq_127_25, ↓mq_127_26, ↓mq_127_27, ↓mq_127_28, ↓mq_127_29, ↓mq_127_30, ↓mq_127_31, ↓mq_127_32, ↓mq_127_33, ↓mq_127_34, ↓mq_127_35, ↓mq_127_36, ↓mq_127_37, ↓mq_127_38, ↓mq_127_39, ↓mq_127_40, ↓mq_127_41, ↓mq_127_42, ↓mq_127_43, ↓mq_127_44, ↓mq_127_45, ↓mq_127_49, ↓mq_127_50, ↓mq_127_53, ↓mq_127_56, ↓mq_127_57, ↓mq_127_58, ↓mq_127_59, ↓mq_127_60, ↓mq_127_63, ↓mq_127_66, ↓mq_127_68, ↓mq_127_69, ↓mq_127_72, ↓mq_127_73, ↓mq_127_74, ↓mq_127_75, ↓mq_127_76, ↓mq_127_79, ↓mq_127_80, ↓mq_127_81, ↓mq_127_82, ↓mq_127_84, ↓mq_127_87, ↓mq_127_90, ↓mq_127_91, ↓mq_127_94, ↓mq_127_95, ↓mq_127_97, ↓mq_127_98, ↓mq_127_99, ↓mq_127_100, ↓mq_127_101, ↓mq_127_102, ↓mq_127_105, ↓mq_127_106, ↓mq_127_107, ↓mq_127_108, ↓mq_127_109, ↓mq_127_110, ↓mq_127_111, ↓mq_127_114, ↓mq_127_116, ↓mq_127_119, ↓mq_127_120, ↓mq_127_122, ↓mq_127_123, ↓mq_127_124, ↓mq_127_125, ↓mq_127_126, ↓mq_127_127, ↓mq_127_129, ↓mq_127_130, ↓mq_127_131, ↓mq_127_132, ↓mq_127_133, ↓mq_127_134, ↓mq_127_135, ↓mq_127_136, ↓mq_127_138, ↓mq_127_139, ↓mq_127_140, ↓mq_127_141, ↓mq_127_144, ↓mq_127_147, ↓mq_127_148, ↓mj_bs (mr_bn hA.1), mf_le hin, ↓mj_bs (mp_1 G), ma_b_mk, ↓mj_bs (e1), Option.toList, List.cons_append, List.nil_append, hq1, mj_b0, Bool.true_eq_false, mf_eq hio, ↓mj_bs (mr_b7 hA.1), ↓mj_bs (mr_E4 hA hn hone), mn_and, ↓mj_bs (e2), hb2, ↓mj_bs (mr_b6 hA.1), mn_mul, mn_add, ↓mj_bs (mr_S4 hA hn hin), ↓mj_bs (mr_S4 hA hn hone), mf_le hSS, mn_shl who hw6', mn_not _ hq who hw6, ↓mj_bs (e6), mn_or]
              exact r1
            · rw [if_neg hSS] at hwho
              subst hwho
              simp only [↓reduceIte, ↓mq_127_0, ↓mq_127_1, ↓mq_127_2, ↓mq_127_3, ↓mq_127_4, ↓mq_127_5, ↓mq_127_6, ↓mq_127_7, ↓mq_127_8, ↓mq_127_9, ↓mq_127_10, ↓mq_127_11, ↓mq_127_12, ↓mq_127_13, ↓mq_127_16, ↓mq_127_17, ↓mq_127_18, ↓mq_127_19, ↓mq_127_20, ↓mq_127_21, ↓mq_127_22, ↓mq_127_23, ↓mq_127_24, ↓mq_127_25, ↓mq_127_26, ↓mq_127_27, ↓mq_127_28, ↓mq_127_29, ↓mq_127_30, ↓mq_127_31, ↓mq_127_32, ↓mq_127_33, ↓mq_127_34, ↓mq_127_35, ↓mq_127_36, ↓mq_127_37, ↓mq_127_38, ↓mq_127_39, ↓mq_127_40, ↓mq_127_41, ↓mq_127_42, ↓mq_127_43, ↓mq_127_44, ↓mq_127_45, ↓mq_127_49, ↓mq_127_50, ↓mq_127_53, ↓mq_127_56, ↓mq_127_57, ↓mq_127_58, ↓mq_127_59, ↓mq_127_60, ↓mq_127_63, ↓mq_127_66, ↓mq_127_68, ↓mq_127_69, ↓mq_127_72, ↓mq_127_73, ↓mq_127_74, ↓mq_127_75, ↓mq_127_76, ↓mq_127_79, ↓mq_127_80, ↓mq_127_81, ↓mq_127_82, ↓mq_127_84, ↓mq_127_87, ↓mq_127_90, ↓mq_127_91, ↓mq_127_94, ↓mq_127_95, ↓mq_127_97, ↓mq_127_98, ↓mq_127_99, ↓mq_127_100, ↓mq_127_101, ↓mq_127_102, ↓mq_127_105, ↓mq_127_106, ↓mq_127_107, ↓mq_127_108, ↓mq_127_109, ↓mq_127_110, ↓mq_127_111, ↓mq_127_114, ↓mq_127_116, ↓mq_127_119, ↓mq_127_120, ↓mq_127_122, ↓mq_127_123, ↓mq_127_124, ↓mq_127_125, ↓mq_127_126, ↓mq_127_127, ↓mq_127_129, ↓mq_127_130, ↓mq_127_131, ↓mq_127_132, ↓mq_127_133, ↓mq_127_134, ↓mq_127_135, ↓mq_127_136, ↓mq_127_138, ↓mq_127_139, ↓mq_127_140, ↓mq_127_141, ↓mq_127_144, ↓mq_127_147, ↓mq_127_148, ↓mj_bs (mr_bn hA.1), mf_le hin, ↓mj_bs (mp_1 G), ma_b_mk, ↓mj_bs (e1), Option.toList, List.cons_append, List.nil_append, hq1, mj_b0, Bool.true_eq_false, mf_eq hio, ↓mj_bs (mr_b7 hA.1), ↓mj_bs (mr_E4 hA hn hone), mn_and, ↓mj_bs (e2), hb2, ↓mj_bs (mr_b6 hA.1), mn_mul, mn_add, ↓mj_bs (mr_S4 hA hn hin), ↓mj_bs (mr_S4 hA hn hone), mt_le (Nat.le_of_not_lt hSS), mn_shl who hw6', mn_not _ hq who hw6, ↓mj_bs (e6), mn_or]
              exact r1
          · have hb3 : (mm_qr ρ one b0 i &&& mr_E ρ one).testBit i = false := by simpa using hb2
            have hnx : mm_qr ρ one b0 (i + 1) = mm_qr ρ one b0 i := by
              rw [Nat.testBit_and] at hb3
              have : ¬ ((mm_qr ρ one b0 i).testBit one = true ∧ (mm_qr ρ one b0 i).testBit i = true ∧ (mr_E ρ one).testBit i = true) := by
                rintro ⟨-, z1, z2⟩
                rw [z1, z2] at hb3
                cases hb3
              simp only [mm_qr]
              rw [if_neg this]
            obtain ⟨h', r1, r2, r3⟩ := ih (i + 1) hk l5 (by omega) (by rw [hnx]; exact G) hF
            refine ⟨h', ?_, r2, r3⟩
            rw [hnx] at r1
            simp only [↓reduceIte, ↓mq_127_0, ↓mq_127_1, ↓mq_127_2, ↓mq_127_3, ↓mq_127_4, ↓mq_127_5, ↓mq_127_6, ↓mq_127_7, ↓mq_127_8, ↓mq_127_9, ↓mq_127_10, ↓mq_127_11, ↓mq_127_12, ↓mq_127_13, ↓mq_127_16, ↓mq_127_17, ↓mq_127_18, ↓mq_127_19, ↓mq_127_20, ↓mq_127_21, ↓mq_127_22, ↓mq_127_23, ↓mq_127_24, ↓mq_127_25, ↓mq_127_26, ↓mq_127_27, ↓mq_127_28, ↓mq_127_29, ↓mq_127_30, ↓mq_127_31, ↓mq_127_32, ↓mq_127_33, ↓mq_127_34, ↓mq_127_35, ↓mq_127_36, ↓mq_127_37, ↓mq_127_38, ↓mq_127_39, ↓mq_127_40, ↓mq_127_41, ↓mq_127_42, ↓mq_127_43, ↓mq_127_44, ↓mq_127_45, ↓mq_127_49, ↓mq_127_50, ↓mq_127_53, ↓mq_127_56, ↓mq_127_57, ↓mq_127_58, ↓mq_127_59, ↓mq_127_60, ↓mq_127_63, ↓mq_127_66, ↓mq_127_68, ↓mq_127_69, ↓mq_127_72, ↓mq_127_73, ↓mq_127_74, ↓mq_127_75, ↓mq_127_76, ↓mq_127_79, ↓mq_127_80, ↓mq_127_81, ↓mq_127_82, ↓mq_127_84, ↓mq_127_87, ↓mq_127_90, ↓mq_127_91, ↓mq_127_94, ↓mq_127_95, ↓mq_127_97, ↓mq_127_98, ↓mq_127_99, ↓mq_127_100, ↓mq_127_101, ↓mq_127_102, ↓mq_127_105, ↓mq_127_106, ↓mq_127_107, ↓mq_127_108, ↓mq_127_109, ↓mq_127_110, ↓mq_127_111, ↓mq_127_114, ↓mq_127_116, ↓mq_127_119, ↓mq_127_120, ↓mq_127_122, ↓mq_127_123, ↓mq_127_124, ↓mq_127_125, ↓mq_127_126, ↓mq_127_127, ↓mq_127_129, ↓mq_127_130, ↓mq_127_131, ↓mq_127_132, ↓mq_127_133, ↓mq_127_134, ↓mq_127_135, ↓mq_127_136, ↓mq_127_138, ↓mq_127_139, ↓mq_127_140, ↓mq_127_141, ↓mq_127_144, ↓mq_127_147, ↓mq_127_148, ↓mj_bs (mr_bn hA.1), mf_le hin, ↓mj_bs (mp_1 G), ma_b_mk, ↓mj_bs (e1), Option.toList, List.cons_append, List.nil_append, hq1, mj_b0, Bool.true_eq_false, mf_eq hio, ↓mj_bs (mr_b7 hA.1), ↓mj_bs (mr_E4 hA hn hone), mn_and, ↓mj_bs (e2), hb3, mn_add]
            exact r1
  obtain ⟨h', r1', r2', r3'⟩ := loop (mr_n ρ) 0 h4 .null (by omega) G5 F
  have hz : mm_dif b0 (mm_qr ρ one b0 0) = 0 := by simp [mm_qr, mm_dif]
  rw [hz] at r1'
  refine ⟨h', ?_, ?_, r3'⟩
  · rw [mc_127]
    have hst : mj_gi h a (nI 3) = some (nI one) := by rw [hone']; exact mp_3 G
    simp only [↓reduceIte, ↓mq_127_0, ↓mq_127_1, ↓mq_127_2, ↓mq_127_3, ↓mq_127_4, ↓mq_127_5, ↓mq_127_6, ↓mq_127_7, ↓mq_127_8, ↓mq_127_9, ↓mq_127_10, ↓mq_127_11, ↓mq_127_12, ↓mq_127_13, ↓mq_127_16, ↓mq_127_17, ↓mq_127_18, ↓mq_127_19, ↓mq_127_20, ↓mq_127_21, ↓mq_127_22, ↓mq_127_23, ↓mq_127_24, ↓mq_127_25, ↓mq_127_26, ↓mq_127_27, ↓mq_127_28, ↓mq_127_29, ↓mq_127_30, ↓mq_127_31, ↓mq_127_32, ↓mq_127_33, ↓mq_127_34, ↓mq_127_35, ↓mq_127_36, ↓mq_127_37, ↓mq_127_38, ↓mq_127_39, ↓mq_127_40, ↓mq_127_41, ↓mq_127_42, ↓mq_127_43, ↓mq_127_44, ↓mq_127_45, ↓mq_127_49, ↓mq_127_50, ↓mq_127_53, ↓mq_127_56, ↓mq_127_57, ↓mq_127_58, ↓mq_127_59, ↓mq_127_60, ↓mq_127_63, ↓mq_127_66, ↓mq_127_68, ↓mq_127_69, ↓mq_127_72, ↓mq_127_73, ↓mq_127_74, ↓mq_127_75, ↓mq_127_76, ↓mq_127_79, ↓mq_127_80, ↓mq_127_81, ↓mq_127_82, ↓mq_127_84, ↓mq_127_87, ↓mq_127_90, ↓mq_127_91, ↓mq_127_94, ↓mq_127_95, ↓mq_127_97, ↓mq_127_98, ↓mq_127_99, ↓mq_127_100, ↓mq_127_101, ↓mq_127_102, ↓mq_127_105, ↓mq_127_106, ↓mq_127_107, ↓mq_127_108, ↓mq_127_109, ↓mq_127_110, ↓mq_127_111, ↓mq_127_114, ↓mq_127_116, ↓mq_127_119, ↓mq_127_120, ↓mq_127_122, ↓mq_127_123, ↓mq_127_124, ↓mq_127_125, ↓mq_127_126, ↓mq_127_127, ↓mq_127_129, ↓mq_127_130, ↓mq_127_131, ↓mq_127_132, ↓mq_127_133, ↓mq_127_134, ↓mq_127_135, ↓mq_127_136, ↓mq_127_138, ↓mq_127_139, ↓mq_127_140, ↓mq_127_141, ↓mq_127_144, ↓mq_127_147, ↓mq_127_148, ↓mj_bs (hst), mn_add, mr_is H.1, ↓mj_bs (mt_121 w wm H G hone), Option.toList, List.cons_append, List.nil_append, ↓mj_bs (e1), ↓mj_bs (r0), ↓mj_bs (r5), mn_sub hask, ↓mj_bs (e2), ↓mj_bs (r1), mn_shl one (show one < 31 by omega), mn_or, mn_bor _ hb one (show one < 6 by omega), ← hb0', ↓mj_bs (e3), ↓mj_bs (r3), ↓mj_bs (e4)]
    rw [r1', mm_left, ← hone', ← hb0']
  · rw [mm_come, ← hone', ← hb0']
    exact r2'
/-! a dusk -/
def mm_ou (ρ : mm_Ro) (p0 b0 : Nat) : Nat → Nat × Nat
  | 0 => (p0, 0)
  | k + 1 => if b0.testBit k = true then ((mm_ou ρ p0 b0 k).1 - (if (mm_ou ρ p0 b0 k).1 = 0 then 0 else 1), ((mm_ou ρ p0 b0 k).2 ||| (if (mm_ou ρ p0 b0 k).1 = 0 then 2 ^ k else 0)) ||| (if mr_K ρ k = 3 then 2 ^ k else 0)) else mm_ou ρ p0 b0 k
theorem mm_tr_at {ρ : mm_Ro} : ∀ k, k ≤ 6 → ∀ j, j < 6 → (mm_tr ρ k).testBit j = (decide (j < k) && decide (mr_K ρ j = 3)) := by
  intro k
  induction k with
  | zero => intro _ j _; simp [mm_tr]
  | succ k ih =>
    intro hk j hj
    have h1 := ih (by omega) j hj
    simp only [mm_tr]
    by_cases e : j = k
    · subst e
      split
      · rename_i hK
        rw [Nat.testBit_or, Nat.testBit_two_pow_self, hK]
        simp
      · rename_i hK
        rw [h1]
        simp [hK]
    · have e1 : decide (j < k + 1) = decide (j < k) := by
        by_cases z : j < k
        · simp [z]; omega
        · simp [z]; omega
      rw [e1, ← h1]
      split
      · rw [Nat.testBit_or, Nat.testBit_two_pow_of_ne (fun z => e z.symm), Bool.or_false]
      · rfl
theorem mm_sl_up {p0 b0 : Nat} (hb : b0 < 64) : ∀ k, k ≤ 6 → ∀ j, j < 6 → k ≤ j → (mm_sl p0 b0 k).2.testBit j = b0.testBit j := by
  intro k
  induction k with
  | zero => intro _ j _ _; rfl
  | succ k ih =>
    intro hk j hj hkj
    have h1 := ih (by omega) j hj (by omega)
    have h2 := (mm_sl_lt (p0 := p0) hb k (by omega)).1
    simp only [mm_sl]
    split
    · exact h1
    · show (mm_del _ k).testBit j = _
      rw [mm_del_at _ h2 k (by omega) j hj, h1]
      simp [show j ≠ k by omega]
theorem mm_ou_ok {ρ : mm_Ro} {p0 b0 : Nat} (hb : b0 < 64) : ∀ k, k ≤ 6 → (mm_ou ρ p0 b0 k).1 = (mm_sl p0 b0 k).1 ∧ (mm_ou ρ p0 b0 k).2 < 64 ∧ ∀ j, j < 6 → (mm_ou ρ p0 b0 k).2.testBit j = ((b0.testBit j && decide (j < k)) && (!(mm_sl p0 b0 k).2.testBit j || decide (mr_K ρ j = 3))) := by
  intro k
  induction k with
  | zero => intro _; exact ⟨rfl, by simp [mm_ou], fun j _ => by simp [mm_ou]⟩
  | succ k ih =>
    intro hk
    obtain ⟨i1, i2, i3⟩ := ih (by omega)
    have h2 := (mm_sl_lt (p0 := p0) hb k (by omega)).1
    have hup := mm_sl_up (p0 := p0) hb k (by omega) k (by omega) (Nat.le_refl k)
    have hk64 : 2 ^ k < 64 := Nat.pow_lt_pow_right (a := 2) (m := k) (n := 6) (by decide) (by omega)
    have e1 : ∀ j, j ≠ k → decide (j < k + 1) = decide (j < k) := fun j e => by
      by_cases z : j < k
      · simp [z]; omega
      · simp [z]; omega
    simp only [mm_ou, mm_sl, hup]
    cases hbk : b0.testBit k
    · simp only [Bool.false_eq_true, if_false, false_and]
      refine ⟨i1, i2, fun j hj => ?_⟩
      rw [i3 j hj, mm_del_at _ h2 k (by omega) j hj]
      by_cases e : j = k
      · subst e; rw [hbk]; simp
      · rw [e1 j e]; simp [e]
    · simp only [if_true, true_and]
      rw [i1]
      by_cases hp : (mm_sl p0 b0 k).1 = 0
      · rw [if_pos hp, if_pos hp, if_neg (show ¬ 0 < (mm_sl p0 b0 k).1 by omega)]
        refine ⟨by simp, ?_, fun j hj => ?_⟩
        · split
          · exact Nat.or_lt_two_pow (n := 6) (Nat.or_lt_two_pow (n := 6) i2 hk64) hk64
          · exact Nat.or_lt_two_pow (n := 6) (Nat.or_lt_two_pow (n := 6) i2 hk64) (by omega)
        · by_cases e : j = k
          · subst e
            rw [Nat.testBit_or, Nat.testBit_or, Nat.testBit_two_pow_self, mm_del_at _ h2 j hj j hj, hbk]
            simp
          · have e' : k ≠ j := fun z => e z.symm
            rw [Nat.testBit_or, Nat.testBit_or, Nat.testBit_two_pow_of_ne e', i3 j hj, e1 j e, mm_del_at _ h2 k (by omega) j hj]
            split
            · rw [Nat.testBit_two_pow_of_ne e']; simp [e]
            · simp [e]
      · rw [if_neg hp, if_neg hp, if_pos (show 0 < (mm_sl p0 b0 k).1 by omega)]
        refine ⟨rfl, ?_, fun j hj => ?_⟩
        · split
          · exact Nat.or_lt_two_pow (n := 6) (Nat.or_lt_two_pow (n := 6) i2 (by omega)) hk64
          · exact Nat.or_lt_two_pow (n := 6) (Nat.or_lt_two_pow (n := 6) i2 (by omega)) (by omega)
        · by_cases e : j = k
          · subst e
            rw [Nat.testBit_or, Nat.testBit_or, i3 j hj, hup, hbk]
            by_cases hK : mr_K ρ j = 3
            · simp [hK, Nat.testBit_two_pow_self]
            · simp [hK]
          · have e' : k ≠ j := fun z => e z.symm
            rw [Nat.testBit_or, Nat.testBit_or, i3 j hj, e1 j e]
            split
            · rw [Nat.testBit_two_pow_of_ne e']; simp
            · simp
theorem mm_ou_end (w : mw_R ρ) (wm : mw_M ρ μ) : (mm_ou ρ (ma_p μ) (ma_b μ) (mr_n ρ)).2 = mm_slw ρ μ ∧ mm_dif (ma_b μ) (mm_slw ρ μ) = mm_sb ρ μ := by
  have hn := w.1
  have hb := mw_b w wm
  obtain ⟨i1, i2, i3⟩ := mm_ou_ok (ρ := ρ) (p0 := ma_p μ) hb (mr_n ρ) hn
  have hsl := (mm_sl_lt (p0 := ma_p μ) hb (mr_n ρ) hn).1
  have htr := mm_tr_lt (ρ := ρ) (mr_n ρ) hn
  obtain ⟨hsb, hsub⟩ := mm_sb_sub w wm
  have hslw : mm_slw ρ μ < 64 := mm_dif_lt _ hb _ hsb
  constructor
  · refine mm_ext _ i2 _ hslw (fun j hj => ?_)
    rw [i3 j hj, mm_slw, mm_dif_at _ hb _ hsb j hj, mm_sb, mm_dif_at _ hsl _ htr j hj, mm_tr_at _ hn j hj]
    by_cases hjn : j < mr_n ρ
    · simp only [hjn, decide_true, Bool.and_true, Bool.true_and]
      cases (ma_b μ).testBit j <;> cases (mm_sl (ma_p μ) (ma_b μ) (mr_n ρ)).2.testBit j <;> cases decide (mr_K ρ j = 3) <;> rfl
    · rw [mm_hi wm.2.1 (by omega)]
      simp
  · refine mm_ext _ (mm_dif_lt _ hb _ hslw) _ hsb (fun j hj => ?_)
    rw [mm_dif_at _ hb _ hslw j hj, mm_slw, mm_dif_at _ hb _ hsb j hj]
    cases hq : (mm_sb ρ μ).testBit j
    · cases (ma_b μ).testBit j <;> rfl
    · rw [hsub j hj hq]; rfl
theorem mt_130 (w : mw_R ρ) (wm : mw_M ρ μ) (H : mh_RR h ρ) (G : mh_pg h a μ) (ha : 69 < a) : ∃ h', mj_C 130 [.ref 65, .ref a] h = some (some (.int (nI (mm_slw ρ μ))), h') ∧ mh_pg h' a (mm_slp ρ μ) ∧ mh_F (fun k => k = a) h h' := by
  have hn := w.1
  have hb := mw_b w wm
  have hp99 := wm.1
  obtain ⟨E1, E2⟩ := mm_ou_end w wm
  obtain ⟨hsb, hsub⟩ := mm_sb_sub w wm
  have hslw : mm_slw ρ μ < 64 := mm_dif_lt _ hb _ hsb
  have A : ∀ {h' : mj_H}, mh_F (fun k => k = a) h h' → mh_RR h' ρ := fun F => H.kp F (by omega) (by omega) (by omega) (by omega)
  have fin : ∀ hk, mh_pg hk a ((mm_sl (ma_p μ) (ma_b μ) (mr_n ρ)).1, ma_b μ, ma_d μ, ma_n μ, ma_o μ, ma_g μ) → mh_F (fun k => k = a) h hk → ∃ h', mj_R 130 (83, [.ref 65, .ref a, .int (nI (mm_slw ρ μ)), .int (nI (mr_n ρ))], [], hk) = some (some (.int (nI (mm_slw ρ μ))), h') ∧ mh_pg h' a (mm_slp ρ μ) ∧ mh_F (fun k => k = a) h h' := by
    intro hk G hF
    obtain ⟨h1, e1, G1, F1⟩ := mp_u1 G (mm_sb ρ μ) hsub
    obtain ⟨h2, e2, G2, F2⟩ := mp_u2 G1 (ma_d μ + 1)
    refine ⟨h2, ?_, G2, (hF.tt F1).tt F2⟩
    have g1 := mp_1 G
    have g2 := mp_2 G1
    simp only [ma_b_mk] at g1
    simp only [ma_d_mk] at g2
    simp only [↓reduceIte, ↓mq_130_0, ↓mq_130_1, ↓mq_130_2, ↓mq_130_3, ↓mq_130_4, ↓mq_130_5, ↓mq_130_6, ↓mq_130_9, ↓mq_130_12, ↓mq_130_13, ↓mq_130_14, ↓mq_130_15, ↓mq_130_16, ↓mq_130_19, ↓mq_130_22, ↓mq_130_23, ↓mq_130_24, ↓mq_130_25, ↓mq_130_26, ↓mq_130_29, ↓mq_130_30, ↓mq_130_31, ↓mq_130_32, ↓mq_130_35, ↓mq_130_36, ↓mq_130_37, ↓mq_130_38, ↓mq_130_39, ↓mq_130_40, ↓mq_130_41, ↓mq_130_42, ↓mq_130_43, ↓mq_130_44, ↓mq_130_45, ↓mq_130_48, ↓mq_130_49, ↓mq_130_52, ↓mq_130_53, ↓mq_130_54, ↓mq_130_55, ↓mq_130_56, ↓mq_130_57, ↓mq_130_60, ↓mq_130_61, ↓mq_130_62, ↓mq_130_63, ↓mq_130_64, ↓mq_130_65, ↓mq_130_68, ↓mq_130_69, ↓mq_130_70, ↓mq_130_71, ↓mq_130_74, ↓mq_130_75, ↓mq_130_76, ↓mq_130_77, ↓mq_130_80, ↓mq_130_83, ↓mq_130_84, ↓mq_130_85, ↓mq_130_86, ↓mq_130_87, ↓mq_130_88, ↓mq_130_89, ↓mq_130_90, ↓mq_130_91, ↓mq_130_92, ↓mq_130_93, ↓mq_130_94, ↓mq_130_95, ↓mq_130_96, ↓mq_130_97, ↓mq_130_98, ↓mq_130_99, ↓mq_130_100, ↓mj_bs (g1), mn_dif _ hb _ hslw, E2, ↓mj_bs (e1), ↓mj_bs (g2), mn_add, ↓mj_bs (e2)]
  have loop : ∀ d i hk, i + d = mr_n ρ → mh_pg hk a ((mm_sl (ma_p μ) (ma_b μ) i).1, ma_b μ, ma_d μ, ma_n μ, ma_o μ, ma_g μ) → mh_F (fun k => k = a) h hk → ∃ h', mj_R 130 (4, [.ref 65, .ref a, .int (nI (mm_ou ρ (ma_p μ) (ma_b μ) i).2), .int (nI i)], [], hk) = some (some (.int (nI (mm_slw ρ μ))), h') ∧ mh_pg h' a (mm_slp ρ μ) ∧ mh_F (fun k => k = a) h h' := by
    intro d
    induction d with
    | zero =>
      intro i hk hi G hF
      obtain rfl : i = mr_n ρ := by omega
      obtain ⟨h', r1, r2, r3⟩ := fin hk G hF
      refine ⟨h', ?_, r2, r3⟩
      rw [E1]
      simp only [↓reduceIte, ↓mq_130_0, ↓mq_130_1, ↓mq_130_2, ↓mq_130_3, ↓mq_130_4, ↓mq_130_5, ↓mq_130_6, ↓mq_130_9, ↓mq_130_12, ↓mq_130_13, ↓mq_130_14, ↓mq_130_15, ↓mq_130_16, ↓mq_130_19, ↓mq_130_22, ↓mq_130_23, ↓mq_130_24, ↓mq_130_25, ↓mq_130_26, ↓mq_130_29, ↓mq_130_30, ↓mq_130_31, ↓mq_130_32, ↓mq_130_35, ↓mq_130_36, ↓mq_130_37, ↓mq_130_38, ↓mq_130_39, ↓mq_130_40, ↓mq_130_41, ↓mq_130_42, ↓mq_130_43, ↓mq_130_44, ↓mq_130_45, ↓mq_130_48, ↓mq_130_49, ↓mq_130_52, ↓mq_130_53, ↓mq_130_54, ↓mq_130_55, ↓mq_130_56, ↓mq_130_57, ↓mq_130_60, ↓mq_130_61, ↓mq_130_62, ↓mq_130_63, ↓mq_130_64, ↓mq_130_65, ↓mq_130_68, ↓mq_130_69, ↓mq_130_70, ↓mq_130_71, ↓mq_130_74, ↓mq_130_75, ↓mq_130_76, ↓mq_130_77, ↓mq_130_80, ↓mq_130_84, ↓mq_130_85, ↓mq_130_86, ↓mq_130_87, ↓mq_130_88, ↓mq_130_89, ↓mq_130_90, ↓mq_130_91, ↓mq_130_92, ↓mq_130_93, ↓mq_130_94, ↓mq_130_95, ↓mq_130_96, ↓mq_130_97, ↓mq_130_98, ↓mq_130_99, ↓mq_130_100, ↓mj_bs (mr_bn (A hF).1), mt_le (Nat.le_refl (mr_n ρ))]
      exact r1
    | succ d ih =>
      intro i hk hi G hF
      have hin : i < mr_n ρ := by omega
      have hA := A hF
      obtain ⟨j1, j2, j3⟩ := mm_ou_ok (ρ := ρ) (p0 := ma_p μ) hb i (by omega)
      obtain ⟨k1, k2, k3⟩ := mm_ou_ok (ρ := ρ) (p0 := ma_p μ) hb (i + 1) (by omega)
      have hsl := (mm_sl_lt (p0 := ma_p μ) hb i (by omega)).2
      have hK := (w.2.2.2.1 i hin).1
      have e1 := mt_113 (h := hk) hb (show i < 6 by omega)
      rw [mq_130_4]
      cases hbi : (ma_b μ).testBit i
      · have hnx : mm_ou ρ (ma_p μ) (ma_b μ) (i + 1) = mm_ou ρ (ma_p μ) (ma_b μ) i := by simp [mm_ou, hbi]
        have hnx1 : (mm_sl (ma_p μ) (ma_b μ) (i + 1)).1 = (mm_sl (ma_p μ) (ma_b μ) i).1 := by rw [← k1, hnx, j1]
        obtain ⟨h', r1, r2, r3⟩ := ih (i + 1) hk (by omega) (by rw [hnx1]; exact G) hF
        refine ⟨h', ?_, r2, r3⟩
        rw [hnx] at r1
        simp only [↓reduceIte, ↓mq_130_0, ↓mq_130_1, ↓mq_130_2, ↓mq_130_3, ↓mq_130_5, ↓mq_130_6, ↓mq_130_9, ↓mq_130_12, ↓mq_130_13, ↓mq_130_14, ↓mq_130_15, ↓mq_130_16, ↓mq_130_19, ↓mq_130_22, ↓mq_130_23, ↓mq_130_24, ↓mq_130_25, ↓mq_130_26, ↓mq_130_29, ↓mq_130_30, ↓mq_130_31, ↓mq_130_32, ↓mq_130_35, ↓mq_130_36, ↓mq_130_37, ↓mq_130_38, ↓mq_130_39, ↓mq_130_40, ↓mq_130_41, ↓mq_130_42, ↓mq_130_43, ↓mq_130_44, ↓mq_130_45, ↓mq_130_48, ↓mq_130_49, ↓mq_130_52, ↓mq_130_53, ↓mq_130_54, ↓mq_130_55, ↓mq_130_56, ↓mq_130_57, ↓mq_130_60, ↓mq_130_61, ↓mq_130_62, ↓mq_130_63, ↓mq_130_64, ↓mq_130_65, ↓mq_130_68, ↓mq_130_69, ↓mq_130_70, ↓mq_130_71, ↓mq_130_74, ↓mq_130_75, ↓mq_130_76, ↓mq_130_77, ↓mq_130_80, ↓mq_130_83, ↓mq_130_84, ↓mq_130_85, ↓mq_130_86, ↓mq_130_87, ↓mq_130_88, ↓mq_130_89, ↓mq_130_90, ↓mq_130_91, ↓mq_130_92, ↓mq_130_93, ↓mq_130_94, ↓mq_130_95, ↓mq_130_96, ↓mq_130_97, ↓mq_130_98, ↓mq_130_99, ↓mq_130_100, ↓mj_bs (mr_bn hA.1), mf_le hin, ↓mj_bs (mp_1 G), ma_b_mk, ↓mj_bs (e1), Option.toList, List.cons_append, List.nil_append, hbi, mj_b0, mn_add]
        exact r1
      · obtain ⟨p, hp⟩ : ∃ p, p = (mm_sl (ma_p μ) (ma_b μ) i).1 := ⟨_, rfl⟩
        obtain ⟨o, ho⟩ : ∃ o, o = (mm_ou ρ (ma_p μ) (ma_b μ) i).2 := ⟨_, rfl⟩
        have hnx : mm_ou ρ (ma_p μ) (ma_b μ) (i + 1) = (p - (if p = 0 then 0 else 1), (o ||| (if p = 0 then 2 ^ i else 0)) ||| (if mr_K ρ i = 3 then 2 ^ i else 0)) := by
          simp only [mm_ou, hbi, if_true, j1, ← hp, ← ho]
        have hnx1 : (mm_sl (ma_p μ) (ma_b μ) (i + 1)).1 = p - (if p = 0 then 0 else 1) := by rw [← k1, hnx]
        rw [← hp] at G hsl
        rw [← ho]
        obtain ⟨h6, e6, G6, F6⟩ := mp_u0 G (p - (if p = 0 then 0 else 1))
        obtain ⟨h', r1, r2, r3⟩ := ih (i + 1) h6 (by omega) (by rw [hnx1]; exact G6) (hF.tt F6)
        refine ⟨h', ?_, r2, r3⟩
        rw [hnx] at r1
        have hA6 := A (hF.tt F6)
        by_cases hp0 : p = 0
        · simp only [hp0, if_true, Nat.sub_zero] at e6 r1
          by_cases hK3 : mr_K ρ i = 3
          · simp only [hK3, if_true] at r1
            simp only [↓reduceIte, ↓mq_130_0, ↓mq_130_1, ↓mq_130_2, ↓mq_130_3, ↓mq_130_5, ↓mq_130_6, ↓mq_130_9, ↓mq_130_12, ↓mq_130_13, ↓mq_130_14, ↓mq_130_15, ↓mq_130_16, ↓mq_130_19, ↓mq_130_22, ↓mq_130_23, ↓mq_130_24, ↓mq_130_25, ↓mq_130_26, ↓mq_130_29, ↓mq_130_30, ↓mq_130_31, ↓mq_130_32, ↓mq_130_35, ↓mq_130_36, ↓mq_130_37, ↓mq_130_38, ↓mq_130_39, ↓mq_130_40, ↓mq_130_41, ↓mq_130_42, ↓mq_130_43, ↓mq_130_44, ↓mq_130_45, ↓mq_130_48, ↓mq_130_49, ↓mq_130_52, ↓mq_130_53, ↓mq_130_54, ↓mq_130_55, ↓mq_130_56, ↓mq_130_57, ↓mq_130_60, ↓mq_130_61, ↓mq_130_62, ↓mq_130_63, ↓mq_130_64, ↓mq_130_65, ↓mq_130_68, ↓mq_130_69, ↓mq_130_70, ↓mq_130_71, ↓mq_130_74, ↓mq_130_75, ↓mq_130_76, ↓mq_130_77, ↓mq_130_80, ↓mq_130_83, ↓mq_130_84, ↓mq_130_85, ↓mq_130_86, ↓mq_130_87, ↓mq_130_88, ↓mq_130_89, ↓mq_130_90, ↓mq_130_91, ↓mq_130_92, ↓mq_130_93, ↓mq_130_94, ↓mq_130_95, ↓mq_130_96, ↓mq_130_97, ↓mq_130_98, ↓mq_130_99, ↓mq_130_100, ↓mj_bs (mr_bn hA.1), mf_le hin, ↓mj_bs (mp_1 G), ↓mj_bs (mp_0 G), ma_b_mk, ma_p_mk, ↓mj_bs (e1), Option.toList, List.cons_append, List.nil_append, hbi, mj_b0, Bool.true_eq_false, mt_eq hp0, mn_shl i (show i < 31 by omega), mn_or, hp0, mn_sub (show 0 ≤ 0 by omega), Nat.sub_zero, ↓mj_bs (e6), ↓mj_bs (mr_b6 hA6.1), mn_mul, ↓mj_bs (mr_K4 hA6 hn hin), mt_eq hK3, mn_add]
            exact r1
          · simp only [hK3, if_false] at r1
            simp only [↓reduceIte, ↓mq_130_0, ↓mq_130_1, ↓mq_130_2, ↓mq_130_3, ↓mq_130_5, ↓mq_130_6, ↓mq_130_9, ↓mq_130_12, ↓mq_130_13, ↓mq_130_14, ↓mq_130_15, ↓mq_130_16, ↓mq_130_19, ↓mq_130_22, ↓mq_130_23, ↓mq_130_24, ↓mq_130_25, ↓mq_130_26, ↓mq_130_29, ↓mq_130_30, ↓mq_130_31, ↓mq_130_32, ↓mq_130_35, ↓mq_130_36, ↓mq_130_37, ↓mq_130_38, ↓mq_130_39, ↓mq_130_40, ↓mq_130_41, ↓mq_130_42, ↓mq_130_43, ↓mq_130_44, ↓mq_130_45, ↓mq_130_48, ↓mq_130_49, ↓mq_130_52, ↓mq_130_53, ↓mq_130_54, ↓mq_130_55, ↓mq_130_56, ↓mq_130_57, ↓mq_130_60, ↓mq_130_61, ↓mq_130_62, ↓mq_130_63, ↓mq_130_64, ↓mq_130_65, ↓mq_130_68, ↓mq_130_69, ↓mq_130_70, ↓mq_130_71, ↓mq_130_74, ↓mq_130_75, ↓mq_130_76, ↓mq_130_77, ↓mq_130_80, ↓mq_130_83, ↓mq_130_84, ↓mq_130_85, ↓mq_130_86, ↓mq_130_87, ↓mq_130_88, ↓mq_130_89, ↓mq_130_90, ↓mq_130_91, ↓mq_130_92, ↓mq_130_93, ↓mq_130_94, ↓mq_130_95, ↓mq_130_96, ↓mq_130_97, ↓mq_130_98, ↓mq_130_99, ↓mq_130_100, ↓mj_bs (mr_bn hA.1), mf_le hin, ↓mj_bs (mp_1 G), ↓mj_bs (mp_0 G), ma_b_mk, ma_p_mk, ↓mj_bs (e1), Option.toList, List.cons_append, List.nil_append, hbi, mj_b0, Bool.true_eq_false, mt_eq hp0, mn_shl i (show i < 31 by omega), mn_or, hp0, mn_sub (show 0 ≤ 0 by omega), Nat.sub_zero, ↓mj_bs (e6), ↓mj_bs (mr_b6 hA6.1), mn_mul, ↓mj_bs (mr_K4 hA6 hn hin), mf_eq hK3, mn_add]
            exact r1
        · simp only [hp0, if_false] at e6 r1
          by_cases hK3 : mr_K ρ i = 3
          · simp only [hK3, if_true] at r1
            simp only [↓reduceIte, ↓mq_130_0, ↓mq_130_1, ↓mq_130_2, ↓mq_130_3, ↓mq_130_5, ↓mq_130_6, ↓mq_130_9, ↓mq_130_12, ↓mq_130_13, ↓mq_130_14, ↓mq_130_15, ↓mq_130_16, ↓mq_130_19, ↓mq_130_22, ↓mq_130_23, ↓mq_130_24, ↓mq_130_25, ↓mq_130_26, ↓mq_130_29, ↓mq_130_30, ↓mq_130_31, ↓mq_130_32, ↓mq_130_35, ↓mq_130_36, ↓mq_130_37, ↓mq_130_38, ↓mq_130_39, ↓mq_130_40, ↓mq_130_41, ↓mq_130_42, ↓mq_130_43, ↓mq_130_44, ↓mq_130_45, ↓mq_130_48, ↓mq_130_49, ↓mq_130_52, ↓mq_130_53, ↓mq_130_54, ↓mq_130_55, ↓mq_130_56, ↓mq_130_57, ↓mq_130_60, ↓mq_130_61, ↓mq_130_62, ↓mq_130_63, ↓mq_130_64, ↓mq_130_65, ↓mq_130_68, ↓mq_130_69, ↓mq_130_70, ↓mq_130_71, ↓mq_130_74, ↓mq_130_75, ↓mq_130_76, ↓mq_130_77, ↓mq_130_80, ↓mq_130_83, ↓mq_130_84, ↓mq_130_85, ↓mq_130_86, ↓mq_130_87, ↓mq_130_88, ↓mq_130_89, ↓mq_130_90, ↓mq_130_91, ↓mq_130_92, ↓mq_130_93, ↓mq_130_94, ↓mq_130_95, ↓mq_130_96, ↓mq_130_97, ↓mq_130_98, ↓mq_130_99, ↓mq_130_100, ↓mj_bs (mr_bn hA.1), mf_le hin, ↓mj_bs (mp_1 G), ↓mj_bs (mp_0 G), ma_b_mk, ma_p_mk, ↓mj_bs (e1), Option.toList, List.cons_append, List.nil_append, hbi, mj_b0, Bool.true_eq_false, mf_eq hp0, mn_shl i (show i < 31 by omega), mn_or, mn_sub (show 1 ≤ p by omega), ↓mj_bs (e6), ↓mj_bs (mr_b6 hA6.1), mn_mul, ↓mj_bs (mr_K4 hA6 hn hin), mt_eq hK3, mn_add]
            exact r1
          · simp only [hK3, if_false] at r1
            simp only [↓reduceIte, ↓mq_130_0, ↓mq_130_1, ↓mq_130_2, ↓mq_130_3, ↓mq_130_5, ↓mq_130_6, ↓mq_130_9, ↓mq_130_12, ↓mq_130_13, ↓mq_130_14, ↓mq_130_15, ↓mq_130_16, ↓mq_130_19, ↓mq_130_22, ↓mq_130_23, ↓mq_130_24, ↓mq_130_25, ↓mq_130_26, ↓mq_130_29, ↓mq_130_30, ↓mq_130_31, ↓mq_130_32, ↓mq_130_35, ↓mq_130_36, ↓mq_130_37, ↓mq_130_38, ↓mq_130_39, ↓mq_130_40, ↓mq_130_41, ↓mq_130_42, ↓mq_130_43, ↓mq_130_44, ↓mq_130_45, ↓mq_130_48, ↓mq_130_49, ↓mq_130_52, ↓mq_130_53, ↓mq_130_54, ↓mq_130_55, ↓mq_130_56, ↓mq_130_57, ↓mq_130_60, ↓mq_130_61, ↓mq_130_62, ↓mq_130_63, ↓mq_130_64, ↓mq_130_65, ↓mq_130_68, ↓mq_130_69, ↓mq_130_70, ↓mq_130_71, ↓mq_130_74, ↓mq_130_75, ↓mq_130_76, ↓mq_130_77, ↓mq_130_80, ↓mq_130_83, ↓mq_130_84, ↓mq_130_85, ↓mq_130_86, ↓mq_130_87, ↓mq_130_88, ↓mq_130_89, ↓mq_130_90, ↓mq_130_91, ↓mq_130_92, ↓mq_130_93, ↓mq_130_94, ↓mq_130_95, ↓mq_130_96, ↓mq_130_97, ↓mq_130_98, ↓mq_130_99, ↓mq_130_100, ↓mj_bs (mr_bn hA.1), mf_le hin, ↓mj_bs (mp_1 G), ↓mj_bs (mp_0 G), ma_b_mk, ma_p_mk, ↓mj_bs (e1), Option.toList, List.cons_append, List.nil_append, hbi, mj_b0, Bool.true_eq_false, mf_eq hp0, mn_shl i (show i < 31 by omega), mn_or, mn_sub (show 1 ≤ p by omega), ↓mj_bs (e6), ↓mj_bs (mr_b6 hA6.1), mn_mul, ↓mj_bs (mr_K4 hA6 hn hin), mf_eq hK3, mn_add]
            exact r1
  obtain ⟨h', r1, r2, r3⟩ := loop (mr_n ρ) 0 h (by omega) G mh_F.rf
  refine ⟨h', ?_, r2, r3⟩
  rw [mc_130]
  simp only [↓reduceIte, ↓mq_130_0, ↓mq_130_1, ↓mq_130_2, ↓mq_130_3, ↓mq_130_5, ↓mq_130_6, ↓mq_130_9, ↓mq_130_12, ↓mq_130_13, ↓mq_130_14, ↓mq_130_15, ↓mq_130_16, ↓mq_130_19, ↓mq_130_22, ↓mq_130_23, ↓mq_130_24, ↓mq_130_25, ↓mq_130_26, ↓mq_130_29, ↓mq_130_30, ↓mq_130_31, ↓mq_130_32, ↓mq_130_35, ↓mq_130_36, ↓mq_130_37, ↓mq_130_38, ↓mq_130_39, ↓mq_130_40, ↓mq_130_41, ↓mq_130_42, ↓mq_130_43, ↓mq_130_44, ↓mq_130_45, ↓mq_130_48, ↓mq_130_49, ↓mq_130_52, ↓mq_130_53, ↓mq_130_54, ↓mq_130_55, ↓mq_130_56, ↓mq_130_57, ↓mq_130_60, ↓mq_130_61, ↓mq_130_62, ↓mq_130_63, ↓mq_130_64, ↓mq_130_65, ↓mq_130_68, ↓mq_130_69, ↓mq_130_70, ↓mq_130_71, ↓mq_130_74, ↓mq_130_75, ↓mq_130_76, ↓mq_130_77, ↓mq_130_80, ↓mq_130_83, ↓mq_130_84, ↓mq_130_85, ↓mq_130_86, ↓mq_130_87, ↓mq_130_88, ↓mq_130_89, ↓mq_130_90, ↓mq_130_91, ↓mq_130_92, ↓mq_130_93, ↓mq_130_94, ↓mq_130_95, ↓mq_130_96, ↓mq_130_97, ↓mq_130_98, ↓mq_130_99, ↓mq_130_100]
  exact r1
end
