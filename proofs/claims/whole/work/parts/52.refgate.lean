/-! THE REFERENCE READS: a gate, enemies -/
section
variable {h h' : mj_H} {S : mm_St} {ρ : mm_Ro} {d : Int32} {pl : Nat}
theorem mt_114 (w : mw_S S) (wρ : mw_R ρ) (H : mh_RP h S d pl ρ) (hp : pl ≤ (ms_t S).length) (hg : mr_g ρ < 3) : ∃ h' b, mj_C 114 [.ref 65] h = some (some (.int (mj_bI b)), h') ∧ mh_rt h h' S d ρ (mm_pG (ms_t S) pl ρ) b := by
  have h64 := w.1
  cases f0 : mm_fig (ms_t S) pl 0 3 with
  | none =>
    obtain ⟨gx, ax, Hx, Fx⟩ := mt_107n w H hp (by omega) (by omega) f0
    have eX : mm_pG (ms_t S) pl ρ = (pl, none) := by simp only [mm_pG, f0]
    rw [eX]
    refine ⟨gx, false, ?_, ρ, Hx, Fx, hp, rfl, fun _ => rfl⟩
    rw [mc_114]
    simp only [↓reduceIte, ↓mq_114_0, ↓mq_114_1, ↓mq_114_2, ↓mq_114_3, ↓mq_114_6, ↓mq_114_7, ↓mq_114_8, ↓mq_114_10, ↓mq_114_13, ↓mq_114_15, ↓mq_114_18, ↓mq_114_19, ↓mq_114_20, ↓mq_114_21, ↓mq_114_24, ↓mq_114_25, ↓mq_114_26, ↓mq_114_28, ↓mq_114_31, ↓mq_114_33, ↓mq_114_36, ↓mq_114_37, ↓mq_114_38, ↓mq_114_41, ↓mq_114_42, ↓mq_114_45, ↓mq_114_46, ↓mq_114_47, ↓mq_114_48, ↓mq_114_51, ↓mq_114_52, ↓mq_114_55, ↓mq_114_57, ↓mq_114_60, ↓mq_114_61, ↓mq_114_62, ↓mq_114_64, ↓mq_114_67, ↓mq_114_68, ↓mq_114_69, ↓mq_114_70, ↓mq_114_73, ↓mq_114_74, ↓mq_114_75, ↓mq_114_78, ↓mq_114_79, ↓mq_114_80, ↓mq_114_81, ↓mq_114_82, ↓mq_114_85, ↓mq_114_86, ↓mq_114_87, ↓mq_114_90, ↓mq_114_91, ↓mq_114_92, ↓mq_114_93, ↓mq_114_95, ↓mq_114_96, ↓mq_114_97, ↓mq_114_98, ↓mq_114_99, ↓mq_114_100, ↓mq_114_101, ↓mq_114_102, ↓mq_114_105, ↓mq_114_106, ↓mq_114_107, ↓mq_114_110, ↓mq_114_111, Option.toList, List.cons_append, List.nil_append, mh_isC H.1, ↓mj_bs (ax), mj_z0]
    rfl
  | some s =>
    have q0 := mm_fig_le f0
    obtain ⟨g1, a1, H1, F1⟩ := mt_107 w H hp (lo := 0) (hi := 3) (by omega) (by omega)
    rw [f0] at a1 H1
    have a1' : mj_C 107 [.ref 65, .int (nI 0), .int (nI 3)] h = some (some (.int (nI s)), g1) := a1
    have H1' : mh_RP g1 S d (pl + 1) ρ := H1
    have F1' : mh_F mh_RF h g1 := F1.mo (fun k z => Or.inl z)
    have p1 : pl + 1 ≤ (ms_t S).length := by have := q0.2.2.2; omega
    cases f1 : mm_fig (ms_t S) (pl + 1) 0 5 with
    | none =>
      obtain ⟨gx, ax, Hx, Fx⟩ := mt_107n w H1' p1 (by omega) (by omega) f1
      have eX : mm_pG (ms_t S) pl ρ = (pl + 1, none) := by simp only [mm_pG, f0, f1]
      rw [eX]
      refine ⟨gx, false, ?_, ρ, Hx, F1'.tt Fx, p1, rfl, fun _ => rfl⟩
      rw [mc_114]
      simp only [↓reduceIte, ↓mq_114_0, ↓mq_114_1, ↓mq_114_2, ↓mq_114_3, ↓mq_114_6, ↓mq_114_7, ↓mq_114_8, ↓mq_114_10, ↓mq_114_13, ↓mq_114_15, ↓mq_114_18, ↓mq_114_19, ↓mq_114_20, ↓mq_114_21, ↓mq_114_24, ↓mq_114_25, ↓mq_114_26, ↓mq_114_28, ↓mq_114_31, ↓mq_114_33, ↓mq_114_36, ↓mq_114_37, ↓mq_114_38, ↓mq_114_41, ↓mq_114_42, ↓mq_114_45, ↓mq_114_46, ↓mq_114_47, ↓mq_114_48, ↓mq_114_51, ↓mq_114_52, ↓mq_114_55, ↓mq_114_57, ↓mq_114_60, ↓mq_114_61, ↓mq_114_62, ↓mq_114_64, ↓mq_114_67, ↓mq_114_68, ↓mq_114_69, ↓mq_114_70, ↓mq_114_73, ↓mq_114_74, ↓mq_114_75, ↓mq_114_78, ↓mq_114_79, ↓mq_114_80, ↓mq_114_81, ↓mq_114_82, ↓mq_114_85, ↓mq_114_86, ↓mq_114_87, ↓mq_114_90, ↓mq_114_91, ↓mq_114_92, ↓mq_114_93, ↓mq_114_95, ↓mq_114_96, ↓mq_114_97, ↓mq_114_98, ↓mq_114_99, ↓mq_114_100, ↓mq_114_101, ↓mq_114_102, ↓mq_114_105, ↓mq_114_106, ↓mq_114_107, ↓mq_114_110, ↓mq_114_111, Option.toList, List.cons_append, List.nil_append, mh_isC H.1, ↓mj_bs (a1'), mf_m9 (d := s) (by omega), mh_isC H1'.1, ↓mj_bs (ax), mj_z0]
      rfl
    | some a =>
      have q1 := mm_fig_le f1
      obtain ⟨g2, a2, H2, F2⟩ := mt_107 w H1' p1 (lo := 0) (hi := 5) (by omega) (by omega)
      rw [f1] at a2 H2
      have a2' : mj_C 107 [.ref 65, .int (nI 0), .int (nI 5)] g1 = some (some (.int (nI a)), g2) := a2
      have H2' : mh_RP g2 S d (pl + 2) ρ := H2
      have F2' : mh_F mh_RF g1 g2 := F2.mo (fun k z => Or.inl z)
      have p2 : pl + 2 ≤ (ms_t S).length := by have := q1.2.2.2; omega
      -- the call of the last figure
      have call : ∀ {X : Option (Option Value × mj_H)}, (mj_bd (mj_C 107 [.ref 65, .int (nI (if a = 0 then 1 else 0)), .int (nI (if a = 5 then 4 else 9))] g2) (fun r => mj_R 114 (60, [.ref 65, .int (nI s), .int (nI a), .null], r.1.toList ++ [], r.2)) = X) → mj_C 114 [.ref 65] h = X := by
        intro X hX
        rw [← hX, mc_114]
        by_cases z0 : a = 0
        · have z5 : a ≠ 5 := by omega
          rw [if_pos z0, if_neg z5]
          simp only [↓reduceIte, ↓mq_114_0, ↓mq_114_1, ↓mq_114_2, ↓mq_114_3, ↓mq_114_6, ↓mq_114_7, ↓mq_114_8, ↓mq_114_10, ↓mq_114_13, ↓mq_114_15, ↓mq_114_18, ↓mq_114_19, ↓mq_114_20, ↓mq_114_21, ↓mq_114_24, ↓mq_114_25, ↓mq_114_26, ↓mq_114_28, ↓mq_114_31, ↓mq_114_33, ↓mq_114_36, ↓mq_114_37, ↓mq_114_38, ↓mq_114_41, ↓mq_114_42, ↓mq_114_45, ↓mq_114_46, ↓mq_114_47, ↓mq_114_48, ↓mq_114_51, ↓mq_114_52, ↓mq_114_55, ↓mq_114_57, ↓mq_114_61, ↓mq_114_62, ↓mq_114_64, ↓mq_114_67, ↓mq_114_68, ↓mq_114_69, ↓mq_114_70, ↓mq_114_73, ↓mq_114_74, ↓mq_114_75, ↓mq_114_78, ↓mq_114_79, ↓mq_114_80, ↓mq_114_81, ↓mq_114_82, ↓mq_114_85, ↓mq_114_86, ↓mq_114_87, ↓mq_114_90, ↓mq_114_91, ↓mq_114_92, ↓mq_114_93, ↓mq_114_95, ↓mq_114_96, ↓mq_114_97, ↓mq_114_98, ↓mq_114_99, ↓mq_114_100, ↓mq_114_101, ↓mq_114_102, ↓mq_114_105, ↓mq_114_106, ↓mq_114_107, ↓mq_114_110, ↓mq_114_111, Option.toList, List.cons_append, List.nil_append, mh_isC H.1, ↓mj_bs (a1'), mf_m9 (d := s) (by omega), mh_isC H1'.1, ↓mj_bs (a2'), mf_m9 (d := a) (by omega), mt_eq z0, mf_eq z5, mh_isC H2'.1]
        · by_cases z5 : a = 5
          · rw [if_neg z0, if_pos z5]
            simp only [↓reduceIte, ↓mq_114_0, ↓mq_114_1, ↓mq_114_2, ↓mq_114_3, ↓mq_114_6, ↓mq_114_7, ↓mq_114_8, ↓mq_114_10, ↓mq_114_13, ↓mq_114_15, ↓mq_114_18, ↓mq_114_19, ↓mq_114_20, ↓mq_114_21, ↓mq_114_24, ↓mq_114_25, ↓mq_114_26, ↓mq_114_28, ↓mq_114_31, ↓mq_114_33, ↓mq_114_36, ↓mq_114_37, ↓mq_114_38, ↓mq_114_41, ↓mq_114_42, ↓mq_114_45, ↓mq_114_46, ↓mq_114_47, ↓mq_114_48, ↓mq_114_51, ↓mq_114_52, ↓mq_114_55, ↓mq_114_57, ↓mq_114_61, ↓mq_114_62, ↓mq_114_64, ↓mq_114_67, ↓mq_114_68, ↓mq_114_69, ↓mq_114_70, ↓mq_114_73, ↓mq_114_74, ↓mq_114_75, ↓mq_114_78, ↓mq_114_79, ↓mq_114_80, ↓mq_114_81, ↓mq_114_82, ↓mq_114_85, ↓mq_114_86, ↓mq_114_87, ↓mq_114_90, ↓mq_114_91, ↓mq_114_92, ↓mq_114_93, ↓mq_114_95, ↓mq_114_96, ↓mq_114_97, ↓mq_114_98, ↓mq_114_99, ↓mq_114_100, ↓mq_114_101, ↓mq_114_102, ↓mq_114_105, ↓mq_114_106, ↓mq_114_107, ↓mq_114_110, ↓mq_114_111, Option.toList, List.cons_append, List.nil_append, mh_isC H.1, ↓mj_bs (a1'), mf_m9 (d := s) (by omega), mh_isC H1'.1, ↓mj_bs (a2'), mf_m9 (d := a) (by omega), mf_eq z0, mt_eq z5, mh_isC H2'.1]
          · rw [if_neg z0, if_neg z5]
            simp only [↓reduceIte, ↓mq_114_0, ↓mq_114_1, ↓mq_114_2, ↓mq_114_3, ↓mq_114_6, ↓mq_114_7, ↓mq_114_8, ↓mq_114_10, ↓mq_114_13, ↓mq_114_15, ↓mq_114_18, ↓mq_114_19, ↓mq_114_20, ↓mq_114_21, ↓mq_114_24, ↓mq_114_25, ↓mq_114_26, ↓mq_114_28, ↓mq_114_31, ↓mq_114_33, ↓mq_114_36, ↓mq_114_37, ↓mq_114_38, ↓mq_114_41, ↓mq_114_42, ↓mq_114_45, ↓mq_114_46, ↓mq_114_47, ↓mq_114_48, ↓mq_114_51, ↓mq_114_52, ↓mq_114_55, ↓mq_114_57, ↓mq_114_61, ↓mq_114_62, ↓mq_114_64, ↓mq_114_67, ↓mq_114_68, ↓mq_114_69, ↓mq_114_70, ↓mq_114_73, ↓mq_114_74, ↓mq_114_75, ↓mq_114_78, ↓mq_114_79, ↓mq_114_80, ↓mq_114_81, ↓mq_114_82, ↓mq_114_85, ↓mq_114_86, ↓mq_114_87, ↓mq_114_90, ↓mq_114_91, ↓mq_114_92, ↓mq_114_93, ↓mq_114_95, ↓mq_114_96, ↓mq_114_97, ↓mq_114_98, ↓mq_114_99, ↓mq_114_100, ↓mq_114_101, ↓mq_114_102, ↓mq_114_105, ↓mq_114_106, ↓mq_114_107, ↓mq_114_110, ↓mq_114_111, Option.toList, List.cons_append, List.nil_append, mh_isC H.1, ↓mj_bs (a1'), mf_m9 (d := s) (by omega), mh_isC H1'.1, ↓mj_bs (a2'), mf_m9 (d := a) (by omega), mf_eq z0, mf_eq z5, mh_isC H2'.1]
      have hlo : (if a = 0 then 1 else 0) ≤ 9 := by split <;> omega
      have hhi : (if a = 5 then 4 else 9) ≤ 9 := by split <;> omega
      cases f2 : mm_fig (ms_t S) (pl + 2) (if a = 0 then 1 else 0) (if a = 5 then 4 else 9) with
      | none =>
        obtain ⟨gx, ax, Hx, Fx⟩ := mt_107n w H2' p2 hlo hhi f2
        have eX : mm_pG (ms_t S) pl ρ = (pl + 2, none) := by simp only [mm_pG, f0, f1, f2]
        rw [eX]
        refine ⟨gx, false, call ?_, ρ, Hx, (F1'.tt F2').tt Fx, p2, rfl, fun _ => rfl⟩
        rw [mj_bs ax]
        simp only [↓reduceIte, ↓mq_114_0, ↓mq_114_1, ↓mq_114_2, ↓mq_114_3, ↓mq_114_6, ↓mq_114_7, ↓mq_114_8, ↓mq_114_10, ↓mq_114_13, ↓mq_114_15, ↓mq_114_18, ↓mq_114_19, ↓mq_114_20, ↓mq_114_21, ↓mq_114_24, ↓mq_114_25, ↓mq_114_26, ↓mq_114_28, ↓mq_114_31, ↓mq_114_33, ↓mq_114_36, ↓mq_114_37, ↓mq_114_38, ↓mq_114_41, ↓mq_114_42, ↓mq_114_45, ↓mq_114_46, ↓mq_114_47, ↓mq_114_48, ↓mq_114_51, ↓mq_114_52, ↓mq_114_55, ↓mq_114_57, ↓mq_114_60, ↓mq_114_61, ↓mq_114_62, ↓mq_114_64, ↓mq_114_67, ↓mq_114_68, ↓mq_114_69, ↓mq_114_70, ↓mq_114_73, ↓mq_114_74, ↓mq_114_75, ↓mq_114_78, ↓mq_114_79, ↓mq_114_80, ↓mq_114_81, ↓mq_114_82, ↓mq_114_85, ↓mq_114_86, ↓mq_114_87, ↓mq_114_90, ↓mq_114_91, ↓mq_114_92, ↓mq_114_93, ↓mq_114_95, ↓mq_114_96, ↓mq_114_97, ↓mq_114_98, ↓mq_114_99, ↓mq_114_100, ↓mq_114_101, ↓mq_114_102, ↓mq_114_105, ↓mq_114_106, ↓mq_114_107, ↓mq_114_110, ↓mq_114_111, Option.toList, List.cons_append, List.nil_append, mj_z0]
        rfl
      | some b =>
        have q2 := mm_fig_le f2
        obtain ⟨g3, a3, H3, F3⟩ := mt_107 w H2' p2 hlo hhi
        rw [f2] at a3 H3
        have a3' : mj_C 107 [.ref 65, .int (nI (if a = 0 then 1 else 0)), .int (nI (if a = 5 then 4 else 9))] g2 = some (some (.int (nI b)), g3) := a3
        have H3' : mh_RP g3 S d (pl + 3) ρ := H3
        have p3 : pl + 3 ≤ (ms_t S).length := by have := q2.2.2.2; omega
        have hb9 : b ≤ 9 := by have := q2.2.1; split at this <;> omega
        obtain ⟨o, t6, t7, t71, t72⟩ := H3'
        obtain ⟨g4, b4, E4, F4⟩ := t72.pu (show 2 * mr_g ρ < 6 by omega) s
        obtain ⟨g5, b5, E5, F5⟩ := E4.pu (show 2 * mr_g ρ + 1 < 6 by omega) (10 * a + b)
        have o4 := (F4.2 65 (by omega)).trans o
        have o5 := (F5.2 65 (by omega)).trans o4
        obtain ⟨g6, hg6⟩ : ∃ z, z = mj_up g5 65 (.inr (7, mr_fs (nI (ms_t S).length) (nI (pl + 3)) (nI (mr_n (ms_r S))) (nI (mr_g (ms_r S))) (nI (mr_n ρ)) (nI (mr_g ρ + 1)) d (nI (ms_a S).length) (nI (ms_s S).length) (ms_g S))) := ⟨_, rfl⟩
        have b6 : mj_pf g5 65 7 10 (.int (nI (mr_g ρ + 1))) = some g6 := by rw [hg6]; exact mh_pf 10 o5 (by simp) rfl
        have o6 := mh_ue hg6
        have F6 : mh_F (fun k => k = 65) g5 g6 := by rw [hg6]; exact mh_uF
        have eX : mm_pG (ms_t S) pl ρ = (pl + 3, some (mm_roG ρ s (10 * a + b))) := by simp only [mm_pG, f0, f1, f2]
        rw [eX]
        have K : ∀ {x n P X}, mh_ap g3 x n P X → x ≠ 72 → x ≠ 65 → mh_ap g6 x n P X := fun z n1 n2 => ((z.kp F4 (by omega)).kp F5 (by omega)).kp F6 (by omega)
        refine ⟨g6, true, call ?_, mm_roG ρ s (10 * a + b), ⟨o6, K t6 (by omega) (by omega), K t7 (by omega) (by omega), K t71 (by omega) (by omega), (E5.kp F6 (by omega)).mo (fun j hj6 hj => ?_)⟩, ((((F1'.tt F2').tt (F3.mo (fun k z => Or.inl z))).tt (F4.mo (fun k z => Or.inr (Or.inr (Or.inr z))))).tt (F5.mo (fun k z => Or.inr (Or.inr (Or.inr z))))).tt (F6.mo (fun k z => Or.inl z)), p3, rfl, fun z => by cases z⟩
        · rw [mj_bs a3']
          simp only [↓reduceIte, ↓mq_114_0, ↓mq_114_1, ↓mq_114_2, ↓mq_114_3, ↓mq_114_6, ↓mq_114_7, ↓mq_114_8, ↓mq_114_10, ↓mq_114_13, ↓mq_114_15, ↓mq_114_18, ↓mq_114_19, ↓mq_114_20, ↓mq_114_21, ↓mq_114_24, ↓mq_114_25, ↓mq_114_26, ↓mq_114_28, ↓mq_114_31, ↓mq_114_33, ↓mq_114_36, ↓mq_114_37, ↓mq_114_38, ↓mq_114_41, ↓mq_114_42, ↓mq_114_45, ↓mq_114_46, ↓mq_114_47, ↓mq_114_48, ↓mq_114_51, ↓mq_114_52, ↓mq_114_55, ↓mq_114_57, ↓mq_114_60, ↓mq_114_61, ↓mq_114_62, ↓mq_114_64, ↓mq_114_67, ↓mq_114_68, ↓mq_114_69, ↓mq_114_70, ↓mq_114_73, ↓mq_114_74, ↓mq_114_75, ↓mq_114_78, ↓mq_114_79, ↓mq_114_80, ↓mq_114_81, ↓mq_114_82, ↓mq_114_85, ↓mq_114_86, ↓mq_114_87, ↓mq_114_90, ↓mq_114_91, ↓mq_114_92, ↓mq_114_93, ↓mq_114_95, ↓mq_114_96, ↓mq_114_97, ↓mq_114_98, ↓mq_114_99, ↓mq_114_100, ↓mq_114_101, ↓mq_114_102, ↓mq_114_105, ↓mq_114_106, ↓mq_114_107, ↓mq_114_110, ↓mq_114_111, Option.toList, List.cons_append, List.nil_append, mf_m9 (d := b) (by omega), ↓mj_bs (mh_gf 14 o rfl), ↓mj_bs (mh_gf 10 o rfl), mn_mul, ↓mj_bs (b4), ↓mj_bs (mh_gf 14 o4 rfl), ↓mj_bs (mh_gf 10 o4 rfl), mn_add, ↓mj_bs (b5), ↓mj_bs (mh_gf 10 o5 rfl), ↓mj_bs (b6), mj_z1]
          rfl
        · have hj' : j < 2 * (mr_g ρ + 1) := hj
          show ((j < 2 * mr_g ρ ∨ j = 2 * mr_g ρ) ∨ j = 2 * mr_g ρ + 1) ∧ (if j % 2 = 0 then mh_u (mr_gS ρ) (mr_g ρ) s (j / 2) else mh_u (mr_gW ρ) (mr_g ρ) (10 * a + b) (j / 2)) = mh_u (mh_u (mr_want ρ) (2 * mr_g ρ) s) (2 * mr_g ρ + 1) (10 * a + b) j
          refine ⟨by omega, ?_⟩
          by_cases z : j < 2 * mr_g ρ
          · have zd : j / 2 ≠ mr_g ρ := by omega
            rw [mh_u_ne zd, mh_u_ne zd, mh_u_ne (by omega), mh_u_ne (by omega)]
            rfl
          · rcases (show j = 2 * mr_g ρ ∨ j = 2 * mr_g ρ + 1 by omega) with z | z
            · rw [z, if_pos (by omega), show (2 * mr_g ρ) / 2 = mr_g ρ by omega, mh_u_at, mh_u_ne (by omega), mh_u_at]
            · rw [z, if_neg (by omega), show (2 * mr_g ρ + 1) / 2 = mr_g ρ by omega, mh_u_at, mh_u_at]
/-- what stands there, as a figure -/
def mm_xv (t : List Nat) (pl : Nat) : Int32 := match t[pl]? with
  | some c => nI c - nI 48
  | none => -9
theorem mm_fofx {t : List Nat} (ht : ∀ c ∈ t, c < 256) {n s pl : Nat} (hn : n ≤ 6) (hs : ∀ v, v < 6 → s.testBit v = true → v < n) : (∃ v, mm_fof t pl s = some v ∧ mm_xv t pl = nI v ∧ v < n ∧ s.testBit v = true ∧ pl < t.length) ∨ (mm_fof t pl s = none ∧ ((∃ v, v < n ∧ mm_xv t pl = nI v ∧ s.testBit v = false) ∨ ¬ (nI 0 ≤ mm_xv t pl ∧ mm_xv t pl < nI n))) := by
  unfold mm_fof mm_fig mm_xv
  cases hc : t[pl]? with
  | none =>
    refine Or.inr ⟨rfl, Or.inr (fun z => ?_)⟩
    have z1 := z.1
    revert z1
    simp only
    decide
  | some c =>
    have hc256 := ht c (List.mem_of_getElem? hc)
    have hpl := (List.getElem?_eq_some_iff.mp hc).1
    have hx := mn_c48 c hc256
    simp only
    by_cases hf : 0 + 48 ≤ c ∧ c ≤ 5 + 48
    · have e : nI c - nI 48 = nI (c - 48) := mn_sub (by omega)
      rw [if_pos hf, e]
      simp only
      cases hb : s.testBit (c - 48)
      · refine Or.inr ⟨by simp, ?_⟩
        by_cases hv : c - 48 < n
        · exact Or.inl ⟨c - 48, hv, rfl, hb⟩
        · exact Or.inr (fun z => hv ((mn_lt (by omega) (by omega)).mp z.2))
      · exact Or.inl ⟨c - 48, by simp, rfl, hs _ (by omega) hb, hb, hpl⟩
    · rw [if_neg hf]
      refine Or.inr ⟨rfl, Or.inr (fun z => ?_)⟩
      have z1 := z.1
      have z2 := z.2
      rw [Int32.le_iff_toInt_le, hx, nI_toInt (by omega)] at z1
      rw [Int32.lt_iff_toInt_lt, hx, nI_toInt (by omega)] at z2
      omega
end
