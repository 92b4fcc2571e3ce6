/-! THE REFERENCE READS: a beast -/
section
variable {h h' : mj_H} {S : mm_St} {ρ : mm_Ro} {d : Int32} {pl : Nat}
theorem mh_RP.td (H : mh_RP h S d pl ρ) (F : mh_F (fun k => k = 70) h h') {P : Nat → Prop} {X : Nat → Nat} (T : mh_ap h' 70 24 P X) (hPX : ∀ j, j < 4 * mr_n ρ → P j ∧ mr_told ρ j = X j) : mh_RP h' S d pl ρ := by
  obtain ⟨o, a, b, c, e⟩ := H
  exact ⟨(F.2 65 (by omega)).trans o, a.kp F (by omega), T.mo (fun j _ hj => hPX j hj), c.kp F (by omega), e.kp F (by omega)⟩
theorem mt_111s (w : mw_S S) (H : mh_RP h S d pl ρ) (hp : pl ≤ (ms_t S).length) (hn : mr_n ρ < 6) {P : Nat → Prop} {X : Nat → Nat} (T : mh_ap h 70 24 P X) (hPX : ∀ j, j < 4 * mr_n ρ → P j ∧ mr_told ρ j = X j) {lo hi v k : Nat} (hl : lo ≤ 9) (hh : hi ≤ 9) (hf : mm_fig (ms_t S) pl lo hi = some v) (hk : k < 4) : ∃ h1 h2, mj_C 107 [.ref 65, .int (nI lo), .int (nI hi)] h = some (some (.int (nI v)), h1) ∧ mj_pi h1 70 (nI (4 * mr_n ρ + k)) (nI v) = some h2 ∧ mh_RP h1 S d (pl + 1) ρ ∧ mh_RP h2 S d (pl + 1) ρ ∧ mh_ap h2 70 24 (fun j => P j ∨ j = 4 * mr_n ρ + k) (mh_u X (4 * mr_n ρ + k) v) ∧ (∀ j, j < 4 * mr_n ρ → (P j ∨ j = 4 * mr_n ρ + k) ∧ mr_told ρ j = mh_u X (4 * mr_n ρ + k) v j) ∧ mh_F mh_RF h h2 := by
  obtain ⟨h1, e1, H1, F1⟩ := mt_107 w H hp hl hh
  rw [hf] at e1 H1
  have T1 := T.kp F1 (by omega)
  obtain ⟨h2, e2, T2, F2⟩ := T1.pu (show 4 * mr_n ρ + k < 24 by omega) v
  have hPX2 : ∀ j, j < 4 * mr_n ρ → (P j ∨ j = 4 * mr_n ρ + k) ∧ mr_told ρ j = mh_u X (4 * mr_n ρ + k) v j := fun j hj => ⟨Or.inl (hPX j hj).1, by rw [mh_u_ne (by omega)]; exact (hPX j hj).2⟩
  exact ⟨h1, h2, e1, e2, H1, H1.td F2 T2 hPX2, T2, hPX2, (F1.mo (fun k z => Or.inl z)).tt (F2.mo (fun k z => Or.inr (Or.inl z)))⟩
theorem mt_107n (w : mw_S S) (H : mh_RP h S d pl ρ) (hp : pl ≤ (ms_t S).length) {lo hi : Nat} (hl : lo ≤ 9) (hh : hi ≤ 9) (hf : mm_fig (ms_t S) pl lo hi = none) : ∃ h', mj_C 107 [.ref 65, .int (nI lo), .int (nI hi)] h = some (some (.int (-9)), h') ∧ mh_RP h' S d pl ρ ∧ mh_F mh_RF h h' := by
  obtain ⟨h1, e1, H1, F1⟩ := mt_107 w H hp hl hh
  rw [hf] at e1 H1
  exact ⟨h1, e1, H1, F1.mo (fun k z => Or.inl z)⟩

theorem mt_111 (w : mw_S S) (wρ : mw_R ρ) (H : mh_RP h S d pl ρ) (hp : pl ≤ (ms_t S).length) (hn : mr_n ρ < 6) : ∃ h' b, mj_C 111 [.ref 65] h = some (some (.int (mj_bI b)), h') ∧ mh_rt h h' S d ρ (mm_pB (ms_t S) pl ρ) b := by
  have h64 := w.1
  have hPX0 : ∀ j, j < 4 * mr_n ρ → j < 4 * mr_n ρ ∧ mr_told ρ j = mr_told ρ j := fun j hj => ⟨hj, rfl⟩
  cases f0 : mm_fig (ms_t S) (pl) 0 3 with
  | none =>
    obtain ⟨gx, ax, Hx, Fx⟩ := mt_107n w H hp (by omega) (by omega) f0
    have eX : mm_pB (ms_t S) pl ρ = (pl, none) := by simp only [mm_pB, f0]
    rw [eX]
    refine ⟨gx, false, ?_, ρ, Hx, Fx, hp, rfl, fun _ => rfl⟩
    rw [mc_111]
    simp only [↓reduceIte, ↓mq_111_0, ↓mq_111_1, ↓mq_111_2, ↓mq_111_3, ↓mq_111_4, ↓mq_111_7, ↓mq_111_8, ↓mq_111_11, ↓mq_111_12, ↓mq_111_13, ↓mq_111_16, ↓mq_111_17, ↓mq_111_18, ↓mq_111_19, ↓mq_111_22, ↓mq_111_25, ↓mq_111_26, ↓mq_111_27, ↓mq_111_29, ↓mq_111_32, ↓mq_111_33, ↓mq_111_34, ↓mq_111_36, ↓mq_111_39, ↓mq_111_40, ↓mq_111_41, ↓mq_111_42, ↓mq_111_45, ↓mq_111_46, ↓mq_111_47, ↓mq_111_50, ↓mq_111_51, ↓mq_111_52, ↓mq_111_53, ↓mq_111_54, ↓mq_111_55, ↓mq_111_58, ↓mq_111_61, ↓mq_111_62, ↓mq_111_65, ↓mq_111_66, ↓mq_111_69, ↓mq_111_70, ↓mq_111_71, ↓mq_111_72, ↓mq_111_73, ↓mq_111_76, ↓mq_111_77, ↓mq_111_78, ↓mq_111_81, ↓mq_111_82, mf_le (show 0 < 4 by omega), mf_le (show 1 < 4 by omega), mf_le (show 2 < 4 by omega), mf_le (show 3 < 4 by omega), mt_le (show 4 ≤ 4 by omega), mt_eq (show 0 = 0 from rfl), mf_eq (show 1 ≠ 0 by omega), mf_eq (show 2 ≠ 0 by omega), mf_eq (show 3 ≠ 0 by omega), mf_eq (show 1 ≠ 3 by omega), mf_eq (show 2 ≠ 3 by omega), mt_eq (show 3 = 3 from rfl), Option.toList, List.cons_append, List.nil_append, mh_isC H.1, ↓mj_bs (ax), mj_z0]
    rfl
  | some k =>
    have q0 := mm_fig_le f0
    obtain ⟨x1, g1, a1, b1, A1, H1, T1, X1, F1⟩ := mt_111s w H hp hn (H.2.2.1) hPX0 (k := 0) (by omega) (by omega) f0 (by omega)
    have p1 : pl + 1 ≤ (ms_t S).length := by have := q0.2.2.2; omega
    cases f1 : mm_fig (ms_t S) (pl + 1) 1 9 with
    | none =>
      obtain ⟨gx, ax, Hx, Fx⟩ := mt_107n w H1 p1 (by omega) (by omega) f1
      have eX : mm_pB (ms_t S) pl ρ = (pl + 1, none) := by simp only [mm_pB, f0, f1]
      rw [eX]
      refine ⟨gx, false, ?_, ρ, Hx, (F1).tt Fx, p1, rfl, fun _ => rfl⟩
      rw [mc_111]
      simp only [↓reduceIte, ↓mq_111_0, ↓mq_111_1, ↓mq_111_2, ↓mq_111_3, ↓mq_111_4, ↓mq_111_7, ↓mq_111_8, ↓mq_111_11, ↓mq_111_12, ↓mq_111_13, ↓mq_111_16, ↓mq_111_17, ↓mq_111_18, ↓mq_111_19, ↓mq_111_22, ↓mq_111_25, ↓mq_111_26, ↓mq_111_27, ↓mq_111_29, ↓mq_111_32, ↓mq_111_33, ↓mq_111_34, ↓mq_111_36, ↓mq_111_39, ↓mq_111_40, ↓mq_111_41, ↓mq_111_42, ↓mq_111_45, ↓mq_111_46, ↓mq_111_47, ↓mq_111_50, ↓mq_111_51, ↓mq_111_52, ↓mq_111_53, ↓mq_111_54, ↓mq_111_55, ↓mq_111_58, ↓mq_111_61, ↓mq_111_62, ↓mq_111_65, ↓mq_111_66, ↓mq_111_69, ↓mq_111_70, ↓mq_111_71, ↓mq_111_72, ↓mq_111_73, ↓mq_111_76, ↓mq_111_77, ↓mq_111_78, ↓mq_111_81, ↓mq_111_82, mf_le (show 0 < 4 by omega), mf_le (show 1 < 4 by omega), mf_le (show 2 < 4 by omega), mf_le (show 3 < 4 by omega), mt_le (show 4 ≤ 4 by omega), mt_eq (show 0 = 0 from rfl), mf_eq (show 1 ≠ 0 by omega), mf_eq (show 2 ≠ 0 by omega), mf_eq (show 3 ≠ 0 by omega), mf_eq (show 1 ≠ 3 by omega), mf_eq (show 2 ≠ 3 by omega), mt_eq (show 3 = 3 from rfl), Option.toList, List.cons_append, List.nil_append, mh_isC H.1, ↓mj_bs (a1), mf_m9 (d := k) (by omega), ↓mj_bs (mh_gf 12 A1.1 rfl), ↓mj_bs (mh_gf 9 A1.1 rfl), mn_mul, mn_add, ↓mj_bs (b1), mh_isC H1.1, ↓mj_bs (ax), mj_z0]
      rfl
    | some p =>
      have q1 := mm_fig_le f1
      obtain ⟨x2, g2, a2, b2, A2, H2, T2, X2, F2⟩ := mt_111s w H1 p1 hn (T1) X1 (k := 1) (by omega) (by omega) f1 (by omega)
      have p2 : pl + 2 ≤ (ms_t S).length := by have := q1.2.2.2; omega
      cases f2 : mm_fig (ms_t S) (pl + 2) 1 9 with
      | none =>
        obtain ⟨gx, ax, Hx, Fx⟩ := mt_107n w H2 p2 (by omega) (by omega) f2
        have eX : mm_pB (ms_t S) pl ρ = (pl + 2, none) := by simp only [mm_pB, f0, f1, f2]
        rw [eX]
        refine ⟨gx, false, ?_, ρ, Hx, ((F1).tt F2).tt Fx, p2, rfl, fun _ => rfl⟩
        rw [mc_111]
        simp only [↓reduceIte, ↓mq_111_0, ↓mq_111_1, ↓mq_111_2, ↓mq_111_3, ↓mq_111_4, ↓mq_111_7, ↓mq_111_8, ↓mq_111_11, ↓mq_111_12, ↓mq_111_13, ↓mq_111_16, ↓mq_111_17, ↓mq_111_18, ↓mq_111_19, ↓mq_111_22, ↓mq_111_25, ↓mq_111_26, ↓mq_111_27, ↓mq_111_29, ↓mq_111_32, ↓mq_111_33, ↓mq_111_34, ↓mq_111_36, ↓mq_111_39, ↓mq_111_40, ↓mq_111_41, ↓mq_111_42, ↓mq_111_45, ↓mq_111_46, ↓mq_111_47, ↓mq_111_50, ↓mq_111_51, ↓mq_111_52, ↓mq_111_53, ↓mq_111_54, ↓mq_111_55, ↓mq_111_58, ↓mq_111_61, ↓mq_111_62, ↓mq_111_65, ↓mq_111_66, ↓mq_111_69, ↓mq_111_70, ↓mq_111_71, ↓mq_111_72, ↓mq_111_73, ↓mq_111_76, ↓mq_111_77, ↓mq_111_78, ↓mq_111_81, ↓mq_111_82, mf_le (show 0 < 4 by omega), mf_le (show 1 < 4 by omega), mf_le (show 2 < 4 by omega), mf_le (show 3 < 4 by omega), mt_le (show 4 ≤ 4 by omega), mt_eq (show 0 = 0 from rfl), mf_eq (show 1 ≠ 0 by omega), mf_eq (show 2 ≠ 0 by omega), mf_eq (show 3 ≠ 0 by omega), mf_eq (show 1 ≠ 3 by omega), mf_eq (show 2 ≠ 3 by omega), mt_eq (show 3 = 3 from rfl), Option.toList, List.cons_append, List.nil_append, mh_isC H.1, ↓mj_bs (a1), mf_m9 (d := k) (by omega), ↓mj_bs (mh_gf 12 A1.1 rfl), ↓mj_bs (mh_gf 9 A1.1 rfl), mn_mul, mn_add, ↓mj_bs (b1), mh_isC H1.1, ↓mj_bs (a2), mf_m9 (d := p) (by omega), ↓mj_bs (mh_gf 12 A2.1 rfl), ↓mj_bs (mh_gf 9 A2.1 rfl), mn_mul, mn_add, ↓mj_bs (b2), mh_isC H2.1, ↓mj_bs (ax), mj_z0]
        rfl
      | some s =>
        have q2 := mm_fig_le f2
        obtain ⟨x3, g3, a3, b3, A3, H3, T3, X3, F3⟩ := mt_111s w H2 p2 hn (T2) X2 (k := 2) (by omega) (by omega) f2 (by omega)
        have p3 : pl + 3 ≤ (ms_t S).length := by have := q2.2.2.2; omega
        cases f3 : mm_fig (ms_t S) (pl + 3) 0 3 with
        | none =>
          obtain ⟨gx, ax, Hx, Fx⟩ := mt_107n w H3 p3 (by omega) (by omega) f3
          have eX : mm_pB (ms_t S) pl ρ = (pl + 3, none) := by simp only [mm_pB, f0, f1, f2, f3]
          rw [eX]
          refine ⟨gx, false, ?_, ρ, Hx, (((F1).tt F2).tt F3).tt Fx, p3, rfl, fun _ => rfl⟩
          rw [mc_111]
          simp only [↓reduceIte, ↓mq_111_0, ↓mq_111_1, ↓mq_111_2, ↓mq_111_3, ↓mq_111_4, ↓mq_111_7, ↓mq_111_8, ↓mq_111_11, ↓mq_111_12, ↓mq_111_13, ↓mq_111_16, ↓mq_111_17, ↓mq_111_18, ↓mq_111_19, ↓mq_111_22, ↓mq_111_25, ↓mq_111_26, ↓mq_111_27, ↓mq_111_29, ↓mq_111_32, ↓mq_111_33, ↓mq_111_34, ↓mq_111_36, ↓mq_111_39, ↓mq_111_40, ↓mq_111_41, ↓mq_111_42, ↓mq_111_45, ↓mq_111_46, ↓mq_111_47, ↓mq_111_50, ↓mq_111_51, ↓mq_111_52, ↓mq_111_53, ↓mq_111_54, ↓mq_111_55, ↓mq_111_58, ↓mq_111_61, ↓mq_111_62, ↓mq_111_65, ↓mq_111_66, ↓mq_111_69, ↓mq_111_70, ↓mq_111_71, ↓mq_111_72, ↓mq_111_73, ↓mq_111_76, ↓mq_111_77, ↓mq_111_78, ↓mq_111_81, ↓mq_111_82, mf_le (show 0 < 4 by omega), mf_le (show 1 < 4 by omega), mf_le (show 2 < 4 by omega), mf_le (show 3 < 4 by omega), mt_le (show 4 ≤ 4 by omega), mt_eq (show 0 = 0 from rfl), mf_eq (show 1 ≠ 0 by omega), mf_eq (show 2 ≠ 0 by omega), mf_eq (show 3 ≠ 0 by omega), mf_eq (show 1 ≠ 3 by omega), mf_eq (show 2 ≠ 3 by omega), mt_eq (show 3 = 3 from rfl), Option.toList, List.cons_append, List.nil_append, mh_isC H.1, ↓mj_bs (a1), mf_m9 (d := k) (by omega), ↓mj_bs (mh_gf 12 A1.1 rfl), ↓mj_bs (mh_gf 9 A1.1 rfl), mn_mul, mn_add, ↓mj_bs (b1), mh_isC H1.1, ↓mj_bs (a2), mf_m9 (d := p) (by omega), ↓mj_bs (mh_gf 12 A2.1 rfl), ↓mj_bs (mh_gf 9 A2.1 rfl), mn_mul, mn_add, ↓mj_bs (b2), mh_isC H2.1, ↓mj_bs (a3), mf_m9 (d := s) (by omega), ↓mj_bs (mh_gf 12 A3.1 rfl), ↓mj_bs (mh_gf 9 A3.1 rfl), mn_mul, mn_add, ↓mj_bs (b3), mh_isC H3.1, ↓mj_bs (ax), mj_z0]
          rfl
        | some v =>
          have q3 := mm_fig_le f3
          obtain ⟨x4, g4, a4, b4, A4, H4, T4, X4, F4⟩ := mt_111s w H3 p3 hn (T3) X3 (k := 3) (by omega) (by omega) f3 (by omega)
          have p4 : pl + 4 ≤ (ms_t S).length := by have := q3.2.2.2; omega
          have eX : mm_pB (ms_t S) pl ρ = (pl + 4, some (mm_roB ρ k p s v)) := by simp only [mm_pB, f0, f1, f2, f3]
          rw [eX]
          obtain ⟨o, a, b, c, e⟩ := H4
          obtain ⟨g5, b5, E5, F5⟩ := c.pt (P' := fun j => j < mr_n ρ + 1) (X' := mh_u (mr_E ρ) (mr_n ρ) 0) (show mr_n ρ < 6 by omega) 0 (fun j _ hj => by
            by_cases z : j = mr_n ρ
            · subst z; exact Or.inl ⟨rfl, mh_u_at⟩
            · exact Or.inr ⟨z, by omega, mh_u_ne z⟩)
          have o5 := (F5.2 65 (by omega)).trans o
          obtain ⟨g6, hg6⟩ : ∃ z, z = mj_up g5 65 (.inr (7, mr_fs (nI (ms_t S).length) (nI (pl + 4)) (nI (mr_n (ms_r S))) (nI (mr_g (ms_r S))) (nI (mr_n ρ + 1)) (nI (mr_g ρ)) d (nI (ms_a S).length) (nI (ms_s S).length) (ms_g S))) := ⟨_, rfl⟩
          have b6 : mj_pf g5 65 7 9 (.int (nI (mr_n ρ + 1))) = some g6 := by rw [hg6]; exact mh_pf 9 o5 (by simp) rfl
          have o6 := mh_ue hg6
          have F6 : mh_F (fun k => k = 65) g5 g6 := by rw [hg6]; exact mh_uF
          have T6 := (T4.kp F5 (by omega)).kp F6 (by omega)
          refine ⟨g6, true, ?_, mm_roB ρ k p s v, ⟨o6, (a.kp F5 (by omega)).kp F6 (by omega), T6.mo (fun j hj24 hj => ?_), E5.kp F6 (by omega), (e.kp F5 (by omega)).kp F6 (by omega)⟩, (((((F1).tt F2).tt F3).tt F4).tt (F5.mo (fun k z => Or.inr (Or.inr (Or.inl z))))).tt (F6.mo (fun k z => Or.inl z)), p4, rfl, fun z => by cases z⟩
          · rw [mc_111]
            simp only [↓reduceIte, ↓mq_111_0, ↓mq_111_1, ↓mq_111_2, ↓mq_111_3, ↓mq_111_4, ↓mq_111_7, ↓mq_111_8, ↓mq_111_11, ↓mq_111_12, ↓mq_111_13, ↓mq_111_16, ↓mq_111_17, ↓mq_111_18, ↓mq_111_19, ↓mq_111_22, ↓mq_111_25, ↓mq_111_26, ↓mq_111_27, ↓mq_111_29, ↓mq_111_32, ↓mq_111_33, ↓mq_111_34, ↓mq_111_36, ↓mq_111_39, ↓mq_111_40, ↓mq_111_41, ↓mq_111_42, ↓mq_111_45, ↓mq_111_46, ↓mq_111_47, ↓mq_111_50, ↓mq_111_51, ↓mq_111_52, ↓mq_111_53, ↓mq_111_54, ↓mq_111_55, ↓mq_111_58, ↓mq_111_61, ↓mq_111_62, ↓mq_111_65, ↓mq_111_66, ↓mq_111_69, ↓mq_111_70, ↓mq_111_71, ↓mq_111_72, ↓mq_111_73, ↓mq_111_76, ↓mq_111_77, ↓mq_111_78, ↓mq_111_81, ↓mq_111_82, mf_le (show 0 < 4 by omega), mf_le (show 1 < 4 by omega), mf_le (show 2 < 4 by omega), mf_le (show 3 < 4 by omega), mt_le (show 4 ≤ 4 by omega), mt_eq (show 0 = 0 from rfl), mf_eq (show 1 ≠ 0 by omega), mf_eq (show 2 ≠ 0 by omega), mf_eq (show 3 ≠ 0 by omega), mf_eq (show 1 ≠ 3 by omega), mf_eq (show 2 ≠ 3 by omega), mt_eq (show 3 = 3 from rfl), Option.toList, List.cons_append, List.nil_append, mh_isC H.1, ↓mj_bs (a1), mf_m9 (d := k) (by omega), ↓mj_bs (mh_gf 12 A1.1 rfl), ↓mj_bs (mh_gf 9 A1.1 rfl), mn_mul, mn_add, ↓mj_bs (b1), mh_isC H1.1, ↓mj_bs (a2), mf_m9 (d := p) (by omega), ↓mj_bs (mh_gf 12 A2.1 rfl), ↓mj_bs (mh_gf 9 A2.1 rfl), mn_mul, mn_add, ↓mj_bs (b2), mh_isC H2.1, ↓mj_bs (a3), mf_m9 (d := s) (by omega), ↓mj_bs (mh_gf 12 A3.1 rfl), ↓mj_bs (mh_gf 9 A3.1 rfl), mn_mul, mn_add, ↓mj_bs (b3), mh_isC H3.1, ↓mj_bs (a4), mf_m9 (d := v) (by omega), ↓mj_bs (mh_gf 12 A4.1 rfl), ↓mj_bs (mh_gf 9 A4.1 rfl), mn_mul, mn_add, ↓mj_bs (b4), ↓mj_bs (mh_gf 13 o rfl), ↓mj_bs (mh_gf 9 o rfl), ↓mj_bs (b5), ↓mj_bs (mh_gf 9 o5 rfl), ↓mj_bs (b6), mj_z1]
            rfl
          · have hj' : j < 4 * (mr_n ρ + 1) := hj
            show (((((j < 4 * mr_n ρ) ∨ j = 4 * mr_n ρ + 0) ∨ j = 4 * mr_n ρ + 1) ∨ j = 4 * mr_n ρ + 2) ∨ j = 4 * mr_n ρ + 3) ∧ (if j % 4 = 0 then mh_u (mr_K ρ) (mr_n ρ) k (j / 4) else if j % 4 = 1 then mh_u (mr_P ρ) (mr_n ρ) p (j / 4) else if j % 4 = 2 then mh_u (mr_S ρ) (mr_n ρ) s (j / 4) else mh_u (mr_W ρ) (mr_n ρ) v (j / 4)) = mh_u (mh_u (mh_u (mh_u (mr_told ρ) (4 * mr_n ρ + 0) k) (4 * mr_n ρ + 1) p) (4 * mr_n ρ + 2) s) (4 * mr_n ρ + 3) v j
            refine ⟨by omega, ?_⟩
            by_cases z : j < 4 * mr_n ρ
            · have zd : j / 4 ≠ mr_n ρ := by omega
              rw [mh_u_ne zd, mh_u_ne zd, mh_u_ne zd, mh_u_ne zd, mh_u_ne (by omega), mh_u_ne (by omega), mh_u_ne (by omega), mh_u_ne (by omega)]
              rfl
            · rcases (show j = 4 * mr_n ρ + 0 ∨ j = 4 * mr_n ρ + 1 ∨ j = 4 * mr_n ρ + 2 ∨ j = 4 * mr_n ρ + 3 by omega) with z | z | z | z
              · rw [z, if_pos (by omega), show (4 * mr_n ρ + 0) / 4 = mr_n ρ by omega, mh_u_at, mh_u_ne (by omega), mh_u_ne (by omega), mh_u_ne (by omega), mh_u_at]
              · rw [z, if_neg (by omega), if_pos (by omega), show (4 * mr_n ρ + 1) / 4 = mr_n ρ by omega, mh_u_at, mh_u_ne (by omega), mh_u_ne (by omega), mh_u_at]
              · rw [z, if_neg (by omega), if_neg (by omega), if_pos (by omega), show (4 * mr_n ρ + 2) / 4 = mr_n ρ by omega, mh_u_at, mh_u_ne (by omega), mh_u_at]
              · rw [z, if_neg (by omega), if_neg (by omega), if_neg (by omega), show (4 * mr_n ρ + 3) / 4 = mr_n ρ by omega, mh_u_at, mh_u_at]

end
