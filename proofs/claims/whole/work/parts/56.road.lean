/-! COMMAND road -/
section
variable {S : mm_St} {h h' : mj_H}
theorem mo_63 (J : mh_J S h) : mh_op 63 115 [] h := by
  have JJ := J
  obtain ⟨w, C, R⟩ := J
  have C' := C
  obtain ⟨o1, ⟨pl, sp, Sc⟩, Ro, ⟨ρd, Rd⟩, -⟩ := C
  obtain ⟨h1, pl1, sp1, ρ1', e1, Sc1, Rd1, -, F1, -⟩ := mt_50 Sc Rd (by omega) (by omega)
  have C1 := C'.rd F1 Sc1 Rd1
  have F1' : mh_F (mh_A 1 64) h h1 := F1.mo (fun k z => by
    rcases z with z | z
    · subst z; exact ⟨by omega, by omega⟩
    · exact ⟨by have := z.1; omega, by have := z.2; omega⟩)
  obtain ⟨-, -, -, -, hb64, -⟩ := mt_106 w R
  cases hrd : (mm_read (ms_t S)).2 with
  | none =>
    have ef : mm_fault (ms_t S) = nI (mm_read (ms_t S)).1 := by simp only [mm_fault, hrd]
    refine mh_opI (v := .int (-3)) (S' := S) JJ (h1 := h1) w ?_ F1' C1 ?_
    · rw [ef] at e1
      rw [mc_63]
      simp only [↓reduceIte, ↓mq_63_0, ↓mq_63_1, ↓mq_63_4, ↓mq_63_5, ↓mq_63_8, ↓mq_63_11, ↓mq_63_13, ↓mq_63_16, ↓mq_63_18, ↓mq_63_19, ↓mq_63_20, ↓mq_63_23, ↓mq_63_24, ↓mq_63_27, ↓mq_63_30, ↓mq_63_31, ↓mq_63_32, ↓mq_63_35, ↓mq_63_38, ↓mq_63_39, ↓mq_63_42, ↓mq_63_45, ↓mq_63_46, ↓mq_63_47, ↓mq_63_48, ↓mq_63_49, ↓mq_63_52, ↓mq_63_53, ↓mq_63_56, ↓mq_63_57, ↓mq_63_58, ↓mq_63_59, ↓mq_63_62, ↓mq_63_65, ↓mq_63_66, ↓mq_63_69, ↓mq_63_72, ↓mj_bs (mh_gf 0 o1 rfl), ↓mj_bs (mh_gf 2 o1 rfl), mh_isC Sc.1, ↓mj_bs (e1), Option.toList, List.cons_append, List.nil_append, mf_m9 (d := (mm_read (ms_t S)).1) (by omega)]
    · intro R
      have hrb := R.rr.1
      obtain ⟨h2, e2, F2, R2, -⟩ := mt_106 w R
      rw [ef] at e2
      refine ⟨h2, ?_, R2, F2.mo (fun k z => by rcases z with z | z | z | z <;> omega)⟩
      rw [mc_115]
      simp only [↓reduceIte, ↓mq_115_0, ↓mq_115_1, ↓mq_115_2, ↓mq_115_5, ↓mq_115_6, ↓mq_115_9, ↓mq_115_11, ↓mq_115_14, ↓mq_115_16, ↓mq_115_17, ↓mq_115_18, ↓mq_115_19, ↓mq_115_22, ↓mq_115_25, ↓mq_115_26, ↓mq_115_27, ↓mq_115_30, ↓mq_115_33, ↓mq_115_34, ↓mq_115_35, ↓mq_115_36, ↓mq_115_37, ↓mq_115_38, ↓mq_115_41, ↓mq_115_42, ↓mq_115_45, ↓mq_115_46, ↓mq_115_49, ↓mq_115_50, ↓mq_115_51, ↓mq_115_54, ↓mq_115_55, ↓mq_115_56, ↓mq_115_57, ↓mq_115_60, ↓mq_115_63, ↓mq_115_64, ↓mq_115_65, ↓mq_115_66, ↓mq_115_67, ↓mq_115_70, ↓mq_115_73, ↓mq_115_74, ↓mq_115_77, ↓mq_115_78, ↓mq_115_79, ↓mq_115_82, ↓mq_115_83, ↓mq_115_84, ↓mq_115_85, ↓mq_115_88, ↓mq_115_91, ↓mq_115_92, ↓mq_115_93, ↓mq_115_94, ↓mq_115_95, ↓mq_115_96, ↓mq_115_99, ↓mq_115_100, ↓mq_115_103, ↓mq_115_104, ↓mq_115_107, ↓mq_115_108, ↓mq_115_109, ↓mq_115_112, ↓mq_115_113, ↓mq_115_114, ↓mq_115_115, ↓mq_115_118, ↓mq_115_121, ↓mq_115_122, ↓mq_115_123, ↓mq_115_124, ↓mq_115_126, ↓mq_115_129, ↓mq_115_130, ↓mq_115_133, ↓mq_115_134, ↓mq_115_135, ↓mq_115_136, ↓mq_115_139, ↓mq_115_142, ↓mq_115_143, ↓mq_115_146, ↓mq_115_147, ↓mq_115_148, ↓mq_115_151, ↓mq_115_152, ↓mq_115_153, ↓mq_115_154, ↓mq_115_157, ↓mq_115_158, ↓mq_115_161, ↓mq_115_162, ↓mq_115_163, ↓mq_115_164, ↓mq_115_165, ↓mq_115_168, ↓mq_115_169, ↓mq_115_170, ↓mq_115_171, ↓mq_115_172, ↓mq_115_175, ↓mj_bs (mr_th hrb), mr_is hrb, ↓mj_bs (e2), Option.toList, List.cons_append, List.nil_append, mf_m9 (d := (mm_read (ms_t S)).1) (by omega)]
  | some ρ =>
    have ef : mm_fault (ms_t S) = -9 := by simp only [mm_fault, hrd]
    rw [ef] at e1
    obtain ⟨o1k, ⟨pla, spa, Sca⟩, Roa, ⟨ρe, Rde⟩, M, ⟨μt, T⟩, Ac, SL, KP, Fe, ⟨fy, Y⟩, K0, K1⟩ := C1
    obtain ⟨h2, pl2, sp2, ρ2, e2, Sc2, Ro2, wρ2, F2, q2⟩ := mt_50 Sca Roa (by omega) (by omega)
    obtain rfl := q2 ρ hrd
    have no2 : ∀ k, k ≠ 2 → ¬ (4 ≤ k ∧ k ≤ 11) → ¬ mh_SR 2 4 k := fun k a b z => by
      rcases z with z | z
      · exact a z
      · exact b z
    have M2 := M.kp F2 (no2 _ (by omega) (by omega)) (no2 _ (by omega) (by omega))
    obtain ⟨h3, e3, M3, F3⟩ := mt_10 Ro2 M2 (by omega)
    have Ac3 := (Ac.kp F2 (fun k a b => no2 k (by omega) (by omega))).kp F3 (fun k a b => by omega)
    obtain ⟨h4, e4, L4, F4⟩ := mt_1 Ac3
    have KP4 := (F4.2 55 (by omega)).trans ((F3.2 55 (by omega)).trans ((F2.2 55 (no2 _ (by omega) (by omega))).trans KP))
    obtain ⟨h5, e5, KP5, F5⟩ := mj_bs2_pz (k' := mh_u (ms_k S) 0 none) KP4 (show 0 < 2 by omega) (b := false) (by rw [mh_u_at]; rfl) (fun i hi => by rw [mh_u_ne hi])
    obtain ⟨h6, e6, KP6', F6⟩ := mj_bs2_pz (k' := mh_u (mh_u (ms_k S) 0 none) 1 none) KP5 (show 1 < 2 by omega) (b := false) (by rw [mh_u_at]; rfl) (fun i hi => by rw [mh_u_ne hi])
    have KP6 : h6.1 55 = some (.inl (1, mj_bs2 (fun _ => none))) := KP6'
    have e5' : mj_pz h4 55 (nI 0) (nI 0) = some h5 := e5
    have e6' : mj_pz h5 55 (nI 1) (nI 0) = some h6 := e6
    have oA := (F2.2 1 (no2 _ (by omega) (by omega))).trans o1k
    have oB := (F3.2 1 (by omega)).trans oA
    have oC := (F4.2 1 (by omega)).trans oB
    have oD := (F5.2 1 (by omega)).trans oC
    have oE := (F6.2 1 (by omega)).trans oD
    have K26 : ∀ {k}, k ≠ 20 → k ≠ 24 → k ≠ 55 → h6.1 k = h2.1 k := fun a b c => (F6.2 _ c).trans ((F5.2 _ c).trans ((F4.2 _ b).trans (F3.2 _ a)))
    have F26 : mh_F (fun k => k = 20 ∨ k = 24 ∨ k = 55) h2 h6 := ((F3.mo (fun k z => Or.inl z)).tt (F4.mo (fun k z => Or.inr (Or.inl z)))).tt ((F5.mo (fun k z => Or.inr (Or.inr z))).tt (F6.mo (fun k z => Or.inr (Or.inr z))))
    have Ro6 := Ro2.kp F26 (fun k a b => by omega)
    have F16 : mh_F (fun k => mh_SR 2 4 k ∨ k = 20 ∨ k = 24 ∨ k = 55) h1 h6 := (F2.mo (fun k z => Or.inl z)).tt (F26.mo (fun k z => Or.inr z))
    have no : ∀ k, k ≠ 2 → ¬ (4 ≤ k ∧ k ≤ 11) → k ≠ 20 → k ≠ 24 → k ≠ 55 → ¬ (mh_SR 2 4 k ∨ k = 20 ∨ k = 24 ∨ k = 55) := fun k a b c d e z => by
      rcases z with z | z
      · exact no2 k a b z
      · omega
    have w0 : mw_M ρ2 (mr_D ρ2, 0, 0, 0, 0, ma_g (ms_m S)) := ⟨wρ2.2.2.1, Nat.two_pow_pos _, Nat.zero_le _, Nat.zero_le _, fun k _ z => by simp [ma_b_mk] at z⟩
    have e1d : mj_C 50 [.ref 2, .ref 12] h = some (some (.int (-9)), h1) := e1
    refine mh_opI (v := .int (nI (mr_n ρ2))) (S' := (ms_t S, ρ2, (mr_D ρ2, 0, 0, 0, 0, ma_g (ms_m S)), [], fun _ => none, ms_s S, ms_g S)) JJ (h1 := h6) ⟨w.1, w.2.1, wρ2, w0, fun μ z => (by cases z), by show 0 ≤ 14; omega, fun k μ z => (by cases z), w.2.2.2.2.2.2.2⟩ ?_ (F1'.tt (F16.mo (fun k z => by
      rcases z with (z | z) | z
      · exact ⟨by omega, by omega⟩
      · exact ⟨by have := z.1; omega, by have := z.2; omega⟩
      · exact ⟨by omega, by omega⟩))) ?_ ?_
    · rw [mc_63]
      simp only [↓reduceIte, ↓mq_63_0, ↓mq_63_1, ↓mq_63_4, ↓mq_63_5, ↓mq_63_8, ↓mq_63_11, ↓mq_63_13, ↓mq_63_16, ↓mq_63_18, ↓mq_63_19, ↓mq_63_20, ↓mq_63_23, ↓mq_63_24, ↓mq_63_27, ↓mq_63_30, ↓mq_63_31, ↓mq_63_32, ↓mq_63_35, ↓mq_63_38, ↓mq_63_39, ↓mq_63_42, ↓mq_63_45, ↓mq_63_46, ↓mq_63_47, ↓mq_63_48, ↓mq_63_49, ↓mq_63_52, ↓mq_63_53, ↓mq_63_56, ↓mq_63_57, ↓mq_63_58, ↓mq_63_59, ↓mq_63_62, ↓mq_63_65, ↓mq_63_66, ↓mq_63_69, ↓mq_63_72, ↓mj_bs (mh_gf 0 o1 rfl), ↓mj_bs (mh_gf 2 o1 rfl), mh_isC Sc.1, ↓mj_bs (e1d), Option.toList, List.cons_append, List.nil_append, ↓mj_bs (mh_gf 0 o1k rfl), ↓mj_bs (mh_gf 1 o1k rfl), mh_isC Sca.1, ↓mj_bs (e2), ↓mj_bs (mh_gf 3 oA rfl), mh_isC M2.1, ↓mj_bs (e3), ↓mj_bs (mh_gf 5 oB rfl), mh_isC Ac3.choose_spec.2.2.1, ↓mj_bs (e4), mf_le (show 0 < 2 by omega), ↓mj_bs (mh_gf 7 oC rfl), ↓mj_bs (e5'), mn_add, mf_le (show 0 + 1 < 2 by omega), ↓mj_bs (mh_gf 7 oD rfl), ↓mj_bs (e6'), mt_le (show 2 ≤ 0 + 1 + 1 by omega), ↓mj_bs (mh_gf 1 oE rfl), ↓mj_bs (mh_gf 1 Ro6.1 rfl)]
    · exact ⟨oE, ⟨pl2, sp2, Sc2.kp F26 (by omega) (by omega)⟩, Ro6, ⟨ρe, Rde.kp F16 (fun k a b => no k (by omega) (by omega) (by omega) (by omega) (by omega))⟩, (M3.kp F4 (by omega) (by omega)).kp (F5.tt F6) (by omega) (by omega), ⟨μt, T.kp F16 (no _ (by omega) (by omega) (by omega) (by omega) (by omega)) (no _ (by omega) (by omega) (by omega) (by omega) (by omega))⟩, L4.kp (F5.tt F6) (fun k a b => by omega), (F16.2 54 (no _ (by omega) (by omega) (by omega) (by omega) (by omega))).trans SL, KP6, Fe.kp F16 (no _ (by omega) (by omega) (by omega) (by omega) (by omega)) (no _ (by omega) (by omega) (by omega) (by omega) (by omega)) (no _ (by omega) (by omega) (by omega) (by omega) (by omega)), ⟨fy, Y.kp F16 (no _ (by omega) (by omega) (by omega) (by omega) (by omega)) (no _ (by omega) (by omega) (by omega) (by omega) (by omega))⟩, (by obtain ⟨ξ, N, -⟩ := K0; exact ⟨ξ, N.kp F16 (no _ (by omega) (by omega) (by omega) (by omega) (by omega)) (no _ (by omega) (by omega) (by omega) (by omega) (by omega)), fun ν z => by cases z⟩), (by obtain ⟨ξ, N, -⟩ := K1; exact ⟨ξ, N.kp F16 (no _ (by omega) (by omega) (by omega) (by omega) (by omega)) (no _ (by omega) (by omega) (by omega) (by omega) (by omega)), fun ν z => by cases z⟩)⟩
    · intro R
      have hrb := R.rr.1
      obtain ⟨g1, f1, D1, R1, -, q1⟩ := mt_106 w R
      rw [ef] at f1
      obtain ⟨plr, ⟨o, u6, u7, u71, u72⟩, -⟩ := q1 ρ2 hrd
      obtain ⟨-, -, ⟨⟨ft, r3, -⟩, ⟨fe, r4, -⟩, ⟨fw, r5, -⟩⟩, -, ⟨fp, r9, -⟩, r10, ⟨fb, B1, -⟩, ⟨fk, K1, -⟩, r13, r14, r15, r16, r17⟩ := R1
      have isg1 := mh_isC o
      obtain ⟨g2, hg2⟩ : ∃ z, z = mj_up g1 65 (.inr (7, mr_fs (nI (ms_t S).length) (nI plr) (nI (mr_n ρ2)) (nI (mr_g (ms_r S))) (nI (mr_n ρ2)) (nI (mr_g ρ2)) (nI (mr_D ρ2)) (nI (ms_a S).length) (nI (ms_s S).length) (ms_g S))) := ⟨_, rfl⟩
      have b2 : mj_pf g1 65 7 4 (.int (nI (mr_n ρ2))) = some g2 := by rw [hg2]; exact mh_pf 4 o (by simp) rfl
      have o2 := mh_ue hg2
      have D2 : mh_F (fun k => k = 65) g1 g2 := by rw [hg2]; exact mh_uF
      obtain ⟨g3, hg3⟩ : ∃ z, z = mj_up g2 65 (.inr (7, mr_fs (nI (ms_t S).length) (nI plr) (nI (mr_n ρ2)) (nI (mr_g ρ2)) (nI (mr_n ρ2)) (nI (mr_g ρ2)) (nI (mr_D ρ2)) (nI (ms_a S).length) (nI (ms_s S).length) (ms_g S))) := ⟨_, rfl⟩
      have b3 : mj_pf g2 65 7 5 (.int (nI (mr_g ρ2))) = some g3 := by rw [hg3]; exact mh_pf 5 o2 (by simp) rfl
      have o3 := mh_ue hg3
      have D3 : mh_F (fun k => k = 65) g1 g3 := D2.tt (by rw [hg3]; exact mh_uF)
      obtain ⟨g4, a4, T4, D4⟩ := mt_115a wρ2 (u7.kp D3 (by omega)) o3 ⟨ft, r3.kp D3 (by omega)⟩
      have o4 := (D4.2 65 (by omega)).trans o3
      obtain ⟨g5, a5, T5, D5⟩ := mt_115b wρ2 ((u71.kp D3 (by omega)).kp D4 (by omega)) o4 ⟨fe, (r4.kp D3 (by omega)).kp D4 (by omega)⟩
      have o5 := (D5.2 65 (by omega)).trans o4
      obtain ⟨g6, a6, T6, D6⟩ := mt_115c wρ2 (((u72.kp D3 (by omega)).kp D4 (by omega)).kp D5 (by omega)) o5 ⟨fw, ((r5.kp D3 (by omega)).kp D4 (by omega)).kp D5 (by omega)⟩
      have o6 := (D6.2 65 (by omega)).trans o5
      obtain ⟨g7, a7, T7, D7⟩ := mt_115d o6 ⟨fp, (((r9.kp D3 (by omega)).kp D4 (by omega)).kp D5 (by omega)).kp D6 (by omega)⟩
      have o7 := (D7.2 65 (by omega)).trans o6
      obtain ⟨g8, b8, T8, D8⟩ := T7.pt (P' := mm_pgP (mr_D ρ2, 0, 0, 0, 0, ma_g (ms_m S))) (X' := mm_pgX (mr_D ρ2, 0, 0, 0, 0, ma_g (ms_m S))) (show 0 < 11 by omega) (mr_D ρ2) (fun j hj11 hj => by
        by_cases z : j = 0
        · subst z; exact Or.inl ⟨rfl, rfl⟩
        · refine Or.inr ⟨z, hj11, ?_⟩
          have hj5 : j < 5 := by
            rcases hj with q | q
            · exact q
            · simp [ma_b_mk] at q
          rcases (show j = 1 ∨ j = 2 ∨ j = 3 ∨ j = 4 by omega) with q | q | q | q <;> subst q <;> rfl)
      have o8 := (D8.2 65 (by omega)).trans o7
      obtain ⟨g9, hg9⟩ : ∃ z, z = mj_up g8 65 (.inr (7, mr_fs (nI (ms_t S).length) (nI plr) (nI (mr_n ρ2)) (nI (mr_g ρ2)) (nI (mr_n ρ2)) (nI (mr_g ρ2)) (nI (mr_D ρ2)) (nI 0) (nI (ms_s S).length) (ms_g S))) := ⟨_, rfl⟩
      have b9 : mj_pf g8 65 7 18 (.int (nI 0)) = some g9 := by rw [hg9]; exact mh_pf 18 o8 (by simp) rfl
      have o9 := mh_ue hg9
      have D9 : mh_F (fun k => k = 65) g8 g9 := by rw [hg9]; exact mh_uF
      have E19 : mh_F (fun k => k = 65 ∨ k = 67 ∨ k = 68 ∨ k = 69 ∨ k = 73) g1 g9 := ((((((D3.mo (fun k z => Or.inl z)).tt (D4.mo (fun k z => Or.inr (Or.inl z)))).tt (D5.mo (fun k z => Or.inr (Or.inr (Or.inl z))))).tt (D6.mo (fun k z => Or.inr (Or.inr (Or.inr (Or.inl z)))))).tt (D7.mo (fun k z => Or.inr (Or.inr (Or.inr (Or.inr z)))))).tt (D8.mo (fun k z => Or.inr (Or.inr (Or.inr (Or.inr z)))))).tt (D9.mo (fun k z => Or.inl z))
      have r13' := (E19.2 77 (by omega)).trans r13
      obtain ⟨g10, b10, Q10, D10⟩ := mj_bs2_pz (k' := mh_u (ms_k S) 0 none) r13' (show 0 < 2 by omega) (b := false) (by rw [mh_u_at]; rfl) (fun i hi => by rw [mh_u_ne hi])
      obtain ⟨g11, b11, Q11, D11⟩ := mj_bs2_pz (k' := mh_u (mh_u (ms_k S) 0 none) 1 none) Q10 (show 1 < 2 by omega) (b := false) (by rw [mh_u_at]; rfl) (fun i hi => by rw [mh_u_ne hi])
      have Q : g11.1 77 = some (.inl (1, mj_bs2 (fun _ => none))) := Q11
      have b10' : mj_pz g9 77 (nI 0) (nI 0) = some g10 := b10
      have b11' : mj_pz g10 77 (nI 1) (nI 0) = some g11 := b11
      have DD : mh_F (fun k => k = 77) g9 g11 := D10.tt D11
      have o10 := (D10.2 65 (by omega)).trans o9
      have o11 := (D11.2 65 (by omega)).trans o10
      have E : mh_F (fun k => k = 65 ∨ k = 67 ∨ k = 68 ∨ k = 69 ∨ k = 73 ∨ k = 77) g1 g11 := (E19.mo (fun k z => by omega)).tt (DD.mo (fun k z => by omega))
      have any : ∀ {x n P X}, mh_ap g1 x n P X → ¬ (x = 65 ∨ x = 67 ∨ x = 68 ∨ x = 69 ∨ x = 73 ∨ x = 77) → mh_any g11 x n := fun z hx => by obtain ⟨f, z, -⟩ := z; exact ⟨f, z.kp E hx⟩
      refine ⟨g11, ?_, ⟨⟨_, _, _, _, o11⟩, u6.kp E (by omega), ⟨(((((T4.kp D5 (by omega)).kp D6 (by omega)).kp D7 (by omega)).kp D8 (by omega)).kp D9 (by omega)).kp DD (by omega), ((((T5.kp D6 (by omega)).kp D7 (by omega)).kp D8 (by omega)).kp D9 (by omega)).kp DD (by omega), (((T6.kp D7 (by omega)).kp D8 (by omega)).kp D9 (by omega)).kp DD (by omega)⟩, ⟨any u7 (by omega), any u71 (by omega), any u72 (by omega)⟩, (T8.kp D9 (by omega)).kp DD (by omega), r10.kp E (by omega), ⟨fb, B1.kp E (by omega), fun k μ z => by simp [ms_a] at z⟩, ⟨fk, K1.kp E (by omega), fun k μ _ z => by cases z⟩, Q, r14.kp E (by omega) (by omega), r15.kp E (by omega), r16.kp E (by omega), r17.kp E (by omega)⟩, (D1.mo (fun k z => by rcases z with z | z | z | z <;> omega)).tt (E.mo (fun k z => by omega))⟩
      rw [mc_115]
      simp only [↓reduceIte, ↓mq_115_0, ↓mq_115_1, ↓mq_115_2, ↓mq_115_5, ↓mq_115_6, ↓mq_115_9, ↓mq_115_11, ↓mq_115_14, ↓mq_115_16, ↓mq_115_17, ↓mq_115_18, ↓mq_115_19, ↓mq_115_22, ↓mq_115_25, ↓mq_115_26, ↓mq_115_27, ↓mq_115_30, ↓mq_115_33, ↓mq_115_34, ↓mq_115_36, ↓mq_115_37, ↓mq_115_38, ↓mq_115_41, ↓mq_115_42, ↓mq_115_45, ↓mq_115_46, ↓mq_115_49, ↓mq_115_50, ↓mq_115_51, ↓mq_115_54, ↓mq_115_55, ↓mq_115_56, ↓mq_115_57, ↓mq_115_60, ↓mq_115_63, ↓mq_115_64, ↓mq_115_66, ↓mq_115_67, ↓mq_115_70, ↓mq_115_73, ↓mq_115_74, ↓mq_115_77, ↓mq_115_78, ↓mq_115_79, ↓mq_115_82, ↓mq_115_83, ↓mq_115_84, ↓mq_115_85, ↓mq_115_88, ↓mq_115_91, ↓mq_115_92, ↓mq_115_94, ↓mq_115_95, ↓mq_115_96, ↓mq_115_99, ↓mq_115_100, ↓mq_115_103, ↓mq_115_104, ↓mq_115_107, ↓mq_115_108, ↓mq_115_109, ↓mq_115_112, ↓mq_115_113, ↓mq_115_114, ↓mq_115_115, ↓mq_115_118, ↓mq_115_121, ↓mq_115_122, ↓mq_115_124, ↓mq_115_126, ↓mq_115_129, ↓mq_115_130, ↓mq_115_133, ↓mq_115_134, ↓mq_115_135, ↓mq_115_136, ↓mq_115_139, ↓mq_115_142, ↓mq_115_143, ↓mq_115_146, ↓mq_115_147, ↓mq_115_148, ↓mq_115_151, ↓mq_115_152, ↓mq_115_153, ↓mq_115_154, ↓mq_115_157, ↓mq_115_158, ↓mq_115_161, ↓mq_115_162, ↓mq_115_163, ↓mq_115_164, ↓mq_115_165, ↓mq_115_168, ↓mq_115_169, ↓mq_115_170, ↓mq_115_171, ↓mq_115_172, ↓mq_115_175, ↓mj_bs (mr_th hrb), mr_is hrb, ↓mj_bs (f1), Option.toList, List.cons_append, List.nil_append, ↓mj_bs (mh_gf 9 o rfl), ↓mj_bs (b2), ↓mj_bs (mh_gf 10 o2 rfl), ↓mj_bs (b3)]
      rw [a4]
      simp only [↓reduceIte, ↓mq_115_0, ↓mq_115_1, ↓mq_115_2, ↓mq_115_5, ↓mq_115_6, ↓mq_115_9, ↓mq_115_11, ↓mq_115_14, ↓mq_115_16, ↓mq_115_17, ↓mq_115_18, ↓mq_115_19, ↓mq_115_22, ↓mq_115_25, ↓mq_115_26, ↓mq_115_27, ↓mq_115_30, ↓mq_115_33, ↓mq_115_34, ↓mq_115_36, ↓mq_115_37, ↓mq_115_38, ↓mq_115_41, ↓mq_115_42, ↓mq_115_45, ↓mq_115_46, ↓mq_115_49, ↓mq_115_50, ↓mq_115_51, ↓mq_115_54, ↓mq_115_55, ↓mq_115_56, ↓mq_115_57, ↓mq_115_60, ↓mq_115_63, ↓mq_115_64, ↓mq_115_66, ↓mq_115_67, ↓mq_115_70, ↓mq_115_73, ↓mq_115_74, ↓mq_115_77, ↓mq_115_78, ↓mq_115_79, ↓mq_115_82, ↓mq_115_83, ↓mq_115_84, ↓mq_115_85, ↓mq_115_88, ↓mq_115_91, ↓mq_115_92, ↓mq_115_94, ↓mq_115_95, ↓mq_115_96, ↓mq_115_99, ↓mq_115_100, ↓mq_115_103, ↓mq_115_104, ↓mq_115_107, ↓mq_115_108, ↓mq_115_109, ↓mq_115_112, ↓mq_115_113, ↓mq_115_114, ↓mq_115_115, ↓mq_115_118, ↓mq_115_121, ↓mq_115_122, ↓mq_115_124, ↓mq_115_126, ↓mq_115_129, ↓mq_115_130, ↓mq_115_133, ↓mq_115_134, ↓mq_115_135, ↓mq_115_136, ↓mq_115_139, ↓mq_115_142, ↓mq_115_143, ↓mq_115_146, ↓mq_115_147, ↓mq_115_148, ↓mq_115_151, ↓mq_115_152, ↓mq_115_153, ↓mq_115_154, ↓mq_115_157, ↓mq_115_158, ↓mq_115_161, ↓mq_115_162, ↓mq_115_163, ↓mq_115_164, ↓mq_115_165, ↓mq_115_168, ↓mq_115_169, ↓mq_115_170, ↓mq_115_171, ↓mq_115_172, ↓mq_115_175]
      rw [a5]
      simp only [↓reduceIte, ↓mq_115_0, ↓mq_115_1, ↓mq_115_2, ↓mq_115_5, ↓mq_115_6, ↓mq_115_9, ↓mq_115_11, ↓mq_115_14, ↓mq_115_16, ↓mq_115_17, ↓mq_115_18, ↓mq_115_19, ↓mq_115_22, ↓mq_115_25, ↓mq_115_26, ↓mq_115_27, ↓mq_115_30, ↓mq_115_33, ↓mq_115_34, ↓mq_115_36, ↓mq_115_37, ↓mq_115_38, ↓mq_115_41, ↓mq_115_42, ↓mq_115_45, ↓mq_115_46, ↓mq_115_49, ↓mq_115_50, ↓mq_115_51, ↓mq_115_54, ↓mq_115_55, ↓mq_115_56, ↓mq_115_57, ↓mq_115_60, ↓mq_115_63, ↓mq_115_64, ↓mq_115_66, ↓mq_115_67, ↓mq_115_70, ↓mq_115_73, ↓mq_115_74, ↓mq_115_77, ↓mq_115_78, ↓mq_115_79, ↓mq_115_82, ↓mq_115_83, ↓mq_115_84, ↓mq_115_85, ↓mq_115_88, ↓mq_115_91, ↓mq_115_92, ↓mq_115_94, ↓mq_115_95, ↓mq_115_96, ↓mq_115_99, ↓mq_115_100, ↓mq_115_103, ↓mq_115_104, ↓mq_115_107, ↓mq_115_108, ↓mq_115_109, ↓mq_115_112, ↓mq_115_113, ↓mq_115_114, ↓mq_115_115, ↓mq_115_118, ↓mq_115_121, ↓mq_115_122, ↓mq_115_124, ↓mq_115_126, ↓mq_115_129, ↓mq_115_130, ↓mq_115_133, ↓mq_115_134, ↓mq_115_135, ↓mq_115_136, ↓mq_115_139, ↓mq_115_142, ↓mq_115_143, ↓mq_115_146, ↓mq_115_147, ↓mq_115_148, ↓mq_115_151, ↓mq_115_152, ↓mq_115_153, ↓mq_115_154, ↓mq_115_157, ↓mq_115_158, ↓mq_115_161, ↓mq_115_162, ↓mq_115_163, ↓mq_115_164, ↓mq_115_165, ↓mq_115_168, ↓mq_115_169, ↓mq_115_170, ↓mq_115_171, ↓mq_115_172, ↓mq_115_175]
      rw [a6]
      simp only [↓reduceIte, ↓mq_115_0, ↓mq_115_1, ↓mq_115_2, ↓mq_115_5, ↓mq_115_6, ↓mq_115_9, ↓mq_115_11, ↓mq_115_14, ↓mq_115_16, ↓mq_115_17, ↓mq_115_18, ↓mq_115_19, ↓mq_115_22, ↓mq_115_25, ↓mq_115_26, ↓mq_115_27, ↓mq_115_30, ↓mq_115_33, ↓mq_115_34, ↓mq_115_36, ↓mq_115_37, ↓mq_115_38, ↓mq_115_41, ↓mq_115_42, ↓mq_115_45, ↓mq_115_46, ↓mq_115_49, ↓mq_115_50, ↓mq_115_51, ↓mq_115_54, ↓mq_115_55, ↓mq_115_56, ↓mq_115_57, ↓mq_115_60, ↓mq_115_63, ↓mq_115_64, ↓mq_115_66, ↓mq_115_67, ↓mq_115_70, ↓mq_115_73, ↓mq_115_74, ↓mq_115_77, ↓mq_115_78, ↓mq_115_79, ↓mq_115_82, ↓mq_115_83, ↓mq_115_84, ↓mq_115_85, ↓mq_115_88, ↓mq_115_91, ↓mq_115_92, ↓mq_115_94, ↓mq_115_95, ↓mq_115_96, ↓mq_115_99, ↓mq_115_100, ↓mq_115_103, ↓mq_115_104, ↓mq_115_107, ↓mq_115_108, ↓mq_115_109, ↓mq_115_112, ↓mq_115_113, ↓mq_115_114, ↓mq_115_115, ↓mq_115_118, ↓mq_115_121, ↓mq_115_122, ↓mq_115_124, ↓mq_115_126, ↓mq_115_129, ↓mq_115_130, ↓mq_115_133, ↓mq_115_134, ↓mq_115_135, ↓mq_115_136, ↓mq_115_139, ↓mq_115_142, ↓mq_115_143, ↓mq_115_146, ↓mq_115_147, ↓mq_115_148, ↓mq_115_151, ↓mq_115_152, ↓mq_115_153, ↓mq_115_154, ↓mq_115_157, ↓mq_115_158, ↓mq_115_161, ↓mq_115_162, ↓mq_115_163, ↓mq_115_164, ↓mq_115_165, ↓mq_115_168, ↓mq_115_169, ↓mq_115_170, ↓mq_115_171, ↓mq_115_172, ↓mq_115_175]
      rw [a7]
      simp only [↓reduceIte, ↓mq_115_0, ↓mq_115_1, ↓mq_115_2, ↓mq_115_5, ↓mq_115_6, ↓mq_115_9, ↓mq_115_11, ↓mq_115_14, ↓mq_115_16, ↓mq_115_17, ↓mq_115_18, ↓mq_115_19, ↓mq_115_22, ↓mq_115_25, ↓mq_115_26, ↓mq_115_27, ↓mq_115_30, ↓mq_115_33, ↓mq_115_34, ↓mq_115_36, ↓mq_115_37, ↓mq_115_38, ↓mq_115_41, ↓mq_115_42, ↓mq_115_45, ↓mq_115_46, ↓mq_115_49, ↓mq_115_50, ↓mq_115_51, ↓mq_115_54, ↓mq_115_55, ↓mq_115_56, ↓mq_115_57, ↓mq_115_60, ↓mq_115_63, ↓mq_115_64, ↓mq_115_66, ↓mq_115_67, ↓mq_115_70, ↓mq_115_73, ↓mq_115_74, ↓mq_115_77, ↓mq_115_78, ↓mq_115_79, ↓mq_115_82, ↓mq_115_83, ↓mq_115_84, ↓mq_115_85, ↓mq_115_88, ↓mq_115_91, ↓mq_115_92, ↓mq_115_94, ↓mq_115_95, ↓mq_115_96, ↓mq_115_99, ↓mq_115_100, ↓mq_115_103, ↓mq_115_104, ↓mq_115_107, ↓mq_115_108, ↓mq_115_109, ↓mq_115_112, ↓mq_115_113, ↓mq_115_114, ↓mq_115_115, ↓mq_115_118, ↓mq_115_121, ↓mq_115_122, ↓mq_115_124, ↓mq_115_126, ↓mq_115_129, ↓mq_115_130, ↓mq_115_133, ↓mq_115_134, ↓mq_115_135, ↓mq_115_136, ↓mq_115_139, ↓mq_115_142, ↓mq_115_143, ↓mq_115_146, ↓mq_115_147, ↓mq_115_148, ↓mq_115_151, ↓mq_115_152, ↓mq_115_153, ↓mq_115_154, ↓mq_115_157, ↓mq_115_158, ↓mq_115_161, ↓mq_115_162, ↓mq_115_163, ↓mq_115_164, ↓mq_115_165, ↓mq_115_168, ↓mq_115_169, ↓mq_115_170, ↓mq_115_171, ↓mq_115_172, ↓mq_115_175, ↓mj_bs (mh_gf 15 o7 rfl), ↓mj_bs (mh_gf 11 o7 rfl), ↓mj_bs (b8), ↓mj_bs (b9), ↓mj_bs (mh_gf 20 o9 rfl), ↓mj_bs (b10'), ↓mj_bs (mh_gf 20 o10 rfl), ↓mj_bs (b11'), ↓mj_bs (mh_gf 4 o11 rfl)]
end
