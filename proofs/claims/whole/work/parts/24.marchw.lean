/-! THE CLASS'S MARCH: what changes it -/
theorem ma_p_mk (p b d n o : Nat) (g : Nat → Nat) : ma_p (p, b, d, n, o, g) = p := rfl
theorem ma_b_mk (p b d n o : Nat) (g : Nat → Nat) : ma_b (p, b, d, n, o, g) = b := rfl
theorem ma_d_mk (p b d n o : Nat) (g : Nat → Nat) : ma_d (p, b, d, n, o, g) = d := rfl
theorem ma_n_mk (p b d n o : Nat) (g : Nat → Nat) : ma_n (p, b, d, n, o, g) = n := rfl
theorem ma_o_mk (p b d n o : Nat) (g : Nat → Nat) : ma_o (p, b, d, n, o, g) = o := rfl
theorem ma_g_mk (p b d n o : Nat) (g : Nat → Nat) : ma_g (p, b, d, n, o, g) = g := rfl
section
variable {h : mj_H} {m r : Nat} {ρ : mm_Ro} {μ : mm_Ma} {v0 v1 v2 v3 v4 : Int32} {q : Nat}
theorem mt_23 (M : mh_Ma h m r μ) : ∃ h', mj_C 23 [.ref m] h = some (some (.int (nI (ma_o μ))), h') ∧ mh_Ma h' m r (mm_unl μ) ∧ mh_F (fun k => k = m) h h' := by
  obtain ⟨h1, e1, M1, F1⟩ := mo_5 M.1 (nI (ma_o μ + 1))
  refine ⟨h1, ?_, ⟨M1, M.2.kp F1 (by omega)⟩, F1⟩
  rw [mc_23]
  simp only [↓reduceIte, ↓mq_23_0, ↓mq_23_1, ↓mq_23_4, ↓mq_23_5, ↓mq_23_6, ↓mq_23_7, ↓mq_23_10, ↓mq_23_11, ↓mq_23_12, ↓mq_23_15, ↓mq_23_16, ↓mj_bs (mh_gf 5 M.1 rfl), mn_add, ↓mj_bs (e1)]
theorem mt_20 (w : mw_R ρ) (wm : mw_M ρ μ) (H : mh_Ro h r ρ) (M : mh_Ma h m r μ) (hc : ma_n μ < mr_n ρ) : ∃ h', mj_C 20 [.ref m] h = some (none, h') ∧ mh_Ma h' m r (mm_skip μ) ∧ mh_F (fun k => k = m) h h' := by
  obtain ⟨h1, e1, M1, F1⟩ := mo_4 M.1 (nI (ma_n μ + 1))
  refine ⟨h1, ?_, ⟨M1, M.2.kp F1 (by omega)⟩, F1⟩
  rw [mc_20]
  simp only [↓reduceIte, ↓mq_20_0, ↓mq_20_1, ↓mq_20_4, ↓mq_20_7, ↓mq_20_8, ↓mq_20_9, ↓mq_20_12, ↓mq_20_13, ↓mq_20_14, ↓mq_20_17, mh_isC M.1, ↓mj_bs (mt_12 w wm H M), Option.toList, List.cons_append, List.nil_append, mj_b0, mm_has, hc, decide_true, Bool.true_eq_false, ↓mj_bs (mh_gf 4 M.1 rfl), mn_add, ↓mj_bs (e1)]
theorem mt_10 (H : mh_Ro h r ρ) (M : mh_Ma h m r μ) (hd : r ≠ m) : ∃ h', mj_C 10 [.ref m] h = some (none, h') ∧ mh_Ma h' m r (mr_D ρ, 0, 0, 0, 0, ma_g μ) ∧ mh_F (fun k => k = m) h h' := by
  obtain ⟨h1, e1, M1, F1⟩ := mo_1 M.1 (nI (mr_D ρ))
  obtain ⟨h2, e2, M2, F2⟩ := mo_2 M1 (nI 0)
  obtain ⟨h3, e3, M3, F3⟩ := mo_3 M2 (nI 0)
  obtain ⟨h4, e4, M4, F4⟩ := mo_4 M3 (nI 0)
  obtain ⟨h5, e5, M5, F5⟩ := mo_5 M4 (nI 0)
  have F := ((((F1.tt F2).tt F3).tt F4).tt F5)
  refine ⟨h5, ?_, ⟨M5, (M.2.kp F (by omega)).mo (fun j _ hj => by simp [ma_b_mk] at hj)⟩, F⟩
  rw [mc_10]
  simp only [↓reduceIte, ↓mq_10_0, ↓mq_10_1, ↓mq_10_2, ↓mq_10_5, ↓mq_10_8, ↓mq_10_11, ↓mq_10_12, ↓mq_10_13, ↓mq_10_16, ↓mq_10_17, ↓mq_10_18, ↓mq_10_21, ↓mq_10_22, ↓mq_10_23, ↓mq_10_26, ↓mq_10_27, ↓mq_10_28, ↓mq_10_31, ↓mj_bs (mh_gf 0 M.1 rfl), ↓mj_bs (mh_gf 0 H.1 rfl), ↓mj_bs (e1), ↓mj_bs (e2), ↓mj_bs (e3), ↓mj_bs (e4), ↓mj_bs (e5)]
theorem mt_17 {o : Nat} {ν : mm_Ma} (M : mh_Ma h m r μ) (N : mh_Ma h o r ν) (h0 : o ≠ m) (h1 : o + 1 ≠ m) (h2 : o ≠ m + 1) : ∃ h', mj_C 17 [.ref m, .ref o] h = some (none, h') ∧ mh_Ma h' m r ν ∧ mh_F (mh_A m (m + 1)) h h' := by
  obtain ⟨h1', e1, M1, F1⟩ := mo_1 M.1 (nI (ma_p ν))
  have N1 := N.kp F1 h0 h1
  obtain ⟨h2', e2, M2, F2⟩ := mo_2 M1 (nI (ma_b ν))
  have N2 := N1.kp F2 h0 h1
  obtain ⟨h3', e3, M3, F3⟩ := mo_3 M2 (nI (ma_d ν))
  have N3 := N2.kp F3 h0 h1
  obtain ⟨h4', e4, M4, F4⟩ := mo_4 M3 (nI (ma_n ν))
  have N4 := N3.kp F4 h0 h1
  obtain ⟨h5', e5, M5, F5⟩ := mo_5 M4 (nI (ma_o ν))
  have N5 := N4.kp F5 h0 h1
  have F := ((((F1.tt F2).tt F3).tt F4).tt F5)
  have F' : mh_F (mh_A m (m + 1)) h h5' := F.mo (fun k hk => by subst hk; exact ⟨by omega, by omega⟩)
  obtain ⟨fm, hfm, -⟩ := M.2
  have hfm5 := hfm.kp F (by omega)
  have N5' := N5
  obtain ⟨fo, hfo, hfo2⟩ := N5'.2
  have loop : ∀ d k hk fk, k + d = 6 → mh_ar hk (m + 1) 6 fk → (∀ j, j < k → fk j = fo j) → mh_F (fun x => x = m + 1) h5' hk → ∃ h', mj_R 17 (42, [.ref m, .ref o, .int (nI k)], [], hk) = some (none, h') ∧ mh_ar h' (m + 1) 6 fo ∧ mh_F (fun x => x = m + 1) h5' h' := by
    intro d
    induction d with
    | zero =>
      intro k hk fk hkd ha hf hF
      obtain rfl : k = 6 := by omega
      refine ⟨hk, ?_, ha.cg hf, hF⟩
      simp only [↓reduceIte, ↓mq_17_0, ↓mq_17_1, ↓mq_17_2, ↓mq_17_5, ↓mq_17_8, ↓mq_17_9, ↓mq_17_10, ↓mq_17_13, ↓mq_17_16, ↓mq_17_17, ↓mq_17_18, ↓mq_17_21, ↓mq_17_24, ↓mq_17_25, ↓mq_17_26, ↓mq_17_29, ↓mq_17_32, ↓mq_17_33, ↓mq_17_34, ↓mq_17_37, ↓mq_17_40, ↓mq_17_41, ↓mq_17_42, ↓mq_17_43, ↓mq_17_45, ↓mq_17_48, ↓mq_17_49, ↓mq_17_52, ↓mq_17_53, ↓mq_17_54, ↓mq_17_57, ↓mq_17_58, ↓mq_17_59, ↓mq_17_60, ↓mq_17_63, ↓mq_17_66, mt_le (Nat.le_refl 6)]
    | succ d ih =>
      intro k hk fk hkd ha hf hF
      have hMk := (hF.2 m (by omega)).trans M5
      have hok := (hF.2 o (by omega)).trans N5.1
      have hfk := hfo.kp hF (by omega)
      obtain ⟨h6, e6, a6, F6⟩ := ha.pt (show k < 6 by omega) (by omega) (fo k)
      obtain ⟨h', r1, r2, r3⟩ := ih (k + 1) h6 _ (by omega) a6 (fun j hj => by
        by_cases e : j = k
        · subst e; exact mh_u_at
        · rw [mh_u_ne e]; exact hf j (by omega)) (hF.tt F6)
      refine ⟨h', ?_, r2, r3⟩
      rw [mq_17_42]
      simp only [↓reduceIte, ↓mq_17_0, ↓mq_17_1, ↓mq_17_2, ↓mq_17_5, ↓mq_17_8, ↓mq_17_9, ↓mq_17_10, ↓mq_17_13, ↓mq_17_16, ↓mq_17_17, ↓mq_17_18, ↓mq_17_21, ↓mq_17_24, ↓mq_17_25, ↓mq_17_26, ↓mq_17_29, ↓mq_17_32, ↓mq_17_33, ↓mq_17_34, ↓mq_17_37, ↓mq_17_40, ↓mq_17_41, ↓mq_17_43, ↓mq_17_45, ↓mq_17_48, ↓mq_17_49, ↓mq_17_52, ↓mq_17_53, ↓mq_17_54, ↓mq_17_57, ↓mq_17_58, ↓mq_17_59, ↓mq_17_60, ↓mq_17_63, ↓mq_17_66, mf_le (show k < 6 by omega), ↓mj_bs (mh_gf 6 hMk rfl), ↓mj_bs (mh_gf 6 hok rfl), ↓mj_bs (hfk.gt (show k < 6 by omega) (by omega)), ↓mj_bs (e6), mn_add]
      exact r1
  obtain ⟨h', r1, r2, r3⟩ := loop 6 0 h5' fm (by omega) hfm5 (fun j hj => by omega) mh_F.rf
  refine ⟨h', ?_, ⟨(r3.2 m (by omega)).trans M5, mh_ap.of r2 hfo2⟩, F'.tt (r3.mo (fun k hk => by subst hk; exact ⟨by omega, by omega⟩))⟩
  rw [mc_17]
  simp only [↓reduceIte, ↓mq_17_0, ↓mq_17_1, ↓mq_17_2, ↓mq_17_5, ↓mq_17_8, ↓mq_17_9, ↓mq_17_10, ↓mq_17_13, ↓mq_17_16, ↓mq_17_17, ↓mq_17_18, ↓mq_17_21, ↓mq_17_24, ↓mq_17_25, ↓mq_17_26, ↓mq_17_29, ↓mq_17_32, ↓mq_17_33, ↓mq_17_34, ↓mq_17_37, ↓mq_17_40, ↓mq_17_41, ↓mq_17_43, ↓mq_17_45, ↓mq_17_48, ↓mq_17_49, ↓mq_17_52, ↓mq_17_53, ↓mq_17_54, ↓mq_17_57, ↓mq_17_58, ↓mq_17_59, ↓mq_17_60, ↓mq_17_63, ↓mq_17_66, ↓mj_bs (mh_gf 1 N.1 rfl), ↓mj_bs (e1), ↓mj_bs (mh_gf 2 N1.1 rfl), ↓mj_bs (e2), ↓mj_bs (mh_gf 3 N2.1 rfl), ↓mj_bs (e3), ↓mj_bs (mh_gf 4 N3.1 rfl), ↓mj_bs (e4), ↓mj_bs (mh_gf 5 N4.1 rfl), ↓mj_bs (e5)]
  exact r1
def mm_wb (μ : mm_Ma) (b : Nat) : mm_Ma := (ma_p μ, b, ma_d μ, ma_n μ, ma_o μ, ma_g μ)
theorem ma_b_wb (μ : mm_Ma) (b : Nat) : ma_b (mm_wb μ b) = b := rfl
theorem mh_Ma.wb (M : mh_Ma h m r μ) {b : Nat} (hb : ∀ j, j < 6 → b.testBit j = true → (ma_b μ).testBit j = true) : ∃ h', mj_pf h m 2 2 (.int (nI b)) = some h' ∧ mh_Ma h' m r (mm_wb μ b) ∧ mh_F (fun k => k = m) h h' := by
  obtain ⟨h1, e1, M1, F1⟩ := mo_2 M.1 (nI b)
  exact ⟨h1, e1, ⟨M1, (M.2.kp F1 (by omega)).mo (fun j hj z => ⟨hb j hj z, rfl⟩)⟩, F1⟩
theorem mt_19 (w : mw_R ρ) (H : mh_Ro h r ρ) (hd : r + 7 < m) (M : mh_Ma h m r μ) (hb0 : ma_b μ < 64) {one : Nat} (h1 : one < mr_n ρ) : ∃ h', mj_C 19 [.ref m, .int (nI one)] h = some (some (.int (nI (mm_dif (ma_b μ) (mm_qr ρ one (ma_b μ) (mr_n ρ))))), h') ∧ mh_Ma h' m r (mm_wb μ (mm_qr ρ one (ma_b μ) (mr_n ρ))) ∧ mh_F (fun k => k = m) h h' := by
  have hn := w.1
  have hS1 := w.2.2.2.1 one h1
  have loop : ∀ d k hk l4, k + d = mr_n ρ → mh_Ma hk m r (mm_wb μ (mm_qr ρ one (ma_b μ) k)) → mh_F (fun k => k = m) h hk → ∃ h', mj_R 19 (7, [.ref m, .int (nI one), .int (nI (ma_b μ)), .int (nI k), l4], [], hk) = some (some (.int (nI (mm_dif (ma_b μ) (mm_qr ρ one (ma_b μ) (mr_n ρ))))), h') ∧ mh_Ma h' m r (mm_wb μ (mm_qr ρ one (ma_b μ) (mr_n ρ))) ∧ mh_F (fun k => k = m) h h' := by
    intro d
    induction d with
    | zero =>
      intro k hk l4 hkd Mk Fk
      obtain rfl : k = mr_n ρ := by omega
      have Hk := H.kp Fk (fun x _ _ => by omega)
      refine ⟨hk, ?_, Mk, Fk⟩
      simp only [↓reduceIte, ↓mq_19_0, ↓mq_19_1, ↓mq_19_4, ↓mq_19_5, ↓mq_19_6, ↓mq_19_7, ↓mq_19_8, ↓mq_19_9, ↓mq_19_12, ↓mq_19_15, ↓mq_19_18, ↓mq_19_19, ↓mq_19_20, ↓mq_19_23, ↓mq_19_26, ↓mq_19_27, ↓mq_19_28, ↓mq_19_31, ↓mq_19_34, ↓mq_19_35, ↓mq_19_38, ↓mq_19_41, ↓mq_19_42, ↓mq_19_43, ↓mq_19_44, ↓mq_19_45, ↓mq_19_46, ↓mq_19_47, ↓mq_19_50, ↓mq_19_51, ↓mq_19_54, ↓mq_19_57, ↓mq_19_58, ↓mq_19_59, ↓mq_19_60, ↓mq_19_63, ↓mq_19_66, ↓mq_19_67, ↓mq_19_68, ↓mq_19_71, ↓mq_19_72, ↓mq_19_75, ↓mq_19_76, ↓mq_19_78, ↓mq_19_79, ↓mq_19_80, ↓mq_19_83, ↓mq_19_84, ↓mq_19_86, ↓mq_19_87, ↓mq_19_88, ↓mq_19_89, ↓mq_19_90, ↓mq_19_93, ↓mq_19_96, ↓mq_19_99, ↓mq_19_100, ↓mq_19_101, ↓mq_19_104, ↓mq_19_105, ↓mq_19_106, ↓mq_19_107, ↓mj_bs (mh_gf 0 Mk.1 rfl), ↓mj_bs (mh_gf 1 Hk.1 rfl), mt_le (Nat.le_refl (mr_n ρ)), ↓mj_bs (mh_gf 2 Mk.1 rfl), ma_b_wb, mn_dif _ hb0 _ (mm_qr_lt hb0 (show one < 6 by omega) (mr_n ρ) hn)]
    | succ d ih =>
      intro k hk l4 hkd Mk Fk
      have Hk := H.kp Fk (fun x _ _ => by omega)
      have hkn : k < mr_n ρ := by omega
      have hlt := mm_qr_lt (ρ := ρ) hb0 (show one < 6 by omega) k (by omega)
      rw [mq_19_7]
      cases hone : (mm_qr ρ one (ma_b μ) k).testBit one
      · have hend : mm_qr ρ one (ma_b μ) (mr_n ρ) = mm_qr ρ one (ma_b μ) k := by
          have := mm_qr_end hone (mr_n ρ - k)
          rwa [show k + (mr_n ρ - k) = mr_n ρ by omega] at this
        rw [hend]
        refine ⟨hk, ?_, Mk, Fk⟩
        simp only [↓reduceIte, ↓mq_19_0, ↓mq_19_1, ↓mq_19_4, ↓mq_19_5, ↓mq_19_6, ↓mq_19_8, ↓mq_19_9, ↓mq_19_12, ↓mq_19_15, ↓mq_19_18, ↓mq_19_19, ↓mq_19_20, ↓mq_19_23, ↓mq_19_26, ↓mq_19_27, ↓mq_19_28, ↓mq_19_31, ↓mq_19_34, ↓mq_19_35, ↓mq_19_38, ↓mq_19_41, ↓mq_19_42, ↓mq_19_43, ↓mq_19_44, ↓mq_19_45, ↓mq_19_46, ↓mq_19_47, ↓mq_19_50, ↓mq_19_51, ↓mq_19_54, ↓mq_19_57, ↓mq_19_58, ↓mq_19_59, ↓mq_19_60, ↓mq_19_63, ↓mq_19_66, ↓mq_19_67, ↓mq_19_68, ↓mq_19_71, ↓mq_19_72, ↓mq_19_75, ↓mq_19_76, ↓mq_19_78, ↓mq_19_79, ↓mq_19_80, ↓mq_19_83, ↓mq_19_84, ↓mq_19_86, ↓mq_19_87, ↓mq_19_88, ↓mq_19_89, ↓mq_19_90, ↓mq_19_93, ↓mq_19_96, ↓mq_19_99, ↓mq_19_100, ↓mq_19_101, ↓mq_19_104, ↓mq_19_105, ↓mq_19_106, ↓mq_19_107, ↓mj_bs (mh_gf 0 Mk.1 rfl), ↓mj_bs (mh_gf 1 Hk.1 rfl), mf_le hkn, mh_isC Mk.1, ↓mj_bs (mt_15 Mk hlt (show one < 6 by omega)), Option.toList, List.cons_append, List.nil_append, mj_b0, ma_b_wb, hone, ↓mj_bs (mh_gf 2 Mk.1 rfl), mn_dif _ hb0 _ hlt]
      · cases hk1 : (mm_qr ρ one (ma_b μ) k).testBit k
        · have hst : mm_qr ρ one (ma_b μ) (k + 1) = mm_qr ρ one (ma_b μ) k := by simp [mm_qr, hk1]
          obtain ⟨h', r1, r2, r3⟩ := ih (k + 1) hk l4 (by omega) (by rw [hst]; exact Mk) Fk
          refine ⟨h', ?_, r2, r3⟩
          simp only [↓reduceIte, ↓mq_19_0, ↓mq_19_1, ↓mq_19_4, ↓mq_19_5, ↓mq_19_6, ↓mq_19_8, ↓mq_19_9, ↓mq_19_12, ↓mq_19_15, ↓mq_19_18, ↓mq_19_19, ↓mq_19_20, ↓mq_19_23, ↓mq_19_26, ↓mq_19_27, ↓mq_19_28, ↓mq_19_31, ↓mq_19_34, ↓mq_19_35, ↓mq_19_38, ↓mq_19_41, ↓mq_19_42, ↓mq_19_43, ↓mq_19_44, ↓mq_19_45, ↓mq_19_46, ↓mq_19_47, ↓mq_19_50, ↓mq_19_51, ↓mq_19_54, ↓mq_19_57, ↓mq_19_58, ↓mq_19_59, ↓mq_19_60, ↓mq_19_63, ↓mq_19_66, ↓mq_19_67, ↓mq_19_68, ↓mq_19_71, ↓mq_19_72, ↓mq_19_75, ↓mq_19_76, ↓mq_19_78, ↓mq_19_79, ↓mq_19_80, ↓mq_19_83, ↓mq_19_84, ↓mq_19_86, ↓mq_19_87, ↓mq_19_88, ↓mq_19_89, ↓mq_19_90, ↓mq_19_93, ↓mq_19_96, ↓mq_19_99, ↓mq_19_100, ↓mq_19_101, ↓mq_19_104, ↓mq_19_105, ↓mq_19_106, ↓mq_19_107, ↓mj_bs (mh_gf 0 Mk.1 rfl), ↓mj_bs (mh_gf 1 Hk.1 rfl), mf_le hkn, mh_isC Mk.1, ↓mj_bs (mt_15 Mk hlt (show one < 6 by omega)), Option.toList, List.cons_append, List.nil_append, mj_b0, ma_b_wb, hone, Bool.true_eq_false, ↓mj_bs (mt_15 Mk hlt (show k < 6 by omega)), hk1, mn_add]
          exact r1
        · have hE64 : mr_E ρ one < 64 := mm_64 hS1.2.2.2.2.2.2.1 hn
          cases hE : (mr_E ρ one).testBit k
          · have hst : mm_qr ρ one (ma_b μ) (k + 1) = mm_qr ρ one (ma_b μ) k := by simp [mm_qr, hE]
            obtain ⟨h', r1, r2, r3⟩ := ih (k + 1) hk l4 (by omega) (by rw [hst]; exact Mk) Fk
            refine ⟨h', ?_, r2, r3⟩
            simp only [↓reduceIte, ↓mq_19_0, ↓mq_19_1, ↓mq_19_4, ↓mq_19_5, ↓mq_19_6, ↓mq_19_8, ↓mq_19_9, ↓mq_19_12, ↓mq_19_15, ↓mq_19_18, ↓mq_19_19, ↓mq_19_20, ↓mq_19_23, ↓mq_19_26, ↓mq_19_27, ↓mq_19_28, ↓mq_19_31, ↓mq_19_34, ↓mq_19_35, ↓mq_19_38, ↓mq_19_41, ↓mq_19_42, ↓mq_19_43, ↓mq_19_44, ↓mq_19_45, ↓mq_19_46, ↓mq_19_47, ↓mq_19_50, ↓mq_19_51, ↓mq_19_54, ↓mq_19_57, ↓mq_19_58, ↓mq_19_59, ↓mq_19_60, ↓mq_19_63, ↓mq_19_66, ↓mq_19_67, ↓mq_19_68, ↓mq_19_71, ↓mq_19_72, ↓mq_19_75, ↓mq_19_76, ↓mq_19_78, ↓mq_19_79, ↓mq_19_80, ↓mq_19_83, ↓mq_19_84, ↓mq_19_86, ↓mq_19_87, ↓mq_19_88, ↓mq_19_89, ↓mq_19_90, ↓mq_19_93, ↓mq_19_96, ↓mq_19_99, ↓mq_19_100, ↓mq_19_101, ↓mq_19_104, ↓mq_19_105, ↓mq_19_106, ↓mq_19_107, ↓mj_bs (mh_gf 0 Mk.1 rfl), ↓mj_bs (mh_gf 1 Hk.1 rfl), mf_le hkn, mh_isC Mk.1, ↓mj_bs (mt_15 Mk hlt (show one < 6 by omega)), Option.toList, List.cons_append, List.nil_append, mj_b0, ma_b_wb, hone, Bool.true_eq_false, ↓mj_bs (mt_15 Mk hlt (show k < 6 by omega)), hk1, ↓mj_bs (mh_gf 7 Hk.1 rfl), ↓mj_bs (Hk.2.2.2.2.2.1.gt (show one < 6 by omega) h1), mn_shl k (by omega), mn_and, mn_bb hE64 (show k < 6 by omega), hE, mn_add]
            exact r1
          · have hSk := w.2.2.2.1 k hkn
            by_cases hS : mr_S ρ k < mr_S ρ one
            · have hst : mm_qr ρ one (ma_b μ) (k + 1) = mm_del (mm_qr ρ one (ma_b μ) k) k := by simp [mm_qr, hone, hk1, hE, hS]
              obtain ⟨h2, e2, M2, F2⟩ := Mk.wb (b := mm_del (mm_qr ρ one (ma_b μ) k) k) (fun j hj z => by
                rw [mm_del_at _ hlt k (by omega) j hj] at z
                exact (Bool.and_eq_true _ _ ▸ z).1)
              obtain ⟨h', r1, r2, r3⟩ := ih (k + 1) h2 (.int (nI k)) (by omega) (by rw [hst]; exact M2) (Fk.tt F2)
              refine ⟨h', ?_, r2, r3⟩
              simp only [↓reduceIte, ↓mq_19_0, ↓mq_19_1, ↓mq_19_4, ↓mq_19_5, ↓mq_19_6, ↓mq_19_8, ↓mq_19_9, ↓mq_19_12, ↓mq_19_15, ↓mq_19_18, ↓mq_19_19, ↓mq_19_20, ↓mq_19_23, ↓mq_19_26, ↓mq_19_27, ↓mq_19_28, ↓mq_19_31, ↓mq_19_34, ↓mq_19_35, ↓mq_19_38, ↓mq_19_41, ↓mq_19_42, ↓mq_19_43, ↓mq_19_44, ↓mq_19_45, ↓mq_19_46, ↓mq_19_47, ↓mq_19_50, ↓mq_19_51, ↓mq_19_54, ↓mq_19_57, ↓mq_19_58, ↓mq_19_59, ↓mq_19_60, ↓mq_19_63, ↓mq_19_66, ↓mq_19_67, ↓mq_19_68, ↓mq_19_71, ↓mq_19_72, ↓mq_19_75, ↓mq_19_76, ↓mq_19_78, ↓mq_19_79, ↓mq_19_80, ↓mq_19_83, ↓mq_19_84, ↓mq_19_86, ↓mq_19_87, ↓mq_19_88, ↓mq_19_89, ↓mq_19_90, ↓mq_19_93, ↓mq_19_96, ↓mq_19_99, ↓mq_19_100, ↓mq_19_101, ↓mq_19_104, ↓mq_19_105, ↓mq_19_106, ↓mq_19_107, ↓mj_bs (mh_gf 0 Mk.1 rfl), ↓mj_bs (mh_gf 1 Hk.1 rfl), mf_le hkn, mh_isC Mk.1, ↓mj_bs (mt_15 Mk hlt (show one < 6 by omega)), Option.toList, List.cons_append, List.nil_append, mj_b0, ma_b_wb, hone, Bool.true_eq_false, ↓mj_bs (mt_15 Mk hlt (show k < 6 by omega)), hk1, ↓mj_bs (mh_gf 7 Hk.1 rfl), ↓mj_bs (Hk.2.2.2.2.2.1.gt (show one < 6 by omega) h1), mn_shl k (by omega), mn_and, mn_bb hE64 (show k < 6 by omega), hE, ↓mj_bs (mh_gf 5 Hk.1 rfl), ↓mj_bs (Hk.2.2.2.1.gt (show k < 6 by omega) hkn), ↓mj_bs (Hk.2.2.2.1.gt (show one < 6 by omega) h1), mf_le hS, ↓mj_bs (mh_gf 2 Mk.1 rfl), mn_not _ hlt k (by omega), ↓mj_bs (e2), mn_add]
              exact r1
            · have hst : mm_qr ρ one (ma_b μ) (k + 1) = mm_del (mm_qr ρ one (ma_b μ) k) one := by simp [mm_qr, hone, hk1, hE, hS]
              obtain ⟨h2, e2, M2, F2⟩ := Mk.wb (b := mm_del (mm_qr ρ one (ma_b μ) k) one) (fun j hj z => by
                rw [mm_del_at _ hlt one (by omega) j hj] at z
                exact (Bool.and_eq_true _ _ ▸ z).1)
              obtain ⟨h', r1, r2, r3⟩ := ih (k + 1) h2 (.int (nI one)) (by omega) (by rw [hst]; exact M2) (Fk.tt F2)
              refine ⟨h', ?_, r2, r3⟩
              simp only [↓reduceIte, ↓mq_19_0, ↓mq_19_1, ↓mq_19_4, ↓mq_19_5, ↓mq_19_6, ↓mq_19_8, ↓mq_19_9, ↓mq_19_12, ↓mq_19_15, ↓mq_19_18, ↓mq_19_19, ↓mq_19_20, ↓mq_19_23, ↓mq_19_26, ↓mq_19_27, ↓mq_19_28, ↓mq_19_31, ↓mq_19_34, ↓mq_19_35, ↓mq_19_38, ↓mq_19_41, ↓mq_19_42, ↓mq_19_43, ↓mq_19_44, ↓mq_19_45, ↓mq_19_46, ↓mq_19_47, ↓mq_19_50, ↓mq_19_51, ↓mq_19_54, ↓mq_19_57, ↓mq_19_58, ↓mq_19_59, ↓mq_19_60, ↓mq_19_63, ↓mq_19_66, ↓mq_19_67, ↓mq_19_68, ↓mq_19_71, ↓mq_19_72, ↓mq_19_75, ↓mq_19_76, ↓mq_19_78, ↓mq_19_79, ↓mq_19_80, ↓mq_19_83, ↓mq_19_84, ↓mq_19_86, ↓mq_19_87, ↓mq_19_88, ↓mq_19_89, ↓mq_19_90, ↓mq_19_93, ↓mq_19_96, ↓mq_19_99, ↓mq_19_100, ↓mq_19_101, ↓mq_19_104, ↓mq_19_105, ↓mq_19_106, ↓mq_19_107, ↓mj_bs (mh_gf 0 Mk.1 rfl), ↓mj_bs (mh_gf 1 Hk.1 rfl), mf_le hkn, mh_isC Mk.1, ↓mj_bs (mt_15 Mk hlt (show one < 6 by omega)), Option.toList, List.cons_append, List.nil_append, mj_b0, ma_b_wb, hone, Bool.true_eq_false, ↓mj_bs (mt_15 Mk hlt (show k < 6 by omega)), hk1, ↓mj_bs (mh_gf 7 Hk.1 rfl), ↓mj_bs (Hk.2.2.2.2.2.1.gt (show one < 6 by omega) h1), mn_shl k (by omega), mn_shl one (by omega), mn_and, mn_bb hE64 (show k < 6 by omega), hE, ↓mj_bs (mh_gf 5 Hk.1 rfl), ↓mj_bs (Hk.2.2.2.1.gt (show k < 6 by omega) hkn), ↓mj_bs (Hk.2.2.2.1.gt (show one < 6 by omega) h1), mt_le (Nat.le_of_not_lt hS), ↓mj_bs (mh_gf 2 Mk.1 rfl), mn_not _ hlt one (by omega), ↓mj_bs (e2), mn_add]
              exact r1
  obtain ⟨h', r1, r2, r3⟩ := loop (mr_n ρ) 0 h .null (by omega) M mh_F.rf
  refine ⟨h', ?_, r2, r3⟩
  rw [mc_19]
  simp only [↓reduceIte, ↓mq_19_0, ↓mq_19_1, ↓mq_19_4, ↓mq_19_5, ↓mq_19_6, ↓mq_19_8, ↓mq_19_9, ↓mq_19_12, ↓mq_19_15, ↓mq_19_18, ↓mq_19_19, ↓mq_19_20, ↓mq_19_23, ↓mq_19_26, ↓mq_19_27, ↓mq_19_28, ↓mq_19_31, ↓mq_19_34, ↓mq_19_35, ↓mq_19_38, ↓mq_19_41, ↓mq_19_42, ↓mq_19_43, ↓mq_19_44, ↓mq_19_45, ↓mq_19_46, ↓mq_19_47, ↓mq_19_50, ↓mq_19_51, ↓mq_19_54, ↓mq_19_57, ↓mq_19_58, ↓mq_19_59, ↓mq_19_60, ↓mq_19_63, ↓mq_19_66, ↓mq_19_67, ↓mq_19_68, ↓mq_19_71, ↓mq_19_72, ↓mq_19_75, ↓mq_19_76, ↓mq_19_78, ↓mq_19_79, ↓mq_19_80, ↓mq_19_83, ↓mq_19_84, ↓mq_19_86, ↓mq_19_87, ↓mq_19_88, ↓mq_19_89, ↓mq_19_90, ↓mq_19_93, ↓mq_19_96, ↓mq_19_99, ↓mq_19_100, ↓mq_19_101, ↓mq_19_104, ↓mq_19_105, ↓mq_19_106, ↓mq_19_107, ↓mj_bs (mh_gf 2 M.1 rfl)]
  exact r1
end
