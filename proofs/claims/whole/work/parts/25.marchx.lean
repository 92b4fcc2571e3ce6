/-! THE CLASS'S MARCH: given, a dusk, an act -/
section
variable {h : mj_H} {m r : Nat} {ρ : mm_Ro} {μ : mm_Ma}
theorem mt_18 (w : mw_R ρ) (wm : mw_M ρ μ) (H : mh_Ro h r ρ) (hd : r + 7 < m) (M : mh_Ma h m r μ) (hc : mm_can ρ μ = true) : ∃ h', mj_C 18 [.ref m] h = some (some (.int (nI (mm_left ρ μ))), h') ∧ mh_Ma h' m r (mm_come ρ μ) ∧ mh_F (mh_A m (m + 1)) h h' := by
  have hn := w.1
  have hb := mw_b w wm
  have hc2 := hc
  simp only [mm_can, mm_has, Bool.and_eq_true, decide_eq_true_eq] at hc2
  obtain ⟨hnx, hask⟩ := hc2
  have ha99 := mm_ask99 w wm hnx
  have h6 : ma_n μ < 6 := by omega
  obtain ⟨h1, e1, M1, F1⟩ := mo_1 M.1 (nI (ma_p μ - mm_ask ρ μ (ma_n μ)))
  obtain ⟨h2, e2, M2, F2⟩ := (M.2.kp F1 (by omega)).pt (P' := fun k => (mm_add (ma_b μ) (ma_n μ)).testBit k = true) (X' := mh_u (ma_g μ) (ma_n μ) (mm_ask ρ μ (ma_n μ))) h6 (mm_ask ρ μ (ma_n μ)) (fun j hj hp => by
    by_cases e : j = ma_n μ
    · subst e; exact Or.inl ⟨rfl, mh_u_at⟩
    · refine Or.inr ⟨e, ?_, mh_u_ne e⟩
      rw [mm_add_at _ hb _ h6 j hj] at hp
      simpa [e] using hp)
  have M1' := (F2.2 m (by omega)).trans M1
  obtain ⟨h3, e3, M3, F3⟩ := mo_2 M1' (nI (mm_add (ma_b μ) (ma_n μ)))
  obtain ⟨h4, e4, M4, F4⟩ := mo_4 M3 (nI (ma_n μ + 1))
  have M5 : mh_Ma h4 m r (ma_p μ - mm_ask ρ μ (ma_n μ), mm_add (ma_b μ) (ma_n μ), ma_d μ, ma_n μ + 1, ma_o μ, mh_u (ma_g μ) (ma_n μ) (mm_ask ρ μ (ma_n μ))) := ⟨M4, (M2.kp F3 (by omega)).kp F4 (by omega)⟩
  have sub : ∀ {a : Nat} {A : Nat → Prop}, (∀ k, A k → k = m ∨ k = m + 1) → ∀ k, A k → mh_A m (m + 1) k := fun hA k hk => by
    rcases hA k hk with rfl | rfl
    · exact ⟨by omega, by omega⟩
    · exact ⟨by omega, by omega⟩
  have F : mh_F (mh_A m (m + 1)) h h4 := (((F1.mo (sub (a := 0) (fun k z => Or.inl z))).tt (F2.mo (sub (a := 0) (fun k z => Or.inr z)))).tt (F3.mo (sub (a := 0) (fun k z => Or.inl z)))).tt (F4.mo (sub (a := 0) (fun k z => Or.inl z)))
  have H4 := H.kp F (fun k _ _ z => by have := z.1; omega)
  obtain ⟨h5, e5, M6, F5⟩ := mt_19 w H4 hd M5 (mm_add_lt _ hb _ h6) hnx
  refine ⟨h5, ?_, M6, F.tt (F5.mo (sub (a := 0) (fun k z => Or.inl z)))⟩
  rw [mc_18]
  simp only [↓reduceIte, ↓mq_18_0, ↓mq_18_1, ↓mq_18_4, ↓mq_18_7, ↓mq_18_8, ↓mq_18_9, ↓mq_18_10, ↓mq_18_13, ↓mq_18_14, ↓mq_18_15, ↓mq_18_16, ↓mq_18_19, ↓mq_18_20, ↓mq_18_21, ↓mq_18_22, ↓mq_18_25, ↓mq_18_26, ↓mq_18_27, ↓mq_18_30, ↓mq_18_31, ↓mq_18_34, ↓mq_18_35, ↓mq_18_36, ↓mq_18_37, ↓mq_18_38, ↓mq_18_39, ↓mq_18_42, ↓mq_18_43, ↓mq_18_44, ↓mq_18_45, ↓mq_18_46, ↓mq_18_49, ↓mq_18_50, ↓mq_18_51, ↓mq_18_54, ↓mq_18_55, ↓mq_18_56, ↓mq_18_59, ↓mq_18_60, ↓mq_18_61, ↓mq_18_64, mh_isC M.1, ↓mj_bs (mt_16 w wm H M), Option.toList, List.cons_append, List.nil_append, mj_b0, hc, Bool.true_eq_false, ↓mj_bs (mh_gf 4 M.1 rfl), ↓mj_bs (mt_13 w wm H M hnx), ↓mj_bs (mh_gf 1 M.1 rfl), mn_sub hask, ↓mj_bs (e1), ↓mj_bs (mh_gf 6 M1 rfl), ↓mj_bs (e2), ↓mj_bs (mh_gf 2 M1' rfl), mn_shl (ma_n μ) (by omega), mn_or, mn_bor _ hb _ h6, ↓mj_bs (e3), ↓mj_bs (mh_gf 4 M3 rfl), mn_add, ↓mj_bs (e4), mh_isC M4, ↓mj_bs (e5)]
  rfl
theorem mw_come (w : mw_R ρ) (wm : mw_M ρ μ) (hc : mm_can ρ μ = true) : mw_M ρ (mm_come ρ μ) := by
  have hn := w.1
  have hb := mw_b w wm
  simp only [mm_can, mm_has, Bool.and_eq_true, decide_eq_true_eq] at hc
  obtain ⟨hnx, hask⟩ := hc
  have ha99 := mm_ask99 w wm hnx
  have h6 : ma_n μ < 6 := by omega
  have hp := wm.1
  have hsub := mm_qr_sub (ρ := ρ) (mm_add_lt _ hb _ h6) h6 (mr_n ρ) hn
  refine ⟨by show ma_p μ - _ ≤ 99; omega, ?_, by show ma_n μ + 1 ≤ _; omega, wm.2.2.2.1, fun k hk hbk => ?_⟩
  · refine mm_lt _ hn _ (mm_qr_lt (mm_add_lt _ hb _ h6) h6 _ hn) (fun j hj z => ?_)
    have h1 := hsub j hj z
    rw [mm_add_at _ hb _ h6 j hj, Bool.or_eq_true, decide_eq_true_eq] at h1
    rcases h1 with h1 | h1
    · rcases Nat.lt_or_ge j (mr_n ρ) with h2 | h2
      · exact h2
      · rw [mm_hi wm.2.1 h2] at h1; cases h1
    · omega
  · have h1 := hsub k hk hbk
    rw [mm_add_at _ hb _ h6 k hk, Bool.or_eq_true, decide_eq_true_eq] at h1
    show mh_u (ma_g μ) (ma_n μ) (mm_ask ρ μ (ma_n μ)) k ≤ 99
    by_cases e : k = ma_n μ
    · subst e; rw [mh_u_at]; exact ha99
    · rw [mh_u_ne e]
      exact wm.2.2.2.2 k hk (h1.resolve_right e)
theorem mw_skip (wm : mw_M ρ μ) (hc : ma_n μ < mr_n ρ) : mw_M ρ (mm_skip μ) := ⟨wm.1, wm.2.1, hc, wm.2.2.2.1, wm.2.2.2.2⟩
theorem mw_unl (wm : mw_M ρ μ) (hc : mm_cul ρ μ = true) : mw_M ρ (mm_unl μ) := by
  simp only [mm_cul, Bool.and_eq_true, decide_eq_true_eq] at hc
  exact ⟨wm.1, wm.2.1, wm.2.2.1, hc.1, wm.2.2.2.2⟩
theorem mm_sb_sub (w : mw_R ρ) (wm : mw_M ρ μ) : mm_sb ρ μ < 64 ∧ ∀ j, j < 6 → (mm_sb ρ μ).testBit j = true → (ma_b μ).testBit j = true := by
  have hn := w.1
  have hb := mw_b w wm
  have h1 := (mm_sl_lt (p0 := ma_p μ) hb (mr_n ρ) hn).1
  have h2 := mm_tr_lt (ρ := ρ) (mr_n ρ) hn
  refine ⟨mm_dif_lt _ h1 _ h2, fun j hj z => ?_⟩
  unfold mm_sb at z
  rw [mm_dif_at _ h1 _ h2 j hj] at z
  exact mm_sl_sub hb (mr_n ρ) hn j hj (Bool.and_eq_true _ _ ▸ z).1
theorem mw_slp (w : mw_R ρ) (wm : mw_M ρ μ) : mw_M ρ (mm_slp ρ μ) := by
  have hn := w.1
  have hb := mw_b w wm
  obtain ⟨s1, s2⟩ := mm_sb_sub w wm
  have h1 := (mm_sl_lt (p0 := ma_p μ) hb (mr_n ρ) hn).2
  have hp := wm.1
  refine ⟨by show (mm_sl _ _ _).1 ≤ 99; omega, mm_lt _ hn _ s1 (fun j hj z => ?_), wm.2.2.1, wm.2.2.2.1, fun k hk z => wm.2.2.2.2 k hk (s2 k hk z)⟩
  rcases Nat.lt_or_ge j (mr_n ρ) with h2 | h2
  · exact h2
  · have := s2 j hj z
    rw [mm_hi wm.2.1 h2] at this; cases this
def mm_wpb (μ : mm_Ma) (p b : Nat) : mm_Ma := (p, b, ma_d μ, ma_n μ, ma_o μ, ma_g μ)
theorem ma_b_wpb (μ : mm_Ma) (p b : Nat) : ma_b (mm_wpb μ p b) = b := rfl
theorem ma_p_wpb (μ : mm_Ma) (p b : Nat) : ma_p (mm_wpb μ p b) = p := rfl
theorem ma_d_wpb (μ : mm_Ma) (p b : Nat) : ma_d (mm_wpb μ p b) = ma_d μ := rfl
theorem mt_21 (w : mw_R ρ) (wm : mw_M ρ μ) (H : mh_Ro h r ρ) (hd : r + 7 < m) (M : mh_Ma h m r μ) : ∃ h', mj_C 21 [.ref m] h = some (some (.int (nI (mm_slw ρ μ))), h') ∧ mh_Ma h' m r (mm_slp ρ μ) ∧ mh_F (fun k => k = m) h h' := by
  have hn := w.1
  have hb0 := mw_b w wm
  have hp := wm.1
  obtain ⟨s1, s2⟩ := mm_sb_sub w wm
  have loop : ∀ d k hk, k + d = mr_n ρ → mh_Ma hk m r (mm_wpb μ (mm_sl (ma_p μ) (ma_b μ) k).1 (mm_sl (ma_p μ) (ma_b μ) k).2) → mh_F (fun k => k = m) h hk → ∃ h', mj_R 21 (9, [.ref m, .int (nI (ma_b μ)), .int (nI (mm_tr ρ k)), .int (nI k)], [], hk) = some (some (.int (nI (mm_slw ρ μ))), h') ∧ mh_Ma h' m r (mm_slp ρ μ) ∧ mh_F (fun k => k = m) h h' := by
    intro d
    induction d with
    | zero =>
      intro k hk hkd Mk Fk
      obtain rfl : k = mr_n ρ := by omega
      have Hk := H.kp Fk (fun x _ _ => by omega)
      have l1 := (mm_sl_lt (p0 := ma_p μ) hb0 (mr_n ρ) hn).1
      have l2 := mm_tr_lt (ρ := ρ) (mr_n ρ) hn
      obtain ⟨h1, e1, M1, F1⟩ := mo_2 Mk.1 (nI (mm_sb ρ μ))
      obtain ⟨h2, e2, M2, F2⟩ := mo_3 M1 (nI (ma_d μ + 1))
      have e1' : mj_pf hk m 2 2 (.int (nI (mm_dif (mm_sl (ma_p μ) (ma_b μ) (mr_n ρ)).2 (mm_tr ρ (mr_n ρ))))) = some h1 := e1
      refine ⟨h2, ?_, ⟨M2, ((Mk.2.kp F1 (by omega)).kp F2 (by omega)).mo (fun j hj z => ⟨?_, rfl⟩)⟩, (Fk.tt F1).tt F2⟩
      · simp only [↓reduceIte, ↓mq_21_0, ↓mq_21_1, ↓mq_21_4, ↓mq_21_5, ↓mq_21_6, ↓mq_21_7, ↓mq_21_8, ↓mq_21_9, ↓mq_21_10, ↓mq_21_11, ↓mq_21_14, ↓mq_21_17, ↓mq_21_20, ↓mq_21_21, ↓mq_21_22, ↓mq_21_25, ↓mq_21_28, ↓mq_21_29, ↓mq_21_32, ↓mq_21_35, ↓mq_21_36, ↓mq_21_37, ↓mq_21_40, ↓mq_21_41, ↓mq_21_42, ↓mq_21_45, ↓mq_21_48, ↓mq_21_49, ↓mq_21_50, ↓mq_21_53, ↓mq_21_54, ↓mq_21_55, ↓mq_21_56, ↓mq_21_57, ↓mq_21_58, ↓mq_21_59, ↓mq_21_62, ↓mq_21_63, ↓mq_21_66, ↓mq_21_69, ↓mq_21_70, ↓mq_21_71, ↓mq_21_72, ↓mq_21_75, ↓mq_21_76, ↓mq_21_77, ↓mq_21_78, ↓mq_21_79, ↓mq_21_80, ↓mq_21_81, ↓mq_21_84, ↓mq_21_87, ↓mq_21_88, ↓mq_21_89, ↓mq_21_92, ↓mq_21_93, ↓mq_21_94, ↓mq_21_95, ↓mq_21_96, ↓mq_21_99, ↓mq_21_100, ↓mq_21_101, ↓mq_21_104, ↓mq_21_105, ↓mq_21_106, ↓mq_21_109, ↓mq_21_110, ↓mq_21_111, ↓mq_21_114, ↓mq_21_115, ↓mq_21_116, ↓mq_21_117, ↓mj_bs (mh_gf 0 Mk.1 rfl), ↓mj_bs (mh_gf 1 Hk.1 rfl), mt_le (Nat.le_refl (mr_n ρ)), ↓mj_bs (mh_gf 2 Mk.1 rfl), ma_b_wpb, mn_dif _ l1 _ l2, ↓mj_bs (e1'), ↓mj_bs (mh_gf 3 M1 rfl), ma_d_wpb, mn_add, ↓mj_bs (e2), ↓mj_bs (mh_gf 2 M2 rfl), mn_dif _ hb0 _ s1]
        rfl
      · have z' : (mm_dif (mm_sl (ma_p μ) (ma_b μ) (mr_n ρ)).2 (mm_tr ρ (mr_n ρ))).testBit j = true := z
        rw [mm_dif_at _ l1 _ l2 j hj] at z'
        exact (Bool.and_eq_true _ _ ▸ z').1
    | succ d ih =>
      intro k hk hkd Mk Fk
      have Hk := H.kp Fk (fun x _ _ => by omega)
      have hkn : k < mr_n ρ := by omega
      have l1 := mm_sl_lt (p0 := ma_p μ) hb0 k (by omega)
      have hK3 := (w.2.2.2.1 k hkn).1
      have fin : ∀ hk2, mh_Ma hk2 m r (mm_wpb μ (mm_sl (ma_p μ) (ma_b μ) (k + 1)).1 (mm_sl (ma_p μ) (ma_b μ) (k + 1)).2) → mh_F (fun k => k = m) h hk2 → ∃ h', mj_R 21 (62, [.ref m, .int (nI (ma_b μ)), .int (nI (mm_tr ρ k)), .int (nI k)], [], hk2) = some (some (.int (nI (mm_slw ρ μ))), h') ∧ mh_Ma h' m r (mm_slp ρ μ) ∧ mh_F (fun k => k = m) h h' := by
        intro hk2 M2 F2
        have H2 := H.kp F2 (fun x _ _ => by omega)
        obtain ⟨h', r1, r2, r3⟩ := ih (k + 1) hk2 (by omega) M2 F2
        refine ⟨h', ?_, r2, r3⟩
        by_cases hK : mr_K ρ k = 3
        · simp only [↓reduceIte, ↓mq_21_0, ↓mq_21_1, ↓mq_21_4, ↓mq_21_5, ↓mq_21_6, ↓mq_21_7, ↓mq_21_8, ↓mq_21_10, ↓mq_21_11, ↓mq_21_14, ↓mq_21_17, ↓mq_21_20, ↓mq_21_21, ↓mq_21_22, ↓mq_21_25, ↓mq_21_28, ↓mq_21_29, ↓mq_21_32, ↓mq_21_35, ↓mq_21_36, ↓mq_21_37, ↓mq_21_40, ↓mq_21_41, ↓mq_21_42, ↓mq_21_45, ↓mq_21_48, ↓mq_21_49, ↓mq_21_50, ↓mq_21_53, ↓mq_21_54, ↓mq_21_55, ↓mq_21_56, ↓mq_21_57, ↓mq_21_58, ↓mq_21_59, ↓mq_21_62, ↓mq_21_63, ↓mq_21_66, ↓mq_21_69, ↓mq_21_70, ↓mq_21_71, ↓mq_21_72, ↓mq_21_75, ↓mq_21_76, ↓mq_21_77, ↓mq_21_78, ↓mq_21_79, ↓mq_21_80, ↓mq_21_81, ↓mq_21_84, ↓mq_21_87, ↓mq_21_88, ↓mq_21_89, ↓mq_21_92, ↓mq_21_93, ↓mq_21_94, ↓mq_21_95, ↓mq_21_96, ↓mq_21_99, ↓mq_21_100, ↓mq_21_101, ↓mq_21_104, ↓mq_21_105, ↓mq_21_106, ↓mq_21_109, ↓mq_21_110, ↓mq_21_111, ↓mq_21_114, ↓mq_21_115, ↓mq_21_116, ↓mq_21_117, ↓mj_bs (mh_gf 0 M2.1 rfl), ↓mj_bs (mh_gf 3 H2.1 rfl), ↓mj_bs (H2.2.1.gt (show k < 6 by omega) hkn), mt_eq hK, mn_shl k (by omega), mn_or, mn_add]
          simpa only [mm_tr, hK, if_true] using r1
        · simp only [↓reduceIte, ↓mq_21_0, ↓mq_21_1, ↓mq_21_4, ↓mq_21_5, ↓mq_21_6, ↓mq_21_7, ↓mq_21_8, ↓mq_21_10, ↓mq_21_11, ↓mq_21_14, ↓mq_21_17, ↓mq_21_20, ↓mq_21_21, ↓mq_21_22, ↓mq_21_25, ↓mq_21_28, ↓mq_21_29, ↓mq_21_32, ↓mq_21_35, ↓mq_21_36, ↓mq_21_37, ↓mq_21_40, ↓mq_21_41, ↓mq_21_42, ↓mq_21_45, ↓mq_21_48, ↓mq_21_49, ↓mq_21_50, ↓mq_21_53, ↓mq_21_54, ↓mq_21_55, ↓mq_21_56, ↓mq_21_57, ↓mq_21_58, ↓mq_21_59, ↓mq_21_62, ↓mq_21_63, ↓mq_21_66, ↓mq_21_69, ↓mq_21_70, ↓mq_21_71, ↓mq_21_72, ↓mq_21_75, ↓mq_21_76, ↓mq_21_77, ↓mq_21_78, ↓mq_21_79, ↓mq_21_80, ↓mq_21_81, ↓mq_21_84, ↓mq_21_87, ↓mq_21_88, ↓mq_21_89, ↓mq_21_92, ↓mq_21_93, ↓mq_21_94, ↓mq_21_95, ↓mq_21_96, ↓mq_21_99, ↓mq_21_100, ↓mq_21_101, ↓mq_21_104, ↓mq_21_105, ↓mq_21_106, ↓mq_21_109, ↓mq_21_110, ↓mq_21_111, ↓mq_21_114, ↓mq_21_115, ↓mq_21_116, ↓mq_21_117, ↓mj_bs (mh_gf 0 M2.1 rfl), ↓mj_bs (mh_gf 3 H2.1 rfl), ↓mj_bs (H2.2.1.gt (show k < 6 by omega) hkn), mf_eq hK, mn_add]
          simpa only [mm_tr, hK, if_false] using r1
      rw [mq_21_9]
      have hold := mt_15 Mk l1.1 (show k < 6 by omega)
      rw [ma_b_wpb] at hold
      have other : ¬ ((mm_sl (ma_p μ) (ma_b μ) k).2.testBit k = true ∧ 0 < (mm_sl (ma_p μ) (ma_b μ) k).1) → ∃ h2, mj_pf hk m 2 2 (.int (nI (mm_del (mm_sl (ma_p μ) (ma_b μ) k).2 k))) = some h2 ∧ ∃ h', mj_R 21 (62, [.ref m, .int (nI (ma_b μ)), .int (nI (mm_tr ρ k)), .int (nI k)], [], h2) = some (some (.int (nI (mm_slw ρ μ))), h') ∧ mh_Ma h' m r (mm_slp ρ μ) ∧ mh_F (fun k => k = m) h h' := by
        intro hno
        obtain ⟨h2, e2, M2, F2⟩ := Mk.wb (b := mm_del (mm_sl (ma_p μ) (ma_b μ) k).2 k) (fun j hj z => by
          rw [mm_del_at _ l1.1 k (by omega) j hj] at z
          exact (Bool.and_eq_true _ _ ▸ z).1)
        refine ⟨h2, e2, fin h2 ?_ (Fk.tt F2)⟩
        simp only [mm_sl, if_neg hno]
        exact M2
      cases hkb : (mm_sl (ma_p μ) (ma_b μ) k).2.testBit k
      · obtain ⟨h2, e2, h', r1, r2, r3⟩ := other (by simp [hkb])
        refine ⟨h', ?_, r2, r3⟩
        simp only [↓reduceIte, ↓mq_21_0, ↓mq_21_1, ↓mq_21_4, ↓mq_21_5, ↓mq_21_6, ↓mq_21_7, ↓mq_21_8, ↓mq_21_10, ↓mq_21_11, ↓mq_21_14, ↓mq_21_17, ↓mq_21_20, ↓mq_21_21, ↓mq_21_22, ↓mq_21_25, ↓mq_21_28, ↓mq_21_29, ↓mq_21_32, ↓mq_21_35, ↓mq_21_36, ↓mq_21_37, ↓mq_21_40, ↓mq_21_41, ↓mq_21_42, ↓mq_21_45, ↓mq_21_48, ↓mq_21_49, ↓mq_21_50, ↓mq_21_53, ↓mq_21_54, ↓mq_21_55, ↓mq_21_56, ↓mq_21_57, ↓mq_21_58, ↓mq_21_59, ↓mq_21_63, ↓mq_21_66, ↓mq_21_69, ↓mq_21_70, ↓mq_21_71, ↓mq_21_72, ↓mq_21_75, ↓mq_21_76, ↓mq_21_77, ↓mq_21_78, ↓mq_21_79, ↓mq_21_80, ↓mq_21_81, ↓mq_21_84, ↓mq_21_87, ↓mq_21_88, ↓mq_21_89, ↓mq_21_92, ↓mq_21_93, ↓mq_21_94, ↓mq_21_95, ↓mq_21_96, ↓mq_21_99, ↓mq_21_100, ↓mq_21_101, ↓mq_21_104, ↓mq_21_105, ↓mq_21_106, ↓mq_21_109, ↓mq_21_110, ↓mq_21_111, ↓mq_21_114, ↓mq_21_115, ↓mq_21_116, ↓mq_21_117, ↓mj_bs (mh_gf 0 Mk.1 rfl), ↓mj_bs (mh_gf 1 Hk.1 rfl), mf_le hkn, mh_isC Mk.1, ↓mj_bs (hold), Option.toList, List.cons_append, List.nil_append, mj_b0, hkb, ↓mj_bs (mh_gf 2 Mk.1 rfl), ma_b_wpb, mn_shl k (by omega), mn_not _ l1.1 k (by omega), ↓mj_bs (e2)]
        exact r1
      · by_cases hp0 : 0 < (mm_sl (ma_p μ) (ma_b μ) k).1
        · obtain ⟨h2, e2, M2, F2⟩ := mo_1 Mk.1 (nI ((mm_sl (ma_p μ) (ma_b μ) k).1 - 1))
          obtain ⟨h', r1, r2, r3⟩ := fin h2 (by
            simp only [mm_sl, if_pos (show _ ∧ _ from ⟨hkb, hp0⟩)]
            exact ⟨M2, Mk.2.kp F2 (by omega)⟩) (Fk.tt F2)
          refine ⟨h', ?_, r2, r3⟩
          simp only [↓reduceIte, ↓mq_21_0, ↓mq_21_1, ↓mq_21_4, ↓mq_21_5, ↓mq_21_6, ↓mq_21_7, ↓mq_21_8, ↓mq_21_10, ↓mq_21_11, ↓mq_21_14, ↓mq_21_17, ↓mq_21_20, ↓mq_21_21, ↓mq_21_22, ↓mq_21_25, ↓mq_21_28, ↓mq_21_29, ↓mq_21_32, ↓mq_21_35, ↓mq_21_36, ↓mq_21_37, ↓mq_21_40, ↓mq_21_41, ↓mq_21_42, ↓mq_21_45, ↓mq_21_48, ↓mq_21_49, ↓mq_21_50, ↓mq_21_53, ↓mq_21_54, ↓mq_21_55, ↓mq_21_56, ↓mq_21_57, ↓mq_21_58, ↓mq_21_59, ↓mq_21_63, ↓mq_21_66, ↓mq_21_69, ↓mq_21_70, ↓mq_21_71, ↓mq_21_72, ↓mq_21_75, ↓mq_21_76, ↓mq_21_77, ↓mq_21_78, ↓mq_21_79, ↓mq_21_80, ↓mq_21_81, ↓mq_21_84, ↓mq_21_87, ↓mq_21_88, ↓mq_21_89, ↓mq_21_92, ↓mq_21_93, ↓mq_21_94, ↓mq_21_95, ↓mq_21_96, ↓mq_21_99, ↓mq_21_100, ↓mq_21_101, ↓mq_21_104, ↓mq_21_105, ↓mq_21_106, ↓mq_21_109, ↓mq_21_110, ↓mq_21_111, ↓mq_21_114, ↓mq_21_115, ↓mq_21_116, ↓mq_21_117, ↓mj_bs (mh_gf 0 Mk.1 rfl), ↓mj_bs (mh_gf 1 Hk.1 rfl), mf_le hkn, mh_isC Mk.1, ↓mj_bs (hold), Option.toList, List.cons_append, List.nil_append, mj_b0, hkb, Bool.true_eq_false, ↓mj_bs (mh_gf 1 Mk.1 rfl), ma_p_wpb, mf_le hp0, mn_sub (show 1 ≤ (mm_sl (ma_p μ) (ma_b μ) k).1 by omega), ↓mj_bs (e2)]
          exact r1
        · obtain ⟨h2, e2, h', r1, r2, r3⟩ := other (by simp [hp0])
          refine ⟨h', ?_, r2, r3⟩
          simp only [↓reduceIte, ↓mq_21_0, ↓mq_21_1, ↓mq_21_4, ↓mq_21_5, ↓mq_21_6, ↓mq_21_7, ↓mq_21_8, ↓mq_21_10, ↓mq_21_11, ↓mq_21_14, ↓mq_21_17, ↓mq_21_20, ↓mq_21_21, ↓mq_21_22, ↓mq_21_25, ↓mq_21_28, ↓mq_21_29, ↓mq_21_32, ↓mq_21_35, ↓mq_21_36, ↓mq_21_37, ↓mq_21_40, ↓mq_21_41, ↓mq_21_42, ↓mq_21_45, ↓mq_21_48, ↓mq_21_49, ↓mq_21_50, ↓mq_21_53, ↓mq_21_54, ↓mq_21_55, ↓mq_21_56, ↓mq_21_57, ↓mq_21_58, ↓mq_21_59, ↓mq_21_63, ↓mq_21_66, ↓mq_21_69, ↓mq_21_70, ↓mq_21_71, ↓mq_21_72, ↓mq_21_75, ↓mq_21_76, ↓mq_21_77, ↓mq_21_78, ↓mq_21_79, ↓mq_21_80, ↓mq_21_81, ↓mq_21_84, ↓mq_21_87, ↓mq_21_88, ↓mq_21_89, ↓mq_21_92, ↓mq_21_93, ↓mq_21_94, ↓mq_21_95, ↓mq_21_96, ↓mq_21_99, ↓mq_21_100, ↓mq_21_101, ↓mq_21_104, ↓mq_21_105, ↓mq_21_106, ↓mq_21_109, ↓mq_21_110, ↓mq_21_111, ↓mq_21_114, ↓mq_21_115, ↓mq_21_116, ↓mq_21_117, ↓mj_bs (mh_gf 0 Mk.1 rfl), ↓mj_bs (mh_gf 1 Hk.1 rfl), mf_le hkn, mh_isC Mk.1, ↓mj_bs (hold), Option.toList, List.cons_append, List.nil_append, mj_b0, hkb, Bool.true_eq_false, ↓mj_bs (mh_gf 1 Mk.1 rfl), ma_p_wpb, mt_le (Nat.le_of_not_lt hp0), ↓mj_bs (mh_gf 2 Mk.1 rfl), ma_b_wpb, mn_shl k (by omega), mn_not _ l1.1 k (by omega), ↓mj_bs (e2)]
          exact r1
  obtain ⟨h', r1, r2, r3⟩ := loop (mr_n ρ) 0 h (by omega) M mh_F.rf
  refine ⟨h', ?_, r2, r3⟩
  rw [mc_21]
  simp only [↓reduceIte, ↓mq_21_0, ↓mq_21_1, ↓mq_21_4, ↓mq_21_5, ↓mq_21_6, ↓mq_21_7, ↓mq_21_8, ↓mq_21_10, ↓mq_21_11, ↓mq_21_14, ↓mq_21_17, ↓mq_21_20, ↓mq_21_21, ↓mq_21_22, ↓mq_21_25, ↓mq_21_28, ↓mq_21_29, ↓mq_21_32, ↓mq_21_35, ↓mq_21_36, ↓mq_21_37, ↓mq_21_40, ↓mq_21_41, ↓mq_21_42, ↓mq_21_45, ↓mq_21_48, ↓mq_21_49, ↓mq_21_50, ↓mq_21_53, ↓mq_21_54, ↓mq_21_55, ↓mq_21_56, ↓mq_21_57, ↓mq_21_58, ↓mq_21_59, ↓mq_21_62, ↓mq_21_63, ↓mq_21_66, ↓mq_21_69, ↓mq_21_70, ↓mq_21_71, ↓mq_21_72, ↓mq_21_75, ↓mq_21_76, ↓mq_21_77, ↓mq_21_78, ↓mq_21_79, ↓mq_21_80, ↓mq_21_81, ↓mq_21_84, ↓mq_21_87, ↓mq_21_88, ↓mq_21_89, ↓mq_21_92, ↓mq_21_93, ↓mq_21_94, ↓mq_21_95, ↓mq_21_96, ↓mq_21_99, ↓mq_21_100, ↓mq_21_101, ↓mq_21_104, ↓mq_21_105, ↓mq_21_106, ↓mq_21_109, ↓mq_21_110, ↓mq_21_111, ↓mq_21_114, ↓mq_21_115, ↓mq_21_116, ↓mq_21_117, ↓mj_bs (mh_gf 2 M.1 rfl)]
  exact r1
/-- an act by its figure -/
def mm_try (ρ : mm_Ro) (μ : mm_Ma) (f : Nat) : Option mm_Ma := match f with
  | 0 => if mm_has ρ μ = true then some (mm_skip μ) else none
  | 1 => if mm_can ρ μ = true then some (mm_come ρ μ) else none
  | 2 => some (mm_slp ρ μ)
  | 3 => if mm_cul ρ μ = true then some (mm_unl μ) else none
  | _ => none
theorem mw_try (w : mw_R ρ) (wm : mw_M ρ μ) {f : Nat} {ν : mm_Ma} (h : mm_try ρ μ f = some ν) : mw_M ρ ν := by
  unfold mm_try at h
  split at h
  · split at h
    · rename_i hc
      cases h
      exact mw_skip wm (by simpa [mm_has] using hc)
    · cases h
  · split at h
    · rename_i hc
      cases h
      exact mw_come w wm hc
    · cases h
  · cases h
    exact mw_slp w wm
  · split at h
    · rename_i hc
      cases h
      exact mw_unl wm hc
    · cases h
  · cases h
end
