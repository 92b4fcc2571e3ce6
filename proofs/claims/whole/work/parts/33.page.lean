/-! THE REFERENCE'S PAGE: what it asks of it, what changes it -/
theorem mh_ap.pu {h : mj_H} {a n k : Nat} {P : Nat → Prop} {X : Nat → Nat} (H : mh_ap h a n P X) (hk : k < n) (v : Nat) (hn : n < 2 ^ 31 := by omega) : ∃ h', mj_pi h a (nI k) (nI v) = some h' ∧ mh_ap h' a n (fun j => P j ∨ j = k) (mh_u X k v) ∧ mh_F (fun q => q = a) h h' := H.pt hk v (fun j _ hj => by
  by_cases e : j = k
  · subst e; exact Or.inl ⟨rfl, mh_u_at⟩
  · exact Or.inr ⟨e, hj.resolve_right e, mh_u_ne e⟩) hn
section
variable {h : mj_H} {ρ : mm_Ro} {μ : mm_Ma} {a : Nat}
theorem mp_u0 (H : mh_pg h a μ) (v : Nat) : ∃ h', mj_pi h a (nI 0) (nI v) = some h' ∧ mh_pg h' a (v, ma_b μ, ma_d μ, ma_n μ, ma_o μ, ma_g μ) ∧ mh_F (fun q => q = a) h h' := H.pt (by omega) v (fun j _ hj => by
  by_cases e : j = 0
  · subst e; exact Or.inl ⟨rfl, rfl⟩
  · exact Or.inr ⟨e, hj, by simp only [mm_pgX, if_neg e]; rfl⟩)
theorem mp_u1 (H : mh_pg h a μ) (v : Nat) (hv : ∀ j, j < 6 → v.testBit j = true → (ma_b μ).testBit j = true) : ∃ h', mj_pi h a (nI 1) (nI v) = some h' ∧ mh_pg h' a (ma_p μ, v, ma_d μ, ma_n μ, ma_o μ, ma_g μ) ∧ mh_F (fun q => q = a) h h' := H.pt (by omega) v (fun j hj11 hj => by
  by_cases e : j = 1
  · subst e; exact Or.inl ⟨rfl, rfl⟩
  · refine Or.inr ⟨e, ?_, by simp only [mm_pgX, if_neg e]; rfl⟩
    rcases hj with hj | hj
    · exact Or.inl hj
    · by_cases h5 : j < 5
      · exact Or.inl h5
      · exact Or.inr (hv _ (by omega) hj))
theorem mp_u2 (H : mh_pg h a μ) (v : Nat) : ∃ h', mj_pi h a (nI 2) (nI v) = some h' ∧ mh_pg h' a (ma_p μ, ma_b μ, v, ma_n μ, ma_o μ, ma_g μ) ∧ mh_F (fun q => q = a) h h' := H.pt (by omega) v (fun j _ hj => by
  by_cases e : j = 2
  · subst e; exact Or.inl ⟨rfl, rfl⟩
  · exact Or.inr ⟨e, hj, by simp only [mm_pgX, if_neg e]; rfl⟩)
theorem mp_u3 (H : mh_pg h a μ) (v : Nat) : ∃ h', mj_pi h a (nI 3) (nI v) = some h' ∧ mh_pg h' a (ma_p μ, ma_b μ, ma_d μ, v, ma_o μ, ma_g μ) ∧ mh_F (fun q => q = a) h h' := H.pt (by omega) v (fun j _ hj => by
  by_cases e : j = 3
  · subst e; exact Or.inl ⟨rfl, rfl⟩
  · exact Or.inr ⟨e, hj, by simp only [mm_pgX, if_neg e]; rfl⟩)
theorem mp_u4 (H : mh_pg h a μ) (v : Nat) : ∃ h', mj_pi h a (nI 4) (nI v) = some h' ∧ mh_pg h' a (ma_p μ, ma_b μ, ma_d μ, ma_n μ, v, ma_g μ) ∧ mh_F (fun q => q = a) h h' := H.pt (by omega) v (fun j _ hj => by
  by_cases e : j = 4
  · subst e; exact Or.inl ⟨rfl, rfl⟩
  · exact Or.inr ⟨e, hj, by simp only [mm_pgX, if_neg e]; rfl⟩)
theorem mh_pg.kp {A : Nat → Prop} {h h' : mj_H} {a : Nat} {μ : mm_Ma} (H : mh_pg h a μ) (F : mh_F A h h') (ha : ¬ A a) : mh_pg h' a μ := mh_ap.kp H F ha
theorem mt_121 (w : mw_R ρ) (wm : mw_M ρ μ) (H : mh_RR h ρ) (G : mh_pg h a μ) {k : Nat} (hk : k < mr_n ρ) : mj_C 121 [.ref 65, .ref a, .int (nI k)] h = some (some (.int (nI (mm_ask ρ μ k))), h) := by
  have hn := w.1
  have hb := mw_b w wm
  have hP := (w.2.2.2.1 k hk)
  rw [mc_121]
  by_cases k1 : mr_K ρ k = 1
  · have e : mm_ask ρ μ k = (mr_P ρ k + 1) / 2 := by simp [mm_ask, mm_pa, k1]
    simp only [↓reduceIte, ↓mq_121_0, ↓mq_121_1, ↓mq_121_4, ↓mq_121_5, ↓mq_121_6, ↓mq_121_7, ↓mq_121_8, ↓mq_121_9, ↓mq_121_10, ↓mq_121_11, ↓mq_121_12, ↓mq_121_15, ↓mq_121_16, ↓mq_121_17, ↓mq_121_18, ↓mq_121_19, ↓mq_121_20, ↓mq_121_23, ↓mq_121_24, ↓mq_121_25, ↓mq_121_26, ↓mq_121_27, ↓mq_121_28, ↓mq_121_29, ↓mq_121_30, ↓mq_121_32, ↓mq_121_34, ↓mq_121_35, ↓mq_121_38, ↓mq_121_41, ↓mq_121_42, ↓mq_121_45, ↓mq_121_46, ↓mq_121_47, ↓mq_121_48, ↓mq_121_49, ↓mq_121_50, ↓mq_121_53, ↓mq_121_54, ↓mq_121_55, ↓mq_121_56, ↓mq_121_58, ↓mq_121_61, ↓mq_121_64, ↓mq_121_65, ↓mq_121_66, ↓mq_121_68, ↓mq_121_69, ↓mq_121_70, ↓mq_121_71, ↓mq_121_74, ↓mq_121_75, ↓mq_121_76, ↓mq_121_78, ↓mq_121_79, ↓mq_121_80, ↓mq_121_83, ↓mq_121_84, ↓mq_121_85, ↓mq_121_88, ↓mq_121_91, ↓mq_121_92, ↓mj_bs (mr_b6 H.1), mn_mul, mn_add, ↓mj_bs (mr_P4 H hn hk), ↓mj_bs (mr_K4 H hn hk), mt_eq k1, show (nI 2 = 0) = False from by decide, mn_div (show mr_P ρ k + 1 < 2 ^ 31 by omega) (show 2 < 2 ^ 31 by omega), e]
  · by_cases k2 : mr_K ρ k = 2
    · have loop : ∀ d i, i + d = mr_n ρ → mj_R 121 (32, [.ref 65, .ref a, .int (nI k), .int (nI (if mr_P ρ k < mm_max (ma_g μ) (ma_b μ) i then mm_max (ma_g μ) (ma_b μ) i else mr_P ρ k)), .int (nI i)], [], h) = some (some (.int (nI (mm_ask ρ μ k))), h) := by
        intro d
        induction d with
        | zero =>
          intro i hi
          obtain rfl : i = mr_n ρ := by omega
          have e : mm_ask ρ μ k = if mr_P ρ k < mm_max (ma_g μ) (ma_b μ) (mr_n ρ) then mm_max (ma_g μ) (ma_b μ) (mr_n ρ) else mr_P ρ k := by simp [mm_ask, mm_pa, k2]
          simp only [↓reduceIte, ↓mq_121_0, ↓mq_121_1, ↓mq_121_4, ↓mq_121_5, ↓mq_121_6, ↓mq_121_7, ↓mq_121_8, ↓mq_121_9, ↓mq_121_10, ↓mq_121_11, ↓mq_121_12, ↓mq_121_15, ↓mq_121_16, ↓mq_121_17, ↓mq_121_18, ↓mq_121_19, ↓mq_121_20, ↓mq_121_23, ↓mq_121_24, ↓mq_121_25, ↓mq_121_26, ↓mq_121_27, ↓mq_121_28, ↓mq_121_29, ↓mq_121_30, ↓mq_121_32, ↓mq_121_34, ↓mq_121_35, ↓mq_121_38, ↓mq_121_41, ↓mq_121_42, ↓mq_121_45, ↓mq_121_46, ↓mq_121_47, ↓mq_121_48, ↓mq_121_49, ↓mq_121_50, ↓mq_121_53, ↓mq_121_54, ↓mq_121_55, ↓mq_121_56, ↓mq_121_58, ↓mq_121_61, ↓mq_121_64, ↓mq_121_65, ↓mq_121_66, ↓mq_121_68, ↓mq_121_69, ↓mq_121_70, ↓mq_121_71, ↓mq_121_74, ↓mq_121_75, ↓mq_121_76, ↓mq_121_78, ↓mq_121_79, ↓mq_121_80, ↓mq_121_83, ↓mq_121_84, ↓mq_121_85, ↓mq_121_88, ↓mq_121_91, ↓mq_121_92, ↓mj_bs (mr_bn H.1), mt_le (Nat.le_refl (mr_n ρ)), e]
        | succ d ih =>
          intro i hi
          have hin : i < mr_n ρ := by omega
          have ih' := ih (i + 1) (by omega)
          rw [mm_max_acc] at ih'
          have hmx : mm_max (ma_g μ) (ma_b μ) i ≤ 99 := mm_max_le i (fun j hj hjb => wm.2.2.2.2 j (by omega) hjb)
          have hacc : (if mr_P ρ k < mm_max (ma_g μ) (ma_b μ) i then mm_max (ma_g μ) (ma_b μ) i else mr_P ρ k) ≤ 99 := by split <;> omega
          generalize hz : (if mr_P ρ k < mm_max (ma_g μ) (ma_b μ) i then mm_max (ma_g μ) (ma_b μ) i else mr_P ρ k) = z at ih' hacc ⊢
          rw [mq_121_32]
          cases hbi : (ma_b μ).testBit i
          · simp only [hbi, Bool.false_eq_true, if_false] at ih'
            simp only [↓reduceIte, ↓mq_121_0, ↓mq_121_1, ↓mq_121_4, ↓mq_121_5, ↓mq_121_6, ↓mq_121_7, ↓mq_121_8, ↓mq_121_9, ↓mq_121_10, ↓mq_121_11, ↓mq_121_12, ↓mq_121_15, ↓mq_121_16, ↓mq_121_17, ↓mq_121_18, ↓mq_121_19, ↓mq_121_20, ↓mq_121_23, ↓mq_121_24, ↓mq_121_25, ↓mq_121_26, ↓mq_121_27, ↓mq_121_28, ↓mq_121_29, ↓mq_121_30, ↓mq_121_34, ↓mq_121_35, ↓mq_121_38, ↓mq_121_41, ↓mq_121_42, ↓mq_121_45, ↓mq_121_46, ↓mq_121_47, ↓mq_121_48, ↓mq_121_49, ↓mq_121_50, ↓mq_121_53, ↓mq_121_54, ↓mq_121_55, ↓mq_121_56, ↓mq_121_58, ↓mq_121_61, ↓mq_121_64, ↓mq_121_65, ↓mq_121_66, ↓mq_121_68, ↓mq_121_69, ↓mq_121_70, ↓mq_121_71, ↓mq_121_74, ↓mq_121_75, ↓mq_121_76, ↓mq_121_78, ↓mq_121_79, ↓mq_121_80, ↓mq_121_83, ↓mq_121_84, ↓mq_121_85, ↓mq_121_88, ↓mq_121_91, ↓mq_121_92, ↓mj_bs (mr_bn H.1), mf_le hin, ↓mj_bs (mr_b6 H.1), mn_mul, ↓mj_bs (mr_K4 H hn hk), mt_eq k2, ↓mj_bs (mp_1 G), ↓mj_bs (mt_113 hb (show i < 6 by omega)), Option.toList, List.cons_append, List.nil_append, hbi, mj_b0, mn_add]
            exact ih'
          · have hg := wm.2.2.2.2 i (by omega) hbi
            simp only [hbi, if_true] at ih'
            by_cases hlt : z < ma_g μ i
            · rw [if_pos hlt] at ih'
              simp only [↓reduceIte, ↓mq_121_0, ↓mq_121_1, ↓mq_121_4, ↓mq_121_5, ↓mq_121_6, ↓mq_121_7, ↓mq_121_8, ↓mq_121_9, ↓mq_121_10, ↓mq_121_11, ↓mq_121_12, ↓mq_121_15, ↓mq_121_16, ↓mq_121_17, ↓mq_121_18, ↓mq_121_19, ↓mq_121_20, ↓mq_121_23, ↓mq_121_24, ↓mq_121_25, ↓mq_121_26, ↓mq_121_27, ↓mq_121_28, ↓mq_121_29, ↓mq_121_30, ↓mq_121_34, ↓mq_121_35, ↓mq_121_38, ↓mq_121_41, ↓mq_121_42, ↓mq_121_45, ↓mq_121_46, ↓mq_121_47, ↓mq_121_48, ↓mq_121_49, ↓mq_121_50, ↓mq_121_53, ↓mq_121_54, ↓mq_121_55, ↓mq_121_56, ↓mq_121_58, ↓mq_121_61, ↓mq_121_64, ↓mq_121_65, ↓mq_121_66, ↓mq_121_68, ↓mq_121_69, ↓mq_121_70, ↓mq_121_71, ↓mq_121_74, ↓mq_121_75, ↓mq_121_76, ↓mq_121_78, ↓mq_121_79, ↓mq_121_80, ↓mq_121_83, ↓mq_121_84, ↓mq_121_85, ↓mq_121_88, ↓mq_121_91, ↓mq_121_92, ↓mj_bs (mr_bn H.1), mf_le hin, ↓mj_bs (mr_b6 H.1), mn_mul, ↓mj_bs (mr_K4 H hn hk), mt_eq k2, ↓mj_bs (mp_1 G), ↓mj_bs (mt_113 hb (show i < 6 by omega)), Option.toList, List.cons_append, List.nil_append, hbi, mj_b0, Bool.true_eq_false, mn_add, ↓mj_bs (mp_5 G (show i < 6 by omega) hbi), mf_le hlt]
              exact ih'
            · rw [if_neg hlt] at ih'
              simp only [↓reduceIte, ↓mq_121_0, ↓mq_121_1, ↓mq_121_4, ↓mq_121_5, ↓mq_121_6, ↓mq_121_7, ↓mq_121_8, ↓mq_121_9, ↓mq_121_10, ↓mq_121_11, ↓mq_121_12, ↓mq_121_15, ↓mq_121_16, ↓mq_121_17, ↓mq_121_18, ↓mq_121_19, ↓mq_121_20, ↓mq_121_23, ↓mq_121_24, ↓mq_121_25, ↓mq_121_26, ↓mq_121_27, ↓mq_121_28, ↓mq_121_29, ↓mq_121_30, ↓mq_121_34, ↓mq_121_35, ↓mq_121_38, ↓mq_121_41, ↓mq_121_42, ↓mq_121_45, ↓mq_121_46, ↓mq_121_47, ↓mq_121_48, ↓mq_121_49, ↓mq_121_50, ↓mq_121_53, ↓mq_121_54, ↓mq_121_55, ↓mq_121_56, ↓mq_121_58, ↓mq_121_61, ↓mq_121_64, ↓mq_121_65, ↓mq_121_66, ↓mq_121_68, ↓mq_121_69, ↓mq_121_70, ↓mq_121_71, ↓mq_121_74, ↓mq_121_75, ↓mq_121_76, ↓mq_121_78, ↓mq_121_79, ↓mq_121_80, ↓mq_121_83, ↓mq_121_84, ↓mq_121_85, ↓mq_121_88, ↓mq_121_91, ↓mq_121_92, ↓mj_bs (mr_bn H.1), mf_le hin, ↓mj_bs (mr_b6 H.1), mn_mul, ↓mj_bs (mr_K4 H hn hk), mt_eq k2, ↓mj_bs (mp_1 G), ↓mj_bs (mt_113 hb (show i < 6 by omega)), Option.toList, List.cons_append, List.nil_append, hbi, mj_b0, Bool.true_eq_false, mn_add, ↓mj_bs (mp_5 G (show i < 6 by omega) hbi), mt_le (Nat.le_of_not_lt hlt)]
              exact ih'
      have := loop (mr_n ρ) 0 (by omega)
      simp only [mm_max, Nat.not_lt_zero, if_false] at this
      simp only [↓reduceIte, ↓mq_121_0, ↓mq_121_1, ↓mq_121_4, ↓mq_121_5, ↓mq_121_6, ↓mq_121_7, ↓mq_121_8, ↓mq_121_9, ↓mq_121_10, ↓mq_121_11, ↓mq_121_12, ↓mq_121_15, ↓mq_121_16, ↓mq_121_17, ↓mq_121_18, ↓mq_121_19, ↓mq_121_20, ↓mq_121_23, ↓mq_121_24, ↓mq_121_25, ↓mq_121_26, ↓mq_121_27, ↓mq_121_28, ↓mq_121_29, ↓mq_121_30, ↓mq_121_34, ↓mq_121_35, ↓mq_121_38, ↓mq_121_41, ↓mq_121_42, ↓mq_121_45, ↓mq_121_46, ↓mq_121_47, ↓mq_121_48, ↓mq_121_49, ↓mq_121_50, ↓mq_121_53, ↓mq_121_54, ↓mq_121_55, ↓mq_121_56, ↓mq_121_58, ↓mq_121_61, ↓mq_121_64, ↓mq_121_65, ↓mq_121_66, ↓mq_121_68, ↓mq_121_69, ↓mq_121_70, ↓mq_121_71, ↓mq_121_74, ↓mq_121_75, ↓mq_121_76, ↓mq_121_78, ↓mq_121_79, ↓mq_121_80, ↓mq_121_83, ↓mq_121_84, ↓mq_121_85, ↓mq_121_88, ↓mq_121_91, ↓mq_121_92, ↓mj_bs (mr_b6 H.1), mn_mul, mn_add, ↓mj_bs (mr_P4 H hn hk), ↓mj_bs (mr_K4 H hn hk), mf_eq k1]
      exact this
    · have e : mm_ask ρ μ k = mr_P ρ k := by simp [mm_ask, mm_pa, k1, k2]
      simp only [↓reduceIte, ↓mq_121_0, ↓mq_121_1, ↓mq_121_4, ↓mq_121_5, ↓mq_121_6, ↓mq_121_7, ↓mq_121_8, ↓mq_121_9, ↓mq_121_10, ↓mq_121_11, ↓mq_121_12, ↓mq_121_15, ↓mq_121_16, ↓mq_121_17, ↓mq_121_18, ↓mq_121_19, ↓mq_121_20, ↓mq_121_23, ↓mq_121_24, ↓mq_121_25, ↓mq_121_26, ↓mq_121_27, ↓mq_121_28, ↓mq_121_29, ↓mq_121_30, ↓mq_121_32, ↓mq_121_34, ↓mq_121_35, ↓mq_121_38, ↓mq_121_41, ↓mq_121_42, ↓mq_121_45, ↓mq_121_46, ↓mq_121_47, ↓mq_121_48, ↓mq_121_49, ↓mq_121_50, ↓mq_121_53, ↓mq_121_54, ↓mq_121_55, ↓mq_121_56, ↓mq_121_58, ↓mq_121_61, ↓mq_121_64, ↓mq_121_65, ↓mq_121_66, ↓mq_121_68, ↓mq_121_69, ↓mq_121_70, ↓mq_121_71, ↓mq_121_74, ↓mq_121_75, ↓mq_121_76, ↓mq_121_78, ↓mq_121_79, ↓mq_121_80, ↓mq_121_83, ↓mq_121_84, ↓mq_121_85, ↓mq_121_88, ↓mq_121_91, ↓mq_121_92, ↓mj_bs (mr_b6 H.1), mn_mul, mn_add, ↓mj_bs (mr_P4 H hn hk), ↓mj_bs (mr_K4 H hn hk), mf_eq k1, ↓mj_bs (mr_bn H.1), mf_le (show 0 < mr_n ρ by omega), mf_eq k2, e]
theorem mt_125 (w : mw_R ρ) (wm : mw_M ρ μ) (H : mh_RR h ρ) (G : mh_pg h a μ) : mj_C 125 [.ref 65, .ref a] h = some (some (.int (mj_bI (mm_can ρ μ))), h) := by
  have hn := w.1
  have hp := wm.1
  rw [mc_125]
  by_cases hc : ma_n μ < mr_n ρ
  · have h9 := mm_ask99 w wm hc
    by_cases hq : mm_ask ρ μ (ma_n μ) ≤ ma_p μ
    · simp only [↓reduceIte, ↓mq_125_0, ↓mq_125_1, ↓mq_125_2, ↓mq_125_3, ↓mq_125_4, ↓mq_125_7, ↓mq_125_10, ↓mq_125_11, ↓mq_125_12, ↓mq_125_13, ↓mq_125_14, ↓mq_125_15, ↓mq_125_18, ↓mq_125_19, ↓mq_125_20, ↓mq_125_21, ↓mq_125_24, ↓mq_125_25, ↓mq_125_28, ↓mq_125_29, ↓mj_bs (mp_3 G), ↓mj_bs (mr_bn H.1), mf_le hc, mr_is H.1, ↓mj_bs (mt_121 w wm H G hc), Option.toList, List.cons_append, List.nil_append, ↓mj_bs (mp_0 G), mf_lt hq, mj_z1]
      simp [mm_can, mm_has, hc, hq, mj_bI]
    · simp only [↓reduceIte, ↓mq_125_0, ↓mq_125_1, ↓mq_125_2, ↓mq_125_3, ↓mq_125_4, ↓mq_125_7, ↓mq_125_10, ↓mq_125_11, ↓mq_125_12, ↓mq_125_13, ↓mq_125_14, ↓mq_125_15, ↓mq_125_18, ↓mq_125_19, ↓mq_125_20, ↓mq_125_21, ↓mq_125_24, ↓mq_125_25, ↓mq_125_28, ↓mq_125_29, ↓mj_bs (mp_3 G), ↓mj_bs (mr_bn H.1), mf_le hc, mr_is H.1, ↓mj_bs (mt_121 w wm H G hc), Option.toList, List.cons_append, List.nil_append, ↓mj_bs (mp_0 G), mt_lt (Nat.lt_of_not_le hq), mj_z0]
      simp [mm_can, mm_has, hc, hq, mj_bI]
  · simp only [↓reduceIte, ↓mq_125_0, ↓mq_125_1, ↓mq_125_2, ↓mq_125_3, ↓mq_125_4, ↓mq_125_7, ↓mq_125_10, ↓mq_125_11, ↓mq_125_12, ↓mq_125_13, ↓mq_125_14, ↓mq_125_15, ↓mq_125_18, ↓mq_125_19, ↓mq_125_20, ↓mq_125_21, ↓mq_125_24, ↓mq_125_25, ↓mq_125_28, ↓mq_125_29, ↓mj_bs (mp_3 G), ↓mj_bs (mr_bn H.1), mt_le (Nat.le_of_not_lt hc) (show ma_n μ < 2 ^ 31 by have := wm.2.2.1; omega), mj_z0]
    simp [mm_can, mm_has, hc, mj_bI]
theorem mt_133 (w : mw_R ρ) (H : mh_RR h ρ) {s g : Nat} (hs : s < 64) (hg : g < mr_g ρ) : mj_C 133 [.ref 65, .int (nI s), .int (nI g)] h = some (some (.int (mj_bI (mm_opens ρ s g))), h) := by
  have h3 := w.2.1
  have hsk := mm_sk64 w s
  have hS := mm_S54 w s
  have hgS := w.2.2.2.2 g hg
  rw [mc_133]
  cases hb : (mm_or (fun k => 2 ^ mr_W ρ k) s (mr_n ρ)).testBit (mr_gS ρ g)
  · simp only [↓reduceIte, ↓mq_133_0, ↓mq_133_1, ↓mq_133_2, ↓mq_133_5, ↓mq_133_6, ↓mq_133_9, ↓mq_133_10, ↓mq_133_11, ↓mq_133_12, ↓mq_133_13, ↓mq_133_16, ↓mq_133_19, ↓mq_133_20, ↓mq_133_21, ↓mq_133_24, ↓mq_133_25, ↓mq_133_28, ↓mq_133_29, ↓mq_133_30, ↓mq_133_31, ↓mq_133_32, ↓mq_133_33, ↓mq_133_34, ↓mq_133_37, ↓mq_133_38, ↓mq_133_41, ↓mq_133_42, mr_is H.1, ↓mj_bs (mt_118 w H hs), Option.toList, List.cons_append, List.nil_append, ↓mj_bs (mr_b8 H.1), mn_mul, ↓mj_bs (mr_s2 H h3 hg), ↓mj_bs (mt_113 hsk (show mr_gS ρ g < 6 by omega)), hb, mj_b0, mj_z0]
    simp [mm_opens, hb, mj_bI]
  · by_cases hc : mr_gW ρ g ≤ mm_sum (mr_S ρ) s (mr_n ρ)
    · simp only [↓reduceIte, ↓mq_133_0, ↓mq_133_1, ↓mq_133_2, ↓mq_133_5, ↓mq_133_6, ↓mq_133_9, ↓mq_133_10, ↓mq_133_11, ↓mq_133_12, ↓mq_133_13, ↓mq_133_16, ↓mq_133_19, ↓mq_133_20, ↓mq_133_21, ↓mq_133_24, ↓mq_133_25, ↓mq_133_28, ↓mq_133_29, ↓mq_133_30, ↓mq_133_31, ↓mq_133_32, ↓mq_133_33, ↓mq_133_34, ↓mq_133_37, ↓mq_133_38, ↓mq_133_41, ↓mq_133_42, mr_is H.1, ↓mj_bs (mt_118 w H hs), Option.toList, List.cons_append, List.nil_append, ↓mj_bs (mr_b8 H.1), mn_mul, ↓mj_bs (mr_s2 H h3 hg), ↓mj_bs (mt_113 hsk (show mr_gS ρ g < 6 by omega)), hb, mj_b0, Bool.true_eq_false, ↓mj_bs (mt_117 w H hs), mn_add, ↓mj_bs (mr_w2 H h3 hg), mf_lt hc, mj_z1]
      simp [mm_opens, hb, hc, mj_bI]
    · simp only [↓reduceIte, ↓mq_133_0, ↓mq_133_1, ↓mq_133_2, ↓mq_133_5, ↓mq_133_6, ↓mq_133_9, ↓mq_133_10, ↓mq_133_11, ↓mq_133_12, ↓mq_133_13, ↓mq_133_16, ↓mq_133_19, ↓mq_133_20, ↓mq_133_21, ↓mq_133_24, ↓mq_133_25, ↓mq_133_28, ↓mq_133_29, ↓mq_133_30, ↓mq_133_31, ↓mq_133_32, ↓mq_133_33, ↓mq_133_34, ↓mq_133_37, ↓mq_133_38, ↓mq_133_41, ↓mq_133_42, mr_is H.1, ↓mj_bs (mt_118 w H hs), Option.toList, List.cons_append, List.nil_append, ↓mj_bs (mr_b8 H.1), mn_mul, ↓mj_bs (mr_s2 H h3 hg), ↓mj_bs (mt_113 hsk (show mr_gS ρ g < 6 by omega)), hb, mj_b0, Bool.true_eq_false, ↓mj_bs (mt_117 w H hs), mn_add, ↓mj_bs (mr_w2 H h3 hg), mt_lt (Nat.lt_of_not_le hc), mj_z0]
      simp [mm_opens, hb, hc, mj_bI]
theorem mt_132 (w : mw_R ρ) (wm : mw_M ρ μ) (H : mh_RR h ρ) (G : mh_pg h a μ) : mj_C 132 [.ref 65, .ref a] h = some (some (.int (mj_bI (mm_cul ρ μ))), h) := by
  have h3 := w.2.1
  have hb := mw_b w wm
  rw [mc_132]
  by_cases hc : ma_o μ < mr_g ρ
  · cases hq : mm_opens ρ (ma_b μ) (ma_o μ)
    · simp only [↓reduceIte, ↓mq_132_0, ↓mq_132_1, ↓mq_132_2, ↓mq_132_3, ↓mq_132_4, ↓mq_132_7, ↓mq_132_10, ↓mq_132_11, ↓mq_132_12, ↓mq_132_13, ↓mq_132_14, ↓mq_132_15, ↓mq_132_16, ↓mq_132_17, ↓mq_132_20, ↓mq_132_23, ↓mq_132_24, ↓mq_132_27, ↓mq_132_28, ↓mj_bs (mp_4 G), ↓mj_bs (mr_bg H.1), mf_le hc, mr_is H.1, ↓mj_bs (mp_1 G), ↓mj_bs (mt_133 w H hb hc), Option.toList, List.cons_append, List.nil_append, hq, mj_b0, mj_z0]
      simp [mm_cul, hc, hq, mj_bI]
    · simp only [↓reduceIte, ↓mq_132_0, ↓mq_132_1, ↓mq_132_2, ↓mq_132_3, ↓mq_132_4, ↓mq_132_7, ↓mq_132_10, ↓mq_132_11, ↓mq_132_12, ↓mq_132_13, ↓mq_132_14, ↓mq_132_15, ↓mq_132_16, ↓mq_132_17, ↓mq_132_20, ↓mq_132_23, ↓mq_132_24, ↓mq_132_27, ↓mq_132_28, ↓mj_bs (mp_4 G), ↓mj_bs (mr_bg H.1), mf_le hc, mr_is H.1, ↓mj_bs (mp_1 G), ↓mj_bs (mt_133 w H hb hc), Option.toList, List.cons_append, List.nil_append, hq, mj_b0, Bool.true_eq_false, mj_z1]
      simp [mm_cul, hc, hq, mj_bI]
  · simp only [↓reduceIte, ↓mq_132_0, ↓mq_132_1, ↓mq_132_2, ↓mq_132_3, ↓mq_132_4, ↓mq_132_7, ↓mq_132_10, ↓mq_132_11, ↓mq_132_12, ↓mq_132_13, ↓mq_132_14, ↓mq_132_15, ↓mq_132_16, ↓mq_132_17, ↓mq_132_20, ↓mq_132_23, ↓mq_132_24, ↓mq_132_27, ↓mq_132_28, ↓mj_bs (mp_4 G), ↓mj_bs (mr_bg H.1), mt_le (Nat.le_of_not_lt hc) (show ma_o μ < 2 ^ 31 by have := wm.2.2.2.1; omega), mj_z0]
    simp [mm_cul, hc, mj_bI]
theorem mt_149 (w : mw_R ρ) (wm : mw_M ρ μ) (H : mh_RR h ρ) (G : mh_pg h 73 μ) {k g : Nat} (hk : k < mr_n ρ) (hg : g < mr_g ρ) : mj_C 149 [.ref 65, .int (nI k), .int (nI g)] h = some (some (.int (mj_bI ((ma_b μ).testBit k && decide (mr_W ρ k = mr_gS ρ g)))), h) := by
  have hn := w.1
  have h3 := w.2.1
  have hb := mw_b w wm
  have hW := (w.2.2.2.1 k hk).2.2.2.2.2.1
  have hgS := (w.2.2.2.2 g hg).1
  rw [mc_149]
  cases hbk : (ma_b μ).testBit k
  · simp only [↓reduceIte, ↓mq_149_0, ↓mq_149_1, ↓mq_149_4, ↓mq_149_5, ↓mq_149_6, ↓mq_149_7, ↓mq_149_10, ↓mq_149_13, ↓mq_149_14, ↓mq_149_17, ↓mq_149_18, ↓mq_149_19, ↓mq_149_20, ↓mq_149_21, ↓mq_149_22, ↓mq_149_23, ↓mq_149_24, ↓mq_149_27, ↓mq_149_28, ↓mq_149_29, ↓mq_149_30, ↓mq_149_31, ↓mq_149_34, ↓mq_149_35, ↓mq_149_38, ↓mq_149_39, ↓mj_bs (mr_b15 H.1), ↓mj_bs (mp_1 G), ↓mj_bs (mt_113 hb (show k < 6 by omega)), Option.toList, List.cons_append, List.nil_append, hbk, mj_b0, mj_z0]
    simp [mj_bI]
  · by_cases hc : mr_W ρ k = mr_gS ρ g
    · simp only [↓reduceIte, ↓mq_149_0, ↓mq_149_1, ↓mq_149_4, ↓mq_149_5, ↓mq_149_6, ↓mq_149_7, ↓mq_149_10, ↓mq_149_13, ↓mq_149_14, ↓mq_149_17, ↓mq_149_18, ↓mq_149_19, ↓mq_149_20, ↓mq_149_21, ↓mq_149_22, ↓mq_149_23, ↓mq_149_24, ↓mq_149_27, ↓mq_149_28, ↓mq_149_29, ↓mq_149_30, ↓mq_149_31, ↓mq_149_34, ↓mq_149_35, ↓mq_149_38, ↓mq_149_39, ↓mj_bs (mr_b15 H.1), ↓mj_bs (mp_1 G), ↓mj_bs (mt_113 hb (show k < 6 by omega)), Option.toList, List.cons_append, List.nil_append, hbk, mj_b0, Bool.true_eq_false, ↓mj_bs (mr_b6 H.1), mn_mul, mn_add, ↓mj_bs (mr_W4 H hn hk), ↓mj_bs (mr_b8 H.1), ↓mj_bs (mr_s2 H h3 hg), mt_eq hc, mj_z1]
      simp [hc, mj_bI]
    · simp only [↓reduceIte, ↓mq_149_0, ↓mq_149_1, ↓mq_149_4, ↓mq_149_5, ↓mq_149_6, ↓mq_149_7, ↓mq_149_10, ↓mq_149_13, ↓mq_149_14, ↓mq_149_17, ↓mq_149_18, ↓mq_149_19, ↓mq_149_20, ↓mq_149_21, ↓mq_149_22, ↓mq_149_23, ↓mq_149_24, ↓mq_149_27, ↓mq_149_28, ↓mq_149_29, ↓mq_149_30, ↓mq_149_31, ↓mq_149_34, ↓mq_149_35, ↓mq_149_38, ↓mq_149_39, ↓mj_bs (mr_b15 H.1), ↓mj_bs (mp_1 G), ↓mj_bs (mt_113 hb (show k < 6 by omega)), Option.toList, List.cons_append, List.nil_append, hbk, mj_b0, Bool.true_eq_false, ↓mj_bs (mr_b6 H.1), mn_mul, mn_add, ↓mj_bs (mr_W4 H hn hk), ↓mj_bs (mr_b8 H.1), ↓mj_bs (mr_s2 H h3 hg), mf_eq hc, mj_z0]
      simp [hc, mj_bI]
/-- one's share -/
def mm_share (ρ : mm_Ro) (μ : mm_Ma) (k t : Nat) : Nat := if (ma_b μ).testBit k = true then t * mr_S ρ k / mm_sum (mr_S ρ) (ma_b μ) (mr_n ρ) else 0
theorem mm_sum_in {X : Nat → Nat} {s j : Nat} : ∀ n, j < n → s.testBit j = true → X j ≤ mm_sum X s n := by
  intro n
  induction n with
  | zero => intro hj; omega
  | succ n ih =>
    intro hj hb
    simp only [mm_sum]
    by_cases e : j = n
    · subst e; rw [if_pos hb]; omega
    · have := ih (by omega) hb; omega
theorem mm_share_le {t k : Nat} (ht : t ≤ 99) (hS : mr_S ρ k ≤ 9) : mm_share ρ μ k t ≤ 891 := by
  unfold mm_share
  split
  · refine Nat.le_trans (Nat.div_le_self _ _) ?_
    calc t * mr_S ρ k ≤ 99 * 9 := Nat.mul_le_mul ht hS
      _ = 891 := rfl
  · omega
theorem mt_156 (w : mw_R ρ) (wm : mw_M ρ μ) (H : mh_RR h ρ) (G : mh_pg h 73 μ) {k t : Nat} (hk : k < mr_n ρ) (ht : t ≤ 99) : mj_C 156 [.ref 65, .int (nI k), .int (nI t)] h = some (some (.int (nI (mm_share ρ μ k t))), h) := by
  have hn := w.1
  have hb := mw_b w wm
  have hS := (w.2.2.2.1 k hk)
  have h54 := mm_S54 w (ma_b μ)
  rw [mc_156]
  cases hbk : (ma_b μ).testBit k
  · simp only [↓reduceIte, ↓mq_156_0, ↓mq_156_1, ↓mq_156_4, ↓mq_156_5, ↓mq_156_6, ↓mq_156_7, ↓mq_156_10, ↓mq_156_13, ↓mq_156_14, ↓mq_156_15, ↓mq_156_18, ↓mq_156_19, ↓mq_156_20, ↓mq_156_21, ↓mq_156_22, ↓mq_156_23, ↓mq_156_24, ↓mq_156_25, ↓mq_156_26, ↓mq_156_27, ↓mq_156_30, ↓mq_156_31, ↓mq_156_32, ↓mq_156_35, ↓mq_156_36, ↓mq_156_39, ↓mq_156_40, ↓mj_bs (mr_b15 H.1), ↓mj_bs (mp_1 G), ↓mj_bs (mt_113 hb (show k < 6 by omega)), Option.toList, List.cons_append, List.nil_append, hbk, mj_b0]
    simp [mm_share, hbk]
  · have hpos := mm_sum_in (X := mr_S ρ) (mr_n ρ) hk hbk
    have hmul : t * mr_S ρ k ≤ 99 * 9 := Nat.mul_le_mul ht hS.2.2.2.2.1
    have hz : (nI (mm_sum (mr_S ρ) (ma_b μ) (mr_n ρ)) = 0) = False := mf_eq (b := 0) (by omega)
    simp only [↓reduceIte, ↓mq_156_0, ↓mq_156_1, ↓mq_156_4, ↓mq_156_5, ↓mq_156_6, ↓mq_156_7, ↓mq_156_10, ↓mq_156_13, ↓mq_156_14, ↓mq_156_15, ↓mq_156_18, ↓mq_156_19, ↓mq_156_20, ↓mq_156_21, ↓mq_156_22, ↓mq_156_23, ↓mq_156_24, ↓mq_156_25, ↓mq_156_26, ↓mq_156_27, ↓mq_156_30, ↓mq_156_31, ↓mq_156_32, ↓mq_156_35, ↓mq_156_36, ↓mq_156_39, ↓mq_156_40, ↓mj_bs (mr_b15 H.1), ↓mj_bs (mp_1 G), ↓mj_bs (mt_113 hb (show k < 6 by omega)), Option.toList, List.cons_append, List.nil_append, hbk, mj_b0, Bool.true_eq_false, ↓mj_bs (mr_b6 H.1), mn_mul, mn_add, ↓mj_bs (mr_S4 H hn hk), mr_is H.1, ↓mj_bs (mt_117 w H hb), hz, mn_div (show t * mr_S ρ k < 2 ^ 31 by omega) (show mm_sum (mr_S ρ) (ma_b μ) (mr_n ρ) < 2 ^ 31 by omega)]
    simp [mm_share, hbk]
/-- a row copied whole -/
theorem mt_138 (H : mh_Rb h ρ) (G : mh_pg h 73 μ) {ft : Nat → Int32} (T : mh_ar h 74 11 ft) : ∃ h', mj_C 138 [.ref 65] h = some (none, h') ∧ mh_pg h' 74 μ ∧ mh_F (fun k => k = 74) h h' := by
  obtain ⟨f, G1, G2⟩ := G
  have loop : ∀ d i hk fk, i + d = 11 → mh_ar hk 74 11 fk → (∀ j, j < i → fk j = f j) → mh_F (fun x => x = 74) h hk → ∃ h', mj_R 138 (2, [.ref 65, .int (nI i)], [], hk) = some (none, h') ∧ mh_ar h' 74 11 f ∧ mh_F (fun x => x = 74) h h' := by
    intro d
    induction d with
    | zero =>
      intro i hk fk hi ha hf hF
      obtain rfl : i = 11 := by omega
      exact ⟨hk, by simp only [↓reduceIte, ↓mq_138_0, ↓mq_138_1, ↓mq_138_2, ↓mq_138_3, ↓mq_138_5, ↓mq_138_8, ↓mq_138_9, ↓mq_138_12, ↓mq_138_13, ↓mq_138_14, ↓mq_138_17, ↓mq_138_18, ↓mq_138_19, ↓mq_138_20, ↓mq_138_23, ↓mq_138_26, mt_le (Nat.le_refl 11)], ha.cg hf, hF⟩
    | succ d ih =>
      intro i hk fk hi ha hf hF
      have hO := H.kp hF (by omega)
      have hG := G1.kp hF (by omega)
      obtain ⟨h6, e6, a6, F6⟩ := ha.pt (show i < 11 by omega) (by omega) (f i)
      obtain ⟨h', r1, r2, r3⟩ := ih (i + 1) h6 _ (by omega) a6 (fun j hj => by
        by_cases e : j = i
        · subst e; exact mh_u_at
        · rw [mh_u_ne e]; exact hf j (by omega)) (hF.tt F6)
      refine ⟨h', ?_, r2, r3⟩
      rw [mq_138_2]
      simp only [↓reduceIte, ↓mq_138_0, ↓mq_138_1, ↓mq_138_3, ↓mq_138_5, ↓mq_138_8, ↓mq_138_9, ↓mq_138_12, ↓mq_138_13, ↓mq_138_14, ↓mq_138_17, ↓mq_138_18, ↓mq_138_19, ↓mq_138_20, ↓mq_138_23, ↓mq_138_26, mf_le (show i < 11 by omega), ↓mj_bs (mr_b15 hO), ↓mj_bs (mr_b16 hO), ↓mj_bs (hG.gt (show i < 11 by omega) (by omega)), ↓mj_bs (e6), mn_add]
      exact r1
  obtain ⟨h', r1, r2, r3⟩ := loop 11 0 h ft (by omega) T (fun j hj => by omega) mh_F.rf
  refine ⟨h', ?_, ⟨f, r2, G2⟩, r3⟩
  rw [mc_138]
  simp only [↓reduceIte, ↓mq_138_0, ↓mq_138_1, ↓mq_138_3, ↓mq_138_5, ↓mq_138_8, ↓mq_138_9, ↓mq_138_12, ↓mq_138_13, ↓mq_138_14, ↓mq_138_17, ↓mq_138_18, ↓mq_138_19, ↓mq_138_20, ↓mq_138_23, ↓mq_138_26]
  exact r1
end
