/-! A TAKING -/
def mm_tk (ρ : mm_Ro) (set : Nat) : Nat → mm_Ma → Option mm_Ma
  | 0, μ => some μ
  | d + 1, μ => if set.testBit (ma_n μ) = true then (if mm_can ρ μ = true then mm_tk ρ set d (mm_come ρ μ) else none) else mm_tk ρ set d (mm_skip μ)
def mm_ol (ρ : mm_Ro) : Nat → mm_Ma → mm_Ma
  | 0, μ => μ
  | d + 1, μ => if mm_cul ρ μ = true then mm_ol ρ d (mm_unl μ) else μ
def mm_tko (ρ : mm_Ro) (μ : mm_Ma) (set : Nat) : Option mm_Ma := (mm_tk ρ set (mr_n ρ - ma_n μ) μ).map (mm_ol ρ (mr_g ρ))
def mm_cv (p : Nat) (o : Option mm_Ma) : Int32 := match o with
  | some ν => nI (p - ma_p ν)
  | none => -9
theorem mm_ol_p {ρ : mm_Ro} : ∀ d μ, ma_p (mm_ol ρ d μ) = ma_p μ := by
  intro d
  induction d with
  | zero => intro μ; rfl
  | succ d ih =>
    intro μ
    simp only [mm_ol]
    split
    · rw [ih]; rfl
    · rfl
theorem mw_ol {ρ : mm_Ro} (w : mw_R ρ) : ∀ d μ, mw_M ρ μ → mw_M ρ (mm_ol ρ d μ) := by
  intro d
  induction d with
  | zero => intro μ h; exact h
  | succ d ih =>
    intro μ h
    simp only [mm_ol]
    split
    · rename_i hc
      exact ih _ (mw_unl h hc)
    · exact h
theorem mm_tk_p {ρ : mm_Ro} {set : Nat} : ∀ d μ ν, mm_tk ρ set d μ = some ν → ma_p ν ≤ ma_p μ := by
  intro d
  induction d with
  | zero => intro μ ν h; cases h; exact Nat.le_refl _
  | succ d ih =>
    intro μ ν h
    simp only [mm_tk] at h
    split at h
    · split at h
      · have := ih _ _ h
        exact Nat.le_trans this (Nat.sub_le _ _)
      · cases h
    · exact ih (mm_skip μ) ν h
section
variable {S : mm_St} {h h' : mj_H}
theorem mt_74 (w : mw_S S) (C : mh_JC S h) {s : Nat} (hs : s < 64) : ∃ h' ν, mj_C 74 [.ref 1, .int (nI s)] h = some (some (.int (mm_cv (ma_p (ms_m S)) (mm_tko (ms_r S) (ms_m S) s))), h') ∧ mh_Ma h' 22 4 ν ∧ mh_F (mh_A 22 23) h h' ∧ mw_M (ms_r S) ν ∧ ∀ ξ, mm_tko (ms_r S) (ms_m S) s = some ξ → ν = ξ := by
  have wr := w.2.2.1
  have wm := w.2.2.2.1
  have hn9 := wr.1
  have hg9 := wr.2.1
  obtain ⟨o1, -, Ro, -, M, ⟨μt, T⟩, -⟩ := C
  obtain ⟨h1, e1, T1, F1⟩ := mt_17 T M (by omega) (by omega) (by omega)
  have F1' : mh_F (mh_A 22 23) h h1 := F1
  have no : ∀ k, k < 22 → ¬ mh_A 22 23 k := fun k hk z => by have := z.1; omega
  have gates : ∀ d i hk (μ : mm_Ma), i + d = mr_g (ms_r S) → mw_M (ms_r S) μ → ma_p μ ≤ ma_p (ms_m S) → mh_Ma hk 22 4 μ → mh_F (mh_A 22 23) h hk → ∃ h', mj_R 74 (80, [.ref 1, .int (nI s), .int (nI i)], [], hk) = some (some (.int (nI (ma_p (ms_m S) - ma_p (mm_ol (ms_r S) d μ)))), h') ∧ mh_Ma h' 22 4 (mm_ol (ms_r S) d μ) ∧ mh_F (mh_A 22 23) h h' := by
    intro d
    induction d with
    | zero =>
      intro i hk μ hi wμ hp G F
      obtain rfl : i = mr_g (ms_r S) := by omega
      have ok := (F.2 1 (no _ (by omega))).trans o1
      have Rk := Ro.kp F (fun k a b => no k (by omega))
      have Mk := M.kp F (no _ (by omega)) (no _ (by omega))
      refine ⟨hk, ?_, G, F⟩
      simp only [↓reduceIte, ↓mq_74_0, ↓mq_74_1, ↓mq_74_4, ↓mq_74_5, ↓mq_74_8, ↓mq_74_11, ↓mq_74_12, ↓mq_74_15, ↓mq_74_18, ↓mq_74_19, ↓mq_74_20, ↓mq_74_21, ↓mq_74_24, ↓mq_74_27, ↓mq_74_30, ↓mq_74_31, ↓mq_74_32, ↓mq_74_33, ↓mq_74_34, ↓mq_74_35, ↓mq_74_38, ↓mq_74_39, ↓mq_74_42, ↓mq_74_45, ↓mq_74_48, ↓mq_74_49, ↓mq_74_52, ↓mq_74_55, ↓mq_74_58, ↓mq_74_59, ↓mq_74_62, ↓mq_74_65, ↓mq_74_66, ↓mq_74_69, ↓mq_74_71, ↓mq_74_72, ↓mq_74_75, ↓mq_74_78, ↓mq_74_79, ↓mq_74_80, ↓mq_74_81, ↓mq_74_82, ↓mq_74_85, ↓mq_74_88, ↓mq_74_91, ↓mq_74_92, ↓mq_74_95, ↓mq_74_98, ↓mq_74_101, ↓mq_74_102, ↓mq_74_105, ↓mq_74_108, ↓mq_74_109, ↓mq_74_112, ↓mq_74_115, ↓mq_74_116, ↓mq_74_119, ↓mq_74_122, ↓mq_74_123, ↓mq_74_126, ↓mq_74_129, ↓mq_74_130, ↓mj_bs (mh_gf 1 ok rfl), ↓mj_bs (mh_gf 2 Rk.1 rfl), mt_le (Nat.le_refl (mr_g (ms_r S))), ↓mj_bs (mh_gf 3 ok rfl), ↓mj_bs (mh_gf 1 Mk.1 rfl), ↓mj_bs (mh_gf 4 ok rfl), ↓mj_bs (mh_gf 1 G.1 rfl), mn_sub hp, mm_ol]
    | succ d ih =>
      intro i hk μ hi wμ hp G F
      have ok := (F.2 1 (no _ (by omega))).trans o1
      have Rk := Ro.kp F (fun k a b => no k (by omega))
      have Mk := M.kp F (no _ (by omega)) (no _ (by omega))
      have hig : i < mr_g (ms_r S) := by omega
      rw [mq_74_80]
      cases hc : mm_cul (ms_r S) μ
      · refine ⟨hk, ?_, by simp only [mm_ol, hc, Bool.false_eq_true, if_false]; exact G, F⟩
        simp only [↓reduceIte, ↓mq_74_0, ↓mq_74_1, ↓mq_74_4, ↓mq_74_5, ↓mq_74_8, ↓mq_74_11, ↓mq_74_12, ↓mq_74_15, ↓mq_74_18, ↓mq_74_19, ↓mq_74_20, ↓mq_74_21, ↓mq_74_24, ↓mq_74_27, ↓mq_74_30, ↓mq_74_31, ↓mq_74_32, ↓mq_74_33, ↓mq_74_34, ↓mq_74_35, ↓mq_74_38, ↓mq_74_39, ↓mq_74_42, ↓mq_74_45, ↓mq_74_48, ↓mq_74_49, ↓mq_74_52, ↓mq_74_55, ↓mq_74_58, ↓mq_74_59, ↓mq_74_62, ↓mq_74_65, ↓mq_74_66, ↓mq_74_69, ↓mq_74_71, ↓mq_74_72, ↓mq_74_75, ↓mq_74_78, ↓mq_74_79, ↓mq_74_81, ↓mq_74_82, ↓mq_74_85, ↓mq_74_88, ↓mq_74_91, ↓mq_74_92, ↓mq_74_95, ↓mq_74_98, ↓mq_74_101, ↓mq_74_102, ↓mq_74_105, ↓mq_74_108, ↓mq_74_109, ↓mq_74_112, ↓mq_74_115, ↓mq_74_116, ↓mq_74_119, ↓mq_74_122, ↓mq_74_123, ↓mq_74_126, ↓mq_74_129, ↓mq_74_130, ↓mj_bs (mh_gf 1 ok rfl), ↓mj_bs (mh_gf 2 Rk.1 rfl), mf_le hig, ↓mj_bs (mh_gf 4 ok rfl), mh_isC G.1, ↓mj_bs (mt_22 wr wμ Rk G), Option.toList, List.cons_append, List.nil_append, hc, mj_b0, ↓mj_bs (mh_gf 3 ok rfl), ↓mj_bs (mh_gf 1 Mk.1 rfl), ↓mj_bs (mh_gf 1 G.1 rfl), mn_sub hp, mm_ol, Bool.false_eq_true]
      · obtain ⟨g, f, G2, F2⟩ := mt_23 G
        have F2' : mh_F (mh_A 22 23) hk g := F2.mo (fun k z => by subst z; exact ⟨by omega, by omega⟩)
        obtain ⟨h', r1, r2, r3⟩ := ih (i + 1) g _ (by omega) (mw_unl wμ hc) hp G2 (F.tt F2')
        refine ⟨h', ?_, by simp only [mm_ol, hc, if_true]; exact r2, r3⟩
        have ok2 := (F2.2 1 (by omega)).trans ok
        simp only [↓reduceIte, ↓mq_74_0, ↓mq_74_1, ↓mq_74_4, ↓mq_74_5, ↓mq_74_8, ↓mq_74_11, ↓mq_74_12, ↓mq_74_15, ↓mq_74_18, ↓mq_74_19, ↓mq_74_20, ↓mq_74_21, ↓mq_74_24, ↓mq_74_27, ↓mq_74_30, ↓mq_74_31, ↓mq_74_32, ↓mq_74_33, ↓mq_74_34, ↓mq_74_35, ↓mq_74_38, ↓mq_74_39, ↓mq_74_42, ↓mq_74_45, ↓mq_74_48, ↓mq_74_49, ↓mq_74_52, ↓mq_74_55, ↓mq_74_58, ↓mq_74_59, ↓mq_74_62, ↓mq_74_65, ↓mq_74_66, ↓mq_74_69, ↓mq_74_71, ↓mq_74_72, ↓mq_74_75, ↓mq_74_78, ↓mq_74_79, ↓mq_74_81, ↓mq_74_82, ↓mq_74_85, ↓mq_74_88, ↓mq_74_91, ↓mq_74_92, ↓mq_74_95, ↓mq_74_98, ↓mq_74_101, ↓mq_74_102, ↓mq_74_105, ↓mq_74_108, ↓mq_74_109, ↓mq_74_112, ↓mq_74_115, ↓mq_74_116, ↓mq_74_119, ↓mq_74_122, ↓mq_74_123, ↓mq_74_126, ↓mq_74_129, ↓mq_74_130, ↓mj_bs (mh_gf 1 ok rfl), ↓mj_bs (mh_gf 2 Rk.1 rfl), mf_le hig, ↓mj_bs (mh_gf 4 ok rfl), mh_isC G.1, ↓mj_bs (mt_22 wr wμ Rk G), Option.toList, List.cons_append, List.nil_append, hc, mj_b0, Bool.true_eq_false, ↓mj_bs (f), mn_add, mm_ol]
        exact r1
  have beasts : ∀ d i hk (μ : mm_Ma), i + d = mr_n (ms_r S) → ma_n μ = i → mw_M (ms_r S) μ → ma_p μ ≤ ma_p (ms_m S) → mh_Ma hk 22 4 μ → mh_F (mh_A 22 23) h hk → ∃ h' ν, mj_R 74 (19, [.ref 1, .int (nI s), .int (nI i)], [], hk) = some (some (.int (mm_cv (ma_p (ms_m S)) ((mm_tk (ms_r S) s d μ).map (mm_ol (ms_r S) (mr_g (ms_r S)))))), h') ∧ mh_Ma h' 22 4 ν ∧ mh_F (mh_A 22 23) h h' ∧ mw_M (ms_r S) ν ∧ ∀ ξ, (mm_tk (ms_r S) s d μ).map (mm_ol (ms_r S) (mr_g (ms_r S))) = some ξ → ν = ξ := by
    intro d
    induction d with
    | zero =>
      intro i hk μ hi hni wμ hp G F
      obtain rfl : i = mr_n (ms_r S) := by omega
      have ok := (F.2 1 (no _ (by omega))).trans o1
      have Rk := Ro.kp F (fun k a b => no k (by omega))
      obtain ⟨h', r1, r2, r3⟩ := gates (mr_g (ms_r S)) 0 hk μ (by omega) wμ hp G F
      refine ⟨h', _, ?_, r2, r3, mw_ol wr _ _ wμ, fun ξ hξ => ?_⟩
      · simp only [↓reduceIte, ↓mq_74_0, ↓mq_74_1, ↓mq_74_4, ↓mq_74_5, ↓mq_74_8, ↓mq_74_11, ↓mq_74_12, ↓mq_74_15, ↓mq_74_18, ↓mq_74_19, ↓mq_74_20, ↓mq_74_21, ↓mq_74_24, ↓mq_74_27, ↓mq_74_30, ↓mq_74_31, ↓mq_74_32, ↓mq_74_33, ↓mq_74_34, ↓mq_74_35, ↓mq_74_38, ↓mq_74_39, ↓mq_74_42, ↓mq_74_45, ↓mq_74_48, ↓mq_74_49, ↓mq_74_52, ↓mq_74_55, ↓mq_74_58, ↓mq_74_59, ↓mq_74_62, ↓mq_74_65, ↓mq_74_66, ↓mq_74_69, ↓mq_74_71, ↓mq_74_72, ↓mq_74_75, ↓mq_74_78, ↓mq_74_79, ↓mq_74_81, ↓mq_74_82, ↓mq_74_85, ↓mq_74_88, ↓mq_74_91, ↓mq_74_92, ↓mq_74_95, ↓mq_74_98, ↓mq_74_101, ↓mq_74_102, ↓mq_74_105, ↓mq_74_108, ↓mq_74_109, ↓mq_74_112, ↓mq_74_115, ↓mq_74_116, ↓mq_74_119, ↓mq_74_122, ↓mq_74_123, ↓mq_74_126, ↓mq_74_129, ↓mq_74_130, ↓mj_bs (mh_gf 1 ok rfl), ↓mj_bs (mh_gf 1 Rk.1 rfl), mt_le (Nat.le_refl (mr_n (ms_r S)))]
        rw [r1]
        rfl
      · simp only [mm_tk, Option.map_some, Option.some.injEq] at hξ
        exact hξ
    | succ d ih =>
      intro i hk μ hi hni wμ hp G F
      have hin : i < mr_n (ms_r S) := by omega
      have ok := (F.2 1 (no _ (by omega))).trans o1
      have Rk := Ro.kp F (fun k a b => no k (by omega))
      rw [mq_74_19]
      cases hb : s.testBit i
      · have e : mm_tk (ms_r S) s (d + 1) μ = mm_tk (ms_r S) s d (mm_skip μ) := by simp only [mm_tk, hni, hb, Bool.false_eq_true, if_false]
        rw [e]
        obtain ⟨g, f, G2, F2⟩ := mt_20 wr wμ Rk G (by omega)
        have F2' : mh_F (mh_A 22 23) hk g := F2.mo (fun k z => by subst z; exact ⟨by omega, by omega⟩)
        obtain ⟨h', ν, r1, r2⟩ := ih (i + 1) g _ (by omega) (by show ma_n μ + 1 = i + 1; omega) (mw_skip wμ (by omega)) hp G2 (F.tt F2')
        refine ⟨h', ν, ?_, r2⟩
        simp only [↓reduceIte, ↓mq_74_0, ↓mq_74_1, ↓mq_74_4, ↓mq_74_5, ↓mq_74_8, ↓mq_74_11, ↓mq_74_12, ↓mq_74_15, ↓mq_74_18, ↓mq_74_20, ↓mq_74_21, ↓mq_74_24, ↓mq_74_27, ↓mq_74_30, ↓mq_74_31, ↓mq_74_32, ↓mq_74_33, ↓mq_74_34, ↓mq_74_35, ↓mq_74_38, ↓mq_74_39, ↓mq_74_42, ↓mq_74_45, ↓mq_74_48, ↓mq_74_49, ↓mq_74_52, ↓mq_74_55, ↓mq_74_58, ↓mq_74_59, ↓mq_74_62, ↓mq_74_65, ↓mq_74_66, ↓mq_74_69, ↓mq_74_71, ↓mq_74_72, ↓mq_74_75, ↓mq_74_78, ↓mq_74_79, ↓mq_74_81, ↓mq_74_82, ↓mq_74_85, ↓mq_74_88, ↓mq_74_91, ↓mq_74_92, ↓mq_74_95, ↓mq_74_98, ↓mq_74_101, ↓mq_74_102, ↓mq_74_105, ↓mq_74_108, ↓mq_74_109, ↓mq_74_112, ↓mq_74_115, ↓mq_74_116, ↓mq_74_119, ↓mq_74_122, ↓mq_74_123, ↓mq_74_126, ↓mq_74_129, ↓mq_74_130, ↓mj_bs (mh_gf 1 ok rfl), ↓mj_bs (mh_gf 1 Rk.1 rfl), mf_le hin, mn_shl i (show i < 31 by omega), mn_and, mn_bb hs (show i < 6 by omega), hb, ↓mj_bs (mh_gf 4 ok rfl), mh_isC G.1, ↓mj_bs (f), Option.toList, List.nil_append, mn_add]
        exact r1
      · cases hc : mm_can (ms_r S) μ
        · have e : mm_tk (ms_r S) s (d + 1) μ = none := by simp only [mm_tk, hni, hb, hc, Bool.false_eq_true, if_false, if_true]
          rw [e]
          refine ⟨hk, μ, ?_, G, F, wμ, fun ξ hξ => by cases hξ⟩
          simp only [↓reduceIte, ↓mq_74_0, ↓mq_74_1, ↓mq_74_4, ↓mq_74_5, ↓mq_74_8, ↓mq_74_11, ↓mq_74_12, ↓mq_74_15, ↓mq_74_18, ↓mq_74_20, ↓mq_74_21, ↓mq_74_24, ↓mq_74_27, ↓mq_74_30, ↓mq_74_31, ↓mq_74_32, ↓mq_74_33, ↓mq_74_34, ↓mq_74_35, ↓mq_74_38, ↓mq_74_39, ↓mq_74_42, ↓mq_74_45, ↓mq_74_48, ↓mq_74_49, ↓mq_74_52, ↓mq_74_55, ↓mq_74_58, ↓mq_74_59, ↓mq_74_62, ↓mq_74_65, ↓mq_74_66, ↓mq_74_69, ↓mq_74_71, ↓mq_74_72, ↓mq_74_75, ↓mq_74_78, ↓mq_74_79, ↓mq_74_81, ↓mq_74_82, ↓mq_74_85, ↓mq_74_88, ↓mq_74_91, ↓mq_74_92, ↓mq_74_95, ↓mq_74_98, ↓mq_74_101, ↓mq_74_102, ↓mq_74_105, ↓mq_74_108, ↓mq_74_109, ↓mq_74_112, ↓mq_74_115, ↓mq_74_116, ↓mq_74_119, ↓mq_74_122, ↓mq_74_123, ↓mq_74_126, ↓mq_74_129, ↓mq_74_130, ↓mj_bs (mh_gf 1 ok rfl), ↓mj_bs (mh_gf 1 Rk.1 rfl), mf_le hin, mn_shl i (show i < 31 by omega), mn_and, mn_bb hs (show i < 6 by omega), hb, Bool.true_eq_false, ↓mj_bs (mh_gf 4 ok rfl), mh_isC G.1, ↓mj_bs (mt_16 wr wμ Rk G), Option.toList, List.cons_append, List.nil_append, hc, mj_b0]
          rfl
        · have e : mm_tk (ms_r S) s (d + 1) μ = mm_tk (ms_r S) s d (mm_come (ms_r S) μ) := by simp only [mm_tk, hni, hb, hc, if_true]
          rw [e]
          obtain ⟨g, f, G2, F2⟩ := mt_18 wr wμ Rk (by omega) G hc
          have F2' : mh_F (mh_A 22 23) hk g := F2
          obtain ⟨h', ν, r1, r2⟩ := ih (i + 1) g _ (by omega) (by show ma_n μ + 1 = i + 1; omega) (mw_come wr wμ hc) (Nat.le_trans (Nat.sub_le _ _) hp) G2 (F.tt F2')
          refine ⟨h', ν, ?_, r2⟩
          simp only [↓reduceIte, ↓mq_74_0, ↓mq_74_1, ↓mq_74_4, ↓mq_74_5, ↓mq_74_8, ↓mq_74_11, ↓mq_74_12, ↓mq_74_15, ↓mq_74_18, ↓mq_74_20, ↓mq_74_21, ↓mq_74_24, ↓mq_74_27, ↓mq_74_30, ↓mq_74_31, ↓mq_74_32, ↓mq_74_33, ↓mq_74_34, ↓mq_74_35, ↓mq_74_38, ↓mq_74_39, ↓mq_74_42, ↓mq_74_45, ↓mq_74_48, ↓mq_74_49, ↓mq_74_52, ↓mq_74_55, ↓mq_74_58, ↓mq_74_59, ↓mq_74_62, ↓mq_74_65, ↓mq_74_66, ↓mq_74_69, ↓mq_74_71, ↓mq_74_72, ↓mq_74_75, ↓mq_74_78, ↓mq_74_79, ↓mq_74_81, ↓mq_74_82, ↓mq_74_85, ↓mq_74_88, ↓mq_74_91, ↓mq_74_92, ↓mq_74_95, ↓mq_74_98, ↓mq_74_101, ↓mq_74_102, ↓mq_74_105, ↓mq_74_108, ↓mq_74_109, ↓mq_74_112, ↓mq_74_115, ↓mq_74_116, ↓mq_74_119, ↓mq_74_122, ↓mq_74_123, ↓mq_74_126, ↓mq_74_129, ↓mq_74_130, ↓mj_bs (mh_gf 1 ok rfl), ↓mj_bs (mh_gf 1 Rk.1 rfl), mf_le hin, mn_shl i (show i < 31 by omega), mn_and, mn_bb hs (show i < 6 by omega), hb, Bool.true_eq_false, ↓mj_bs (mh_gf 4 ok rfl), mh_isC G.1, ↓mj_bs (mt_16 wr wμ Rk G), Option.toList, List.cons_append, List.nil_append, hc, mj_b0, ↓mj_bs (f), mn_add]
          exact r1
  have hnx := wm.2.2.1
  obtain ⟨h', ν, r1, r2⟩ := beasts (mr_n (ms_r S) - ma_n (ms_m S)) (ma_n (ms_m S)) h1 (ms_m S) (by omega) rfl wm (Nat.le_refl _) T1 F1'
  refine ⟨h', ν, ?_, r2⟩
  have oA := (F1'.2 1 (no _ (by omega))).trans o1
  have M1 := M.kp F1' (no _ (by omega)) (no _ (by omega))
  rw [mc_74]
  simp only [↓reduceIte, ↓mq_74_0, ↓mq_74_1, ↓mq_74_4, ↓mq_74_5, ↓mq_74_8, ↓mq_74_11, ↓mq_74_12, ↓mq_74_15, ↓mq_74_18, ↓mq_74_20, ↓mq_74_21, ↓mq_74_24, ↓mq_74_27, ↓mq_74_30, ↓mq_74_31, ↓mq_74_32, ↓mq_74_33, ↓mq_74_34, ↓mq_74_35, ↓mq_74_38, ↓mq_74_39, ↓mq_74_42, ↓mq_74_45, ↓mq_74_48, ↓mq_74_49, ↓mq_74_52, ↓mq_74_55, ↓mq_74_58, ↓mq_74_59, ↓mq_74_62, ↓mq_74_65, ↓mq_74_66, ↓mq_74_69, ↓mq_74_71, ↓mq_74_72, ↓mq_74_75, ↓mq_74_78, ↓mq_74_79, ↓mq_74_81, ↓mq_74_82, ↓mq_74_85, ↓mq_74_88, ↓mq_74_91, ↓mq_74_92, ↓mq_74_95, ↓mq_74_98, ↓mq_74_101, ↓mq_74_102, ↓mq_74_105, ↓mq_74_108, ↓mq_74_109, ↓mq_74_112, ↓mq_74_115, ↓mq_74_116, ↓mq_74_119, ↓mq_74_122, ↓mq_74_123, ↓mq_74_126, ↓mq_74_129, ↓mq_74_130, ↓mj_bs (mh_gf 4 o1 rfl), ↓mj_bs (mh_gf 3 o1 rfl), mh_isC T.1, ↓mj_bs (e1), Option.toList, List.nil_append, ↓mj_bs (mh_gf 3 oA rfl), ↓mj_bs (mh_gf 4 M1.1 rfl)]
  exact r1
theorem mt_137 (w : mw_S S) (R : mh_JR S h) {s : Nat} (hs : s < 64) : ∃ h' ν, mj_C 137 [.ref 65, .int (nI s)] h = some (some (.int (mm_cv (ma_p (ms_m S)) (mm_tko (ms_r S) (ms_m S) s))), h') ∧ mh_pg h' 74 ν ∧ mh_F (fun k => k = 74) h h' ∧ mw_M (ms_r S) ν ∧ ∀ ξ, mm_tko (ms_r S) (ms_m S) s = some ξ → ν = ξ := by
  have wr := w.2.2.1
  have wm := w.2.2.2.1
  have hn9 := wr.1
  have hg9 := wr.2.1
  have hrb := R.rr.1
  obtain ⟨ft, T9⟩ := R.2.2.2.2.2.1
  obtain ⟨h1, e1, G1, F1⟩ := mt_138 hrb R.pg T9
  have gates : ∀ d hk (μ : mm_Ma), mr_g (ms_r S) ≤ ma_o μ + d → mw_M (ms_r S) μ → ma_p μ ≤ ma_p (ms_m S) → mh_pg hk 74 μ → mh_F (fun k => k = 74) h hk → ∃ h', mj_R 137 (69, [.ref 65, .int (nI s)], [], hk) = some (some (.int (nI (ma_p (ms_m S) - ma_p (mm_ol (ms_r S) d μ)))), h') ∧ mh_pg h' 74 (mm_ol (ms_r S) d μ) ∧ mh_F (fun k => k = 74) h h' := by
    intro d
    induction d with
    | zero =>
      intro hk μ hi wμ hp G F
      have Rk := R.rr.kp F (by omega) (by omega) (by omega) (by omega)
      have Pk := R.pg.kp F (by omega)
      have hc : mm_cul (ms_r S) μ = false := by simp only [mm_cul, Bool.and_eq_false_imp, decide_eq_true_eq]; intro z; omega
      refine ⟨hk, ?_, G, F⟩
      simp only [↓reduceIte, ↓mq_137_0, ↓mq_137_1, ↓mq_137_4, ↓mq_137_5, ↓mq_137_8, ↓mq_137_9, ↓mq_137_10, ↓mq_137_11, ↓mq_137_14, ↓mq_137_17, ↓mq_137_18, ↓mq_137_19, ↓mq_137_22, ↓mq_137_23, ↓mq_137_24, ↓mq_137_27, ↓mq_137_30, ↓mq_137_31, ↓mq_137_34, ↓mq_137_35, ↓mq_137_36, ↓mq_137_37, ↓mq_137_38, ↓mq_137_39, ↓mq_137_40, ↓mq_137_43, ↓mq_137_44, ↓mq_137_45, ↓mq_137_48, ↓mq_137_51, ↓mq_137_54, ↓mq_137_55, ↓mq_137_56, ↓mq_137_59, ↓mq_137_62, ↓mq_137_63, ↓mq_137_66, ↓mq_137_68, ↓mq_137_69, ↓mq_137_70, ↓mq_137_71, ↓mq_137_74, ↓mq_137_77, ↓mq_137_80, ↓mq_137_81, ↓mq_137_84, ↓mq_137_85, ↓mq_137_86, ↓mq_137_87, ↓mq_137_88, ↓mq_137_89, ↓mq_137_90, ↓mq_137_93, ↓mq_137_94, ↓mq_137_97, ↓mq_137_98, ↓mq_137_99, ↓mq_137_100, ↓mq_137_103, ↓mq_137_104, ↓mq_137_105, ↓mq_137_106, ↓mj_bs (mr_b16 Rk.1), mr_is Rk.1, ↓mj_bs (mt_132 wr wμ Rk G), Option.toList, List.cons_append, List.nil_append, hc, mj_b0, ↓mj_bs (mr_b15 Rk.1), ↓mj_bs (mp_0 Pk), ↓mj_bs (mp_0 G), mn_sub hp, mm_ol]
    | succ d ih =>
      intro hk μ hi wμ hp G F
      have Rk := R.rr.kp F (by omega) (by omega) (by omega) (by omega)
      have Pk := R.pg.kp F (by omega)
      rw [mq_137_69]
      cases hc : mm_cul (ms_r S) μ
      · refine ⟨hk, ?_, by simp only [mm_ol, hc, Bool.false_eq_true, if_false]; exact G, F⟩
        simp only [↓reduceIte, ↓mq_137_0, ↓mq_137_1, ↓mq_137_4, ↓mq_137_5, ↓mq_137_8, ↓mq_137_9, ↓mq_137_10, ↓mq_137_11, ↓mq_137_14, ↓mq_137_17, ↓mq_137_18, ↓mq_137_19, ↓mq_137_22, ↓mq_137_23, ↓mq_137_24, ↓mq_137_27, ↓mq_137_30, ↓mq_137_31, ↓mq_137_34, ↓mq_137_35, ↓mq_137_36, ↓mq_137_37, ↓mq_137_38, ↓mq_137_39, ↓mq_137_40, ↓mq_137_43, ↓mq_137_44, ↓mq_137_45, ↓mq_137_48, ↓mq_137_51, ↓mq_137_54, ↓mq_137_55, ↓mq_137_56, ↓mq_137_59, ↓mq_137_62, ↓mq_137_63, ↓mq_137_66, ↓mq_137_68, ↓mq_137_70, ↓mq_137_71, ↓mq_137_74, ↓mq_137_77, ↓mq_137_80, ↓mq_137_81, ↓mq_137_84, ↓mq_137_85, ↓mq_137_86, ↓mq_137_87, ↓mq_137_88, ↓mq_137_89, ↓mq_137_90, ↓mq_137_93, ↓mq_137_94, ↓mq_137_97, ↓mq_137_98, ↓mq_137_99, ↓mq_137_100, ↓mq_137_103, ↓mq_137_104, ↓mq_137_105, ↓mq_137_106, ↓mj_bs (mr_b16 Rk.1), mr_is Rk.1, ↓mj_bs (mt_132 wr wμ Rk G), Option.toList, List.cons_append, List.nil_append, hc, mj_b0, ↓mj_bs (mr_b15 Rk.1), ↓mj_bs (mp_0 Pk), ↓mj_bs (mp_0 G), mn_sub hp, mm_ol, Bool.false_eq_true]
      · obtain ⟨g, f, G2, F2⟩ := mp_u4 G (ma_o μ + 1)
        have G2' : mh_pg g 74 (mm_unl μ) := G2
        obtain ⟨h', r1, r2, r3⟩ := ih g _ (by show mr_g (ms_r S) ≤ ma_o μ + 1 + d; omega) (mw_unl wμ hc) hp G2' (F.tt F2)
        refine ⟨h', ?_, by simp only [mm_ol, hc, if_true]; exact r2, r3⟩
        simp only [↓reduceIte, ↓mq_137_0, ↓mq_137_1, ↓mq_137_4, ↓mq_137_5, ↓mq_137_8, ↓mq_137_9, ↓mq_137_10, ↓mq_137_11, ↓mq_137_14, ↓mq_137_17, ↓mq_137_18, ↓mq_137_19, ↓mq_137_22, ↓mq_137_23, ↓mq_137_24, ↓mq_137_27, ↓mq_137_30, ↓mq_137_31, ↓mq_137_34, ↓mq_137_35, ↓mq_137_36, ↓mq_137_37, ↓mq_137_38, ↓mq_137_39, ↓mq_137_40, ↓mq_137_43, ↓mq_137_44, ↓mq_137_45, ↓mq_137_48, ↓mq_137_51, ↓mq_137_54, ↓mq_137_55, ↓mq_137_56, ↓mq_137_59, ↓mq_137_62, ↓mq_137_63, ↓mq_137_66, ↓mq_137_68, ↓mq_137_70, ↓mq_137_71, ↓mq_137_74, ↓mq_137_77, ↓mq_137_80, ↓mq_137_81, ↓mq_137_84, ↓mq_137_85, ↓mq_137_86, ↓mq_137_87, ↓mq_137_88, ↓mq_137_89, ↓mq_137_90, ↓mq_137_93, ↓mq_137_94, ↓mq_137_97, ↓mq_137_98, ↓mq_137_99, ↓mq_137_100, ↓mq_137_103, ↓mq_137_104, ↓mq_137_105, ↓mq_137_106, ↓mj_bs (mr_b16 Rk.1), mr_is Rk.1, ↓mj_bs (mt_132 wr wμ Rk G), Option.toList, List.cons_append, List.nil_append, hc, mj_b0, Bool.true_eq_false, ↓mj_bs (mp_4 G), mn_add, ↓mj_bs (f), mm_ol]
        exact r1
  have beasts : ∀ d hk (μ : mm_Ma), ma_n μ + d = mr_n (ms_r S) → mw_M (ms_r S) μ → ma_p μ ≤ ma_p (ms_m S) → mh_pg hk 74 μ → mh_F (fun k => k = 74) h hk → ∃ h' ν, mj_R 137 (4, [.ref 65, .int (nI s)], [], hk) = some (some (.int (mm_cv (ma_p (ms_m S)) ((mm_tk (ms_r S) s d μ).map (mm_ol (ms_r S) (mr_g (ms_r S)))))), h') ∧ mh_pg h' 74 ν ∧ mh_F (fun k => k = 74) h h' ∧ mw_M (ms_r S) ν ∧ ∀ ξ, (mm_tk (ms_r S) s d μ).map (mm_ol (ms_r S) (mr_g (ms_r S))) = some ξ → ν = ξ := by
    intro d
    induction d with
    | zero =>
      intro hk μ hi wμ hp G F
      have Rk := R.rr.kp F (by omega) (by omega) (by omega) (by omega)
      obtain ⟨h', r1, r2, r3⟩ := gates (mr_g (ms_r S)) hk μ (by omega) wμ hp G F
      refine ⟨h', _, ?_, r2, r3, mw_ol wr _ _ wμ, fun ξ hξ => ?_⟩
      · simp only [↓reduceIte, ↓mq_137_0, ↓mq_137_1, ↓mq_137_4, ↓mq_137_5, ↓mq_137_8, ↓mq_137_9, ↓mq_137_10, ↓mq_137_11, ↓mq_137_14, ↓mq_137_17, ↓mq_137_18, ↓mq_137_19, ↓mq_137_22, ↓mq_137_23, ↓mq_137_24, ↓mq_137_27, ↓mq_137_30, ↓mq_137_31, ↓mq_137_34, ↓mq_137_35, ↓mq_137_36, ↓mq_137_37, ↓mq_137_38, ↓mq_137_39, ↓mq_137_40, ↓mq_137_43, ↓mq_137_44, ↓mq_137_45, ↓mq_137_48, ↓mq_137_51, ↓mq_137_54, ↓mq_137_55, ↓mq_137_56, ↓mq_137_59, ↓mq_137_62, ↓mq_137_63, ↓mq_137_66, ↓mq_137_68, ↓mq_137_70, ↓mq_137_71, ↓mq_137_74, ↓mq_137_77, ↓mq_137_80, ↓mq_137_81, ↓mq_137_84, ↓mq_137_85, ↓mq_137_86, ↓mq_137_87, ↓mq_137_88, ↓mq_137_89, ↓mq_137_90, ↓mq_137_93, ↓mq_137_94, ↓mq_137_97, ↓mq_137_98, ↓mq_137_99, ↓mq_137_100, ↓mq_137_103, ↓mq_137_104, ↓mq_137_105, ↓mq_137_106, ↓mj_bs (mr_b16 Rk.1), ↓mj_bs (mp_3 G), ↓mj_bs (mr_bn Rk.1), mt_le (show mr_n (ms_r S) ≤ ma_n μ by omega) (show ma_n μ < 2 ^ 31 by omega)]
        rw [r1]
        rfl
      · simp only [mm_tk, Option.map_some, Option.some.injEq] at hξ
        exact hξ
    | succ d ih =>
      intro hk μ hi wμ hp G F
      have hin : ma_n μ < mr_n (ms_r S) := by omega
      have Rk := R.rr.kp F (by omega) (by omega) (by omega) (by omega)
      rw [mq_137_4]
      cases hb : s.testBit (ma_n μ)
      · have e : mm_tk (ms_r S) s (d + 1) μ = mm_tk (ms_r S) s d (mm_skip μ) := by simp only [mm_tk, hb, Bool.false_eq_true, if_false]
        rw [e]
        obtain ⟨g, f, G2, F2⟩ := mp_u3 G (ma_n μ + 1)
        have G2' : mh_pg g 74 (mm_skip μ) := G2
        obtain ⟨h', ν, r1, r2⟩ := ih g _ (by show ma_n μ + 1 + d = _; omega) (mw_skip wμ hin) hp G2' (F.tt F2)
        refine ⟨h', ν, ?_, r2⟩
        simp only [↓reduceIte, ↓mq_137_0, ↓mq_137_1, ↓mq_137_5, ↓mq_137_8, ↓mq_137_9, ↓mq_137_10, ↓mq_137_11, ↓mq_137_14, ↓mq_137_17, ↓mq_137_18, ↓mq_137_19, ↓mq_137_22, ↓mq_137_23, ↓mq_137_24, ↓mq_137_27, ↓mq_137_30, ↓mq_137_31, ↓mq_137_34, ↓mq_137_35, ↓mq_137_36, ↓mq_137_37, ↓mq_137_38, ↓mq_137_39, ↓mq_137_40, ↓mq_137_43, ↓mq_137_44, ↓mq_137_45, ↓mq_137_48, ↓mq_137_51, ↓mq_137_54, ↓mq_137_55, ↓mq_137_56, ↓mq_137_59, ↓mq_137_62, ↓mq_137_63, ↓mq_137_66, ↓mq_137_68, ↓mq_137_70, ↓mq_137_71, ↓mq_137_74, ↓mq_137_77, ↓mq_137_80, ↓mq_137_81, ↓mq_137_84, ↓mq_137_85, ↓mq_137_86, ↓mq_137_87, ↓mq_137_88, ↓mq_137_89, ↓mq_137_90, ↓mq_137_93, ↓mq_137_94, ↓mq_137_97, ↓mq_137_98, ↓mq_137_99, ↓mq_137_100, ↓mq_137_103, ↓mq_137_104, ↓mq_137_105, ↓mq_137_106, ↓mj_bs (mr_b16 Rk.1), ↓mj_bs (mp_3 G), ↓mj_bs (mr_bn Rk.1), mf_le hin, ↓mj_bs (mt_113 hs (show ma_n μ < 6 by omega)), Option.toList, List.cons_append, List.nil_append, hb, mj_b0, mn_add, ↓mj_bs (f)]
        exact r1
      · cases hc : mm_can (ms_r S) μ
        · have e : mm_tk (ms_r S) s (d + 1) μ = none := by simp only [mm_tk, hb, hc, Bool.false_eq_true, if_false, if_true]
          rw [e]
          refine ⟨hk, μ, ?_, G, F, wμ, fun ξ hξ => by cases hξ⟩
          simp only [↓reduceIte, ↓mq_137_0, ↓mq_137_1, ↓mq_137_5, ↓mq_137_8, ↓mq_137_9, ↓mq_137_10, ↓mq_137_11, ↓mq_137_14, ↓mq_137_17, ↓mq_137_18, ↓mq_137_19, ↓mq_137_22, ↓mq_137_23, ↓mq_137_24, ↓mq_137_27, ↓mq_137_30, ↓mq_137_31, ↓mq_137_34, ↓mq_137_35, ↓mq_137_36, ↓mq_137_37, ↓mq_137_38, ↓mq_137_39, ↓mq_137_40, ↓mq_137_43, ↓mq_137_44, ↓mq_137_45, ↓mq_137_48, ↓mq_137_51, ↓mq_137_54, ↓mq_137_55, ↓mq_137_56, ↓mq_137_59, ↓mq_137_62, ↓mq_137_63, ↓mq_137_66, ↓mq_137_68, ↓mq_137_70, ↓mq_137_71, ↓mq_137_74, ↓mq_137_77, ↓mq_137_80, ↓mq_137_81, ↓mq_137_84, ↓mq_137_85, ↓mq_137_86, ↓mq_137_87, ↓mq_137_88, ↓mq_137_89, ↓mq_137_90, ↓mq_137_93, ↓mq_137_94, ↓mq_137_97, ↓mq_137_98, ↓mq_137_99, ↓mq_137_100, ↓mq_137_103, ↓mq_137_104, ↓mq_137_105, ↓mq_137_106, ↓mj_bs (mr_b16 Rk.1), ↓mj_bs (mp_3 G), ↓mj_bs (mr_bn Rk.1), mf_le hin, ↓mj_bs (mt_113 hs (show ma_n μ < 6 by omega)), Option.toList, List.cons_append, List.nil_append, hb, mj_b0, Bool.true_eq_false, mr_is Rk.1, ↓mj_bs (mt_125 wr wμ Rk G), hc]
          rfl
        · have e : mm_tk (ms_r S) s (d + 1) μ = mm_tk (ms_r S) s d (mm_come (ms_r S) μ) := by simp only [mm_tk, hb, hc, if_true]
          rw [e]
          obtain ⟨g, f, G2, F2⟩ := mt_127 wr wμ Rk G (by omega) hc
          obtain ⟨h', ν, r1, r2⟩ := ih g _ (by show ma_n μ + 1 + d = _; omega) (mw_come wr wμ hc) (Nat.le_trans (Nat.sub_le _ _) hp) G2 (F.tt F2)
          refine ⟨h', ν, ?_, r2⟩
          simp only [↓reduceIte, ↓mq_137_0, ↓mq_137_1, ↓mq_137_5, ↓mq_137_8, ↓mq_137_9, ↓mq_137_10, ↓mq_137_11, ↓mq_137_14, ↓mq_137_17, ↓mq_137_18, ↓mq_137_19, ↓mq_137_22, ↓mq_137_23, ↓mq_137_24, ↓mq_137_27, ↓mq_137_30, ↓mq_137_31, ↓mq_137_34, ↓mq_137_35, ↓mq_137_36, ↓mq_137_37, ↓mq_137_38, ↓mq_137_39, ↓mq_137_40, ↓mq_137_43, ↓mq_137_44, ↓mq_137_45, ↓mq_137_48, ↓mq_137_51, ↓mq_137_54, ↓mq_137_55, ↓mq_137_56, ↓mq_137_59, ↓mq_137_62, ↓mq_137_63, ↓mq_137_66, ↓mq_137_68, ↓mq_137_70, ↓mq_137_71, ↓mq_137_74, ↓mq_137_77, ↓mq_137_80, ↓mq_137_81, ↓mq_137_84, ↓mq_137_85, ↓mq_137_86, ↓mq_137_87, ↓mq_137_88, ↓mq_137_89, ↓mq_137_90, ↓mq_137_93, ↓mq_137_94, ↓mq_137_97, ↓mq_137_98, ↓mq_137_99, ↓mq_137_100, ↓mq_137_103, ↓mq_137_104, ↓mq_137_105, ↓mq_137_106, ↓mj_bs (mr_b16 Rk.1), ↓mj_bs (mp_3 G), ↓mj_bs (mr_bn Rk.1), mf_le hin, ↓mj_bs (mt_113 hs (show ma_n μ < 6 by omega)), Option.toList, List.cons_append, List.nil_append, hb, mj_b0, Bool.true_eq_false, mr_is Rk.1, ↓mj_bs (mt_125 wr wμ Rk G), hc]
          rw [mj_bs f]
          simp only [↓reduceIte, ↓mq_137_0, ↓mq_137_1, ↓mq_137_5, ↓mq_137_8, ↓mq_137_9, ↓mq_137_10, ↓mq_137_11, ↓mq_137_14, ↓mq_137_17, ↓mq_137_18, ↓mq_137_19, ↓mq_137_22, ↓mq_137_23, ↓mq_137_24, ↓mq_137_27, ↓mq_137_30, ↓mq_137_31, ↓mq_137_34, ↓mq_137_35, ↓mq_137_36, ↓mq_137_37, ↓mq_137_38, ↓mq_137_39, ↓mq_137_40, ↓mq_137_43, ↓mq_137_44, ↓mq_137_45, ↓mq_137_48, ↓mq_137_51, ↓mq_137_54, ↓mq_137_55, ↓mq_137_56, ↓mq_137_59, ↓mq_137_62, ↓mq_137_63, ↓mq_137_66, ↓mq_137_68, ↓mq_137_70, ↓mq_137_71, ↓mq_137_74, ↓mq_137_77, ↓mq_137_80, ↓mq_137_81, ↓mq_137_84, ↓mq_137_85, ↓mq_137_86, ↓mq_137_87, ↓mq_137_88, ↓mq_137_89, ↓mq_137_90, ↓mq_137_93, ↓mq_137_94, ↓mq_137_97, ↓mq_137_98, ↓mq_137_99, ↓mq_137_100, ↓mq_137_103, ↓mq_137_104, ↓mq_137_105, ↓mq_137_106, Option.toList, List.cons_append, List.nil_append]
          exact r1
  have hnx := wm.2.2.1
  obtain ⟨h', ν, r1, r2⟩ := beasts (mr_n (ms_r S) - ma_n (ms_m S)) h1 (ms_m S) (by omega) wm (Nat.le_refl _) G1 F1
  refine ⟨h', ν, ?_, r2⟩
  rw [mc_137]
  simp only [↓reduceIte, ↓mq_137_0, ↓mq_137_1, ↓mq_137_5, ↓mq_137_8, ↓mq_137_9, ↓mq_137_10, ↓mq_137_11, ↓mq_137_14, ↓mq_137_17, ↓mq_137_18, ↓mq_137_19, ↓mq_137_22, ↓mq_137_23, ↓mq_137_24, ↓mq_137_27, ↓mq_137_30, ↓mq_137_31, ↓mq_137_34, ↓mq_137_35, ↓mq_137_36, ↓mq_137_37, ↓mq_137_38, ↓mq_137_39, ↓mq_137_40, ↓mq_137_43, ↓mq_137_44, ↓mq_137_45, ↓mq_137_48, ↓mq_137_51, ↓mq_137_54, ↓mq_137_55, ↓mq_137_56, ↓mq_137_59, ↓mq_137_62, ↓mq_137_63, ↓mq_137_66, ↓mq_137_68, ↓mq_137_70, ↓mq_137_71, ↓mq_137_74, ↓mq_137_77, ↓mq_137_80, ↓mq_137_81, ↓mq_137_84, ↓mq_137_85, ↓mq_137_86, ↓mq_137_87, ↓mq_137_88, ↓mq_137_89, ↓mq_137_90, ↓mq_137_93, ↓mq_137_94, ↓mq_137_97, ↓mq_137_98, ↓mq_137_99, ↓mq_137_100, ↓mq_137_103, ↓mq_137_104, ↓mq_137_105, ↓mq_137_106, mr_is hrb, ↓mj_bs (e1), Option.toList, List.nil_append]
  exact r1
/-! is a set one that is to come -/
def mm_tc (μ : mm_Ma) (s : Nat) : Bool := decide (s &&& (2 ^ ma_n μ - 1) = 0)
theorem mt_73 (w : mw_S S) (C : mh_JC S h) {s : Nat} (hs : s < 2 ^ mr_n (ms_r S)) : mj_C 73 [.ref 1, .int (nI s)] h = some (some (.int (mj_bI (mm_tc (ms_m S) s))), h) := by
  have wr := w.2.2.1
  have wm := w.2.2.2.1
  have hn9 := wr.1
  have hx := wm.2.2.1
  have hs64 := mm_64 hs hn9
  have hn64 : 2 ^ mr_n (ms_r S) ≤ 64 := Nat.pow_le_pow_right (n := 2) (by decide) hn9
  obtain ⟨o1, -, Ro, -, M, -⟩ := C
  have e41 := mt_41 wr Ro (nI s)
  rw [mn_dle (show s < 2 ^ 31 by omega) (show 2 ^ mr_n (ms_r S) - 1 < 2 ^ 31 by omega), decide_eq_true (show s ≤ 2 ^ mr_n (ms_r S) - 1 by omega)] at e41
  have hlt : s &&& (2 ^ ma_n (ms_m S) - 1) < 64 := mm_and_lt hs64
  rw [mc_73]
  by_cases hc : s &&& (2 ^ ma_n (ms_m S) - 1) = 0
  · simp only [↓reduceIte, ↓mq_73_0, ↓mq_73_1, ↓mq_73_2, ↓mq_73_5, ↓mq_73_8, ↓mq_73_9, ↓mq_73_10, ↓mq_73_11, ↓mq_73_12, ↓mq_73_13, ↓mq_73_16, ↓mq_73_17, ↓mq_73_20, ↓mq_73_23, ↓mq_73_24, ↓mq_73_25, ↓mq_73_26, ↓mq_73_29, ↓mq_73_30, ↓mq_73_33, ↓mq_73_34, ↓mj_bs (mh_gf 3 o1 rfl), ↓mj_bs (mh_gf 4 M.1 rfl), mn_all _ (show ma_n (ms_m S) < 31 by omega), ↓mj_bs (mh_gf 1 o1 rfl), mh_isC Ro.1, ↓mj_bs (e41), Option.toList, List.cons_append, List.nil_append, mj_b0, Bool.true_eq_false, mn_and, mt_eq hc, mj_z1]
    rw [mm_tc, decide_eq_true hc]
    rfl
  · simp only [↓reduceIte, ↓mq_73_0, ↓mq_73_1, ↓mq_73_2, ↓mq_73_5, ↓mq_73_8, ↓mq_73_9, ↓mq_73_10, ↓mq_73_11, ↓mq_73_12, ↓mq_73_13, ↓mq_73_16, ↓mq_73_17, ↓mq_73_20, ↓mq_73_23, ↓mq_73_24, ↓mq_73_25, ↓mq_73_26, ↓mq_73_29, ↓mq_73_30, ↓mq_73_33, ↓mq_73_34, ↓mj_bs (mh_gf 3 o1 rfl), ↓mj_bs (mh_gf 4 M.1 rfl), mn_all _ (show ma_n (ms_m S) < 31 by omega), ↓mj_bs (mh_gf 1 o1 rfl), mh_isC Ro.1, ↓mj_bs (e41), Option.toList, List.cons_append, List.nil_append, mj_b0, Bool.true_eq_false, mn_and, mf_eq hc, mj_z0]
    rw [mm_tc, decide_eq_false hc]
    rfl
theorem mt_73n (w : mw_S S) (C : mh_JC S h) {x : Int32} (hx : ¬ (nI 0 ≤ x ∧ x < nI (2 ^ mr_n (ms_r S)))) : mj_C 73 [.ref 1, .int x] h = some (some (.int (mj_bI false)), h) := by
  have wr := w.2.2.1
  have wm := w.2.2.2.1
  have hn9 := wr.1
  have hm := wm.2.2.1
  have hn64 : 2 ^ mr_n (ms_r S) ≤ 64 := Nat.pow_le_pow_right (n := 2) (by decide) hn9
  have hpos := Nat.two_pow_pos (mr_n (ms_r S))
  obtain ⟨o1, -, Ro, -, M, -⟩ := C
  have e41 := mt_41 wr Ro x
  rw [mn_dno' hx (show 2 ^ mr_n (ms_r S) - 1 < 2 ^ mr_n (ms_r S) by omega) (by omega)] at e41
  rw [mc_73]
  simp only [↓reduceIte, ↓mq_73_0, ↓mq_73_1, ↓mq_73_2, ↓mq_73_5, ↓mq_73_8, ↓mq_73_9, ↓mq_73_10, ↓mq_73_11, ↓mq_73_12, ↓mq_73_13, ↓mq_73_16, ↓mq_73_17, ↓mq_73_20, ↓mq_73_23, ↓mq_73_24, ↓mq_73_25, ↓mq_73_26, ↓mq_73_29, ↓mq_73_30, ↓mq_73_33, ↓mq_73_34, ↓mj_bs (mh_gf 3 o1 rfl), ↓mj_bs (mh_gf 4 M.1 rfl), mn_all _ (show ma_n (ms_m S) < 31 by omega), ↓mj_bs (mh_gf 1 o1 rfl), mh_isC Ro.1, ↓mj_bs (e41), Option.toList, List.cons_append, List.nil_append, mj_b0, mj_z0]
  rfl
theorem mt_136 (w : mw_S S) (R : mh_JR S h) {s : Nat} (hs : s < 2 ^ mr_n (ms_r S)) : mj_C 136 [.ref 65, .int (nI s)] h = some (some (.int (mj_bI (!mm_tc (ms_m S) s))), h) := by
  have wr := w.2.2.1
  have wm := w.2.2.2.1
  have hn9 := wr.1
  have hx := wm.2.2.1
  have hs64 := mm_64 hs hn9
  have hn64 : 2 ^ mr_n (ms_r S) ≤ 64 := Nat.pow_le_pow_right (n := 2) (by decide) hn9
  have hrb := R.rr.1
  have e103 := mt_103m (h := h) (x := nI s) (n := 2 ^ mr_n (ms_r S)) (by omega)
  rw [mn_dlt (show s < 2 ^ 31 by omega) (show 2 ^ mr_n (ms_r S) < 2 ^ 31 by omega), decide_eq_true hs] at e103
  have hlt : s &&& (2 ^ ma_n (ms_m S) - 1) < 64 := mm_and_lt hs64
  rw [mc_136]
  have hsh : nI 1 <<< (nI (mr_n (ms_r S)) &&& 31) = nI (2 ^ mr_n (ms_r S)) := mn_shl _ (by omega)
  have hal := mn_all (ma_n (ms_m S)) (by omega)
  by_cases hc : s &&& (2 ^ ma_n (ms_m S) - 1) = 0
  · simp only [↓reduceIte, ↓mq_136_0, ↓mq_136_1, ↓mq_136_2, ↓mq_136_3, ↓mq_136_4, ↓mq_136_5, ↓mq_136_8, ↓mq_136_9, ↓mq_136_10, ↓mq_136_11, ↓mq_136_12, ↓mq_136_15, ↓mq_136_18, ↓mq_136_19, ↓mq_136_20, ↓mq_136_21, ↓mq_136_24, ↓mq_136_25, ↓mq_136_26, ↓mq_136_27, ↓mq_136_28, ↓mq_136_29, ↓mq_136_30, ↓mq_136_33, ↓mq_136_34, ↓mq_136_37, ↓mq_136_38, ↓mj_bs (mr_bn hrb), hsh, ↓mj_bs (e103), Option.toList, List.cons_append, List.nil_append, mj_b0, Bool.true_eq_false, ↓mj_bs (mr_b15 hrb), ↓mj_bs (mp_3 R.pg), hal, mn_and, mt_eq hc, mj_z0]
    rw [mm_tc, decide_eq_true hc]
    rfl
  · simp only [↓reduceIte, ↓mq_136_0, ↓mq_136_1, ↓mq_136_2, ↓mq_136_3, ↓mq_136_4, ↓mq_136_5, ↓mq_136_8, ↓mq_136_9, ↓mq_136_10, ↓mq_136_11, ↓mq_136_12, ↓mq_136_15, ↓mq_136_18, ↓mq_136_19, ↓mq_136_20, ↓mq_136_21, ↓mq_136_24, ↓mq_136_25, ↓mq_136_26, ↓mq_136_27, ↓mq_136_28, ↓mq_136_29, ↓mq_136_30, ↓mq_136_33, ↓mq_136_34, ↓mq_136_37, ↓mq_136_38, ↓mj_bs (mr_bn hrb), hsh, ↓mj_bs (e103), Option.toList, List.cons_append, List.nil_append, mj_b0, Bool.true_eq_false, ↓mj_bs (mr_b15 hrb), ↓mj_bs (mp_3 R.pg), hal, mn_and, mf_eq hc, mj_z1]
    rw [mm_tc, decide_eq_false hc]
    rfl
theorem mt_136n (w : mw_S S) (R : mh_JR S h) {x : Int32} (hx : ¬ (nI 0 ≤ x ∧ x < nI (2 ^ mr_n (ms_r S)))) : mj_C 136 [.ref 65, .int x] h = some (some (.int (mj_bI true)), h) := by
  have wr := w.2.2.1
  have hn9 := wr.1
  have hn64 : 2 ^ mr_n (ms_r S) ≤ 64 := Nat.pow_le_pow_right (n := 2) (by decide) hn9
  have hrb := R.rr.1
  have e103 := mt_103m (h := h) (x := x) (n := 2 ^ mr_n (ms_r S)) (by omega)
  rw [decide_eq_false hx] at e103
  have hsh : nI 1 <<< (nI (mr_n (ms_r S)) &&& 31) = nI (2 ^ mr_n (ms_r S)) := mn_shl _ (by omega)
  rw [mc_136]
  simp only [↓reduceIte, ↓mq_136_0, ↓mq_136_1, ↓mq_136_2, ↓mq_136_3, ↓mq_136_4, ↓mq_136_5, ↓mq_136_8, ↓mq_136_9, ↓mq_136_10, ↓mq_136_11, ↓mq_136_12, ↓mq_136_15, ↓mq_136_18, ↓mq_136_19, ↓mq_136_20, ↓mq_136_21, ↓mq_136_24, ↓mq_136_25, ↓mq_136_26, ↓mq_136_27, ↓mq_136_28, ↓mq_136_29, ↓mq_136_30, ↓mq_136_33, ↓mq_136_34, ↓mq_136_37, ↓mq_136_38, ↓mj_bs (mr_bn hrb), hsh, ↓mj_bs (e103), Option.toList, List.cons_append, List.nil_append, mj_b0, mj_z1]
  rfl
end
