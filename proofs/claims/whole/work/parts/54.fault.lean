/-! THE REFERENCE READS THE ROAD; COMMAND fault -/
theorem mm_part_D {t : List Nat} {pl pl' : Nat} {ρ ρ' : mm_Ro} (h : mm_part t pl ρ = (pl', some ρ')) : mr_D ρ' = mr_D ρ := by
  unfold mm_part mm_pB mm_pE mm_pG at h
  repeat' split at h
  all_goals first
    | (cases h; done)
    | (cases h; rfl)
section
variable {h h' : mj_H} {S : mm_St} {ρ : mm_Ro} {d : Int32} {pl : Nat}
theorem mh_JR.rp (R : mh_JR S h) (F : mh_F mh_RF h h') (H : mh_RP h' S d pl ρ) : mh_JR S h' := by
  obtain ⟨h1, h2, ⟨h3, h4, h5⟩, h6, h9, h10, h11, h12, h13, h14, h15, h16, h17⟩ := R
  obtain ⟨o, t6, t7, t71, t72⟩ := H
  have no : ∀ k, k ≠ 65 → k ≠ 70 → k ≠ 71 → k ≠ 72 → ¬ mh_RF k := fun k a b c e z => by
    rcases z with z | z | z | z <;> contradiction
  have any : ∀ {x n P X}, mh_ap h' x n P X → mh_any h' x n := fun z => by obtain ⟨f, z, -⟩ := z; exact ⟨f, z⟩
  exact ⟨⟨_, _, _, _, o⟩, t6, ⟨h3.kp F (no _ (by omega) (by omega) (by omega) (by omega)), h4.kp F (no _ (by omega) (by omega) (by omega) (by omega)), h5.kp F (no _ (by omega) (by omega) (by omega) (by omega))⟩, ⟨any t7, any t71, any t72⟩, h9.kp F (no _ (by omega) (by omega) (by omega) (by omega)), h10.kp F (no _ (by omega) (by omega) (by omega) (by omega)), h11.kp F (no _ (by omega) (by omega) (by omega) (by omega)), h12.kp F (no _ (by omega) (by omega) (by omega) (by omega)), (F.2 77 (no _ (by omega) (by omega) (by omega) (by omega))).trans h13, h14.kp F (no _ (by omega) (by omega) (by omega) (by omega)) (no _ (by omega) (by omega) (by omega) (by omega)), h15.kp F (no _ (by omega) (by omega) (by omega) (by omega)), h16.kp F (no _ (by omega) (by omega) (by omega) (by omega)), h17.kp F (no _ (by omega) (by omega) (by omega) (by omega))⟩
def mm_flt (X : Nat × Option mm_Ro) : Int32 := match X.2 with
  | some _ => -9
  | none => nI X.1
theorem mt_106l (w : mw_S S) {ρ0 : mm_Ro} {x y : Value} : ∀ e k pl ρ hk, k + e = 64 → k + 3 ≤ pl → pl ≤ (ms_t S).length → mh_RP hk S (nI (mr_D ρ0)) pl ρ → mw_R ρ → mr_D ρ = mr_D ρ0 → mm_it (ms_t S) ρ0 k = (pl, some ρ) → ∃ h' ρ' , mj_R 106 (88, [.ref 65, x, y], [], hk) = some (some (.int (mm_flt (mm_it (ms_t S) ρ0 64))), h') ∧ mh_RP h' S (nI (mr_D ρ0)) (mm_it (ms_t S) ρ0 64).1 ρ' ∧ mh_F mh_RF hk h' ∧ (mm_it (ms_t S) ρ0 64).1 ≤ 64 ∧ ∀ ρ1, (mm_it (ms_t S) ρ0 64).2 = some ρ1 → ρ' = ρ1 ∧ mw_R ρ1 ∧ mr_D ρ1 = mr_D ρ0 := by
  intro e
  induction e with
  | zero =>
    intro k pl ρ hk hk64 hpl hle
    have := w.1
    omega
  | succ e ih =>
    intro k pl ρ hk hk64 hpl hle H wρ hD E
    have h64 := w.1
    have o := H.1
    rw [mq_106_88]
    by_cases hl : pl < (ms_t S).length
    · obtain ⟨h1, b, e1, ρ1, H1, F1, p1, X1, Y1⟩ := mt_108 w wρ H hl
      have E1 : mm_it (ms_t S) ρ0 (k + 1) = mm_part (ms_t S) pl ρ := by simp only [mm_it, E, hl, if_true]
      have o1 := H1.1
      cases b with
      | true =>
        have X2 : mm_part (ms_t S) pl ρ = ((mm_part (ms_t S) pl ρ).1, some ρ1) := Prod.ext rfl X1
        have wp := mw_part wρ X2
        obtain ⟨h', ρ', r1, r2, r3, r4⟩ := ih (k + 1) (mm_part (ms_t S) pl ρ).1 ρ1 h1 (by omega) (by omega) p1 H1 wp.1 ((mm_part_D X2).trans hD) (by rw [E1]; exact X2)
        refine ⟨h', ρ', ?_, r2, F1.tt r3, r4⟩
        simp only [↓reduceIte, ↓mq_106_0, ↓mq_106_1, ↓mq_106_2, ↓mq_106_5, ↓mq_106_6, ↓mq_106_7, ↓mq_106_10, ↓mq_106_11, ↓mq_106_12, ↓mq_106_15, ↓mq_106_16, ↓mq_106_19, ↓mq_106_22, ↓mq_106_23, ↓mq_106_26, ↓mq_106_27, ↓mq_106_28, ↓mq_106_30, ↓mq_106_33, ↓mq_106_34, ↓mq_106_35, ↓mq_106_36, ↓mq_106_37, ↓mq_106_40, ↓mq_106_41, ↓mq_106_42, ↓mq_106_44, ↓mq_106_47, ↓mq_106_48, ↓mq_106_49, ↓mq_106_51, ↓mq_106_54, ↓mq_106_56, ↓mq_106_59, ↓mq_106_60, ↓mq_106_61, ↓mq_106_63, ↓mq_106_66, ↓mq_106_67, ↓mq_106_68, ↓mq_106_70, ↓mq_106_73, ↓mq_106_74, ↓mq_106_77, ↓mq_106_78, ↓mq_106_79, ↓mq_106_81, ↓mq_106_82, ↓mq_106_83, ↓mq_106_84, ↓mq_106_85, ↓mq_106_89, ↓mq_106_92, ↓mq_106_93, ↓mq_106_96, ↓mq_106_99, ↓mq_106_100, ↓mq_106_103, ↓mq_106_106, ↓mq_106_107, ↓mq_106_110, ↓mq_106_111, ↓mq_106_113, ↓mj_bs (mh_gf 3 o rfl), ↓mj_bs (mh_gf 2 o rfl), mf_le hl, mh_isC o, ↓mj_bs (e1), Option.toList, List.cons_append, List.nil_append, mj_b0, Bool.true_eq_false]
        exact r1
      | false =>
        have hρ := Y1 rfl
        have X2 : mm_part (ms_t S) pl ρ = ((mm_part (ms_t S) pl ρ).1, none) := Prod.ext rfl X1
        have E2 := mm_it_none (E1.trans X2) (64 - (k + 1))
        rw [show k + 1 + (64 - (k + 1)) = 64 by omega] at E2
        rw [E2]
        refine ⟨h1, ρ1, ?_, H1, F1, by show _ ≤ 64; omega, fun ρ1 z => by cases z⟩
        simp only [↓reduceIte, ↓mq_106_0, ↓mq_106_1, ↓mq_106_2, ↓mq_106_5, ↓mq_106_6, ↓mq_106_7, ↓mq_106_10, ↓mq_106_11, ↓mq_106_12, ↓mq_106_15, ↓mq_106_16, ↓mq_106_19, ↓mq_106_22, ↓mq_106_23, ↓mq_106_26, ↓mq_106_27, ↓mq_106_28, ↓mq_106_30, ↓mq_106_33, ↓mq_106_34, ↓mq_106_35, ↓mq_106_36, ↓mq_106_37, ↓mq_106_40, ↓mq_106_41, ↓mq_106_42, ↓mq_106_44, ↓mq_106_47, ↓mq_106_48, ↓mq_106_49, ↓mq_106_51, ↓mq_106_54, ↓mq_106_56, ↓mq_106_59, ↓mq_106_60, ↓mq_106_61, ↓mq_106_63, ↓mq_106_66, ↓mq_106_67, ↓mq_106_68, ↓mq_106_70, ↓mq_106_73, ↓mq_106_74, ↓mq_106_77, ↓mq_106_78, ↓mq_106_79, ↓mq_106_81, ↓mq_106_82, ↓mq_106_83, ↓mq_106_84, ↓mq_106_85, ↓mq_106_89, ↓mq_106_92, ↓mq_106_93, ↓mq_106_96, ↓mq_106_99, ↓mq_106_100, ↓mq_106_103, ↓mq_106_106, ↓mq_106_107, ↓mq_106_110, ↓mq_106_111, ↓mq_106_113, ↓mj_bs (mh_gf 3 o rfl), ↓mj_bs (mh_gf 2 o rfl), mf_le hl, mh_isC o, ↓mj_bs (e1), Option.toList, List.cons_append, List.nil_append, mj_b0, ↓mj_bs (mh_gf 3 o1 rfl), mm_flt]
    · have E2 := mm_it_done E (Nat.le_of_not_lt hl) (64 - k)
      rw [show k + (64 - k) = 64 by omega] at E2
      rw [E2]
      refine ⟨hk, ρ, ?_, H, mh_F.rf, by show pl ≤ 64; omega, fun ρ1 z => by cases z; exact ⟨rfl, wρ, hD⟩⟩
      simp only [↓reduceIte, ↓mq_106_0, ↓mq_106_1, ↓mq_106_2, ↓mq_106_5, ↓mq_106_6, ↓mq_106_7, ↓mq_106_10, ↓mq_106_11, ↓mq_106_12, ↓mq_106_15, ↓mq_106_16, ↓mq_106_19, ↓mq_106_22, ↓mq_106_23, ↓mq_106_26, ↓mq_106_27, ↓mq_106_28, ↓mq_106_30, ↓mq_106_33, ↓mq_106_34, ↓mq_106_35, ↓mq_106_36, ↓mq_106_37, ↓mq_106_40, ↓mq_106_41, ↓mq_106_42, ↓mq_106_44, ↓mq_106_47, ↓mq_106_48, ↓mq_106_49, ↓mq_106_51, ↓mq_106_54, ↓mq_106_56, ↓mq_106_59, ↓mq_106_60, ↓mq_106_61, ↓mq_106_63, ↓mq_106_66, ↓mq_106_67, ↓mq_106_68, ↓mq_106_70, ↓mq_106_73, ↓mq_106_74, ↓mq_106_77, ↓mq_106_78, ↓mq_106_79, ↓mq_106_81, ↓mq_106_82, ↓mq_106_83, ↓mq_106_84, ↓mq_106_85, ↓mq_106_89, ↓mq_106_92, ↓mq_106_93, ↓mq_106_96, ↓mq_106_99, ↓mq_106_100, ↓mq_106_103, ↓mq_106_106, ↓mq_106_107, ↓mq_106_110, ↓mq_106_111, ↓mq_106_113, ↓mj_bs (mh_gf 3 o rfl), ↓mj_bs (mh_gf 2 o rfl), mt_le (Nat.le_of_not_lt hl), mm_flt]
theorem mt_106 (w : mw_S S) (R : mh_JR S h) : ∃ h', mj_C 106 [.ref 65] h = some (some (.int (mm_fault (ms_t S))), h') ∧ mh_F mh_RF h h' ∧ mh_JR S h' ∧ (mm_read (ms_t S)).1 ≤ 64 ∧ ∀ ρ1, (mm_read (ms_t S)).2 = some ρ1 → ∃ pl, mh_RP h' S (nI (mr_D ρ1)) pl ρ1 ∧ mw_R ρ1 := by
  have h64 := w.1
  have R0 := R
  obtain ⟨⟨pl, rb, rg, rp, o⟩, t6, -, ⟨⟨f0, a0⟩, ⟨f1, a1⟩, ⟨f2, a2⟩⟩, -⟩ := R
  obtain ⟨g1, hg1⟩ : ∃ z, z = mj_up h 65 (.inr (7, mr_fs (nI (ms_t S).length) (nI 0) (nI (mr_n (ms_r S))) (nI (mr_g (ms_r S))) rb rg rp (nI (ms_a S).length) (nI (ms_s S).length) (ms_g S))) := ⟨_, rfl⟩
  have b1 : mj_pf h 65 7 3 (.int (nI 0)) = some g1 := by rw [hg1]; exact mh_pf 3 o (by simp) rfl
  have o1 := mh_ue hg1
  have F1 : mh_F (fun k => k = 65) h g1 := by rw [hg1]; exact mh_uF
  obtain ⟨g2, hg2⟩ : ∃ z, z = mj_up g1 65 (.inr (7, mr_fs (nI (ms_t S).length) (nI 0) (nI (mr_n (ms_r S))) (nI (mr_g (ms_r S))) (nI 0) rg rp (nI (ms_a S).length) (nI (ms_s S).length) (ms_g S))) := ⟨_, rfl⟩
  have b2 : mj_pf g1 65 7 9 (.int (nI 0)) = some g2 := by rw [hg2]; exact mh_pf 9 o1 (by simp) rfl
  have o2 := mh_ue hg2
  have F2 : mh_F (fun k => k = 65) g1 g2 := by rw [hg2]; exact mh_uF
  obtain ⟨g3, hg3⟩ : ∃ z, z = mj_up g2 65 (.inr (7, mr_fs (nI (ms_t S).length) (nI 0) (nI (mr_n (ms_r S))) (nI (mr_g (ms_r S))) (nI 0) (nI 0) rp (nI (ms_a S).length) (nI (ms_s S).length) (ms_g S))) := ⟨_, rfl⟩
  have b3 : mj_pf g2 65 7 10 (.int (nI 0)) = some g3 := by rw [hg3]; exact mh_pf 10 o2 (by simp) rfl
  have o3 := mh_ue hg3
  have F3 : mh_F (fun k => k = 65) g2 g3 := by rw [hg3]; exact mh_uF
  have F : mh_F (fun k => k = 65) h g3 := (F1.tt F2).tt F3
  have up : ∀ {q q' : mj_H}, mh_F (fun k => k = 65) q q' → mh_F mh_RF q q' := fun F => F.mo (fun k z => Or.inl z)
  have H3 : mh_RP g3 S rp 0 mm_ro0 := ⟨o3, t6.kp F (by omega), mh_ap.of (a0.kp F (by omega)) (fun k _ z => absurd z (Nat.not_lt_zero k)), mh_ap.of (a1.kp F (by omega)) (fun k _ z => absurd z (Nat.not_lt_zero k)), mh_ap.of (a2.kp F (by omega)) (fun k _ z => absurd z (Nat.not_lt_zero k))⟩
  have stop : ∀ {hk dd pl ρ}, mh_RP hk S dd pl ρ → mh_F mh_RF h hk → mm_read (ms_t S) = (pl, none) → pl ≤ 64 → mj_C 106 [.ref 65] h = some (some (.int (nI pl)), hk) → ∃ h', mj_C 106 [.ref 65] h = some (some (.int (mm_fault (ms_t S))), h') ∧ mh_F mh_RF h h' ∧ mh_JR S h' ∧ (mm_read (ms_t S)).1 ≤ 64 ∧ ∀ ρ1, (mm_read (ms_t S)).2 = some ρ1 → ∃ pl, mh_RP h' S (nI (mr_D ρ1)) pl ρ1 ∧ mw_R ρ1 := by
    intro hk dd pl ρ H F E hp e
    have ef : mm_fault (ms_t S) = nI pl := by simp only [mm_fault, E]
    exact ⟨hk, by rw [ef]; exact e, F, R0.rp F H, by rw [E]; exact hp, fun ρ1 z => by rw [E] at z; cases z⟩
  by_cases h82 : (ms_t S)[0]? = some 82
  · have hlen : 0 < (ms_t S).length := (List.getElem?_eq_some_iff.mp h82).1
    have gt0 := H3.2.1.gt (show 0 < 64 by omega) hlen
    have e0 : (ms_t S).getD 0 0 = 82 := by simp [List.getD, h82]
    rw [e0] at gt0
    obtain ⟨g4, b4, H4, F4⟩ := H3.sp 1
    have o4 := H4.1
    cases f1 : mm_fig (ms_t S) 1 0 9 with
    | none =>
      obtain ⟨g5, b5, H5, F5⟩ := mt_107n w H4 (show 1 ≤ (ms_t S).length by omega) (by omega) (by omega) f1
      refine stop H5 (((up F).tt (up F4)).tt F5) (by simp only [mm_read, h82, if_true, f1]) (by omega) ?_
      rw [mc_106]
      simp only [↓reduceIte, ↓mq_106_0, ↓mq_106_1, ↓mq_106_2, ↓mq_106_5, ↓mq_106_6, ↓mq_106_7, ↓mq_106_10, ↓mq_106_11, ↓mq_106_12, ↓mq_106_15, ↓mq_106_16, ↓mq_106_19, ↓mq_106_22, ↓mq_106_23, ↓mq_106_26, ↓mq_106_27, ↓mq_106_28, ↓mq_106_30, ↓mq_106_33, ↓mq_106_34, ↓mq_106_35, ↓mq_106_36, ↓mq_106_37, ↓mq_106_40, ↓mq_106_41, ↓mq_106_42, ↓mq_106_44, ↓mq_106_47, ↓mq_106_48, ↓mq_106_49, ↓mq_106_51, ↓mq_106_54, ↓mq_106_56, ↓mq_106_59, ↓mq_106_60, ↓mq_106_61, ↓mq_106_63, ↓mq_106_66, ↓mq_106_67, ↓mq_106_68, ↓mq_106_70, ↓mq_106_73, ↓mq_106_74, ↓mq_106_77, ↓mq_106_78, ↓mq_106_79, ↓mq_106_81, ↓mq_106_82, ↓mq_106_83, ↓mq_106_84, ↓mq_106_85, ↓mq_106_89, ↓mq_106_92, ↓mq_106_93, ↓mq_106_96, ↓mq_106_99, ↓mq_106_100, ↓mq_106_103, ↓mq_106_106, ↓mq_106_107, ↓mq_106_110, ↓mq_106_111, ↓mq_106_113, ↓mj_bs (b1), ↓mj_bs (b2), ↓mj_bs (b3), ↓mj_bs (mh_gf 2 o3 rfl), mf_eq (show (ms_t S).length ≠ 0 by omega), ↓mj_bs (mh_gf 1 o3 rfl), ↓mj_bs (gt0), ↓mj_bs (b4), mh_isC o4, ↓mj_bs (b5), Option.toList, List.cons_append, List.nil_append, ↓mj_bs (mh_gf 3 H5.1 rfl)]
    | some a =>
      have q1 := mm_fig_le f1
      obtain ⟨g5, b5, H5, F5⟩ := mt_107 w H4 (show 1 ≤ (ms_t S).length by omega) (lo := 0) (hi := 9) (by omega) (by omega)
      rw [f1] at b5 H5
      have b5' : mj_C 107 [.ref 65, .int (nI 0), .int (nI 9)] g4 = some (some (.int (nI a)), g5) := b5
      have H5' : mh_RP g5 S rp 2 mm_ro0 := H5
      cases f2 : mm_fig (ms_t S) 2 0 9 with
      | none =>
        obtain ⟨g6, b6, H6, F6⟩ := mt_107n w H5' (show 2 ≤ (ms_t S).length by omega) (by omega) (by omega) f2
        refine stop H6 ((((up F).tt (up F4)).tt (up F5)).tt F6) (by simp only [mm_read, h82, if_true, f1, f2]) (by omega) ?_
        rw [mc_106]
        simp only [↓reduceIte, ↓mq_106_0, ↓mq_106_1, ↓mq_106_2, ↓mq_106_5, ↓mq_106_6, ↓mq_106_7, ↓mq_106_10, ↓mq_106_11, ↓mq_106_12, ↓mq_106_15, ↓mq_106_16, ↓mq_106_19, ↓mq_106_22, ↓mq_106_23, ↓mq_106_26, ↓mq_106_27, ↓mq_106_28, ↓mq_106_30, ↓mq_106_33, ↓mq_106_34, ↓mq_106_35, ↓mq_106_36, ↓mq_106_37, ↓mq_106_40, ↓mq_106_41, ↓mq_106_42, ↓mq_106_44, ↓mq_106_47, ↓mq_106_48, ↓mq_106_49, ↓mq_106_51, ↓mq_106_54, ↓mq_106_56, ↓mq_106_59, ↓mq_106_60, ↓mq_106_61, ↓mq_106_63, ↓mq_106_66, ↓mq_106_67, ↓mq_106_68, ↓mq_106_70, ↓mq_106_73, ↓mq_106_74, ↓mq_106_77, ↓mq_106_78, ↓mq_106_79, ↓mq_106_81, ↓mq_106_82, ↓mq_106_83, ↓mq_106_84, ↓mq_106_85, ↓mq_106_89, ↓mq_106_92, ↓mq_106_93, ↓mq_106_96, ↓mq_106_99, ↓mq_106_100, ↓mq_106_103, ↓mq_106_106, ↓mq_106_107, ↓mq_106_110, ↓mq_106_111, ↓mq_106_113, ↓mj_bs (b1), ↓mj_bs (b2), ↓mj_bs (b3), ↓mj_bs (mh_gf 2 o3 rfl), mf_eq (show (ms_t S).length ≠ 0 by omega), ↓mj_bs (mh_gf 1 o3 rfl), ↓mj_bs (gt0), ↓mj_bs (b4), mh_isC o4, ↓mj_bs (b5'), mf_m9 (d := a) (by omega), mh_isC H5'.1, ↓mj_bs (b6), Option.toList, List.cons_append, List.nil_append, ↓mj_bs (mh_gf 3 H6.1 rfl)]
      | some b =>
        have q2 := mm_fig_le f2
        obtain ⟨g6, b6, H6, F6⟩ := mt_107 w H5' (show 2 ≤ (ms_t S).length by omega) (lo := 0) (hi := 9) (by omega) (by omega)
        rw [f2] at b6 H6
        have b6' : mj_C 107 [.ref 65, .int (nI 0), .int (nI 9)] g5 = some (some (.int (nI b)), g6) := b6
        have H6' : mh_RP g6 S rp 3 mm_ro0 := H6
        obtain ⟨o6, u6, u7, u71, u72⟩ := H6'
        obtain ⟨g7, hg7⟩ : ∃ z, z = mj_up g6 65 (.inr (7, mr_fs (nI (ms_t S).length) (nI 3) (nI (mr_n (ms_r S))) (nI (mr_g (ms_r S))) (nI 0) (nI 0) (nI (10 * a + b)) (nI (ms_a S).length) (nI (ms_s S).length) (ms_g S))) := ⟨_, rfl⟩
        have b7 : mj_pf g6 65 7 11 (.int (nI (10 * a + b))) = some g7 := by rw [hg7]; exact mh_pf 11 o6 (by simp) rfl
        have o7 := mh_ue hg7
        have F7 : mh_F (fun k => k = 65) g6 g7 := by rw [hg7]; exact mh_uF
        have H7 : mh_RP g7 S (nI (mr_D (mm_roD mm_ro0 (10 * a + b)))) 3 (mm_roD mm_ro0 (10 * a + b)) := ⟨o7, u6.kp F7 (by omega), u7.kp F7 (by omega), u71.kp F7 (by omega), u72.kp F7 (by omega)⟩
        obtain ⟨h', ρ', r1, r2, r3, r4, r5⟩ := mt_106l w (ρ0 := mm_roD mm_ro0 (10 * a + b)) (x := .int (nI a)) (y := .int (nI b)) 64 0 3 _ g7 rfl (by omega) (by have := q2.2.2.2; omega) H7 (mw_D mw_ro0 (by omega)) rfl rfl
        have Ftot : mh_F mh_RF h h' := (((((up F).tt (up F4)).tt (up F5)).tt (up F6)).tt (up F7)).tt r3
        have E : mm_read (ms_t S) = mm_it (ms_t S) (mm_roD mm_ro0 (10 * a + b)) 64 := by simp only [mm_read, h82, if_true, f1, f2]
        have ef : mm_fault (ms_t S) = mm_flt (mm_it (ms_t S) (mm_roD mm_ro0 (10 * a + b)) 64) := by
          unfold mm_fault mm_flt
          rw [E]
          generalize mm_it (ms_t S) (mm_roD mm_ro0 (10 * a + b)) 64 = X
          obtain ⟨xp, xo⟩ := X
          cases xo <;> rfl
        refine ⟨h', ?_, Ftot, R0.rp Ftot r2, by rw [E]; exact r4, fun ρ1 z => ?_⟩
        · rw [ef, mc_106]
          simp only [↓reduceIte, ↓mq_106_0, ↓mq_106_1, ↓mq_106_2, ↓mq_106_5, ↓mq_106_6, ↓mq_106_7, ↓mq_106_10, ↓mq_106_11, ↓mq_106_12, ↓mq_106_15, ↓mq_106_16, ↓mq_106_19, ↓mq_106_22, ↓mq_106_23, ↓mq_106_26, ↓mq_106_27, ↓mq_106_28, ↓mq_106_30, ↓mq_106_33, ↓mq_106_34, ↓mq_106_35, ↓mq_106_36, ↓mq_106_37, ↓mq_106_40, ↓mq_106_41, ↓mq_106_42, ↓mq_106_44, ↓mq_106_47, ↓mq_106_48, ↓mq_106_49, ↓mq_106_51, ↓mq_106_54, ↓mq_106_56, ↓mq_106_59, ↓mq_106_60, ↓mq_106_61, ↓mq_106_63, ↓mq_106_66, ↓mq_106_67, ↓mq_106_68, ↓mq_106_70, ↓mq_106_73, ↓mq_106_74, ↓mq_106_77, ↓mq_106_78, ↓mq_106_79, ↓mq_106_81, ↓mq_106_82, ↓mq_106_83, ↓mq_106_84, ↓mq_106_85, ↓mq_106_89, ↓mq_106_92, ↓mq_106_93, ↓mq_106_96, ↓mq_106_99, ↓mq_106_100, ↓mq_106_103, ↓mq_106_106, ↓mq_106_107, ↓mq_106_110, ↓mq_106_111, ↓mq_106_113, ↓mj_bs (b1), ↓mj_bs (b2), ↓mj_bs (b3), ↓mj_bs (mh_gf 2 o3 rfl), mf_eq (show (ms_t S).length ≠ 0 by omega), ↓mj_bs (mh_gf 1 o3 rfl), ↓mj_bs (gt0), ↓mj_bs (b4), mh_isC o4, ↓mj_bs (b5'), mf_m9 (d := a) (by omega), mh_isC H5'.1, ↓mj_bs (b6'), mf_m9 (d := b) (by omega), Option.toList, List.cons_append, List.nil_append, mn_mul, mn_add, ↓mj_bs (b7)]
          exact r1
        · rw [E] at z
          obtain ⟨y1, y2, y3⟩ := r5 ρ1 z
          rw [y1] at r2
          exact ⟨_, by rw [y3]; exact r2, y2⟩
  · refine stop H3 (up F) (by simp only [mm_read, h82, if_false]) (by omega) ?_
    rw [mc_106]
    by_cases hl : (ms_t S).length = 0
    · simp only [↓reduceIte, ↓mq_106_0, ↓mq_106_1, ↓mq_106_2, ↓mq_106_5, ↓mq_106_6, ↓mq_106_7, ↓mq_106_10, ↓mq_106_11, ↓mq_106_12, ↓mq_106_15, ↓mq_106_16, ↓mq_106_19, ↓mq_106_22, ↓mq_106_23, ↓mq_106_26, ↓mq_106_27, ↓mq_106_28, ↓mq_106_30, ↓mq_106_33, ↓mq_106_34, ↓mq_106_35, ↓mq_106_36, ↓mq_106_37, ↓mq_106_40, ↓mq_106_41, ↓mq_106_42, ↓mq_106_44, ↓mq_106_47, ↓mq_106_48, ↓mq_106_49, ↓mq_106_51, ↓mq_106_54, ↓mq_106_56, ↓mq_106_59, ↓mq_106_60, ↓mq_106_61, ↓mq_106_63, ↓mq_106_66, ↓mq_106_67, ↓mq_106_68, ↓mq_106_70, ↓mq_106_73, ↓mq_106_74, ↓mq_106_77, ↓mq_106_78, ↓mq_106_79, ↓mq_106_81, ↓mq_106_82, ↓mq_106_83, ↓mq_106_84, ↓mq_106_85, ↓mq_106_89, ↓mq_106_92, ↓mq_106_93, ↓mq_106_96, ↓mq_106_99, ↓mq_106_100, ↓mq_106_103, ↓mq_106_106, ↓mq_106_107, ↓mq_106_110, ↓mq_106_111, ↓mq_106_113, ↓mj_bs (b1), ↓mj_bs (b2), ↓mj_bs (b3), ↓mj_bs (mh_gf 2 o3 rfl), mt_eq hl]
    · obtain ⟨c, k1, k2, -⟩ := mm_xg w H3 (show 0 < (ms_t S).length by omega)
      have hc256 := w.2.1 c (List.mem_of_getElem? k2)
      have hc82 : c ≠ 82 := fun z => h82 (by rw [k2, z])
      simp only [↓reduceIte, ↓mq_106_0, ↓mq_106_1, ↓mq_106_2, ↓mq_106_5, ↓mq_106_6, ↓mq_106_7, ↓mq_106_10, ↓mq_106_11, ↓mq_106_12, ↓mq_106_15, ↓mq_106_16, ↓mq_106_19, ↓mq_106_22, ↓mq_106_23, ↓mq_106_26, ↓mq_106_27, ↓mq_106_28, ↓mq_106_30, ↓mq_106_33, ↓mq_106_34, ↓mq_106_35, ↓mq_106_36, ↓mq_106_37, ↓mq_106_40, ↓mq_106_41, ↓mq_106_42, ↓mq_106_44, ↓mq_106_47, ↓mq_106_48, ↓mq_106_49, ↓mq_106_51, ↓mq_106_54, ↓mq_106_56, ↓mq_106_59, ↓mq_106_60, ↓mq_106_61, ↓mq_106_63, ↓mq_106_66, ↓mq_106_67, ↓mq_106_68, ↓mq_106_70, ↓mq_106_73, ↓mq_106_74, ↓mq_106_77, ↓mq_106_78, ↓mq_106_79, ↓mq_106_81, ↓mq_106_82, ↓mq_106_83, ↓mq_106_84, ↓mq_106_85, ↓mq_106_89, ↓mq_106_92, ↓mq_106_93, ↓mq_106_96, ↓mq_106_99, ↓mq_106_100, ↓mq_106_103, ↓mq_106_106, ↓mq_106_107, ↓mq_106_110, ↓mq_106_111, ↓mq_106_113, ↓mj_bs (b1), ↓mj_bs (b2), ↓mj_bs (b3), ↓mj_bs (mh_gf 2 o3 rfl), mf_eq hl, ↓mj_bs (mh_gf 1 o3 rfl), ↓mj_bs (k1), mf_eq hc82]
theorem mh_JC.rd (C : mh_JC S h) (F : mh_F (mh_SR 2 12) h h') {pl : Nat} {sp : Bool} (Sc : mh_Sc h' 2 (ms_t S) pl sp) (Rd : mh_Ro h' 12 ρ) : mh_JC S h' := by
  have no : ∀ k, k ≠ 2 → ¬ (12 ≤ k ∧ k ≤ 19) → ¬ mh_SR 2 12 k := fun k a b z => by
    rcases z with z | z
    · exact a z
    · exact b z
  obtain ⟨h1, -, h3, -, h5, ⟨μ', h6⟩, h7, h8, h9, h10, ⟨f, h11⟩, h12, h13⟩ := C
  exact ⟨(F.2 1 (no _ (by omega) (by omega))).trans h1, ⟨pl, sp, Sc⟩, h3.kp F (fun k a b => no _ (by omega) (by omega)), ⟨ρ, Rd⟩, h5.kp F (no _ (by omega) (by omega)) (no _ (by omega) (by omega)), ⟨μ', h6.kp F (no _ (by omega) (by omega)) (no _ (by omega) (by omega))⟩, h7.kp F (fun k a b => no _ (by omega) (by omega)), (F.2 54 (no _ (by omega) (by omega))).trans h8, (F.2 55 (no _ (by omega) (by omega))).trans h9, h10.kp F (no _ (by omega) (by omega)) (no _ (by omega) (by omega)) (no _ (by omega) (by omega)), ⟨f, h11.kp F (no _ (by omega) (by omega)) (no _ (by omega) (by omega))⟩, h12.kp F (no _ (by omega) (by omega)) (no _ (by omega) (by omega)), h13.kp F (no _ (by omega) (by omega)) (no _ (by omega) (by omega))⟩
theorem mo_62 (J : mh_J S h) : mh_op 62 105 [] h := by
  have JJ := J
  obtain ⟨w, C, R⟩ := J
  have C' := C
  obtain ⟨o1, ⟨pl, sp, Sc⟩, -, ⟨ρd, Rd⟩, -⟩ := C
  obtain ⟨h1, pl', sp', ρ', e1, Sc1, Rd1, -, F1, -⟩ := mt_50 Sc Rd (by omega) (by omega)
  refine mh_opI (v := .int (mm_fault (ms_t S))) (S' := S) JJ (h1 := h1) w ?_ (F1.mo (fun k z => by
    rcases z with z | z
    · subst z; exact ⟨by omega, by omega⟩
    · exact ⟨by have := z.1; omega, by have := z.2; omega⟩)) (C'.rd F1 Sc1 Rd1) ?_
  · rw [mc_62]
    simp only [↓reduceIte, ↓mq_62_0, ↓mq_62_1, ↓mq_62_4, ↓mq_62_5, ↓mq_62_8, ↓mq_62_11, ↓mj_bs (mh_gf 0 o1 rfl), ↓mj_bs (mh_gf 2 o1 rfl), mh_isC Sc.1, ↓mj_bs (e1), Option.toList, List.cons_append, List.nil_append]
  · intro R
    have hrb := R.rr.1
    obtain ⟨h2, e2, F2, R2, -⟩ := mt_106 w R
    refine ⟨h2, ?_, R2, F2.mo (fun k z => by rcases z with z | z | z | z <;> omega)⟩
    rw [mc_105]
    simp only [↓reduceIte, ↓mq_105_0, ↓mq_105_1, ↓mq_105_2, ↓mq_105_5, ↓mq_105_6, ↓mq_105_9, ↓mj_bs (mr_th hrb), mr_is hrb, ↓mj_bs (e2), Option.toList, List.cons_append, List.nil_append]
end
