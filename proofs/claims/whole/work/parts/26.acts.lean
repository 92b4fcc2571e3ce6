/-! THE CLASS'S MARCH: one act told by its figure; THE CLASS'S ROW OF ACTS -/
section
variable {h : mj_H} {m r : Nat} {ρ : mm_Ro} {μ : mm_Ma}
theorem mt_24 (w : mw_R ρ) (wm : mw_M ρ μ) (H : mh_Ro h r ρ) (hd : r + 7 < m) (M : mh_Ma h m r μ) {f : Nat} (hf : f < 10) : ∃ h', mj_C 24 [.ref m, .int (nI f)] h = some (some (.int (mj_bI (mm_try ρ μ f).isSome)), h') ∧ mh_Ma h' m r ((mm_try ρ μ f).getD μ) ∧ mh_F (mh_A m (m + 1)) h h' := by
  have sub : ∀ k, k = m → mh_A m (m + 1) k := fun k hk => by subst hk; exact ⟨by omega, by omega⟩
  have can : ∀ {g : Nat}, f = g → (nI f = nI g) = True := fun e => mt_eq e
  by_cases f0 : f = 0
  · cases hc : mm_has ρ μ
    · refine ⟨h, ?_, by simp only [f0, mm_try, hc, Bool.false_eq_true, if_false, Option.getD_none]; exact M, mh_F.rf⟩
      rw [mc_24]
      simp only [↓reduceIte, ↓mq_24_0, ↓mq_24_1, ↓mq_24_4, ↓mq_24_5, ↓mq_24_8, ↓mq_24_11, ↓mq_24_12, ↓mq_24_13, ↓mq_24_16, ↓mq_24_17, ↓mq_24_20, ↓mq_24_23, ↓mq_24_24, ↓mq_24_25, ↓mq_24_28, ↓mq_24_29, ↓mq_24_30, ↓mq_24_33, ↓mq_24_34, ↓mq_24_37, ↓mq_24_40, ↓mq_24_41, ↓mq_24_44, ↓mq_24_45, ↓mq_24_46, ↓mq_24_47, ↓mq_24_50, ↓mq_24_76, ↓mq_24_77, ↓mq_24_80, ↓mq_24_83, ↓mq_24_84, ↓mq_24_87, ↓mq_24_88, ↓mq_24_91, ↓mq_24_92, ↓mq_24_95, ↓mq_24_96, ↓mq_24_99, ↓mq_24_100, ↓mq_24_103, ↓mq_24_104, ↓mq_24_105, mt_eq f0, mh_isC M.1, ↓mj_bs (mt_12 w wm H M), Option.toList, List.cons_append, List.nil_append, mj_b0, hc, mf_eq (show f ≠ 1 by omega), mf_eq (show f ≠ 2 by omega), mf_eq (show f ≠ 3 by omega), mt_eq (show 0 = 0 from rfl), mj_z0]
      simp [f0, mm_try, hc, mj_bI]
    · obtain ⟨h', r1, r2, r3⟩ := mt_20 w wm H M (by simpa [mm_has] using hc)
      refine ⟨h', ?_, by simp only [f0, mm_try, hc, if_true, Option.getD_some]; exact r2, r3.mo sub⟩
      rw [mc_24]
      subst f0
      simp only [↓reduceIte, ↓mq_24_0, ↓mq_24_1, ↓mq_24_4, ↓mq_24_5, ↓mq_24_8, ↓mq_24_11, ↓mq_24_12, ↓mq_24_13, ↓mq_24_16, ↓mq_24_17, ↓mq_24_20, ↓mq_24_23, ↓mq_24_24, ↓mq_24_25, ↓mq_24_28, ↓mq_24_29, ↓mq_24_30, ↓mq_24_33, ↓mq_24_34, ↓mq_24_37, ↓mq_24_40, ↓mq_24_41, ↓mq_24_44, ↓mq_24_45, ↓mq_24_46, ↓mq_24_47, ↓mq_24_50, ↓mq_24_76, ↓mq_24_77, ↓mq_24_80, ↓mq_24_83, ↓mq_24_84, ↓mq_24_87, ↓mq_24_88, ↓mq_24_91, ↓mq_24_92, ↓mq_24_95, ↓mq_24_96, ↓mq_24_99, ↓mq_24_100, ↓mq_24_103, ↓mq_24_104, ↓mq_24_105, mt_eq (show 0 = 0 from rfl), mh_isC M.1, ↓mj_bs (mt_12 w wm H M), Option.toList, List.cons_append, List.nil_append, mj_b0, hc, Bool.true_eq_false, mf_eq (show 1 ≠ 0 by omega), mq_24_51_0, ↓mj_bs (r1), mj_z1]
      simp [mm_try, hc, mj_bI]
  · by_cases f1 : f = 1
    · cases hc : mm_can ρ μ
      · refine ⟨h, ?_, by simp only [f1, mm_try, hc, Bool.false_eq_true, if_false, Option.getD_none]; exact M, mh_F.rf⟩
        rw [mc_24]
        simp only [↓reduceIte, ↓mq_24_0, ↓mq_24_1, ↓mq_24_4, ↓mq_24_5, ↓mq_24_8, ↓mq_24_11, ↓mq_24_12, ↓mq_24_13, ↓mq_24_16, ↓mq_24_17, ↓mq_24_20, ↓mq_24_23, ↓mq_24_24, ↓mq_24_25, ↓mq_24_28, ↓mq_24_29, ↓mq_24_30, ↓mq_24_33, ↓mq_24_34, ↓mq_24_37, ↓mq_24_40, ↓mq_24_41, ↓mq_24_44, ↓mq_24_45, ↓mq_24_46, ↓mq_24_47, ↓mq_24_50, ↓mq_24_76, ↓mq_24_77, ↓mq_24_80, ↓mq_24_83, ↓mq_24_84, ↓mq_24_87, ↓mq_24_88, ↓mq_24_91, ↓mq_24_92, ↓mq_24_95, ↓mq_24_96, ↓mq_24_99, ↓mq_24_100, ↓mq_24_103, ↓mq_24_104, ↓mq_24_105, mf_eq f0, mt_eq f1, mh_isC M.1, ↓mj_bs (mt_16 w wm H M), Option.toList, List.cons_append, List.nil_append, mj_b0, hc, mf_eq (show f ≠ 2 by omega), mf_eq (show f ≠ 3 by omega), mt_eq (show 0 = 0 from rfl), mj_z0]
        simp [f1, mm_try, hc, mj_bI]
      · obtain ⟨h', r1, r2, r3⟩ := mt_18 w wm H hd M hc
        refine ⟨h', ?_, by simp only [f1, mm_try, hc, if_true, Option.getD_some]; exact r2, r3⟩
        rw [mc_24]
        subst f1
        simp only [↓reduceIte, ↓mq_24_0, ↓mq_24_1, ↓mq_24_4, ↓mq_24_5, ↓mq_24_8, ↓mq_24_11, ↓mq_24_12, ↓mq_24_13, ↓mq_24_16, ↓mq_24_17, ↓mq_24_20, ↓mq_24_23, ↓mq_24_24, ↓mq_24_25, ↓mq_24_28, ↓mq_24_29, ↓mq_24_30, ↓mq_24_33, ↓mq_24_34, ↓mq_24_37, ↓mq_24_40, ↓mq_24_41, ↓mq_24_44, ↓mq_24_45, ↓mq_24_46, ↓mq_24_47, ↓mq_24_50, ↓mq_24_76, ↓mq_24_77, ↓mq_24_80, ↓mq_24_83, ↓mq_24_84, ↓mq_24_87, ↓mq_24_88, ↓mq_24_91, ↓mq_24_92, ↓mq_24_95, ↓mq_24_96, ↓mq_24_99, ↓mq_24_100, ↓mq_24_103, ↓mq_24_104, ↓mq_24_105, mf_eq (show 1 ≠ 0 by omega), mt_eq (show 1 = 1 from rfl), mh_isC M.1, ↓mj_bs (mt_16 w wm H M), Option.toList, List.cons_append, List.nil_append, mj_b0, hc, Bool.true_eq_false, mq_24_51_1, ↓mj_bs (r1), mj_z1]
        simp [mm_try, hc, mj_bI]
    · by_cases f2 : f = 2
      · obtain ⟨h', r1, r2, r3⟩ := mt_21 w wm H hd M
        refine ⟨h', ?_, by simp only [f2, mm_try, Option.getD_some]; exact r2, r3.mo sub⟩
        rw [mc_24]
        subst f2
        simp only [↓reduceIte, ↓mq_24_0, ↓mq_24_1, ↓mq_24_4, ↓mq_24_5, ↓mq_24_8, ↓mq_24_11, ↓mq_24_12, ↓mq_24_13, ↓mq_24_16, ↓mq_24_17, ↓mq_24_20, ↓mq_24_23, ↓mq_24_24, ↓mq_24_25, ↓mq_24_28, ↓mq_24_29, ↓mq_24_30, ↓mq_24_33, ↓mq_24_34, ↓mq_24_37, ↓mq_24_40, ↓mq_24_41, ↓mq_24_44, ↓mq_24_45, ↓mq_24_46, ↓mq_24_47, ↓mq_24_50, ↓mq_24_76, ↓mq_24_77, ↓mq_24_80, ↓mq_24_83, ↓mq_24_84, ↓mq_24_87, ↓mq_24_88, ↓mq_24_91, ↓mq_24_92, ↓mq_24_95, ↓mq_24_96, ↓mq_24_99, ↓mq_24_100, ↓mq_24_103, ↓mq_24_104, ↓mq_24_105, mf_eq (show 2 ≠ 0 by omega), mf_eq (show 2 ≠ 1 by omega), mt_eq (show 2 = 2 from rfl), mf_eq (show 1 ≠ 0 by omega), mh_isC M.1, mq_24_51_2, ↓mj_bs (r1), Option.toList, List.cons_append, List.nil_append, mj_z1]
        simp [mm_try, mj_bI]
      · by_cases f3 : f = 3
        · cases hc : mm_cul ρ μ
          · refine ⟨h, ?_, by simp only [f3, mm_try, hc, Bool.false_eq_true, if_false, Option.getD_none]; exact M, mh_F.rf⟩
            rw [mc_24]
            simp only [↓reduceIte, ↓mq_24_0, ↓mq_24_1, ↓mq_24_4, ↓mq_24_5, ↓mq_24_8, ↓mq_24_11, ↓mq_24_12, ↓mq_24_13, ↓mq_24_16, ↓mq_24_17, ↓mq_24_20, ↓mq_24_23, ↓mq_24_24, ↓mq_24_25, ↓mq_24_28, ↓mq_24_29, ↓mq_24_30, ↓mq_24_33, ↓mq_24_34, ↓mq_24_37, ↓mq_24_40, ↓mq_24_41, ↓mq_24_44, ↓mq_24_45, ↓mq_24_46, ↓mq_24_47, ↓mq_24_50, ↓mq_24_76, ↓mq_24_77, ↓mq_24_80, ↓mq_24_83, ↓mq_24_84, ↓mq_24_87, ↓mq_24_88, ↓mq_24_91, ↓mq_24_92, ↓mq_24_95, ↓mq_24_96, ↓mq_24_99, ↓mq_24_100, ↓mq_24_103, ↓mq_24_104, ↓mq_24_105, mf_eq f0, mf_eq f1, mf_eq f2, mt_eq f3, mh_isC M.1, ↓mj_bs (mt_22 w wm H M), Option.toList, List.cons_append, List.nil_append, mj_b0, hc, mt_eq (show 0 = 0 from rfl), mj_z0]
            simp [f3, mm_try, hc, mj_bI]
          · obtain ⟨h', r1, r2, r3⟩ := mt_23 M
            refine ⟨h', ?_, by simp only [f3, mm_try, hc, if_true, Option.getD_some]; exact r2, r3.mo sub⟩
            rw [mc_24]
            subst f3
            simp only [↓reduceIte, ↓mq_24_0, ↓mq_24_1, ↓mq_24_4, ↓mq_24_5, ↓mq_24_8, ↓mq_24_11, ↓mq_24_12, ↓mq_24_13, ↓mq_24_16, ↓mq_24_17, ↓mq_24_20, ↓mq_24_23, ↓mq_24_24, ↓mq_24_25, ↓mq_24_28, ↓mq_24_29, ↓mq_24_30, ↓mq_24_33, ↓mq_24_34, ↓mq_24_37, ↓mq_24_40, ↓mq_24_41, ↓mq_24_44, ↓mq_24_45, ↓mq_24_46, ↓mq_24_47, ↓mq_24_50, ↓mq_24_76, ↓mq_24_77, ↓mq_24_80, ↓mq_24_83, ↓mq_24_84, ↓mq_24_87, ↓mq_24_88, ↓mq_24_91, ↓mq_24_92, ↓mq_24_95, ↓mq_24_96, ↓mq_24_99, ↓mq_24_100, ↓mq_24_103, ↓mq_24_104, ↓mq_24_105, mf_eq f0, mf_eq f1, mf_eq f2, mt_eq (show 3 = 3 from rfl), mh_isC M.1, ↓mj_bs (mt_22 w wm H M), Option.toList, List.cons_append, List.nil_append, mj_b0, hc, Bool.true_eq_false, mf_eq (show 1 ≠ 0 by omega), mq_24_51_d (x := nI 3) (by decide), ↓mj_bs (r1), mj_z1]
            simp [mm_try, hc, mj_bI]
        · have ht : mm_try ρ μ f = none := by
            unfold mm_try
            split <;> first | omega | rfl
          refine ⟨h, ?_, by rw [ht]; exact M, mh_F.rf⟩
          rw [mc_24]
          simp only [↓reduceIte, ↓mq_24_0, ↓mq_24_1, ↓mq_24_4, ↓mq_24_5, ↓mq_24_8, ↓mq_24_11, ↓mq_24_12, ↓mq_24_13, ↓mq_24_16, ↓mq_24_17, ↓mq_24_20, ↓mq_24_23, ↓mq_24_24, ↓mq_24_25, ↓mq_24_28, ↓mq_24_29, ↓mq_24_30, ↓mq_24_33, ↓mq_24_34, ↓mq_24_37, ↓mq_24_40, ↓mq_24_41, ↓mq_24_44, ↓mq_24_45, ↓mq_24_46, ↓mq_24_47, ↓mq_24_50, ↓mq_24_76, ↓mq_24_77, ↓mq_24_80, ↓mq_24_83, ↓mq_24_84, ↓mq_24_87, ↓mq_24_88, ↓mq_24_91, ↓mq_24_92, ↓mq_24_95, ↓mq_24_96, ↓mq_24_99, ↓mq_24_100, ↓mq_24_103, ↓mq_24_104, ↓mq_24_105, mf_eq f0, mf_eq f1, mf_eq f2, mf_eq f3, mt_eq (show 0 = 0 from rfl), mj_z0]
          simp [ht, mj_bI]
end
def mm_rem (l : List mm_Ma) (μ : mm_Ma) : List mm_Ma := if l.length < 14 then l ++ [μ] else l.tail ++ [μ]
def mh_Ac (h : mj_H) (a r : Nat) (l : List mm_Ma) : Prop := ∃ old, old < 14 ∧ l.length ≤ 14 ∧ h.1 a = some (.inr (0, [.ref (a + 1), .int (nI old), .int (nI l.length)])) ∧ h.1 (a + 1) = some (.inr (99, (List.range 14).map (fun k => .ref (a + 2 + 2 * k)))) ∧ (∀ k μ, l[k]? = some μ → mh_Ma h (a + 2 + 2 * ((old + k) % 14)) r μ) ∧ ∀ k, k < 14 → ∃ μ, mh_Ma h (a + 2 + 2 * k) r μ
theorem mh_Ac.kp {A : Nat → Prop} {h h' : mj_H} {a r : Nat} {l : List mm_Ma} (H : mh_Ac h a r l) (F : mh_F A h h') (hA : ∀ k, a ≤ k → k ≤ a + 29 → ¬ A k) : mh_Ac h' a r l := by
  obtain ⟨old, h1, h2, h3, h4, h5, h6⟩ := H
  refine ⟨old, h1, h2, (F.2 a (hA a (by omega) (by omega))).trans h3, (F.2 _ (hA _ (by omega) (by omega))).trans h4, fun k μ hk => ?_, fun k hk => ?_⟩
  · exact (h5 k μ hk).kp F (hA _ (by omega) (by omega)) (hA _ (by omega) (by omega))
  · obtain ⟨μ, hμ⟩ := h6 k hk
    exact ⟨μ, hμ.kp F (hA _ (by omega) (by omega)) (hA _ (by omega) (by omega))⟩
section
variable {h : mj_H} {a m r : Nat} {l : List mm_Ma} {μ : mm_Ma}
theorem mh_gq {x k n : Nat} {f : Nat → Nat} (H : h.1 x = some (.inr (99, (List.range n).map (fun k => .ref (f k))))) (hk : k < n) (hn : n < 2 ^ 31 := by omega) : mj_gq h x (nI k) = some (f k) := by
  obtain ⟨i1, i2⟩ := mn_ix (show k < 2 ^ 31 by omega)
  simp only [mj_gq, H]
  rw [if_pos ⟨trivial, i1⟩, i2]
  simp [hk]
theorem mt_3 {old : Nat} {v : Value} (H : h.1 a = some (.inr (0, [v, .int (nI old), .int (nI 0)])) ∨ ∃ c : Int32, h.1 a = some (.inr (0, [v, .int (nI old), .int c]))) (ho : old < 14) {k : Nat} (hk : k ≤ 14) : mj_C 3 [.ref a, .int (nI k)] h = some (some (.int (nI ((old + k) % 14))), h) := by
  have H' : ∃ c : Int32, h.1 a = some (.inr (0, [v, .int (nI old), .int c])) := by
    rcases H with H | H
    · exact ⟨_, H⟩
    · exact H
  obtain ⟨c, H⟩ := H'
  rw [mc_3]
  simp only [↓reduceIte, ↓mq_3_0, ↓mq_3_1, ↓mq_3_4, ↓mq_3_5, ↓mq_3_6, ↓mq_3_8, ↓mq_3_9, ↓mj_bs (mh_gf 1 H rfl), mn_add, mf_eq (show 14 ≠ 0 by omega), show (nI 14 = 0) = False from by decide, mn_rem (show old + k < 2 ^ 31 by omega) (show 14 < 2 ^ 31 by omega)]
theorem mt_1 (H : mh_Ac h a r l) : ∃ h', mj_C 1 [.ref a] h = some (none, h') ∧ mh_Ac h' a r [] ∧ mh_F (fun k => k = a) h h' := by
  obtain ⟨old, h1, h2, h3, h4, h5, h6⟩ := H
  have F : mh_F (fun k => k = a) h (mj_up h a (.inr (0, [.ref (a + 1), .int (nI old), .int (nI 0)]))) := mh_uF
  refine ⟨_, ?_, ⟨old, h1, by simp, mh_ua, (F.2 _ (by omega)).trans h4, fun k μ hk => by simp at hk, fun k hk => ?_⟩, F⟩
  · rw [mc_1]
    simp only [↓reduceIte, ↓mq_1_0, ↓mq_1_1, ↓mq_1_2, ↓mq_1_5, ↓mj_bs (mh_pf 2 (v := .int (nI 0)) h3 (by simp) rfl)]
    rfl
  · obtain ⟨μ, hμ⟩ := h6 k hk
    exact ⟨μ, hμ.kp F (by omega) (by omega)⟩
theorem mt_2 (H : mh_Ac h a r l) (M : mh_Ma h m r μ) (hm : m + 1 < a) : ∃ h', mj_C 2 [.ref a, .ref m] h = some (none, h') ∧ mh_Ac h' a r (mm_rem l μ) ∧ mh_F (mh_A a (a + 29)) h h' := by
  obtain ⟨old, h1, h2, h3, h4, h5, h6⟩ := H
  have hs : (old + l.length) % 14 < 14 := Nat.mod_lt _ (by decide)
  obtain ⟨ν, hν⟩ := h6 _ hs
  obtain ⟨g1, e1, M1, F1⟩ := mt_17 hν M (by omega) (by omega) (by omega)
  have o1 := (F1.2 a (fun z => by have := z.1; omega)).trans h3
  have sub1 : ∀ k, mh_A (a + 2 + 2 * ((old + l.length) % 14)) (a + 2 + 2 * ((old + l.length) % 14) + 1) k → mh_A a (a + 29) k := fun k z => ⟨by have := z.1; omega, by have := z.2; omega⟩
  have sub2 : ∀ k, k = a → mh_A a (a + 29) k := fun k z => by subst z; exact ⟨by omega, by omega⟩
  have keep : ∀ {k : Nat} {ξ : mm_Ma}, k < 14 → k ≠ (old + l.length) % 14 → mh_Ma h (a + 2 + 2 * k) r ξ → mh_Ma g1 (a + 2 + 2 * k) r ξ := fun hk hne z => z.kp F1 (fun q => by have q1 := q.1; have q2 := q.2; omega) (fun q => by have q1 := q.1; have q2 := q.2; omega)
  have all1 : ∀ k, k < 14 → ∃ μ, mh_Ma g1 (a + 2 + 2 * k) r μ := fun k hk => by
    by_cases e : k = (old + l.length) % 14
    · exact ⟨μ, by rw [e]; exact M1⟩
    · obtain ⟨ξ, hξ⟩ := h6 k hk
      exact ⟨ξ, keep hk e hξ⟩
  by_cases hl : l.length < 14
  · have F2 : mh_F (fun k => k = a) g1 (mj_up g1 a (.inr (0, [.ref (a + 1), .int (nI old), .int (nI (l.length + 1))]))) := mh_uF
    refine ⟨_, ?_, ⟨old, h1, ?_, ?_, (F2.2 _ (by omega)).trans ((F1.2 _ (fun z => by have := z.1; omega)).trans h4), fun k ξ hk => ?_, fun k hk => ?_⟩, (F1.mo sub1).tt (F2.mo sub2)⟩
    · rw [mc_2]
      simp only [↓reduceIte, ↓mq_2_0, ↓mq_2_1, ↓mq_2_4, ↓mq_2_5, ↓mq_2_6, ↓mq_2_9, ↓mq_2_12, ↓mq_2_13, ↓mq_2_14, ↓mq_2_17, ↓mq_2_18, ↓mq_2_21, ↓mq_2_23, ↓mq_2_26, ↓mq_2_27, ↓mq_2_28, ↓mq_2_31, ↓mq_2_32, ↓mq_2_33, ↓mq_2_36, ↓mq_2_39, ↓mq_2_40, ↓mq_2_41, ↓mq_2_42, ↓mq_2_45, ↓mq_2_48, ↓mj_bs (mh_gf 0 h3 rfl), ↓mj_bs (mh_gf 2 h3 rfl), mh_isC h3, ↓mj_bs (mt_3 (Or.inr ⟨_, h3⟩) h1 (show l.length ≤ 14 by omega)), Option.toList, List.cons_append, List.nil_append, ↓mj_bs (mh_gq h4 hs), mh_isC hν.1, ↓mj_bs (e1), ↓mj_bs (mh_gf 2 o1 rfl), mf_le hl, mn_add, ↓mj_bs (mh_pf 2 (v := .int (nI (l.length + 1))) o1 (by simp) rfl)]
      rfl
    · simp [mm_rem, hl]; omega
    · simp only [mm_rem, if_pos hl, List.length_append, List.length_cons, List.length_nil]; exact mh_ua
    · simp only [mm_rem, if_pos hl] at hk
      refine mh_Ma.kp ?_ F2 (by omega) (by omega)
      by_cases hkl : k < l.length
      · rw [List.getElem?_append_left hkl] at hk
        exact keep (Nat.mod_lt _ (by decide)) (by omega) (h5 k ξ hk)
      · rw [List.getElem?_append_right (by omega)] at hk
        have hk0 : k - l.length < 1 := (List.getElem?_eq_some_iff.mp hk).1
        have : k = l.length := by omega
        subst this
        rw [Nat.sub_self] at hk
        cases hk
        exact M1
    · obtain ⟨ξ, hξ⟩ := all1 k hk
      exact ⟨ξ, hξ.kp F2 (by omega) (by omega)⟩
  · have hl14 : l.length = 14 := by omega
    have F2 : mh_F (fun k => k = a) g1 (mj_up g1 a (.inr (0, [.ref (a + 1), .int (nI ((old + 1) % 14)), .int (nI l.length)]))) := mh_uF
    refine ⟨_, ?_, ⟨(old + 1) % 14, Nat.mod_lt _ (by decide), ?_, ?_, (F2.2 _ (by omega)).trans ((F1.2 _ (fun z => by have := z.1; omega)).trans h4), fun k ξ hk => ?_, fun k hk => ?_⟩, (F1.mo sub1).tt (F2.mo sub2)⟩
    · rw [mc_2]
      simp only [↓reduceIte, ↓mq_2_0, ↓mq_2_1, ↓mq_2_4, ↓mq_2_5, ↓mq_2_6, ↓mq_2_9, ↓mq_2_12, ↓mq_2_13, ↓mq_2_14, ↓mq_2_17, ↓mq_2_18, ↓mq_2_21, ↓mq_2_23, ↓mq_2_26, ↓mq_2_27, ↓mq_2_28, ↓mq_2_31, ↓mq_2_32, ↓mq_2_33, ↓mq_2_36, ↓mq_2_39, ↓mq_2_40, ↓mq_2_41, ↓mq_2_42, ↓mq_2_45, ↓mq_2_48, ↓mj_bs (mh_gf 0 h3 rfl), ↓mj_bs (mh_gf 2 h3 rfl), mh_isC h3, ↓mj_bs (mt_3 (Or.inr ⟨_, h3⟩) h1 (show l.length ≤ 14 by omega)), Option.toList, List.cons_append, List.nil_append, ↓mj_bs (mh_gq h4 hs), mh_isC hν.1, ↓mj_bs (e1), ↓mj_bs (mh_gf 2 o1 rfl), mt_le (show 14 ≤ l.length by omega), mh_isC o1, ↓mj_bs (mt_3 (Or.inr ⟨_, o1⟩) h1 (show 1 ≤ 14 by omega)), ↓mj_bs (mh_pf 1 (v := .int (nI ((old + 1) % 14))) o1 (by simp) rfl)]
      rfl
    · simp [mm_rem, hl]; omega
    · have : (mm_rem l μ).length = l.length := by simp [mm_rem, hl]; omega
      rw [this]; exact mh_ua
    · simp only [mm_rem, if_neg hl] at hk
      refine mh_Ma.kp ?_ F2 (by omega) (by omega)
      have htl : l.tail.length = 13 := by simp [hl14]
      by_cases hkl : k < 13
      · rw [List.getElem?_append_left (by omega), List.getElem?_tail] at hk
        have e : ((old + 1) % 14 + k) % 14 = (old + (k + 1)) % 14 := by omega
        rw [e]
        exact keep (Nat.mod_lt _ (by decide)) (by omega) (h5 (k + 1) ξ hk)
      · rw [List.getElem?_append_right (by omega)] at hk
        have hk0 : k - l.tail.length < 1 := (List.getElem?_eq_some_iff.mp hk).1
        have : k = 13 := by omega
        subst this
        rw [htl, Nat.sub_self] at hk
        cases hk
        have e : ((old + 1) % 14 + 13) % 14 = (old + l.length) % 14 := by omega
        rw [e]
        exact M1
    · obtain ⟨ξ, hξ⟩ := all1 k hk
      exact ⟨ξ, hξ.kp F2 (by omega) (by omega)⟩
theorem mt_4n (H : mh_Ac h a r []) : mj_C 4 [.ref a, .ref m] h = some (some (.int (nI 0)), h) := by
  obtain ⟨old, h1, h2, h3, h4, h5, h6⟩ := H
  have h3' : h.1 a = some (.inr (0, [.ref (a + 1), .int (nI old), .int (nI 0)])) := h3
  rw [mc_4]
  simp only [↓reduceIte, ↓mq_4_0, ↓mq_4_1, ↓mq_4_4, ↓mq_4_7, ↓mq_4_8, ↓mq_4_9, ↓mq_4_10, ↓mq_4_11, ↓mq_4_14, ↓mq_4_15, ↓mq_4_16, ↓mq_4_19, ↓mq_4_20, ↓mq_4_21, ↓mq_4_24, ↓mq_4_25, ↓mq_4_26, ↓mq_4_29, ↓mq_4_32, ↓mq_4_33, ↓mq_4_36, ↓mq_4_37, ↓mj_bs (mh_gf 2 h3' rfl), mf_lt (Nat.le_refl 0), mj_z0]
theorem mt_4 {ν : mm_Ma} (H : mh_Ac h a r (l ++ [ν])) (M : mh_Ma h m r μ) (hm : m + 1 < a) : ∃ h', mj_C 4 [.ref a, .ref m] h = some (some (.int (nI 1)), h') ∧ mh_Ac h' a r l ∧ mh_Ma h' m r ν ∧ mh_F (fun k => k = a ∨ mh_A m (m + 1) k) h h' := by
  obtain ⟨old, h1, h2, h3, h4, h5, h6⟩ := H
  simp only [List.length_append, List.length_cons, List.length_nil] at h2 h3
  have F1 : mh_F (fun k => k = a) h (mj_up h a (.inr (0, [.ref (a + 1), .int (nI old), .int (nI l.length)]))) := mh_uF
  have o1 : (mj_up h a (.inr (0, [.ref (a + 1), .int (nI old), .int (nI l.length)]))).1 a = some (.inr (0, [.ref (a + 1), .int (nI old), .int (nI l.length)])) := mh_ua
  have hν := (h5 l.length ν (by simp)).kp F1 (by omega) (by omega)
  have hq := (F1.2 (a + 1) (by omega)).trans h4
  obtain ⟨g1, e1, M1, F2⟩ := mt_17 (M.kp F1 (by omega) (by omega)) hν (by omega) (by omega) (by omega)
  refine ⟨g1, ?_, ⟨old, h1, by omega, (F2.2 a (fun z => by have := z.2; omega)).trans o1, (F2.2 _ (fun z => by have := z.2; omega)).trans hq, fun k ξ hk => ?_, fun k hk => ?_⟩, M1, F1.tr F2 (fun k z => Or.inl z) (fun k z => Or.inr z)⟩
  · have hs : (old + l.length) % 14 < 14 := Nat.mod_lt _ (by decide)
    rw [mc_4]
    simp only [↓reduceIte, ↓mq_4_0, ↓mq_4_1, ↓mq_4_4, ↓mq_4_7, ↓mq_4_8, ↓mq_4_9, ↓mq_4_10, ↓mq_4_11, ↓mq_4_14, ↓mq_4_15, ↓mq_4_16, ↓mq_4_19, ↓mq_4_20, ↓mq_4_21, ↓mq_4_24, ↓mq_4_25, ↓mq_4_26, ↓mq_4_29, ↓mq_4_32, ↓mq_4_33, ↓mq_4_36, ↓mq_4_37, ↓mj_bs (mh_gf 2 h3 rfl), mt_lt (show 0 < l.length + 1 by omega), mn_sub (show 1 ≤ l.length + 1 by omega), Nat.add_sub_cancel, ↓mj_bs (mh_pf 2 (v := .int (nI l.length)) h3 (by simp) rfl)]
    have step : ∀ X, (mj_up h a (.inr (0, ([.ref (a + 1), .int (nI old), .int (nI (l.length + 1))] : List Value).set 2 (.int (nI l.length))))) = X → X = mj_up h a (.inr (0, [.ref (a + 1), .int (nI old), .int (nI l.length)])) := fun X e => e.symm
    generalize hX : mj_up h a (.inr (0, ([.ref (a + 1), .int (nI old), .int (nI (l.length + 1))] : List Value).set 2 (.int (nI l.length)))) = X
    have eX := step X hX
    clear hX step
    subst eX
    simp only [↓reduceIte, ↓mq_4_0, ↓mq_4_1, ↓mq_4_4, ↓mq_4_7, ↓mq_4_8, ↓mq_4_9, ↓mq_4_10, ↓mq_4_11, ↓mq_4_14, ↓mq_4_15, ↓mq_4_16, ↓mq_4_19, ↓mq_4_20, ↓mq_4_21, ↓mq_4_24, ↓mq_4_25, ↓mq_4_26, ↓mq_4_29, ↓mq_4_32, ↓mq_4_33, ↓mq_4_36, ↓mq_4_37, ↓mj_bs (mh_gf 0 o1 rfl), ↓mj_bs (mh_gf 2 o1 rfl), mh_isC o1, ↓mj_bs (mt_3 (Or.inr ⟨_, o1⟩) h1 (show l.length ≤ 14 by omega)), Option.toList, List.cons_append, List.nil_append, ↓mj_bs (mh_gq hq hs), mh_isC (M.kp F1 (by omega) (by omega)).1, ↓mj_bs (e1), mj_z1]
  · have hkl := (List.getElem?_eq_some_iff.mp hk).1
    have := h5 k ξ (by rw [List.getElem?_append_left hkl]; exact hk)
    exact (this.kp F1 (by omega) (by omega)).kp F2 (fun z => by have := z.2; omega) (fun z => by have := z.2; omega)
  · obtain ⟨ξ, hξ⟩ := h6 k hk
    exact ⟨ξ, (hξ.kp F1 (by omega) (by omega)).kp F2 (fun z => by have := z.2; omega) (fun z => by have := z.2; omega)⟩
end
