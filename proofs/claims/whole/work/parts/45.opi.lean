/-! COMMANDS: takings -/
def mm_cs (ρ : mm_Ro) (μ : mm_Ma) (s : Nat) : Option mm_Ma := if mm_tc μ s = true then mm_tko ρ μ s else none
section
variable {S : mm_St} {h h' : mj_H}
theorem mo_72 (J : mh_J S h) (x y : Int32) : mh_op 72 135 [.int x, .int y] h := by
  have JJ := J
  obtain ⟨w, C, R⟩ := J
  have wr := w.2.2.1
  have wm := w.2.2.2.1
  have hn9 := wr.1
  have hn64 : 2 ^ mr_n (ms_r S) ≤ 64 := Nat.pow_le_pow_right (n := 2) (by decide) hn9
  have hrb := R.rr.1
  have o1 := C.1
  rcases mn_range (2 ^ mr_n (ms_r S)) (by omega) x with ⟨s, hs, rfl, -, -⟩ | ⟨-, hno⟩
  · have e73 := mt_73 w C hs
    have e136 := mt_136 w R hs
    cases htc : mm_tc (ms_m S) s
    · rw [htc] at e73 e136
      refine mh_opQ (v := .int (-2)) JJ ?_ ?_
      · rw [mc_72]
        simp only [↓reduceIte, ↓mq_72_0, ↓mq_72_1, ↓mq_72_2, ↓mq_72_5, ↓mq_72_8, ↓mq_72_9, ↓mq_72_12, ↓mq_72_13, ↓mq_72_14, ↓mq_72_17, ↓mq_72_19, ↓mq_72_20, ↓mq_72_21, ↓mq_72_22, ↓mq_72_25, ↓mq_72_26, ↓mq_72_27, ↓mq_72_29, ↓mq_72_32, ↓mq_72_34, ↓mq_72_35, ↓mq_72_36, ↓mq_72_39, ↓mq_72_40, ↓mq_72_43, ↓mq_72_44, ↓mq_72_45, ↓mq_72_48, ↓mq_72_49, ↓mq_72_52, ↓mq_72_55, ↓mq_72_58, ↓mq_72_59, ↓mq_72_62, ↓mq_72_65, mh_isC o1, ↓mj_bs (e73), Option.toList, List.cons_append, List.nil_append, mj_b0]
      · rw [mc_135]
        simp only [↓reduceIte, ↓mq_135_0, ↓mq_135_1, ↓mq_135_2, ↓mq_135_5, ↓mq_135_6, ↓mq_135_7, ↓mq_135_10, ↓mq_135_13, ↓mq_135_14, ↓mq_135_15, ↓mq_135_16, ↓mq_135_19, ↓mq_135_22, ↓mq_135_25, ↓mq_135_27, ↓mq_135_28, ↓mq_135_29, ↓mq_135_30, ↓mq_135_33, ↓mq_135_34, ↓mq_135_35, ↓mq_135_37, ↓mq_135_40, ↓mq_135_42, ↓mq_135_45, ↓mq_135_46, ↓mq_135_49, ↓mq_135_50, ↓mq_135_53, ↓mq_135_54, ↓mq_135_55, ↓mq_135_58, ↓mq_135_59, ↓mq_135_62, ↓mq_135_63, ↓mq_135_64, ↓mq_135_67, ↓mq_135_68, ↓mq_135_71, ↓mq_135_72, ↓mq_135_73, ↓mj_bs (mr_th hrb), mr_is hrb, ↓mj_bs (e136), Option.toList, List.cons_append, List.nil_append, mj_b0, Bool.not_false, Bool.true_eq_false]
    · rw [htc] at e73 e136
      rcases mn_range 3 (by omega) y with ⟨t, ht, rfl, -, -⟩ | ⟨-, hno⟩
      · obtain ⟨h1, ν, e1, T1, F1, wν, q1⟩ := mt_74 w C (show s < 64 by omega)
        have no : ∀ k, k < 22 → ¬ mh_A 22 23 k := fun k hk z => by have := z.1; omega
        have oA := (F1.2 1 (no _ (by omega))).trans o1
        have fin : ∀ v : Int32, v = (match mm_tko (ms_r S) (ms_m S) s with
            | none => -9
            | some ξ => if t = 0 then nI (ma_p (ms_m S) - ma_p ξ) else if t = 1 then nI (ma_b ξ) else nI (ma_o ξ)) → mh_op 72 135 [.int (nI s), .int (nI t)] h := by
          intro v hv
          refine mh_opI (v := .int v) (S' := S) JJ (h1 := h1) w ?_ (F1.mo (fun k z => ⟨by have := z.1; omega, by have := z.2; omega⟩)) (C.tr F1 T1) ?_
          · rw [mc_72]
            cases hk : mm_tko (ms_r S) (ms_m S) s with
            | none =>
              rw [hk] at e1 hv
              have e1' : mj_C 74 [.ref 1, .int (nI s)] h = some (some (.int (-9)), h1) := e1
              rw [hv]
              simp only [↓reduceIte, ↓mq_72_0, ↓mq_72_1, ↓mq_72_2, ↓mq_72_5, ↓mq_72_8, ↓mq_72_9, ↓mq_72_12, ↓mq_72_13, ↓mq_72_14, ↓mq_72_17, ↓mq_72_19, ↓mq_72_20, ↓mq_72_21, ↓mq_72_22, ↓mq_72_25, ↓mq_72_26, ↓mq_72_27, ↓mq_72_29, ↓mq_72_32, ↓mq_72_34, ↓mq_72_35, ↓mq_72_36, ↓mq_72_39, ↓mq_72_40, ↓mq_72_43, ↓mq_72_44, ↓mq_72_45, ↓mq_72_48, ↓mq_72_49, ↓mq_72_52, ↓mq_72_55, ↓mq_72_58, ↓mq_72_59, ↓mq_72_62, ↓mq_72_65, mh_isC o1, ↓mj_bs (e73), Option.toList, List.cons_append, List.nil_append, mj_b0, Bool.true_eq_false, mf_lt (Nat.zero_le t), mt_le (show t ≤ 2 by omega), ↓mj_bs (e1')]
            | some ξ =>
              rw [hk] at e1 hv
              have hp99 := wm.1
              have e1' : mj_C 74 [.ref 1, .int (nI s)] h = some (some (.int (nI (ma_p (ms_m S) - ma_p ξ))), h1) := e1
              have hξ := q1 ξ hk
              subst hξ
              by_cases t0 : t = 0
              · rw [show v = nI (ma_p (ms_m S) - ma_p ν) from hv.trans (if_pos t0)]
                simp only [↓reduceIte, ↓mq_72_0, ↓mq_72_1, ↓mq_72_2, ↓mq_72_5, ↓mq_72_8, ↓mq_72_9, ↓mq_72_12, ↓mq_72_13, ↓mq_72_14, ↓mq_72_17, ↓mq_72_19, ↓mq_72_20, ↓mq_72_21, ↓mq_72_22, ↓mq_72_25, ↓mq_72_26, ↓mq_72_27, ↓mq_72_29, ↓mq_72_32, ↓mq_72_34, ↓mq_72_35, ↓mq_72_36, ↓mq_72_39, ↓mq_72_40, ↓mq_72_43, ↓mq_72_44, ↓mq_72_45, ↓mq_72_48, ↓mq_72_49, ↓mq_72_52, ↓mq_72_55, ↓mq_72_58, ↓mq_72_59, ↓mq_72_62, ↓mq_72_65, mh_isC o1, ↓mj_bs (e73), Option.toList, List.cons_append, List.nil_append, mj_b0, Bool.true_eq_false, mf_lt (Nat.zero_le t), mt_le (show t ≤ 2 by omega), ↓mj_bs (e1'), mf_m9 (d := ma_p (ms_m S) - ma_p ν) (by omega), mt_eq t0]
              · by_cases t1 : t = 1
                · rw [show v = nI (ma_b ν) from hv.trans ((if_neg t0).trans (if_pos t1))]
                  simp only [↓reduceIte, ↓mq_72_0, ↓mq_72_1, ↓mq_72_2, ↓mq_72_5, ↓mq_72_8, ↓mq_72_9, ↓mq_72_12, ↓mq_72_13, ↓mq_72_14, ↓mq_72_17, ↓mq_72_19, ↓mq_72_20, ↓mq_72_21, ↓mq_72_22, ↓mq_72_25, ↓mq_72_26, ↓mq_72_27, ↓mq_72_29, ↓mq_72_32, ↓mq_72_34, ↓mq_72_35, ↓mq_72_36, ↓mq_72_39, ↓mq_72_40, ↓mq_72_43, ↓mq_72_44, ↓mq_72_45, ↓mq_72_48, ↓mq_72_49, ↓mq_72_52, ↓mq_72_55, ↓mq_72_58, ↓mq_72_59, ↓mq_72_62, ↓mq_72_65, mh_isC o1, ↓mj_bs (e73), Option.toList, List.cons_append, List.nil_append, mj_b0, Bool.true_eq_false, mf_lt (Nat.zero_le t), mt_le (show t ≤ 2 by omega), ↓mj_bs (e1'), mf_m9 (d := ma_p (ms_m S) - ma_p ν) (by omega), mf_eq t0, mt_eq t1, ↓mj_bs (mh_gf 4 oA rfl), ↓mj_bs (mh_gf 2 T1.1 rfl)]
                · rw [show v = nI (ma_o ν) from hv.trans ((if_neg t0).trans (if_neg t1))]
                  simp only [↓reduceIte, ↓mq_72_0, ↓mq_72_1, ↓mq_72_2, ↓mq_72_5, ↓mq_72_8, ↓mq_72_9, ↓mq_72_12, ↓mq_72_13, ↓mq_72_14, ↓mq_72_17, ↓mq_72_19, ↓mq_72_20, ↓mq_72_21, ↓mq_72_22, ↓mq_72_25, ↓mq_72_26, ↓mq_72_27, ↓mq_72_29, ↓mq_72_32, ↓mq_72_34, ↓mq_72_35, ↓mq_72_36, ↓mq_72_39, ↓mq_72_40, ↓mq_72_43, ↓mq_72_44, ↓mq_72_45, ↓mq_72_48, ↓mq_72_49, ↓mq_72_52, ↓mq_72_55, ↓mq_72_58, ↓mq_72_59, ↓mq_72_62, ↓mq_72_65, mh_isC o1, ↓mj_bs (e73), Option.toList, List.cons_append, List.nil_append, mj_b0, Bool.true_eq_false, mf_lt (Nat.zero_le t), mt_le (show t ≤ 2 by omega), ↓mj_bs (e1'), mf_m9 (d := ma_p (ms_m S) - ma_p ν) (by omega), mf_eq t0, mf_eq t1, ↓mj_bs (mh_gf 4 oA rfl), ↓mj_bs (mh_gf 5 T1.1 rfl)]
          · intro R
            have hrb := R.rr.1
            have e136 := mt_136 w R hs
            rw [htc] at e136
            obtain ⟨g, ν, f1, G1, D1, wν, q1⟩ := mt_137 w R (show s < 64 by omega)
            have hrb1 := hrb.kp D1 (by omega)
            obtain ⟨fg, fg1, -⟩ := G1
            refine ⟨g, ?_, R.tr D1 ⟨fg, fg1⟩, D1.mo (fun k z => by omega)⟩
            obtain ⟨g1, ν, f1', G1, D1', wν, q1⟩ := mt_137 w R (show s < 64 by omega)
            rw [f1'] at f1
            obtain ⟨-, rfl⟩ := Prod.mk.inj (Option.some.inj f1)
            rw [mc_135]
            cases hk : mm_tko (ms_r S) (ms_m S) s with
            | none =>
              rw [hk] at f1' hv
              have e1' : mj_C 137 [.ref 65, .int (nI s)] h1 = some (some (.int (-9)), g1) := f1'
              rw [hv]
              simp only [↓reduceIte, ↓mq_135_0, ↓mq_135_1, ↓mq_135_2, ↓mq_135_5, ↓mq_135_6, ↓mq_135_7, ↓mq_135_10, ↓mq_135_13, ↓mq_135_14, ↓mq_135_15, ↓mq_135_16, ↓mq_135_19, ↓mq_135_22, ↓mq_135_25, ↓mq_135_27, ↓mq_135_28, ↓mq_135_29, ↓mq_135_30, ↓mq_135_33, ↓mq_135_34, ↓mq_135_35, ↓mq_135_37, ↓mq_135_40, ↓mq_135_42, ↓mq_135_45, ↓mq_135_46, ↓mq_135_49, ↓mq_135_50, ↓mq_135_53, ↓mq_135_54, ↓mq_135_55, ↓mq_135_58, ↓mq_135_59, ↓mq_135_62, ↓mq_135_63, ↓mq_135_64, ↓mq_135_67, ↓mq_135_68, ↓mq_135_71, ↓mq_135_72, ↓mq_135_73, ↓mj_bs (mr_th hrb), mr_is hrb, ↓mj_bs (e136), Option.toList, List.cons_append, List.nil_append, mj_b0, Bool.not_true, Bool.true_eq_false, ↓mj_bs (mt_103_0_2), mn_dle (show t < 2 ^ 31 by omega) (show 2 < 2 ^ 31 by omega), show t ≤ 2 by omega, decide_true, ↓mj_bs (e1')]
            | some ξ =>
              rw [hk] at f1' hv
              have hp99 := wm.1
              have e1' : mj_C 137 [.ref 65, .int (nI s)] h1 = some (some (.int (nI (ma_p (ms_m S) - ma_p ξ))), g1) := f1'
              have hξ := q1 ξ hk
              subst hξ
              by_cases t0 : t = 0
              · rw [show v = nI (ma_p (ms_m S) - ma_p ν) from hv.trans (if_pos t0)]
                simp only [↓reduceIte, ↓mq_135_0, ↓mq_135_1, ↓mq_135_2, ↓mq_135_5, ↓mq_135_6, ↓mq_135_7, ↓mq_135_10, ↓mq_135_13, ↓mq_135_14, ↓mq_135_15, ↓mq_135_16, ↓mq_135_19, ↓mq_135_22, ↓mq_135_25, ↓mq_135_27, ↓mq_135_28, ↓mq_135_29, ↓mq_135_30, ↓mq_135_33, ↓mq_135_34, ↓mq_135_35, ↓mq_135_37, ↓mq_135_40, ↓mq_135_42, ↓mq_135_45, ↓mq_135_46, ↓mq_135_49, ↓mq_135_50, ↓mq_135_53, ↓mq_135_54, ↓mq_135_55, ↓mq_135_58, ↓mq_135_59, ↓mq_135_62, ↓mq_135_63, ↓mq_135_64, ↓mq_135_67, ↓mq_135_68, ↓mq_135_71, ↓mq_135_72, ↓mq_135_73, ↓mj_bs (mr_th hrb), mr_is hrb, ↓mj_bs (e136), Option.toList, List.cons_append, List.nil_append, mj_b0, Bool.not_true, Bool.true_eq_false, ↓mj_bs (mt_103_0_2), mn_dle (show t < 2 ^ 31 by omega) (show 2 < 2 ^ 31 by omega), show t ≤ 2 by omega, decide_true, ↓mj_bs (e1'), mf_m9 (d := ma_p (ms_m S) - ma_p ν) (by omega), mt_eq t0]
              · by_cases t1 : t = 1
                · rw [show v = nI (ma_b ν) from hv.trans ((if_neg t0).trans (if_pos t1))]
                  simp only [↓reduceIte, ↓mq_135_0, ↓mq_135_1, ↓mq_135_2, ↓mq_135_5, ↓mq_135_6, ↓mq_135_7, ↓mq_135_10, ↓mq_135_13, ↓mq_135_14, ↓mq_135_15, ↓mq_135_16, ↓mq_135_19, ↓mq_135_22, ↓mq_135_25, ↓mq_135_27, ↓mq_135_28, ↓mq_135_29, ↓mq_135_30, ↓mq_135_33, ↓mq_135_34, ↓mq_135_35, ↓mq_135_37, ↓mq_135_40, ↓mq_135_42, ↓mq_135_45, ↓mq_135_46, ↓mq_135_49, ↓mq_135_50, ↓mq_135_53, ↓mq_135_54, ↓mq_135_55, ↓mq_135_58, ↓mq_135_59, ↓mq_135_62, ↓mq_135_63, ↓mq_135_64, ↓mq_135_67, ↓mq_135_68, ↓mq_135_71, ↓mq_135_72, ↓mq_135_73, ↓mj_bs (mr_th hrb), mr_is hrb, ↓mj_bs (e136), Option.toList, List.cons_append, List.nil_append, mj_b0, Bool.not_true, Bool.true_eq_false, ↓mj_bs (mt_103_0_2), mn_dle (show t < 2 ^ 31 by omega) (show 2 < 2 ^ 31 by omega), show t ≤ 2 by omega, decide_true, ↓mj_bs (e1'), mf_m9 (d := ma_p (ms_m S) - ma_p ν) (by omega), mf_eq t0, mt_eq t1, ↓mj_bs (mr_b16 hrb1), ↓mj_bs (mp_1 G1)]
                · rw [show v = nI (ma_o ν) from hv.trans ((if_neg t0).trans (if_neg t1))]
                  simp only [↓reduceIte, ↓mq_135_0, ↓mq_135_1, ↓mq_135_2, ↓mq_135_5, ↓mq_135_6, ↓mq_135_7, ↓mq_135_10, ↓mq_135_13, ↓mq_135_14, ↓mq_135_15, ↓mq_135_16, ↓mq_135_19, ↓mq_135_22, ↓mq_135_25, ↓mq_135_27, ↓mq_135_28, ↓mq_135_29, ↓mq_135_30, ↓mq_135_33, ↓mq_135_34, ↓mq_135_35, ↓mq_135_37, ↓mq_135_40, ↓mq_135_42, ↓mq_135_45, ↓mq_135_46, ↓mq_135_49, ↓mq_135_50, ↓mq_135_53, ↓mq_135_54, ↓mq_135_55, ↓mq_135_58, ↓mq_135_59, ↓mq_135_62, ↓mq_135_63, ↓mq_135_64, ↓mq_135_67, ↓mq_135_68, ↓mq_135_71, ↓mq_135_72, ↓mq_135_73, ↓mj_bs (mr_th hrb), mr_is hrb, ↓mj_bs (e136), Option.toList, List.cons_append, List.nil_append, mj_b0, Bool.not_true, Bool.true_eq_false, ↓mj_bs (mt_103_0_2), mn_dle (show t < 2 ^ 31 by omega) (show 2 < 2 ^ 31 by omega), show t ≤ 2 by omega, decide_true, ↓mj_bs (e1'), mf_m9 (d := ma_p (ms_m S) - ma_p ν) (by omega), mf_eq t0, mf_eq t1, ↓mj_bs (mr_b16 hrb1), ↓mj_bs (mp_4 G1)]
        exact fin _ rfl
      · refine mh_opQ (v := .int (-2)) JJ ?_ ?_
        · rw [mc_72]
          rcases mn_out hno (by omega) with z | ⟨z1, z2⟩
          · simp only [↓reduceIte, ↓mq_72_0, ↓mq_72_1, ↓mq_72_2, ↓mq_72_5, ↓mq_72_8, ↓mq_72_9, ↓mq_72_12, ↓mq_72_13, ↓mq_72_14, ↓mq_72_17, ↓mq_72_19, ↓mq_72_20, ↓mq_72_21, ↓mq_72_22, ↓mq_72_25, ↓mq_72_26, ↓mq_72_27, ↓mq_72_29, ↓mq_72_32, ↓mq_72_34, ↓mq_72_35, ↓mq_72_36, ↓mq_72_39, ↓mq_72_40, ↓mq_72_43, ↓mq_72_44, ↓mq_72_45, ↓mq_72_48, ↓mq_72_49, ↓mq_72_52, ↓mq_72_55, ↓mq_72_58, ↓mq_72_59, ↓mq_72_62, ↓mq_72_65, mh_isC o1, ↓mj_bs (e73), Option.toList, List.cons_append, List.nil_append, mj_b0, Bool.true_eq_false, z]
          · simp only [↓reduceIte, ↓mq_72_0, ↓mq_72_1, ↓mq_72_2, ↓mq_72_5, ↓mq_72_8, ↓mq_72_9, ↓mq_72_12, ↓mq_72_13, ↓mq_72_14, ↓mq_72_17, ↓mq_72_19, ↓mq_72_20, ↓mq_72_21, ↓mq_72_22, ↓mq_72_25, ↓mq_72_26, ↓mq_72_27, ↓mq_72_29, ↓mq_72_32, ↓mq_72_34, ↓mq_72_35, ↓mq_72_36, ↓mq_72_39, ↓mq_72_40, ↓mq_72_43, ↓mq_72_44, ↓mq_72_45, ↓mq_72_48, ↓mq_72_49, ↓mq_72_52, ↓mq_72_55, ↓mq_72_58, ↓mq_72_59, ↓mq_72_62, ↓mq_72_65, mh_isC o1, ↓mj_bs (e73), Option.toList, List.cons_append, List.nil_append, mj_b0, Bool.true_eq_false, z1, z2]
        · rw [mc_135]
          simp only [↓reduceIte, ↓mq_135_0, ↓mq_135_1, ↓mq_135_2, ↓mq_135_5, ↓mq_135_6, ↓mq_135_7, ↓mq_135_10, ↓mq_135_13, ↓mq_135_14, ↓mq_135_15, ↓mq_135_16, ↓mq_135_19, ↓mq_135_22, ↓mq_135_25, ↓mq_135_27, ↓mq_135_28, ↓mq_135_29, ↓mq_135_30, ↓mq_135_33, ↓mq_135_34, ↓mq_135_35, ↓mq_135_37, ↓mq_135_40, ↓mq_135_42, ↓mq_135_45, ↓mq_135_46, ↓mq_135_49, ↓mq_135_50, ↓mq_135_53, ↓mq_135_54, ↓mq_135_55, ↓mq_135_58, ↓mq_135_59, ↓mq_135_62, ↓mq_135_63, ↓mq_135_64, ↓mq_135_67, ↓mq_135_68, ↓mq_135_71, ↓mq_135_72, ↓mq_135_73, ↓mj_bs (mr_th hrb), mr_is hrb, ↓mj_bs (e136), Option.toList, List.cons_append, List.nil_append, mj_b0, Bool.not_true, ↓mj_bs (mt_103_0_2), mn_dno' hno (show 2 < 3 by omega) (by omega)]
  · have e73 := mt_73n w C hno
    have e136 := mt_136n w R hno
    refine mh_opQ (v := .int (-2)) JJ ?_ ?_
    · rw [mc_72]
      simp only [↓reduceIte, ↓mq_72_0, ↓mq_72_1, ↓mq_72_2, ↓mq_72_5, ↓mq_72_8, ↓mq_72_9, ↓mq_72_12, ↓mq_72_13, ↓mq_72_14, ↓mq_72_17, ↓mq_72_19, ↓mq_72_20, ↓mq_72_21, ↓mq_72_22, ↓mq_72_25, ↓mq_72_26, ↓mq_72_27, ↓mq_72_29, ↓mq_72_32, ↓mq_72_34, ↓mq_72_35, ↓mq_72_36, ↓mq_72_39, ↓mq_72_40, ↓mq_72_43, ↓mq_72_44, ↓mq_72_45, ↓mq_72_48, ↓mq_72_49, ↓mq_72_52, ↓mq_72_55, ↓mq_72_58, ↓mq_72_59, ↓mq_72_62, ↓mq_72_65, mh_isC o1, ↓mj_bs (e73), Option.toList, List.cons_append, List.nil_append, mj_b0]
    · rw [mc_135]
      simp only [↓reduceIte, ↓mq_135_0, ↓mq_135_1, ↓mq_135_2, ↓mq_135_5, ↓mq_135_6, ↓mq_135_7, ↓mq_135_10, ↓mq_135_13, ↓mq_135_14, ↓mq_135_15, ↓mq_135_16, ↓mq_135_19, ↓mq_135_22, ↓mq_135_25, ↓mq_135_27, ↓mq_135_28, ↓mq_135_29, ↓mq_135_30, ↓mq_135_33, ↓mq_135_34, ↓mq_135_35, ↓mq_135_37, ↓mq_135_40, ↓mq_135_42, ↓mq_135_45, ↓mq_135_46, ↓mq_135_49, ↓mq_135_50, ↓mq_135_53, ↓mq_135_54, ↓mq_135_55, ↓mq_135_58, ↓mq_135_59, ↓mq_135_62, ↓mq_135_63, ↓mq_135_64, ↓mq_135_67, ↓mq_135_68, ↓mq_135_71, ↓mq_135_72, ↓mq_135_73, ↓mj_bs (mr_th hrb), mr_is hrb, ↓mj_bs (e136), Option.toList, List.cons_append, List.nil_append, mj_b0, Bool.true_eq_false]
/-- the cost of a set, or none: a step of the class -/
theorem mt_75s (w : mw_S S) (C : mh_JC S h) {s : Nat} (hs : s < 2 ^ mr_n (ms_r S)) : ∃ h1 v, mj_C 73 [.ref 1, .int (nI s)] h = some (some (.int (mj_bI (mm_tc (ms_m S) s))), h) ∧ (mm_tc (ms_m S) s = true → mj_C 74 [.ref 1, .int (nI s)] h = some (some (.int v), h1)) ∧ (mm_tc (ms_m S) s = false → v = -9 ∧ h1 = h) ∧ v = mm_cv (ma_p (ms_m S)) (mm_cs (ms_r S) (ms_m S) s) ∧ mh_F (mh_A 22 23) h h1 ∧ ∃ ν, mh_Ma h1 22 4 ν ∧ ∀ ξ, mm_cs (ms_r S) (ms_m S) s = some ξ → ν = ξ := by
  have hs64 := mm_64 hs w.2.2.1.1
  have e73 := mt_73 w C hs
  cases htc : mm_tc (ms_m S) s
  · obtain ⟨μt, T⟩ := C.2.2.2.2.2.1
    rw [htc] at e73
    refine ⟨h, -9, e73, (fun z => by cases z), fun _ => ⟨rfl, rfl⟩, by simp [mm_cs, htc, mm_cv], mh_F.rf, μt, T, fun ξ hξ => by simp [mm_cs, htc] at hξ⟩
  · obtain ⟨h1, ν, e1, T1, F1, wν, q1⟩ := mt_74 w C hs64
    rw [htc] at e73
    have e : mm_cs (ms_r S) (ms_m S) s = mm_tko (ms_r S) (ms_m S) s := by simp [mm_cs, htc]
    exact ⟨h1, _, e73, fun _ => e1, (fun z => by cases z), by rw [e], F1, ν, T1, by rw [e]; exact q1⟩
theorem mt_139s (w : mw_S S) (R : mh_JR S h) {s : Nat} (hs : s < 2 ^ mr_n (ms_r S)) : ∃ h1 v, mj_C 136 [.ref 65, .int (nI s)] h = some (some (.int (mj_bI (!mm_tc (ms_m S) s))), h) ∧ (mm_tc (ms_m S) s = true → mj_C 137 [.ref 65, .int (nI s)] h = some (some (.int v), h1)) ∧ (mm_tc (ms_m S) s = false → v = -9 ∧ h1 = h) ∧ v = mm_cv (ma_p (ms_m S)) (mm_cs (ms_r S) (ms_m S) s) ∧ mh_F (fun k => k = 74) h h1 ∧ mh_JR S h1 ∧ ∀ ξ, mm_cs (ms_r S) (ms_m S) s = some ξ → mh_pg h1 74 ξ := by
  have hs64 := mm_64 hs w.2.2.1.1
  have e136 := mt_136 w R hs
  cases htc : mm_tc (ms_m S) s
  · rw [htc] at e136
    refine ⟨h, -9, e136, (fun z => by cases z), fun _ => ⟨rfl, rfl⟩, by simp [mm_cs, htc, mm_cv], mh_F.rf, R, fun ξ hξ => by simp [mm_cs, htc] at hξ⟩
  · obtain ⟨h1, ν, e1, T1, F1, wν, q1⟩ := mt_137 w R hs64
    rw [htc] at e136
    have e : mm_cs (ms_r S) (ms_m S) s = mm_tko (ms_r S) (ms_m S) s := by simp [mm_cs, htc]
    have T1' := T1
    obtain ⟨f, f1, -⟩ := T1
    exact ⟨h1, _, e136, fun _ => e1, (fun z => by cases z), by rw [e], F1, R.tr F1 ⟨f, f1⟩, by rw [e]; intro ξ hξ; rw [← q1 ξ hξ]; exact T1'⟩
end
