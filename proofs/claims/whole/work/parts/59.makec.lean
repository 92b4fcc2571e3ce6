/-! WHAT IS MADE: the reference -/
theorem mh_st {u : mj_H} {s n sl c f t z : Nat} {fs : List Value} (O : u.1 s = some (.inr (c, fs))) (N : u.2 = (n, sl)) (hs : s < n) (hf : f < fs.length) (hv : mj_okv (mj_ft c f) (.ref n) = true) : ∃ a u', a = mj_new u (.inl (t, List.replicate z 0)) ∧ u.2.1 = n ∧ mj_pf a s c f (.ref n) = some u' ∧ u'.1 s = some (.inr (c, fs.set f (.ref n))) ∧ u'.2 = (n + 1, sl + z) ∧ u'.1 n = some (.inl (t, List.replicate z 0)) ∧ ∀ k, k ≠ s → k < n → u'.1 k = u.1 k := by
  have A : u.2.1 = n := congrArg Prod.fst N
  have O1 : (mj_new u (.inl (t, List.replicate z 0))).1 s = some (.inr (c, fs)) := by rw [mh_no (by omega)]; exact O
  refine ⟨_, _, rfl, A, mh_pf f O1 hf hv, mh_ua, ?_, ?_, fun k k1 k2 => ?_⟩
  · show (mj_new u (.inl (t, List.replicate z 0))).2 = _
    rw [mh_n2, N]
    simp [mj_sz]
  · show (if n = s then _ else (mj_new u (.inl (t, List.replicate z 0))).1 n) = _
    rw [if_neg (by omega), ← A]
    exact mh_na
  · show (if k = s then _ else (mj_new u (.inl (t, List.replicate z 0))).1 k) = _
    rw [if_neg k1, mh_no (by omega)]
theorem mt_101 {h : mj_H} {sl : Nat} (O0 : h.1 65 = some (.inr (7, mj_dfl 7))) (N0 : h.2 = (66, sl)) : ∃ h', mj_C 101 [.ref 65] h = some (none, h') ∧ h'.1 65 = some (.inr (7, mr_fs (nI 0) (nI 0) (nI 0) (nI 0) (nI 0) (nI 0) (nI 0) (nI 0) (nI 0) 0)) ∧ (h'.1 66 = some (.inl (0, List.replicate 64 0)) ∧ h'.1 67 = some (.inl (0, List.replicate 24 0)) ∧ h'.1 68 = some (.inl (0, List.replicate 6 0)) ∧ h'.1 69 = some (.inl (0, List.replicate 6 0)) ∧ h'.1 70 = some (.inl (0, List.replicate 24 0)) ∧ h'.1 71 = some (.inl (0, List.replicate 6 0)) ∧ h'.1 72 = some (.inl (0, List.replicate 6 0)) ∧ h'.1 73 = some (.inl (0, List.replicate 11 0)) ∧ h'.1 74 = some (.inl (0, List.replicate 11 0)) ∧ h'.1 75 = some (.inl (0, List.replicate 154 0)) ∧ h'.1 76 = some (.inl (0, List.replicate 22 0)) ∧ h'.1 77 = some (.inl (1, List.replicate 2 0)) ∧ h'.1 78 = some (.inl (0, List.replicate 6 0)) ∧ h'.1 79 = some (.inl (1, List.replicate 6 0)) ∧ h'.1 80 = some (.inl (0, List.replicate 128 0)) ∧ h'.1 81 = some (.inl (0, List.replicate 128 0)) ∧ h'.1 82 = some (.inl (0, List.replicate 6 0))) ∧ h'.2 = (83, sl + 610) ∧ ∀ k, k < 65 → h'.1 k = h.1 k := by
  obtain ⟨a1, u1, ha1, A1, e1, O1, N1, R1, P1⟩ := mh_st (f := 1) (t := 0) (z := 64) O0 N0 (by decide) (by decide) rfl
  obtain ⟨a2, u2, ha2, A2, e2, O2, N2, R2, P2⟩ := mh_st (f := 6) (t := 0) (z := 24) O1 N1 (by decide) (by decide) rfl
  obtain ⟨a3, u3, ha3, A3, e3, O3, N3, R3, P3⟩ := mh_st (f := 7) (t := 0) (z := 6) O2 N2 (by decide) (by decide) rfl
  obtain ⟨a4, u4, ha4, A4, e4, O4, N4, R4, P4⟩ := mh_st (f := 8) (t := 0) (z := 6) O3 N3 (by decide) (by decide) rfl
  obtain ⟨a5, u5, ha5, A5, e5, O5, N5, R5, P5⟩ := mh_st (f := 12) (t := 0) (z := 24) O4 N4 (by decide) (by decide) rfl
  obtain ⟨a6, u6, ha6, A6, e6, O6, N6, R6, P6⟩ := mh_st (f := 13) (t := 0) (z := 6) O5 N5 (by decide) (by decide) rfl
  obtain ⟨a7, u7, ha7, A7, e7, O7, N7, R7, P7⟩ := mh_st (f := 14) (t := 0) (z := 6) O6 N6 (by decide) (by decide) rfl
  obtain ⟨a8, u8, ha8, A8, e8, O8, N8, R8, P8⟩ := mh_st (f := 15) (t := 0) (z := 11) O7 N7 (by decide) (by decide) rfl
  obtain ⟨a9, u9, ha9, A9, e9, O9, N9, R9, P9⟩ := mh_st (f := 16) (t := 0) (z := 11) O8 N8 (by decide) (by decide) rfl
  obtain ⟨a10, u10, ha10, A10, e10, O10, N10, R10, P10⟩ := mh_st (f := 17) (t := 0) (z := 154) O9 N9 (by decide) (by decide) rfl
  obtain ⟨a11, u11, ha11, A11, e11, O11, N11, R11, P11⟩ := mh_st (f := 19) (t := 0) (z := 22) O10 N10 (by decide) (by decide) rfl
  obtain ⟨a12, u12, ha12, A12, e12, O12, N12, R12, P12⟩ := mh_st (f := 20) (t := 1) (z := 2) O11 N11 (by decide) (by decide) rfl
  obtain ⟨a13, u13, ha13, A13, e13, O13, N13, R13, P13⟩ := mh_st (f := 22) (t := 0) (z := 6) O12 N12 (by decide) (by decide) rfl
  obtain ⟨a14, u14, ha14, A14, e14, O14, N14, R14, P14⟩ := mh_st (f := 23) (t := 1) (z := 6) O13 N13 (by decide) (by decide) rfl
  obtain ⟨a15, u15, ha15, A15, e15, O15, N15, R15, P15⟩ := mh_st (f := 25) (t := 0) (z := 128) O14 N14 (by decide) (by decide) rfl
  obtain ⟨a16, u16, ha16, A16, e16, O16, N16, R16, P16⟩ := mh_st (f := 26) (t := 0) (z := 128) O15 N15 (by decide) (by decide) rfl
  obtain ⟨a17, u17, ha17, A17, e17, O17, N17, R17, P17⟩ := mh_st (f := 27) (t := 0) (z := 6) O16 N16 (by decide) (by decide) rfl
  have Q17 : ∀ k, k ≠ 65 → k < 83 → u17.1 k = u17.1 k := fun _ _ _ => rfl
  have Q16 : ∀ k, k ≠ 65 → k < 82 → u17.1 k = u16.1 k := fun k k1 k2 => (Q17 k k1 (Nat.lt_succ_of_lt k2)).trans (P17 k k1 k2)
  have Q15 : ∀ k, k ≠ 65 → k < 81 → u17.1 k = u15.1 k := fun k k1 k2 => (Q16 k k1 (Nat.lt_succ_of_lt k2)).trans (P16 k k1 k2)
  have Q14 : ∀ k, k ≠ 65 → k < 80 → u17.1 k = u14.1 k := fun k k1 k2 => (Q15 k k1 (Nat.lt_succ_of_lt k2)).trans (P15 k k1 k2)
  have Q13 : ∀ k, k ≠ 65 → k < 79 → u17.1 k = u13.1 k := fun k k1 k2 => (Q14 k k1 (Nat.lt_succ_of_lt k2)).trans (P14 k k1 k2)
  have Q12 : ∀ k, k ≠ 65 → k < 78 → u17.1 k = u12.1 k := fun k k1 k2 => (Q13 k k1 (Nat.lt_succ_of_lt k2)).trans (P13 k k1 k2)
  have Q11 : ∀ k, k ≠ 65 → k < 77 → u17.1 k = u11.1 k := fun k k1 k2 => (Q12 k k1 (Nat.lt_succ_of_lt k2)).trans (P12 k k1 k2)
  have Q10 : ∀ k, k ≠ 65 → k < 76 → u17.1 k = u10.1 k := fun k k1 k2 => (Q11 k k1 (Nat.lt_succ_of_lt k2)).trans (P11 k k1 k2)
  have Q9 : ∀ k, k ≠ 65 → k < 75 → u17.1 k = u9.1 k := fun k k1 k2 => (Q10 k k1 (Nat.lt_succ_of_lt k2)).trans (P10 k k1 k2)
  have Q8 : ∀ k, k ≠ 65 → k < 74 → u17.1 k = u8.1 k := fun k k1 k2 => (Q9 k k1 (Nat.lt_succ_of_lt k2)).trans (P9 k k1 k2)
  have Q7 : ∀ k, k ≠ 65 → k < 73 → u17.1 k = u7.1 k := fun k k1 k2 => (Q8 k k1 (Nat.lt_succ_of_lt k2)).trans (P8 k k1 k2)
  have Q6 : ∀ k, k ≠ 65 → k < 72 → u17.1 k = u6.1 k := fun k k1 k2 => (Q7 k k1 (Nat.lt_succ_of_lt k2)).trans (P7 k k1 k2)
  have Q5 : ∀ k, k ≠ 65 → k < 71 → u17.1 k = u5.1 k := fun k k1 k2 => (Q6 k k1 (Nat.lt_succ_of_lt k2)).trans (P6 k k1 k2)
  have Q4 : ∀ k, k ≠ 65 → k < 70 → u17.1 k = u4.1 k := fun k k1 k2 => (Q5 k k1 (Nat.lt_succ_of_lt k2)).trans (P5 k k1 k2)
  have Q3 : ∀ k, k ≠ 65 → k < 69 → u17.1 k = u3.1 k := fun k k1 k2 => (Q4 k k1 (Nat.lt_succ_of_lt k2)).trans (P4 k k1 k2)
  have Q2 : ∀ k, k ≠ 65 → k < 68 → u17.1 k = u2.1 k := fun k k1 k2 => (Q3 k k1 (Nat.lt_succ_of_lt k2)).trans (P3 k k1 k2)
  have Q1 : ∀ k, k ≠ 65 → k < 67 → u17.1 k = u1.1 k := fun k k1 k2 => (Q2 k k1 (Nat.lt_succ_of_lt k2)).trans (P2 k k1 k2)
  have Q0 : ∀ k, k ≠ 65 → k < 66 → u17.1 k = h.1 k := fun k k1 k2 => (Q1 k k1 (Nat.lt_succ_of_lt k2)).trans (P1 k k1 k2)
  refine ⟨u17, ?_, O17, ⟨(Q1 66 (by decide) (by decide)).trans R1, (Q2 67 (by decide) (by decide)).trans R2, (Q3 68 (by decide) (by decide)).trans R3, (Q4 69 (by decide) (by decide)).trans R4, (Q5 70 (by decide) (by decide)).trans R5, (Q6 71 (by decide) (by decide)).trans R6, (Q7 72 (by decide) (by decide)).trans R7, (Q8 73 (by decide) (by decide)).trans R8, (Q9 74 (by decide) (by decide)).trans R9, (Q10 75 (by decide) (by decide)).trans R10, (Q11 76 (by decide) (by decide)).trans R11, (Q12 77 (by decide) (by decide)).trans R12, (Q13 78 (by decide) (by decide)).trans R13, (Q14 79 (by decide) (by decide)).trans R14, (Q15 80 (by decide) (by decide)).trans R15, (Q16 81 (by decide) (by decide)).trans R16, (Q17 82 (by decide) (by decide)).trans R17⟩, N17, fun k k2 => Q0 k (by omega) (by omega)⟩
  rw [mc_101]
  simp only [↓reduceIte, ↓mq_101_0, ↓mq_101_1, ↓mq_101_4, ↓mq_101_5, ↓mq_101_7, ↓mq_101_9, ↓mq_101_12, ↓mq_101_13, ↓mq_101_15, ↓mq_101_17, ↓mq_101_20, ↓mq_101_21, ↓mq_101_23, ↓mq_101_25, ↓mq_101_28, ↓mq_101_29, ↓mq_101_31, ↓mq_101_33, ↓mq_101_36, ↓mq_101_37, ↓mq_101_39, ↓mq_101_41, ↓mq_101_44, ↓mq_101_45, ↓mq_101_47, ↓mq_101_49, ↓mq_101_52, ↓mq_101_53, ↓mq_101_55, ↓mq_101_57, ↓mq_101_60, ↓mq_101_61, ↓mq_101_63, ↓mq_101_65, ↓mq_101_68, ↓mq_101_69, ↓mq_101_71, ↓mq_101_73, ↓mq_101_76, ↓mq_101_77, ↓mq_101_80, ↓mq_101_82, ↓mq_101_85, ↓mq_101_86, ↓mq_101_88, ↓mq_101_90, ↓mq_101_93, ↓mq_101_94, ↓mq_101_95, ↓mq_101_97, ↓mq_101_100, ↓mq_101_101, ↓mq_101_103, ↓mq_101_105, ↓mq_101_108, ↓mq_101_109, ↓mq_101_111, ↓mq_101_113, ↓mq_101_116, ↓mq_101_117, ↓mq_101_120, ↓mq_101_122, ↓mq_101_125, ↓mq_101_126, ↓mq_101_129, ↓mq_101_131, ↓mq_101_134, ↓mq_101_135, ↓mq_101_137, ↓mq_101_139, ↓mq_101_142, ← ha1, A1, ↓mj_bs (e1), ← ha2, A2, ↓mj_bs (e2), ← ha3, A3, ↓mj_bs (e3), ← ha4, A4, ↓mj_bs (e4), ← ha5, A5, ↓mj_bs (e5), ← ha6, A6, ↓mj_bs (e6), ← ha7, A7, ↓mj_bs (e7), ← ha8, A8, ↓mj_bs (e8), ← ha9, A9, ↓mj_bs (e9), ← ha10, A10, ↓mj_bs (e10), ← ha11, A11, ↓mj_bs (e11), ← ha12, A12, ↓mj_bs (e12), ← ha13, A13, ↓mj_bs (e13), ← ha14, A14, ↓mj_bs (e14), ← ha15, A15, ↓mj_bs (e15), ← ha16, A16, ↓mj_bs (e16), ← ha17, A17, ↓mj_bs (e17)]
