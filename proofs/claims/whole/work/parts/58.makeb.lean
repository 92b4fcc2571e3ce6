/-! WHAT IS MADE: several rows -/
section
variable {h : mj_H} {s : Nat}
theorem mt_5 (O : h.1 s = some (.inr (1, mj_dfl 1))) (hs : s < h.2.1) : ∃ h', mj_C 5 [.ref s] h = some (none, h') ∧ h'.1 s = some (.inr (1, [.ref h.2.1, .ref (h.2.1 + 1), .int (nI 0)])) ∧ (h'.1 h.2.1 = some (.inl (0, List.replicate 128 0)) ∧ h'.1 (h.2.1 + 1) = some (.inl (0, List.replicate 128 0))) ∧ h'.2 = (h.2.1 + 2, h.2.2 + 256) ∧ ∀ k, k ≠ s → k < h.2.1 → h'.1 k = h.1 k := by
  have O0 : h.1 s = some (.inr (1, [.null, .null, .int (nI 0)])) := O
  have N0 : h.2 = (h.2.1, h.2.2) := rfl
  obtain ⟨a1, ha1⟩ : ∃ g, g = mj_new h (.inl (0, List.replicate 128 0)) := ⟨_, rfl⟩
  have A1 : h.2.1 = h.2.1 := congrArg Prod.fst N0
  have S1 : a1.1 s = some (.inr (1, [.null, .null, .int (nI 0)])) := by rw [ha1, mh_no (by omega)]; exact O0
  obtain ⟨u1, hu1⟩ : ∃ g, g = mj_up a1 s (.inr (1, [.ref h.2.1, .null, .int (nI 0)])) := ⟨_, rfl⟩
  have e1 : mj_pf a1 s 1 0 (.ref h.2.1) = some u1 := by rw [hu1]; exact mh_pf 0 S1 (by simp) rfl
  have O1 := mh_ue hu1
  have N1 : u1.2 = (h.2.1 + 1, h.2.2 + 128) := by rw [hu1]; show a1.2 = _; rw [ha1, mh_n2]; simp [mj_sz]
  have P1 : ∀ k, k ≠ s → k < h.2.1 + 0 → u1.1 k = h.1 k := fun k k1 k2 => by rw [hu1]; show (if k = s then _ else a1.1 k) = _; rw [if_neg k1, ha1, mh_no (by omega)]
  have R1 : u1.1 h.2.1 = some (.inl (0, List.replicate 128 0)) := by rw [hu1]; show (if h.2.1 = s then _ else a1.1 h.2.1) = _; rw [if_neg (by omega), ha1]; exact mh_na
  obtain ⟨a2, ha2⟩ : ∃ g, g = mj_new u1 (.inl (0, List.replicate 128 0)) := ⟨_, rfl⟩
  have A2 : u1.2.1 = (h.2.1 + 1) := congrArg Prod.fst N1
  have S2 : a2.1 s = some (.inr (1, [.ref h.2.1, .null, .int (nI 0)])) := by rw [ha2, mh_no (by omega)]; exact O1
  obtain ⟨u2, hu2⟩ : ∃ g, g = mj_up a2 s (.inr (1, [.ref h.2.1, .ref (h.2.1 + 1), .int (nI 0)])) := ⟨_, rfl⟩
  have e2 : mj_pf a2 s 1 1 (.ref (h.2.1 + 1)) = some u2 := by rw [hu2]; exact mh_pf 1 S2 (by simp) rfl
  have O2 := mh_ue hu2
  have N2 : u2.2 = (h.2.1 + 2, h.2.2 + 256) := by rw [hu2]; show a2.2 = _; rw [ha2, mh_n2, N1]; simp [mj_sz]
  have P2 : ∀ k, k ≠ s → k < h.2.1 + 1 → u2.1 k = u1.1 k := fun k k1 k2 => by rw [hu2]; show (if k = s then _ else a2.1 k) = _; rw [if_neg k1, ha2, mh_no (by omega)]
  have R2 : u2.1 (h.2.1 + 1) = some (.inl (0, List.replicate 128 0)) := by rw [hu2]; show (if (h.2.1 + 1) = s then _ else a2.1 (h.2.1 + 1)) = _; rw [if_neg (by omega), ha2, ← A2]; exact mh_na
  have Q2 : ∀ k, k ≠ s → k < h.2.1 + 2 → u2.1 k = u2.1 k := fun _ _ _ => rfl
  have Q1 : ∀ k, k ≠ s → k < h.2.1 + 1 → u2.1 k = u1.1 k := fun k k1 k2 => (Q2 k k1 (by omega)).trans (P2 k k1 k2)
  have Q0 : ∀ k, k ≠ s → k < h.2.1 + 0 → u2.1 k = h.1 k := fun k k1 k2 => (Q1 k k1 (by omega)).trans (P1 k k1 k2)
  refine ⟨u2, ?_, O2, ⟨(Q1 _ (by omega) (by omega)).trans R1, (Q2 _ (by omega) (by omega)).trans R2⟩, N2, fun k k1 k2 => Q0 k k1 (by omega)⟩
  rw [mc_5]
  simp only [↓reduceIte, ↓mq_5_0, ↓mq_5_1, ↓mq_5_4, ↓mq_5_5, ↓mq_5_8, ↓mq_5_10, ↓mq_5_13, ↓mq_5_14, ↓mq_5_17, ↓mq_5_19, ↓mq_5_22, ← ha1, ↓mj_bs (e1), ← ha2, A2, ↓mj_bs (e2)]
theorem mt_25 (O : h.1 s = some (.inr (3, mj_dfl 3))) (hs : s < h.2.1) : ∃ h', mj_C 25 [.ref s] h = some (none, h') ∧ h'.1 s = some (.inr (3, [.int (nI 0), .int (nI 0), .int (nI 0), .ref h.2.1, .ref (h.2.1 + 1), .ref (h.2.1 + 2), .ref (h.2.1 + 3), .ref (h.2.1 + 4), .ref (h.2.1 + 5), .ref (h.2.1 + 6)])) ∧ (h'.1 h.2.1 = some (.inl (0, List.replicate 6 0)) ∧ h'.1 (h.2.1 + 1) = some (.inl (0, List.replicate 6 0)) ∧ h'.1 (h.2.1 + 2) = some (.inl (0, List.replicate 6 0)) ∧ h'.1 (h.2.1 + 3) = some (.inl (0, List.replicate 6 0)) ∧ h'.1 (h.2.1 + 4) = some (.inl (0, List.replicate 6 0)) ∧ h'.1 (h.2.1 + 5) = some (.inl (0, List.replicate 3 0)) ∧ h'.1 (h.2.1 + 6) = some (.inl (0, List.replicate 3 0))) ∧ h'.2 = (h.2.1 + 7, h.2.2 + 36) ∧ ∀ k, k ≠ s → k < h.2.1 → h'.1 k = h.1 k := by
  have O0 : h.1 s = some (.inr (3, [.int (nI 0), .int (nI 0), .int (nI 0), .null, .null, .null, .null, .null, .null, .null])) := O
  have N0 : h.2 = (h.2.1, h.2.2) := rfl
  obtain ⟨a1, ha1⟩ : ∃ g, g = mj_new h (.inl (0, List.replicate 6 0)) := ⟨_, rfl⟩
  have A1 : h.2.1 = h.2.1 := congrArg Prod.fst N0
  have S1 : a1.1 s = some (.inr (3, [.int (nI 0), .int (nI 0), .int (nI 0), .null, .null, .null, .null, .null, .null, .null])) := by rw [ha1, mh_no (by omega)]; exact O0
  obtain ⟨u1, hu1⟩ : ∃ g, g = mj_up a1 s (.inr (3, [.int (nI 0), .int (nI 0), .int (nI 0), .ref h.2.1, .null, .null, .null, .null, .null, .null])) := ⟨_, rfl⟩
  have e1 : mj_pf a1 s 3 3 (.ref h.2.1) = some u1 := by rw [hu1]; exact mh_pf 3 S1 (by simp) rfl
  have O1 := mh_ue hu1
  have N1 : u1.2 = (h.2.1 + 1, h.2.2 + 6) := by rw [hu1]; show a1.2 = _; rw [ha1, mh_n2]; simp [mj_sz]
  have P1 : ∀ k, k ≠ s → k < h.2.1 + 0 → u1.1 k = h.1 k := fun k k1 k2 => by rw [hu1]; show (if k = s then _ else a1.1 k) = _; rw [if_neg k1, ha1, mh_no (by omega)]
  have R1 : u1.1 h.2.1 = some (.inl (0, List.replicate 6 0)) := by rw [hu1]; show (if h.2.1 = s then _ else a1.1 h.2.1) = _; rw [if_neg (by omega), ha1]; exact mh_na
  obtain ⟨a2, ha2⟩ : ∃ g, g = mj_new u1 (.inl (0, List.replicate 6 0)) := ⟨_, rfl⟩
  have A2 : u1.2.1 = (h.2.1 + 1) := congrArg Prod.fst N1
  have S2 : a2.1 s = some (.inr (3, [.int (nI 0), .int (nI 0), .int (nI 0), .ref h.2.1, .null, .null, .null, .null, .null, .null])) := by rw [ha2, mh_no (by omega)]; exact O1
  obtain ⟨u2, hu2⟩ : ∃ g, g = mj_up a2 s (.inr (3, [.int (nI 0), .int (nI 0), .int (nI 0), .ref h.2.1, .ref (h.2.1 + 1), .null, .null, .null, .null, .null])) := ⟨_, rfl⟩
  have e2 : mj_pf a2 s 3 4 (.ref (h.2.1 + 1)) = some u2 := by rw [hu2]; exact mh_pf 4 S2 (by simp) rfl
  have O2 := mh_ue hu2
  have N2 : u2.2 = (h.2.1 + 2, h.2.2 + 12) := by rw [hu2]; show a2.2 = _; rw [ha2, mh_n2, N1]; simp [mj_sz]
  have P2 : ∀ k, k ≠ s → k < h.2.1 + 1 → u2.1 k = u1.1 k := fun k k1 k2 => by rw [hu2]; show (if k = s then _ else a2.1 k) = _; rw [if_neg k1, ha2, mh_no (by omega)]
  have R2 : u2.1 (h.2.1 + 1) = some (.inl (0, List.replicate 6 0)) := by rw [hu2]; show (if (h.2.1 + 1) = s then _ else a2.1 (h.2.1 + 1)) = _; rw [if_neg (by omega), ha2, ← A2]; exact mh_na
  obtain ⟨a3, ha3⟩ : ∃ g, g = mj_new u2 (.inl (0, List.replicate 6 0)) := ⟨_, rfl⟩
  have A3 : u2.2.1 = (h.2.1 + 2) := congrArg Prod.fst N2
  have S3 : a3.1 s = some (.inr (3, [.int (nI 0), .int (nI 0), .int (nI 0), .ref h.2.1, .ref (h.2.1 + 1), .null, .null, .null, .null, .null])) := by rw [ha3, mh_no (by omega)]; exact O2
  obtain ⟨u3, hu3⟩ : ∃ g, g = mj_up a3 s (.inr (3, [.int (nI 0), .int (nI 0), .int (nI 0), .ref h.2.1, .ref (h.2.1 + 1), .ref (h.2.1 + 2), .null, .null, .null, .null])) := ⟨_, rfl⟩
  have e3 : mj_pf a3 s 3 5 (.ref (h.2.1 + 2)) = some u3 := by rw [hu3]; exact mh_pf 5 S3 (by simp) rfl
  have O3 := mh_ue hu3
  have N3 : u3.2 = (h.2.1 + 3, h.2.2 + 18) := by rw [hu3]; show a3.2 = _; rw [ha3, mh_n2, N2]; simp [mj_sz]
  have P3 : ∀ k, k ≠ s → k < h.2.1 + 2 → u3.1 k = u2.1 k := fun k k1 k2 => by rw [hu3]; show (if k = s then _ else a3.1 k) = _; rw [if_neg k1, ha3, mh_no (by omega)]
  have R3 : u3.1 (h.2.1 + 2) = some (.inl (0, List.replicate 6 0)) := by rw [hu3]; show (if (h.2.1 + 2) = s then _ else a3.1 (h.2.1 + 2)) = _; rw [if_neg (by omega), ha3, ← A3]; exact mh_na
  obtain ⟨a4, ha4⟩ : ∃ g, g = mj_new u3 (.inl (0, List.replicate 6 0)) := ⟨_, rfl⟩
  have A4 : u3.2.1 = (h.2.1 + 3) := congrArg Prod.fst N3
  have S4 : a4.1 s = some (.inr (3, [.int (nI 0), .int (nI 0), .int (nI 0), .ref h.2.1, .ref (h.2.1 + 1), .ref (h.2.1 + 2), .null, .null, .null, .null])) := by rw [ha4, mh_no (by omega)]; exact O3
  obtain ⟨u4, hu4⟩ : ∃ g, g = mj_up a4 s (.inr (3, [.int (nI 0), .int (nI 0), .int (nI 0), .ref h.2.1, .ref (h.2.1 + 1), .ref (h.2.1 + 2), .ref (h.2.1 + 3), .null, .null, .null])) := ⟨_, rfl⟩
  have e4 : mj_pf a4 s 3 6 (.ref (h.2.1 + 3)) = some u4 := by rw [hu4]; exact mh_pf 6 S4 (by simp) rfl
  have O4 := mh_ue hu4
  have N4 : u4.2 = (h.2.1 + 4, h.2.2 + 24) := by rw [hu4]; show a4.2 = _; rw [ha4, mh_n2, N3]; simp [mj_sz]
  have P4 : ∀ k, k ≠ s → k < h.2.1 + 3 → u4.1 k = u3.1 k := fun k k1 k2 => by rw [hu4]; show (if k = s then _ else a4.1 k) = _; rw [if_neg k1, ha4, mh_no (by omega)]
  have R4 : u4.1 (h.2.1 + 3) = some (.inl (0, List.replicate 6 0)) := by rw [hu4]; show (if (h.2.1 + 3) = s then _ else a4.1 (h.2.1 + 3)) = _; rw [if_neg (by omega), ha4, ← A4]; exact mh_na
  obtain ⟨a5, ha5⟩ : ∃ g, g = mj_new u4 (.inl (0, List.replicate 6 0)) := ⟨_, rfl⟩
  have A5 : u4.2.1 = (h.2.1 + 4) := congrArg Prod.fst N4
  have S5 : a5.1 s = some (.inr (3, [.int (nI 0), .int (nI 0), .int (nI 0), .ref h.2.1, .ref (h.2.1 + 1), .ref (h.2.1 + 2), .ref (h.2.1 + 3), .null, .null, .null])) := by rw [ha5, mh_no (by omega)]; exact O4
  obtain ⟨u5, hu5⟩ : ∃ g, g = mj_up a5 s (.inr (3, [.int (nI 0), .int (nI 0), .int (nI 0), .ref h.2.1, .ref (h.2.1 + 1), .ref (h.2.1 + 2), .ref (h.2.1 + 3), .ref (h.2.1 + 4), .null, .null])) := ⟨_, rfl⟩
  have e5 : mj_pf a5 s 3 7 (.ref (h.2.1 + 4)) = some u5 := by rw [hu5]; exact mh_pf 7 S5 (by simp) rfl
  have O5 := mh_ue hu5
  have N5 : u5.2 = (h.2.1 + 5, h.2.2 + 30) := by rw [hu5]; show a5.2 = _; rw [ha5, mh_n2, N4]; simp [mj_sz]
  have P5 : ∀ k, k ≠ s → k < h.2.1 + 4 → u5.1 k = u4.1 k := fun k k1 k2 => by rw [hu5]; show (if k = s then _ else a5.1 k) = _; rw [if_neg k1, ha5, mh_no (by omega)]
  have R5 : u5.1 (h.2.1 + 4) = some (.inl (0, List.replicate 6 0)) := by rw [hu5]; show (if (h.2.1 + 4) = s then _ else a5.1 (h.2.1 + 4)) = _; rw [if_neg (by omega), ha5, ← A5]; exact mh_na
  obtain ⟨a6, ha6⟩ : ∃ g, g = mj_new u5 (.inl (0, List.replicate 3 0)) := ⟨_, rfl⟩
  have A6 : u5.2.1 = (h.2.1 + 5) := congrArg Prod.fst N5
  have S6 : a6.1 s = some (.inr (3, [.int (nI 0), .int (nI 0), .int (nI 0), .ref h.2.1, .ref (h.2.1 + 1), .ref (h.2.1 + 2), .ref (h.2.1 + 3), .ref (h.2.1 + 4), .null, .null])) := by rw [ha6, mh_no (by omega)]; exact O5
  obtain ⟨u6, hu6⟩ : ∃ g, g = mj_up a6 s (.inr (3, [.int (nI 0), .int (nI 0), .int (nI 0), .ref h.2.1, .ref (h.2.1 + 1), .ref (h.2.1 + 2), .ref (h.2.1 + 3), .ref (h.2.1 + 4), .ref (h.2.1 + 5), .null])) := ⟨_, rfl⟩
  have e6 : mj_pf a6 s 3 8 (.ref (h.2.1 + 5)) = some u6 := by rw [hu6]; exact mh_pf 8 S6 (by simp) rfl
  have O6 := mh_ue hu6
  have N6 : u6.2 = (h.2.1 + 6, h.2.2 + 33) := by rw [hu6]; show a6.2 = _; rw [ha6, mh_n2, N5]; simp [mj_sz]
  have P6 : ∀ k, k ≠ s → k < h.2.1 + 5 → u6.1 k = u5.1 k := fun k k1 k2 => by rw [hu6]; show (if k = s then _ else a6.1 k) = _; rw [if_neg k1, ha6, mh_no (by omega)]
  have R6 : u6.1 (h.2.1 + 5) = some (.inl (0, List.replicate 3 0)) := by rw [hu6]; show (if (h.2.1 + 5) = s then _ else a6.1 (h.2.1 + 5)) = _; rw [if_neg (by omega), ha6, ← A6]; exact mh_na
  obtain ⟨a7, ha7⟩ : ∃ g, g = mj_new u6 (.inl (0, List.replicate 3 0)) := ⟨_, rfl⟩
  have A7 : u6.2.1 = (h.2.1 + 6) := congrArg Prod.fst N6
  have S7 : a7.1 s = some (.inr (3, [.int (nI 0), .int (nI 0), .int (nI 0), .ref h.2.1, .ref (h.2.1 + 1), .ref (h.2.1 + 2), .ref (h.2.1 + 3), .ref (h.2.1 + 4), .ref (h.2.1 + 5), .null])) := by rw [ha7, mh_no (by omega)]; exact O6
  obtain ⟨u7, hu7⟩ : ∃ g, g = mj_up a7 s (.inr (3, [.int (nI 0), .int (nI 0), .int (nI 0), .ref h.2.1, .ref (h.2.1 + 1), .ref (h.2.1 + 2), .ref (h.2.1 + 3), .ref (h.2.1 + 4), .ref (h.2.1 + 5), .ref (h.2.1 + 6)])) := ⟨_, rfl⟩
  have e7 : mj_pf a7 s 3 9 (.ref (h.2.1 + 6)) = some u7 := by rw [hu7]; exact mh_pf 9 S7 (by simp) rfl
  have O7 := mh_ue hu7
  have N7 : u7.2 = (h.2.1 + 7, h.2.2 + 36) := by rw [hu7]; show a7.2 = _; rw [ha7, mh_n2, N6]; simp [mj_sz]
  have P7 : ∀ k, k ≠ s → k < h.2.1 + 6 → u7.1 k = u6.1 k := fun k k1 k2 => by rw [hu7]; show (if k = s then _ else a7.1 k) = _; rw [if_neg k1, ha7, mh_no (by omega)]
  have R7 : u7.1 (h.2.1 + 6) = some (.inl (0, List.replicate 3 0)) := by rw [hu7]; show (if (h.2.1 + 6) = s then _ else a7.1 (h.2.1 + 6)) = _; rw [if_neg (by omega), ha7, ← A7]; exact mh_na
  have Q7 : ∀ k, k ≠ s → k < h.2.1 + 7 → u7.1 k = u7.1 k := fun _ _ _ => rfl
  have Q6 : ∀ k, k ≠ s → k < h.2.1 + 6 → u7.1 k = u6.1 k := fun k k1 k2 => (Q7 k k1 (by omega)).trans (P7 k k1 k2)
  have Q5 : ∀ k, k ≠ s → k < h.2.1 + 5 → u7.1 k = u5.1 k := fun k k1 k2 => (Q6 k k1 (by omega)).trans (P6 k k1 k2)
  have Q4 : ∀ k, k ≠ s → k < h.2.1 + 4 → u7.1 k = u4.1 k := fun k k1 k2 => (Q5 k k1 (by omega)).trans (P5 k k1 k2)
  have Q3 : ∀ k, k ≠ s → k < h.2.1 + 3 → u7.1 k = u3.1 k := fun k k1 k2 => (Q4 k k1 (by omega)).trans (P4 k k1 k2)
  have Q2 : ∀ k, k ≠ s → k < h.2.1 + 2 → u7.1 k = u2.1 k := fun k k1 k2 => (Q3 k k1 (by omega)).trans (P3 k k1 k2)
  have Q1 : ∀ k, k ≠ s → k < h.2.1 + 1 → u7.1 k = u1.1 k := fun k k1 k2 => (Q2 k k1 (by omega)).trans (P2 k k1 k2)
  have Q0 : ∀ k, k ≠ s → k < h.2.1 + 0 → u7.1 k = h.1 k := fun k k1 k2 => (Q1 k k1 (by omega)).trans (P1 k k1 k2)
  refine ⟨u7, ?_, O7, ⟨(Q1 _ (by omega) (by omega)).trans R1, (Q2 _ (by omega) (by omega)).trans R2, (Q3 _ (by omega) (by omega)).trans R3, (Q4 _ (by omega) (by omega)).trans R4, (Q5 _ (by omega) (by omega)).trans R5, (Q6 _ (by omega) (by omega)).trans R6, (Q7 _ (by omega) (by omega)).trans R7⟩, N7, fun k k1 k2 => Q0 k k1 (by omega)⟩
  rw [mc_25]
  simp only [↓reduceIte, ↓mq_25_0, ↓mq_25_1, ↓mq_25_4, ↓mq_25_5, ↓mq_25_7, ↓mq_25_9, ↓mq_25_12, ↓mq_25_13, ↓mq_25_15, ↓mq_25_17, ↓mq_25_20, ↓mq_25_21, ↓mq_25_23, ↓mq_25_25, ↓mq_25_28, ↓mq_25_29, ↓mq_25_31, ↓mq_25_33, ↓mq_25_36, ↓mq_25_37, ↓mq_25_39, ↓mq_25_41, ↓mq_25_44, ↓mq_25_45, ↓mq_25_46, ↓mq_25_48, ↓mq_25_51, ↓mq_25_52, ↓mq_25_53, ↓mq_25_55, ↓mq_25_58, ← ha1, ↓mj_bs (e1), ← ha2, A2, ↓mj_bs (e2), ← ha3, A3, ↓mj_bs (e3), ← ha4, A4, ↓mj_bs (e4), ← ha5, A5, ↓mj_bs (e5), ← ha6, A6, ↓mj_bs (e6), ← ha7, A7, ↓mj_bs (e7)]
end
