/-! WHAT IS MADE -/
section
variable {h : mj_H} {s r : Nat}
theorem mh_na {h : mj_H} {e : mj_E} : (mj_new h e).1 h.2.1 = some e := if_pos rfl
theorem mh_no {h : mj_H} {e : mj_E} {k : Nat} (hk : k ≠ h.2.1) : (mj_new h e).1 k = h.1 k := if_neg hk
theorem mh_n2 {h : mj_H} {e : mj_E} : (mj_new h e).2 = (h.2.1 + 1, h.2.2 + mj_sz e) := rfl
theorem mt_48 (O : h.1 s = some (.inr (5, mj_dfl 5))) (hs : s < h.2.1) : ∃ h', mj_C 48 [.ref s] h = some (none, h') ∧ h'.1 s = some (.inr (5, [.ref h.2.1, .int (nI 0), .int (nI 0), .int (nI 0)])) ∧ h'.1 h.2.1 = some (.inl (0, List.replicate 64 0)) ∧ h'.2 = (h.2.1 + 1, h.2.2 + 64) ∧ ∀ k, k ≠ s → k ≠ h.2.1 → h'.1 k = h.1 k := by
  obtain ⟨g1, hg1⟩ : ∃ g, g = mj_new h (.inl (0, List.replicate 64 0)) := ⟨_, rfl⟩
  have O1 : g1.1 s = some (.inr (5, mj_dfl 5)) := by rw [hg1, mh_no (by omega)]; exact O
  obtain ⟨g2, hg2⟩ : ∃ g, g = mj_up g1 s (.inr (5, [.ref h.2.1, .int (nI 0), .int (nI 0), .int (nI 0)])) := ⟨_, rfl⟩
  have e1 : mj_pf g1 s 5 0 (.ref h.2.1) = some g2 := by rw [hg2]; exact mh_pf 0 O1 (by decide) rfl
  refine ⟨g2, ?_, mh_ue hg2, ?_, ?_, fun k k1 k2 => ?_⟩
  · rw [mc_48]
    simp only [↓reduceIte, ↓mq_48_0, ↓mq_48_1, ↓mq_48_4, ↓mq_48_5, ↓mq_48_7, ↓mq_48_9, ↓mq_48_12, ← hg1, ↓mj_bs (e1)]
  · rw [hg2]
    show (if h.2.1 = s then _ else g1.1 h.2.1) = _
    rw [if_neg (by omega), hg1, mh_na]
  · rw [hg2]
    show g1.2 = _
    rw [hg1, mh_n2]
    simp [mj_sz]
  · rw [hg2]
    show (if k = s then _ else g1.1 k) = _
    rw [if_neg k1, hg1, mh_no k2]
theorem mt_44 (O : h.1 s = some (.inr (4, mj_dfl 4))) (hs : s < h.2.1) : ∃ h', mj_C 44 [.ref s] h = some (none, h') ∧ h'.1 s = some (.inr (4, [.ref h.2.1])) ∧ h'.1 h.2.1 = some (.inl (0, List.replicate 64 0)) ∧ h'.2 = (h.2.1 + 1, h.2.2 + 64) ∧ ∀ k, k ≠ s → k ≠ h.2.1 → h'.1 k = h.1 k := by
  obtain ⟨g1, hg1⟩ : ∃ g, g = mj_new h (.inl (0, List.replicate 64 0)) := ⟨_, rfl⟩
  have O1 : g1.1 s = some (.inr (4, mj_dfl 4)) := by rw [hg1, mh_no (by omega)]; exact O
  obtain ⟨g2, hg2⟩ : ∃ g, g = mj_up g1 s (.inr (4, [.ref h.2.1])) := ⟨_, rfl⟩
  have e1 : mj_pf g1 s 4 0 (.ref h.2.1) = some g2 := by rw [hg2]; exact mh_pf 0 O1 (by decide) rfl
  refine ⟨g2, ?_, mh_ue hg2, ?_, ?_, fun k k1 k2 => ?_⟩
  · rw [mc_44]
    simp only [↓reduceIte, ↓mq_44_0, ↓mq_44_1, ↓mq_44_4, ↓mq_44_5, ↓mq_44_7, ↓mq_44_9, ↓mq_44_12, ← hg1, ↓mj_bs (e1)]
  · rw [hg2]
    show (if h.2.1 = s then _ else g1.1 h.2.1) = _
    rw [if_neg (by omega), hg1, mh_na]
  · rw [hg2]
    show g1.2 = _
    rw [hg1, mh_n2]
    simp [mj_sz]
  · rw [hg2]
    show (if k = s then _ else g1.1 k) = _
    rw [if_neg k1, hg1, mh_no k2]
theorem mt_9 (O : h.1 s = some (.inr (2, mj_dfl 2))) (hs : s < h.2.1) : ∃ h', mj_C 9 [.ref s, .ref r] h = some (none, h') ∧ h'.1 s = some (.inr (2, [.ref r, .int (nI 0), .int (nI 0), .int (nI 0), .int (nI 0), .int (nI 0), .ref h.2.1])) ∧ h'.1 h.2.1 = some (.inl (0, List.replicate 6 0)) ∧ h'.2 = (h.2.1 + 1, h.2.2 + 6) ∧ ∀ k, k ≠ s → k ≠ h.2.1 → h'.1 k = h.1 k := by
  obtain ⟨g1, hg1⟩ : ∃ g, g = mj_new h (.inl (0, List.replicate 6 0)) := ⟨_, rfl⟩
  have O1 : g1.1 s = some (.inr (2, mj_dfl 2)) := by rw [hg1, mh_no (by omega)]; exact O
  obtain ⟨g2, hg2⟩ : ∃ g, g = mj_up g1 s (.inr (2, [.null, .int (nI 0), .int (nI 0), .int (nI 0), .int (nI 0), .int (nI 0), .ref h.2.1])) := ⟨_, rfl⟩
  have e1 : mj_pf g1 s 2 6 (.ref h.2.1) = some g2 := by rw [hg2]; exact mh_pf 6 O1 (by decide) rfl
  have O2 := mh_ue hg2
  obtain ⟨g3, hg3⟩ : ∃ g, g = mj_up g2 s (.inr (2, [.ref r, .int (nI 0), .int (nI 0), .int (nI 0), .int (nI 0), .int (nI 0), .ref h.2.1])) := ⟨_, rfl⟩
  have e2 : mj_pf g2 s 2 0 (.ref r) = some g3 := by rw [hg3]; exact mh_pf 0 O2 (by simp) rfl
  refine ⟨g3, ?_, mh_ue hg3, ?_, ?_, fun k k1 k2 => ?_⟩
  · rw [mc_9]
    simp only [↓reduceIte, ↓mq_9_0, ↓mq_9_1, ↓mq_9_4, ↓mq_9_5, ↓mq_9_7, ↓mq_9_9, ↓mq_9_12, ↓mq_9_13, ↓mq_9_14, ↓mq_9_17, ← hg1, ↓mj_bs (e1), ↓mj_bs (e2)]
  · rw [hg3, hg2]
    show (if h.2.1 = s then _ else (if h.2.1 = s then _ else g1.1 h.2.1)) = _
    rw [if_neg (by omega), if_neg (by omega), hg1, mh_na]
  · rw [hg3, hg2]
    show g1.2 = _
    rw [hg1, mh_n2]
    simp [mj_sz]
  · rw [hg3, hg2]
    show (if k = s then _ else (if k = s then _ else g1.1 k)) = _
    rw [if_neg k1, if_neg k1, hg1, mh_no k2]
end
