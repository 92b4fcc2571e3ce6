/-! THE CLASS'S MARCH -/
def mm_max (X : Nat → Nat) (s : Nat) : Nat → Nat
  | 0 => 0
  | k + 1 => if s.testBit k = true then (if mm_max X s k < X k then X k else mm_max X s k) else mm_max X s k
theorem mm_max_le {X : Nat → Nat} {s c : Nat} : ∀ n, (∀ k, k < n → s.testBit k = true → X k ≤ c) → mm_max X s n ≤ c := by
  intro n
  induction n with
  | zero => intro _; exact Nat.zero_le _
  | succ n ih =>
    intro h
    have h1 := ih (fun k hk => h k (by omega))
    simp only [mm_max]
    split
    · rename_i hb
      have h2 := h n (by omega) hb
      split <;> omega
    · exact h1
def mm_ask (ρ : mm_Ro) (μ : mm_Ma) (b : Nat) : Nat := if mr_K ρ b = 2 then (if mm_pa ρ b < mm_max (ma_g μ) (ma_b μ) (mr_n ρ) then mm_max (ma_g μ) (ma_b μ) (mr_n ρ) else mm_pa ρ b) else mm_pa ρ b
def mm_has (ρ : mm_Ro) (μ : mm_Ma) : Bool := decide (ma_n μ < mr_n ρ)
def mm_can (ρ : mm_Ro) (μ : mm_Ma) : Bool := mm_has ρ μ && decide (mm_ask ρ μ (ma_n μ) ≤ ma_p μ)
def mm_qr (ρ : mm_Ro) (one b0 : Nat) : Nat → Nat
  | 0 => b0
  | k + 1 => if (mm_qr ρ one b0 k).testBit one = true ∧ (mm_qr ρ one b0 k).testBit k = true ∧ (mr_E ρ one).testBit k = true then mm_del (mm_qr ρ one b0 k) (if mr_S ρ k < mr_S ρ one then k else one) else mm_qr ρ one b0 k
def mm_left (ρ : mm_Ro) (μ : mm_Ma) : Nat := mm_dif (mm_add (ma_b μ) (ma_n μ)) (mm_qr ρ (ma_n μ) (mm_add (ma_b μ) (ma_n μ)) (mr_n ρ))
def mm_come (ρ : mm_Ro) (μ : mm_Ma) : mm_Ma := (ma_p μ - mm_ask ρ μ (ma_n μ), mm_qr ρ (ma_n μ) (mm_add (ma_b μ) (ma_n μ)) (mr_n ρ), ma_d μ, ma_n μ + 1, ma_o μ, mh_u (ma_g μ) (ma_n μ) (mm_ask ρ μ (ma_n μ)))
def mm_skip (μ : mm_Ma) : mm_Ma := (ma_p μ, ma_b μ, ma_d μ, ma_n μ + 1, ma_o μ, ma_g μ)
def mm_sl (p0 b0 : Nat) : Nat → Nat × Nat
  | 0 => (p0, b0)
  | k + 1 => if (mm_sl p0 b0 k).2.testBit k = true ∧ 0 < (mm_sl p0 b0 k).1 then ((mm_sl p0 b0 k).1 - 1, (mm_sl p0 b0 k).2) else ((mm_sl p0 b0 k).1, mm_del (mm_sl p0 b0 k).2 k)
def mm_tr (ρ : mm_Ro) : Nat → Nat
  | 0 => 0
  | k + 1 => if mr_K ρ k = 3 then mm_tr ρ k ||| 2 ^ k else mm_tr ρ k
def mm_sb (ρ : mm_Ro) (μ : mm_Ma) : Nat := mm_dif (mm_sl (ma_p μ) (ma_b μ) (mr_n ρ)).2 (mm_tr ρ (mr_n ρ))
def mm_slp (ρ : mm_Ro) (μ : mm_Ma) : mm_Ma := ((mm_sl (ma_p μ) (ma_b μ) (mr_n ρ)).1, mm_sb ρ μ, ma_d μ + 1, ma_n μ, ma_o μ, ma_g μ)
def mm_slw (ρ : mm_Ro) (μ : mm_Ma) : Nat := mm_dif (ma_b μ) (mm_sb ρ μ)
def mm_cul (ρ : mm_Ro) (μ : mm_Ma) : Bool := decide (ma_o μ < mr_g ρ) && mm_opens ρ (ma_b μ) (ma_o μ)
def mm_unl (μ : mm_Ma) : mm_Ma := (ma_p μ, ma_b μ, ma_d μ, ma_n μ, ma_o μ + 1, ma_g μ)
theorem mm_qr_lt {ρ : mm_Ro} {one b0 : Nat} (h0 : b0 < 64) (h1 : one < 6) : ∀ k, k ≤ 6 → mm_qr ρ one b0 k < 64 := by
  intro k
  induction k with
  | zero => intro _; exact h0
  | succ k ih =>
    intro hk
    simp only [mm_qr]
    split
    · refine mm_del_lt _ (ih (by omega)) _ ?_
      split <;> omega
    · exact ih (by omega)
theorem mm_qr_sub {ρ : mm_Ro} {one b0 : Nat} (h0 : b0 < 64) (h1 : one < 6) : ∀ k, k ≤ 6 → ∀ j, j < 6 → (mm_qr ρ one b0 k).testBit j = true → b0.testBit j = true := by
  intro k
  induction k with
  | zero => intro _ j _ h; exact h
  | succ k ih =>
    intro hk j hj h
    simp only [mm_qr] at h
    split at h
    · rw [mm_del_at _ (mm_qr_lt h0 h1 k (by omega)) _ (by split <;> omega) j hj] at h
      exact ih (by omega) j hj (by simpa using (Bool.and_eq_true _ _ ▸ h).1)
    · exact ih (by omega) j hj h
theorem mm_qr_end {ρ : mm_Ro} {one b0 k : Nat} (h : (mm_qr ρ one b0 k).testBit one = false) : ∀ d, mm_qr ρ one b0 (k + d) = mm_qr ρ one b0 k := by
  intro d
  induction d with
  | zero => rfl
  | succ d ih =>
    rw [show k + (d + 1) = (k + d) + 1 from rfl]
    simp only [mm_qr, ih, h, Bool.false_eq_true, false_and, if_false]
theorem mm_sl_lt {p0 b0 : Nat} (h0 : b0 < 64) : ∀ k, k ≤ 6 → (mm_sl p0 b0 k).2 < 64 ∧ (mm_sl p0 b0 k).1 ≤ p0 := by
  intro k
  induction k with
  | zero => intro _; exact ⟨h0, Nat.le_refl _⟩
  | succ k ih =>
    intro hk
    have h1 := ih (by omega)
    simp only [mm_sl]
    split
    · exact ⟨h1.1, by show _ - 1 ≤ _; omega⟩
    · exact ⟨mm_del_lt _ h1.1 k (by omega), h1.2⟩
theorem mm_sl_sub {p0 b0 : Nat} (h0 : b0 < 64) : ∀ k, k ≤ 6 → ∀ j, j < 6 → (mm_sl p0 b0 k).2.testBit j = true → b0.testBit j = true := by
  intro k
  induction k with
  | zero => intro _ j _ h; exact h
  | succ k ih =>
    intro hk j hj h
    simp only [mm_sl] at h
    split at h
    · exact ih (by omega) j hj h
    · rw [mm_del_at _ (mm_sl_lt h0 k (by omega)).1 k (by omega) j hj] at h
      exact ih (by omega) j hj (Bool.and_eq_true _ _ ▸ h).1
theorem mm_tr_lt {ρ : mm_Ro} : ∀ k, k ≤ 6 → mm_tr ρ k < 64 := by
  intro k
  induction k with
  | zero => intro _; show 0 < 64; omega
  | succ k ih =>
    intro hk
    simp only [mm_tr]
    split
    · exact Nat.or_lt_two_pow (n := 6) (ih (by omega)) (Nat.pow_lt_pow_right (by decide) (by omega))
    · exact ih (by omega)
theorem mm_pa9 {ρ : mm_Ro} (w : mw_R ρ) {b : Nat} (hb : b < mr_n ρ) : 1 ≤ mm_pa ρ b ∧ mm_pa ρ b ≤ 9 := by
  obtain ⟨w1, w2, w3, -⟩ := w.2.2.2.1 b hb
  unfold mm_pa
  split <;> omega
section
variable {h : mj_H} {m r : Nat} {ρ : mm_Ro} {μ : mm_Ma} {v0 v1 v2 v3 v4 : Int32} {q : Nat}
theorem mo_1 (H : h.1 m = some (.inr (2, [.ref r, .int v0, .int v1, .int v2, .int v3, .int v4, .ref q]))) (v : Int32) : ∃ h', mj_pf h m 2 1 (.int v) = some h' ∧ h'.1 m = some (.inr (2, [.ref r, .int v, .int v1, .int v2, .int v3, .int v4, .ref q])) ∧ mh_F (fun k => k = m) h h' := ⟨_, mh_pf 1 H (by simp) rfl, mh_ua, mh_uF⟩
theorem mo_2 (H : h.1 m = some (.inr (2, [.ref r, .int v0, .int v1, .int v2, .int v3, .int v4, .ref q]))) (v : Int32) : ∃ h', mj_pf h m 2 2 (.int v) = some h' ∧ h'.1 m = some (.inr (2, [.ref r, .int v0, .int v, .int v2, .int v3, .int v4, .ref q])) ∧ mh_F (fun k => k = m) h h' := ⟨_, mh_pf 2 H (by simp) rfl, mh_ua, mh_uF⟩
theorem mo_3 (H : h.1 m = some (.inr (2, [.ref r, .int v0, .int v1, .int v2, .int v3, .int v4, .ref q]))) (v : Int32) : ∃ h', mj_pf h m 2 3 (.int v) = some h' ∧ h'.1 m = some (.inr (2, [.ref r, .int v0, .int v1, .int v, .int v3, .int v4, .ref q])) ∧ mh_F (fun k => k = m) h h' := ⟨_, mh_pf 3 H (by simp) rfl, mh_ua, mh_uF⟩
theorem mo_4 (H : h.1 m = some (.inr (2, [.ref r, .int v0, .int v1, .int v2, .int v3, .int v4, .ref q]))) (v : Int32) : ∃ h', mj_pf h m 2 4 (.int v) = some h' ∧ h'.1 m = some (.inr (2, [.ref r, .int v0, .int v1, .int v2, .int v, .int v4, .ref q])) ∧ mh_F (fun k => k = m) h h' := ⟨_, mh_pf 4 H (by simp) rfl, mh_ua, mh_uF⟩
theorem mo_5 (H : h.1 m = some (.inr (2, [.ref r, .int v0, .int v1, .int v2, .int v3, .int v4, .ref q]))) (v : Int32) : ∃ h', mj_pf h m 2 5 (.int v) = some h' ∧ h'.1 m = some (.inr (2, [.ref r, .int v0, .int v1, .int v2, .int v3, .int v, .ref q])) ∧ mh_F (fun k => k = m) h h' := ⟨_, mh_pf 5 H (by simp) rfl, mh_ua, mh_uF⟩
def mh_A (a b : Nat) : Nat → Prop := fun k => a ≤ k ∧ k ≤ b
theorem mt_15 (M : mh_Ma h m r μ) {k : Nat} (hb : ma_b μ < 64) (hk : k < 6) : mj_C 15 [.ref m, .int (nI k)] h = some (some (.int (mj_bI ((ma_b μ).testBit k))), h) := by
  rw [mc_15]
  cases hb1 : (ma_b μ).testBit k
  · simp only [↓reduceIte, ↓mq_15_0, ↓mq_15_1, ↓mq_15_4, ↓mq_15_5, ↓mq_15_6, ↓mq_15_7, ↓mq_15_8, ↓mq_15_11, ↓mq_15_12, ↓mq_15_15, ↓mq_15_16, ↓mj_bs (mh_gf 2 M.1 rfl), mn_shl k (by omega), mn_and, mn_bb hb hk, hb1, mj_z0, mj_bI, Bool.false_eq_true]
  · simp only [↓reduceIte, ↓mq_15_0, ↓mq_15_1, ↓mq_15_4, ↓mq_15_5, ↓mq_15_6, ↓mq_15_7, ↓mq_15_8, ↓mq_15_11, ↓mq_15_12, ↓mq_15_15, ↓mq_15_16, ↓mj_bs (mh_gf 2 M.1 rfl), mn_shl k (by omega), mn_and, mn_bb hb hk, hb1, Bool.true_eq_false, mj_z1, mj_bI]
theorem mw_b {ρ : mm_Ro} {μ : mm_Ma} (w : mw_R ρ) (wm : mw_M ρ μ) : ma_b μ < 64 := mm_64 wm.2.1 w.1
theorem mt_12 (w : mw_R ρ) (wm : mw_M ρ μ) (H : mh_Ro h r ρ) (M : mh_Ma h m r μ) : mj_C 12 [.ref m] h = some (some (.int (mj_bI (mm_has ρ μ))), h) := by
  have hn := w.1
  have e : decide (nI 0 ≤ nI (ma_n μ) ∧ nI (ma_n μ) < nI (mr_n ρ)) = mm_has ρ μ := by
    have h3 := wm.2.2.1
    have h4 : ma_n μ < 2 ^ 31 := by omega
    have h5 : nI 0 ≤ nI (ma_n μ) := nI_le (Nat.zero_le _) h4
    simp only [mm_has, h5, true_and, mn_lt h4 (show mr_n ρ < 2 ^ 31 by omega)]
  rw [mc_12]
  simp only [↓reduceIte, ↓mq_12_0, ↓mq_12_1, ↓mq_12_4, ↓mq_12_5, ↓mq_12_8, ↓mq_12_11, ↓mj_bs (mh_gf 0 M.1 rfl), ↓mj_bs (mh_gf 4 M.1 rfl), mh_isC H.1, ↓mj_bs (mt_31 H (nI (ma_n μ))), Option.toList, List.cons_append, List.nil_append, mj_zb, e]
theorem mt_11 (w : mw_R ρ) (wm : mw_M ρ μ) (H : mh_Ro h r ρ) (M : mh_Ma h m r μ) : mj_C 11 [.ref m] h = some (some (.int (if ma_n μ < mr_n ρ then nI (ma_n μ) else -9)), h) := by
  rw [mc_11]
  by_cases hc : ma_n μ < mr_n ρ
  · simp only [↓reduceIte, ↓mq_11_0, ↓mq_11_1, ↓mq_11_4, ↓mq_11_7, ↓mq_11_8, ↓mq_11_11, ↓mq_11_14, ↓mq_11_16, mh_isC M.1, ↓mj_bs (mt_12 w wm H M), Option.toList, List.cons_append, List.nil_append, mj_b0, mm_has, hc, decide_true, Bool.true_eq_false, ↓mj_bs (mh_gf 4 M.1 rfl)]
  · simp only [↓reduceIte, ↓mq_11_0, ↓mq_11_1, ↓mq_11_4, ↓mq_11_7, ↓mq_11_8, ↓mq_11_11, ↓mq_11_14, ↓mq_11_16, mh_isC M.1, ↓mj_bs (mt_12 w wm H M), Option.toList, List.cons_append, List.nil_append, mj_b0, mm_has, hc, decide_false]
theorem mt_14 (w : mw_R ρ) (wm : mw_M ρ μ) (H : mh_Ro h r ρ) (M : mh_Ma h m r μ) : mj_C 14 [.ref m] h = some (some (.int (nI (mm_max (ma_g μ) (ma_b μ) (mr_n ρ)))), h) := by
  have hn := w.1
  have hb := mw_b w wm
  have hle : ∀ i, i ≤ mr_n ρ → mm_max (ma_g μ) (ma_b μ) i ≤ 99 := fun i hi => mm_max_le i (fun k hk hb => wm.2.2.2.2 k (by omega) hb)
  have loop : ∀ d i, i + d = mr_n ρ → mj_R 14 (4, [.ref m, .int (nI (mm_max (ma_g μ) (ma_b μ) i)), .int (nI i)], [], h) = some (some (.int (nI (mm_max (ma_g μ) (ma_b μ) (mr_n ρ)))), h) := by
    intro d
    induction d with
    | zero =>
      intro i hi
      obtain rfl : i = mr_n ρ := by omega
      simp only [↓reduceIte, ↓mq_14_0, ↓mq_14_1, ↓mq_14_2, ↓mq_14_3, ↓mq_14_4, ↓mq_14_5, ↓mq_14_6, ↓mq_14_9, ↓mq_14_12, ↓mq_14_15, ↓mq_14_16, ↓mq_14_17, ↓mq_14_20, ↓mq_14_23, ↓mq_14_24, ↓mq_14_25, ↓mq_14_28, ↓mq_14_29, ↓mq_14_30, ↓mq_14_33, ↓mq_14_34, ↓mq_14_37, ↓mq_14_40, ↓mq_14_41, ↓mj_bs (mh_gf 0 M.1 rfl), ↓mj_bs (mh_gf 1 H.1 rfl), mt_le (Nat.le_refl (mr_n ρ))]
    | succ d ih =>
      intro i hi
      have hin : i < mr_n ρ := by omega
      have ih' := ih (i + 1) (by omega)
      have hl := hle i (by omega)
      rw [mq_14_4]
      cases hb1 : (ma_b μ).testBit i
      · simp only [↓reduceIte, ↓mq_14_0, ↓mq_14_1, ↓mq_14_2, ↓mq_14_3, ↓mq_14_5, ↓mq_14_6, ↓mq_14_9, ↓mq_14_12, ↓mq_14_15, ↓mq_14_16, ↓mq_14_17, ↓mq_14_20, ↓mq_14_23, ↓mq_14_24, ↓mq_14_25, ↓mq_14_28, ↓mq_14_29, ↓mq_14_30, ↓mq_14_33, ↓mq_14_34, ↓mq_14_37, ↓mq_14_40, ↓mq_14_41, ↓mj_bs (mh_gf 0 M.1 rfl), ↓mj_bs (mh_gf 1 H.1 rfl), mf_le hin, mh_isC M.1, ↓mj_bs (mt_15 M hb (show i < 6 by omega)), Option.toList, List.cons_append, List.nil_append, mj_b0, hb1, mn_add]
        simpa only [mm_max, hb1, Bool.false_eq_true, if_false] using ih'
      · have hgi := wm.2.2.2.2 i (by omega) hb1
        by_cases hlt : mm_max (ma_g μ) (ma_b μ) i < ma_g μ i
        · simp only [↓reduceIte, ↓mq_14_0, ↓mq_14_1, ↓mq_14_2, ↓mq_14_3, ↓mq_14_5, ↓mq_14_6, ↓mq_14_9, ↓mq_14_12, ↓mq_14_15, ↓mq_14_16, ↓mq_14_17, ↓mq_14_20, ↓mq_14_23, ↓mq_14_24, ↓mq_14_25, ↓mq_14_28, ↓mq_14_29, ↓mq_14_30, ↓mq_14_33, ↓mq_14_34, ↓mq_14_37, ↓mq_14_40, ↓mq_14_41, ↓mj_bs (mh_gf 0 M.1 rfl), ↓mj_bs (mh_gf 1 H.1 rfl), mf_le hin, mh_isC M.1, ↓mj_bs (mt_15 M hb (show i < 6 by omega)), Option.toList, List.cons_append, List.nil_append, mj_b0, hb1, Bool.true_eq_false, ↓mj_bs (mh_gf 6 M.1 rfl), ↓mj_bs (M.2.gt (show i < 6 by omega) hb1), mt_lt hlt, mn_add]
          simpa only [mm_max, hb1, hlt, if_true] using ih'
        · simp only [↓reduceIte, ↓mq_14_0, ↓mq_14_1, ↓mq_14_2, ↓mq_14_3, ↓mq_14_5, ↓mq_14_6, ↓mq_14_9, ↓mq_14_12, ↓mq_14_15, ↓mq_14_16, ↓mq_14_17, ↓mq_14_20, ↓mq_14_23, ↓mq_14_24, ↓mq_14_25, ↓mq_14_28, ↓mq_14_29, ↓mq_14_30, ↓mq_14_33, ↓mq_14_34, ↓mq_14_37, ↓mq_14_40, ↓mq_14_41, ↓mj_bs (mh_gf 0 M.1 rfl), ↓mj_bs (mh_gf 1 H.1 rfl), mf_le hin, mh_isC M.1, ↓mj_bs (mt_15 M hb (show i < 6 by omega)), Option.toList, List.cons_append, List.nil_append, mj_b0, hb1, Bool.true_eq_false, ↓mj_bs (mh_gf 6 M.1 rfl), ↓mj_bs (M.2.gt (show i < 6 by omega) hb1), mf_lt (Nat.le_of_not_lt hlt), mn_add]
          simpa only [mm_max, hb1, hlt, if_true, if_false] using ih'
  rw [mc_14]
  simp only [↓reduceIte, ↓mq_14_0, ↓mq_14_1, ↓mq_14_2, ↓mq_14_3, ↓mq_14_5, ↓mq_14_6, ↓mq_14_9, ↓mq_14_12, ↓mq_14_15, ↓mq_14_16, ↓mq_14_17, ↓mq_14_20, ↓mq_14_23, ↓mq_14_24, ↓mq_14_25, ↓mq_14_28, ↓mq_14_29, ↓mq_14_30, ↓mq_14_33, ↓mq_14_34, ↓mq_14_37, ↓mq_14_40, ↓mq_14_41]
  exact loop (mr_n ρ) 0 (by omega)
theorem mt_13 (w : mw_R ρ) (wm : mw_M ρ μ) (H : mh_Ro h r ρ) (M : mh_Ma h m r μ) {b : Nat} (hb : b < mr_n ρ) : mj_C 13 [.ref m, .int (nI b)] h = some (some (.int (nI (mm_ask ρ μ b))), h) := by
  have hn := w.1
  have hp := mm_pa9 w hb
  have hle : mm_max (ma_g μ) (ma_b μ) (mr_n ρ) ≤ 99 := mm_max_le _ (fun k hk hb => wm.2.2.2.2 k (by omega) hb)
  have hin : decide (nI 0 ≤ nI b ∧ nI b < nI (mr_n ρ)) = true := decide_eq_true ⟨nI_le (Nat.zero_le _) (by omega), nI_lt hb (by omega)⟩
  have hk3 := (w.2.2.2.1 b hb).1
  rw [mc_13]
  by_cases hk : mr_K ρ b = 2
  · by_cases hlt : mm_pa ρ b < mm_max (ma_g μ) (ma_b μ) (mr_n ρ)
    · simp only [↓reduceIte, ↓mq_13_0, ↓mq_13_1, ↓mq_13_4, ↓mq_13_5, ↓mq_13_8, ↓mq_13_9, ↓mq_13_10, ↓mq_13_13, ↓mq_13_14, ↓mq_13_17, ↓mq_13_20, ↓mq_13_21, ↓mq_13_24, ↓mq_13_27, ↓mq_13_28, ↓mq_13_29, ↓mq_13_30, ↓mq_13_33, ↓mq_13_34, ↓mq_13_37, ↓mq_13_38, ↓mq_13_39, ↓mq_13_40, ↓mq_13_43, ↓mq_13_44, ↓mq_13_45, ↓mq_13_48, ↓mq_13_51, ↓mq_13_54, ↓mq_13_55, ↓mj_bs (mh_gf 0 M.1 rfl), mh_isC H.1, mh_isC M.1, ↓mj_bs (mt_38 w H hb), Option.toList, List.cons_append, List.nil_append, ↓mj_bs (mt_31 H (nI b)), mj_b0, hin, Bool.true_eq_false, ↓mj_bs (mh_gf 3 H.1 rfl), ↓mj_bs (H.2.1.gt (show b < 6 by omega) hb), mt_eq hk, mf_eq (show 1 ≠ 0 by omega), ↓mj_bs (mt_14 w wm H M), mt_lt hlt]
      simp [mm_ask, hk, hlt]
    · simp only [↓reduceIte, ↓mq_13_0, ↓mq_13_1, ↓mq_13_4, ↓mq_13_5, ↓mq_13_8, ↓mq_13_9, ↓mq_13_10, ↓mq_13_13, ↓mq_13_14, ↓mq_13_17, ↓mq_13_20, ↓mq_13_21, ↓mq_13_24, ↓mq_13_27, ↓mq_13_28, ↓mq_13_29, ↓mq_13_30, ↓mq_13_33, ↓mq_13_34, ↓mq_13_37, ↓mq_13_38, ↓mq_13_39, ↓mq_13_40, ↓mq_13_43, ↓mq_13_44, ↓mq_13_45, ↓mq_13_48, ↓mq_13_51, ↓mq_13_54, ↓mq_13_55, ↓mj_bs (mh_gf 0 M.1 rfl), mh_isC H.1, mh_isC M.1, ↓mj_bs (mt_38 w H hb), Option.toList, List.cons_append, List.nil_append, ↓mj_bs (mt_31 H (nI b)), mj_b0, hin, Bool.true_eq_false, ↓mj_bs (mh_gf 3 H.1 rfl), ↓mj_bs (H.2.1.gt (show b < 6 by omega) hb), mt_eq hk, mf_eq (show 1 ≠ 0 by omega), ↓mj_bs (mt_14 w wm H M), mf_lt (Nat.le_of_not_lt hlt)]
      simp [mm_ask, hk, hlt]
  · simp only [↓reduceIte, ↓mq_13_0, ↓mq_13_1, ↓mq_13_4, ↓mq_13_5, ↓mq_13_8, ↓mq_13_9, ↓mq_13_10, ↓mq_13_13, ↓mq_13_14, ↓mq_13_17, ↓mq_13_20, ↓mq_13_21, ↓mq_13_24, ↓mq_13_27, ↓mq_13_28, ↓mq_13_29, ↓mq_13_30, ↓mq_13_33, ↓mq_13_34, ↓mq_13_37, ↓mq_13_38, ↓mq_13_39, ↓mq_13_40, ↓mq_13_43, ↓mq_13_44, ↓mq_13_45, ↓mq_13_48, ↓mq_13_51, ↓mq_13_54, ↓mq_13_55, ↓mj_bs (mh_gf 0 M.1 rfl), mh_isC H.1, mh_isC M.1, ↓mj_bs (mt_38 w H hb), Option.toList, List.cons_append, List.nil_append, ↓mj_bs (mt_31 H (nI b)), mj_b0, hin, Bool.true_eq_false, ↓mj_bs (mh_gf 3 H.1 rfl), ↓mj_bs (H.2.1.gt (show b < 6 by omega) hb), mf_eq hk, mt_eq (show 0 = 0 from rfl)]
    simp [mm_ask, hk]
theorem mm_ask99 (w : mw_R ρ) (wm : mw_M ρ μ) {b : Nat} (hb : b < mr_n ρ) : mm_ask ρ μ b ≤ 99 := by
  have hn := w.1
  have hp := mm_pa9 w hb
  have hle : mm_max (ma_g μ) (ma_b μ) (mr_n ρ) ≤ 99 := mm_max_le _ (fun k hk hb => wm.2.2.2.2 k (by omega) hb)
  unfold mm_ask
  repeat' split
  all_goals omega
theorem mt_16 (w : mw_R ρ) (wm : mw_M ρ μ) (H : mh_Ro h r ρ) (M : mh_Ma h m r μ) : mj_C 16 [.ref m] h = some (some (.int (mj_bI (mm_can ρ μ))), h) := by
  have hn := w.1
  have hp := wm.1
  rw [mc_16]
  by_cases hc : ma_n μ < mr_n ρ
  · have ha := mm_ask99 w wm hc
    by_cases hl : mm_ask ρ μ (ma_n μ) ≤ ma_p μ
    · simp only [↓reduceIte, ↓mq_16_0, ↓mq_16_1, ↓mq_16_4, ↓mq_16_7, ↓mq_16_8, ↓mq_16_9, ↓mq_16_12, ↓mq_16_15, ↓mq_16_16, ↓mq_16_19, ↓mq_16_22, ↓mq_16_23, ↓mq_16_26, ↓mq_16_27, mh_isC M.1, ↓mj_bs (mt_12 w wm H M), Option.toList, List.cons_append, List.nil_append, mj_b0, mm_has, hc, decide_true, Bool.true_eq_false, ↓mj_bs (mh_gf 4 M.1 rfl), ↓mj_bs (mt_13 w wm H M hc), ↓mj_bs (mh_gf 1 M.1 rfl), mf_lt hl, mj_z1]
      simp [mm_can, mm_has, hc, hl, mj_bI]
    · simp only [↓reduceIte, ↓mq_16_0, ↓mq_16_1, ↓mq_16_4, ↓mq_16_7, ↓mq_16_8, ↓mq_16_9, ↓mq_16_12, ↓mq_16_15, ↓mq_16_16, ↓mq_16_19, ↓mq_16_22, ↓mq_16_23, ↓mq_16_26, ↓mq_16_27, mh_isC M.1, ↓mj_bs (mt_12 w wm H M), Option.toList, List.cons_append, List.nil_append, mj_b0, mm_has, hc, decide_true, Bool.true_eq_false, ↓mj_bs (mh_gf 4 M.1 rfl), ↓mj_bs (mt_13 w wm H M hc), ↓mj_bs (mh_gf 1 M.1 rfl), mt_lt (Nat.lt_of_not_le hl), mj_z0]
      simp [mm_can, mm_has, hc, hl, mj_bI]
  · simp only [↓reduceIte, ↓mq_16_0, ↓mq_16_1, ↓mq_16_4, ↓mq_16_7, ↓mq_16_8, ↓mq_16_9, ↓mq_16_12, ↓mq_16_15, ↓mq_16_16, ↓mq_16_19, ↓mq_16_22, ↓mq_16_23, ↓mq_16_26, ↓mq_16_27, mh_isC M.1, ↓mj_bs (mt_12 w wm H M), Option.toList, List.cons_append, List.nil_append, mj_b0, mm_has, hc, decide_false, mj_z0]
    simp [mm_can, mm_has, hc, mj_bI]
theorem mt_22 (w : mw_R ρ) (wm : mw_M ρ μ) (H : mh_Ro h r ρ) (M : mh_Ma h m r μ) : mj_C 22 [.ref m] h = some (some (.int (mj_bI (mm_cul ρ μ))), h) := by
  have hb := mw_b w wm
  have h1 := w.2.1
  have h2 := wm.2.2.2.1
  have e : decide (∃ g, g < mr_g ρ ∧ nI (ma_o μ) = nI g ∧ mm_opens ρ (ma_b μ) g = true) = mm_cul ρ μ := by
    unfold mm_cul
    by_cases ho : ma_o μ < mr_g ρ
    · have hx : (∃ g, g < mr_g ρ ∧ nI (ma_o μ) = nI g ∧ mm_opens ρ (ma_b μ) g = true) ↔ mm_opens ρ (ma_b μ) (ma_o μ) = true := ⟨fun ⟨g', a, b, c⟩ => by rwa [(mn_eq (by omega) (by omega)).mp b], fun z => ⟨_, ho, rfl, z⟩⟩
      simp [hx, ho]
    · have hx : (∃ g, g < mr_g ρ ∧ nI (ma_o μ) = nI g ∧ mm_opens ρ (ma_b μ) g = true) ↔ False := ⟨fun ⟨g', a, b, c⟩ => by have := (mn_eq (show ma_o μ < 2 ^ 31 by omega) (show g' < 2 ^ 31 by omega)).mp b; omega, fun z => z.elim⟩
      simp [hx, ho]
  rw [mc_22]
  simp only [↓reduceIte, ↓mq_22_0, ↓mq_22_1, ↓mq_22_4, ↓mq_22_5, ↓mq_22_8, ↓mq_22_9, ↓mq_22_12, ↓mq_22_15, ↓mj_bs (mh_gf 0 M.1 rfl), ↓mj_bs (mh_gf 2 M.1 rfl), ↓mj_bs (mh_gf 5 M.1 rfl), mh_isC H.1, ↓mj_bs (mt_40 w H hb (nI (ma_o μ))), Option.toList, List.cons_append, List.nil_append, mj_zb, e]
end
