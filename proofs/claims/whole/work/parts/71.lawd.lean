/-! THE LAW: its loop, the first state -/
section
variable {S : mm_St} {h : mj_H} {xs : List Int32} {i : Nat}
theorem ml_all (J : mh_J S h) (X : h.1 0 = some (.inl (3, xs))) (hl : xs.length ≤ 2048) (hi : i + 4 ≤ xs.length) {k : Nat} (hk : k < 32) : ml_ok xs i k h := by
  rcases (show k = 0 ∨ k = 1 ∨ k = 2 ∨ k = 3 ∨ k = 4 ∨ k = 5 ∨ k = 6 ∨ k = 7 ∨ k = 8 ∨ k = 9 ∨ k = 10 ∨ k = 11 ∨ k = 12 ∨ k = 13 ∨ k = 14 ∨ k = 15 ∨ k = 16 ∨ k = 17 ∨ k = 18 ∨ k = 19 ∨ k = 20 ∨ k = 21 ∨ k = 22 ∨ k = 23 ∨ k = 24 ∨ k = 25 ∨ k = 26 ∨ k = 27 ∨ k = 28 ∨ k = 29 ∨ k = 30 ∨ k = 31 by omega) with rfl | rfl | rfl | rfl | rfl | rfl | rfl | rfl | rfl | rfl | rfl | rfl | rfl | rfl | rfl | rfl | rfl | rfl | rfl | rfl | rfl | rfl | rfl | rfl | rfl | rfl | rfl | rfl | rfl | rfl | rfl | rfl
  · exact ml_0 J X hl hi
  · exact ml_1 J X hl hi
  · exact ml_2 J X hl hi
  · exact ml_3 J X hl hi
  · exact ml_4 J X hl hi
  · exact ml_5 J X hl hi
  · exact ml_6 J X hl hi
  · exact ml_7 J X hl hi
  · exact ml_8 J X hl hi
  · exact ml_9 J X hl hi
  · exact ml_10 J X hl hi
  · exact ml_11 J X hl hi
  · exact ml_12 J X hl hi
  · exact ml_13 J X hl hi
  · exact ml_14 J X hl hi
  · exact ml_15 J X hl hi
  · exact ml_16 J X hl hi
  · exact ml_17 J X hl hi
  · exact ml_18 J X hl hi
  · exact ml_19 J X hl hi
  · exact ml_20 J X hl hi
  · exact ml_21 J X hl hi
  · exact ml_22 J X hl hi
  · exact ml_23 J X hl hi
  · exact ml_24 J X hl hi
  · exact ml_25 J X hl hi
  · exact ml_26 J X hl hi
  · exact ml_27 J X hl hi
  · exact ml_28 J X hl hi
  · exact ml_29 J X hl hi
  · exact ml_30 J X hl hi
  · exact ml_31 J X hl hi
theorem ml_c (hl : xs.length ≤ 2048) (hi : i ≤ 4096) : (nI xs.length - nI 4 < nI i) = (xs.length < i + 4) := by
  refine propext ?_
  by_cases h4 : 4 ≤ xs.length
  · rw [mn_sub h4, mn_lt (by omega) (by omega)]
    omega
  · have e : (nI xs.length - nI 4).toInt < 0 := by
      rcases (show xs.length = 0 ∨ xs.length = 1 ∨ xs.length = 2 ∨ xs.length = 3 by omega) with e | e | e | e <;> rw [e] <;> decide
    rw [Int32.lt_iff_toInt_lt, nI_toInt (show i < 2 ^ 31 by omega)]
    omega
theorem ml_m31 (x : Int32) : ∃ k, k < 32 ∧ x &&& nI 31 = nI k := by
  obtain ⟨m, -, rfl⟩ := mn_of x
  exact ⟨m &&& 31, Nat.lt_of_le_of_lt Nat.and_le_right (by omega), mn_and m 31⟩
theorem ml_al (X : h.1 0 = some (.inl (3, xs))) : mj_al h 0 = some (nI xs.length) := by
  simp only [mj_al, X]
  rfl
theorem ml_loop (hl : xs.length ≤ 2048) : ∀ d i (S : mm_St) (h : mj_H), xs.length < i + 4 + 4 * d → i ≤ 2048 → mh_J S h → h.1 0 = some (.inl (3, xs)) → ∃ h', mj_R 167 (18, [.ref 0, .ref 1, .ref 65, .int (nI i)], [], h) = some (some (.int (nI 1)), h') ∧ h'.2 = h.2 := by
  intro d
  induction d with
  | zero =>
    intro i S h hd hi J X
    have hc : (nI xs.length - nI 4 < nI i) = True := by rw [ml_c hl (by omega)]; exact eq_true (by omega)
    refine ⟨h, ?_, rfl⟩
    simp only [↓reduceIte, ↓mq_167_18, ↓mq_167_19, ↓mq_167_20, ↓mq_167_21, ↓mq_167_22, ↓mq_167_23, ↓mq_167_987, ↓mq_167_988, ↓mj_bs (ml_al X), hc, mj_z1]
  | succ d ih =>
    intro i S h hd hi J X
    by_cases hlt : xs.length < i + 4
    · have hc : (nI xs.length - nI 4 < nI i) = True := by rw [ml_c hl (by omega)]; exact eq_true hlt
      refine ⟨h, ?_, rfl⟩
      simp only [↓reduceIte, ↓mq_167_18, ↓mq_167_19, ↓mq_167_20, ↓mq_167_21, ↓mq_167_22, ↓mq_167_23, ↓mq_167_987, ↓mq_167_988, ↓mj_bs (ml_al X), hc, mj_z1]
    · have hc : (nI xs.length - nI 4 < nI i) = False := by rw [ml_c hl (by omega)]; exact eq_false hlt
      obtain ⟨y, gy⟩ := ml_g X (show i < xs.length by omega) hl
      obtain ⟨k, hk, ek⟩ := ml_m31 y
      obtain ⟨S', h1, e1, J1, F1⟩ := ml_all J X hl (show i + 4 ≤ xs.length by omega) hk
      obtain ⟨h', r1, r2⟩ := ih (i + 4) S' h1 (by omega) (by omega) J1 ((F1.2 0 (by omega)).trans X)
      refine ⟨h', ?_, r2.trans F1.1⟩
      have s1 : mj_R 167 (18, [.ref 0, .ref 1, .ref 65, .int (nI i)], [], h) = mj_R 167 (32, [.ref 0, .ref 1, .ref 65, .int (nI i)], [.int (nI k)], h) := by
        simp only [↓reduceIte, ↓mq_167_18, ↓mq_167_19, ↓mq_167_20, ↓mq_167_21, ↓mq_167_22, ↓mq_167_23, ↓mq_167_26, ↓mq_167_27, ↓mq_167_28, ↓mq_167_29, ↓mq_167_31, ↓mj_bs (ml_al X), hc, ↓mj_bs (gy), ek]
      have s2 : mj_R 167 (981, [.ref 0, .ref 1, .ref 65, .int (nI i)], [], h1) = mj_R 167 (18, [.ref 0, .ref 1, .ref 65, .int (nI (i + 4))], [], h1) := by
        rw [mq_167_981, mq_167_984, mn_add]
      rw [s1, e1, s2]
      exact r1
end
theorem mw_S0 : mw_S mm_S0 := by
  refine ⟨by show (0 : Nat) ≤ 64; omega, (fun c hc => by cases hc), ⟨by show (0 : Nat) ≤ 6; omega, by show (0 : Nat) ≤ 3; omega, by show (0 : Nat) ≤ 99; omega, fun k hk => absurd hk (Nat.not_lt_zero k), fun k hk => absurd hk (Nat.not_lt_zero k)⟩, ⟨by show (0 : Nat) ≤ 99; omega, by show (0 : Nat) < 2 ^ 0; omega, by show (0 : Nat) ≤ 0; omega, by show (0 : Nat) ≤ 0; omega, fun k _ _ => by show (0 : Nat) ≤ 99; omega⟩, (fun μ hμ => by cases hμ), by show (0 : Nat) ≤ 14; omega, (fun k μ hk => by cases hk), by show (0 : Nat) ≤ 6; omega, fun x hx => by cases hx⟩
theorem ml_run {xs : List Int32} (hl : xs.length ≤ 2048) : ∃ h', mj_R 167 (0, [.ref 0, .null, .null, .null], [], mj_h0 xs) = some (some (.int (nI 1)), h') ∧ h'.2.1 ≤ 600000 ∧ h'.2.2 ≤ 7302250 := by
  obtain ⟨a, ha⟩ : ∃ a, a = mj_new (mj_h0 xs) (.inr (6, mj_dfl 6)) := ⟨_, rfl⟩
  have A : (mj_h0 xs).2.1 = 1 := rfl
  have A1 : a.1 1 = some (.inr (6, mj_dfl 6)) := by rw [ha]; exact mh_na
  have A2 : a.2 = (2, 14) := by rw [ha]; rfl
  have A3 : a.1 0 = some (.inl (3, xs)) := by rw [ha]; rfl
  obtain ⟨h1, e1, C1, N1, X1⟩ := mt_59 A1 A2
  obtain ⟨b, hb⟩ : ∃ b, b = mj_new h1 (.inr (7, mj_dfl 7)) := ⟨_, rfl⟩
  have B : h1.2.1 = 65 := congrArg Prod.fst N1
  have B1 : b.1 65 = some (.inr (7, mj_dfl 7)) := by rw [hb, ← B]; exact mh_na
  have B2 : b.2 = (66, 753 + 28) := by rw [hb, mh_n2, N1]; rfl
  have B3 : ∀ k, k < 65 → b.1 k = h1.1 k := fun k hk => by rw [hb]; exact mh_no (by rw [B]; omega)
  obtain ⟨h2, e2, O2, ⟨r66, r67, r68, r69, r70, r71, r72, r73, r74, r75, r76, r77, r78, r79, r80, r81, r82⟩, N2, P2⟩ := mt_101 B1 B2
  have F : mh_F (fun k => 65 ≤ k) h1 (h2.1, h1.2) := ⟨rfl, fun k hk => (P2 k (by omega)).trans (B3 k (by omega))⟩
  have C2 : mh_JC mm_S0 (h2.1, h1.2) := C1.kp F (fun k a b => by omega)
  have C3 : mh_JC mm_S0 h2 := C2
  have X2 : h2.1 0 = some (.inl (3, xs)) := (P2 0 (by omega)).trans ((B3 0 (by omega)).trans (X1.trans A3))
  have no : ∀ n k, k < n → ¬ k < 0 := fun n k _ => Nat.not_lt_zero k
  have pg0 : ∀ k, k < 11 → mm_pgX mm_M0 k = 0 := by decide
  have R3 : mh_JR mm_S0 h2 := ⟨⟨_, _, _, _, O2⟩, mh_rap r66 (no 64), ⟨mh_rap r67 (no 24), mh_rap r68 (no 6), mh_rap r69 (no 6)⟩, ⟨⟨_, mh_rep r70⟩, ⟨_, mh_rep r71⟩, ⟨_, mh_rep r72⟩⟩, ⟨_, mh_rep r73, fun k hk _ => by
      have := pg0 k hk
      show (0 : Int32) = nI (mm_pgX mm_M0 k)
      rw [this]
      rfl⟩, ⟨_, mh_rep r74⟩, ⟨_, mh_rep r75, fun k μ hk => by cases hk⟩, ⟨_, mh_rep r76, fun k μ _ hk => by cases hk⟩, r77, ⟨mh_rap r78 (no 6), _, r79, List.length_replicate, fun k x hk => by cases hk⟩, ⟨_, mh_rep r80⟩, ⟨_, mh_rep r81⟩, ⟨_, mh_rep r82⟩⟩
  obtain ⟨h', r1, r2⟩ := ml_loop hl 512 0 mm_S0 h2 (by omega) (by omega) ⟨mw_S0, C3, R3⟩ X2
  refine ⟨h', ?_, ?_, ?_⟩
  · simp only [↓mq_167_0, ↓mq_167_3, ↓mq_167_4, ↓mq_167_7, ↓mq_167_8, ↓mq_167_11, ↓mq_167_12, ↓mq_167_15, ↓mq_167_16, ↓mq_167_17, A, ← ha, ↓mj_bs (e1), Option.toList, List.nil_append, B, ← hb, ↓mj_bs (e2)]
    exact r1
  · rw [r2, N2]; show (83 : Nat) ≤ 600000; exact Nat.le_of_ble_eq_true rfl
  · rw [r2, N2]; show 753 + 28 + 610 ≤ 7302250; exact Nat.le_of_ble_eq_true rfl
