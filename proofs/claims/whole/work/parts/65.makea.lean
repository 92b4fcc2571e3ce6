/-! WHAT IS MADE: the acts -/
def mh_z6 (q : Nat → Option mj_E) (r a : Nat) : Prop := q a = some (.inr (2, [.ref r, .int (nI 0), .int (nI 0), .int (nI 0), .int (nI 0), .int (nI 0), .ref (a + 1)])) ∧ q (a + 1) = some (.inl (0, List.replicate 6 0))
theorem mh_z6.cg {q q' : Nat → Option mj_E} {r a : Nat} (H : mh_z6 q r a) (h0 : q' a = q a) (h1 : q' (a + 1) = q (a + 1)) : mh_z6 q' r a := ⟨h0.trans H.1, h1.trans H.2⟩
theorem mj_set_ref {f : Nat → Value} {i d : Nat} : ((List.range i).map f ++ List.replicate (d + 1) Value.null).set i (f i) = (List.range (i + 1)).map f ++ List.replicate d Value.null := by
  rw [List.set_append_right _ _ (by simp), List.length_map, List.length_range, Nat.sub_self, List.replicate_succ, List.set_cons_zero, List.range_succ, List.map_append, List.append_assoc]
  rfl
/-- a march made and put into a row of references -/
theorem mh_pm {u : mj_H} {x n sl r i d : Nat} {f : Nat → Nat} (X : u.1 x = some (.inr (99, (List.range i).map (fun k => .ref (f k)) ++ List.replicate (d + 1) .null))) (N : u.2 = (n, sl)) (hx : x < n) (hf : f i = n) (hi : i < 2 ^ 31) : ∃ a g u', a = mj_new u (.inr (2, mj_dfl 2)) ∧ u.2.1 = n ∧ mj_C 9 [.ref n, .ref r] a = some (none, g) ∧ mj_pq g x (nI i) n = some u' ∧ u'.1 x = some (.inr (99, (List.range (i + 1)).map (fun k => .ref (f k)) ++ List.replicate d .null)) ∧ mh_z6 u'.1 r n ∧ u'.2 = (n + 2, sl + 13) ∧ ∀ k, k ≠ x → k < n → u'.1 k = u.1 k := by
  obtain ⟨a, ha⟩ : ∃ a, a = mj_new u (.inr (2, mj_dfl 2)) := ⟨_, rfl⟩
  have A : u.2.1 = n := congrArg Prod.fst N
  have A1 : a.1 n = some (.inr (2, mj_dfl 2)) := by rw [ha, ← A]; exact mh_na
  have A2 : a.2 = (n + 1, sl + 7) := by rw [ha, mh_n2, N]; rfl
  have A3 : ∀ k, k ≠ n → a.1 k = u.1 k := fun k hk => by rw [ha]; exact mh_no (by rw [A]; exact hk)
  have K := mt_9 (r := r) A1 (by rw [A2]; exact Nat.lt_succ_self n)
  simp only [A2] at K
  obtain ⟨g, e, g1, g2, g3, g4⟩ := K
  have X' : g.1 x = some (.inr (99, (List.range i).map (fun k => .ref (f k)) ++ List.replicate (d + 1) .null)) := by rw [g4 x (by omega) (by omega), A3 x (by omega)]; exact X
  obtain ⟨i1, i2⟩ := mn_ix hi
  refine ⟨a, g, mj_up g x (.inr (99, (List.range (i + 1)).map (fun k => .ref (f k)) ++ List.replicate d .null)), ha, A, e, ?_, mh_ua, ⟨?_, ?_⟩, g3, fun k k1 k2 => ?_⟩
  · have hc : mj_isC g n 2 = true := mh_isC g1
    have hl : i < ((List.range i).map (fun k => Value.ref (f k)) ++ List.replicate (d + 1) Value.null).length := by simp
    have hs : ((List.range i).map (fun k => Value.ref (f k)) ++ List.replicate (d + 1) Value.null).set i (.ref n) = (List.range (i + 1)).map (fun k => Value.ref (f k)) ++ List.replicate d Value.null := by
      rw [← hf]
      exact mj_set_ref (f := fun k => Value.ref (f k))
    simp only [mj_pq, X']
    rw [if_pos ⟨trivial, i1, by rw [i2]; exact hl, hc⟩, i2, hs]
  · show (if n = x then _ else g.1 n) = _
    rw [if_neg (by omega)]
    exact g1
  · show (if n + 1 = x then _ else g.1 (n + 1)) = _
    rw [if_neg (by omega)]
    exact g2
  · show (if k = x then _ else g.1 k) = _
    rw [if_neg k1, g4 k (by omega) (by omega), A3 k (by omega)]
theorem mt_0 {h : mj_H} {r sl : Nat} (O : h.1 24 = some (.inr (0, mj_dfl 0))) (N : h.2 = (25, sl)) : ∃ h', mj_C 0 [.ref 24, .ref r] h = some (none, h') ∧ h'.1 24 = some (.inr (0, [.ref 25, .int (nI 0), .int (nI 0)])) ∧ (h'.1 25 = some (.inr (99, (List.range 14).map (fun k => .ref (26 + 2 * k)))) ∧ ∀ k, k < 14 → mh_z6 h'.1 r (26 + 2 * k)) ∧ h'.2 = (54, sl + 196) ∧ ∀ k, k < 24 → h'.1 k = h.1 k := by
  have O' : h.1 24 = some (.inr (0, [.null, .int (nI 0), .int (nI 0)])) := O
  have A : h.2.1 = 25 := congrArg Prod.fst N
  obtain ⟨a, ha⟩ : ∃ a, a = mj_new h (.inr (99, List.replicate 14 .null)) := ⟨_, rfl⟩
  have A1 : a.1 24 = some (.inr (0, [.null, .int (nI 0), .int (nI 0)])) := by rw [ha, mh_no (by rw [A]; decide)]; exact O'
  have A2 : a.2 = (26, sl + 14) := by rw [ha, mh_n2, N]; rfl
  have A3 : a.1 25 = some (.inr (99, List.replicate 14 .null)) := by rw [ha, ← A]; exact mh_na
  have A4 : ∀ k, k < 24 → a.1 k = h.1 k := fun k hk => by rw [ha]; exact mh_no (by rw [A]; omega)
  obtain ⟨b, hb⟩ : ∃ b, b = mj_up a 24 (.inr (0, [.ref 25, .int (nI 0), .int (nI 0)])) := ⟨_, rfl⟩
  have e1 : mj_pf a 24 0 0 (.ref 25) = some b := by rw [hb]; exact mh_pf 0 A1 (by simp) rfl
  have B1 := mh_ue hb
  have B2 : ∀ k, k ≠ 24 → b.1 k = a.1 k := fun k hk => by rw [hb]; exact if_neg hk
  have B3 : b.2 = (26, sl + 14) := by rw [hb]; exact A2
  have loop : ∀ d i hk, i + d = 14 → hk.1 24 = some (.inr (0, [.ref 25, .int (nI 0), .int (nI 0)])) → hk.1 25 = some (.inr (99, (List.range i).map (fun k => .ref (26 + 2 * k)) ++ List.replicate d .null)) → (∀ k, k < i → mh_z6 hk.1 r (26 + 2 * k)) → hk.2 = (26 + 2 * i, sl + 14 + 13 * i) → (∀ k, k < 24 → hk.1 k = h.1 k) → ∃ h', mj_R 0 (15, [.ref 24, .ref r, .int (nI i)], [], hk) = some (none, h') ∧ h'.1 24 = some (.inr (0, [.ref 25, .int (nI 0), .int (nI 0)])) ∧ (h'.1 25 = some (.inr (99, (List.range 14).map (fun k => .ref (26 + 2 * k)))) ∧ ∀ k, k < 14 → mh_z6 h'.1 r (26 + 2 * k)) ∧ h'.2 = (54, sl + 196) ∧ ∀ k, k < 24 → h'.1 k = h.1 k := by
    intro d
    induction d with
    | zero =>
      intro i hk hid k1 k2 k3 k4 k5
      obtain rfl : i = 14 := by omega
      refine ⟨hk, ?_, k1, ⟨by rw [k2, List.replicate_zero, List.append_nil], k3⟩, by rw [k4], k5⟩
      simp only [↓reduceIte, ↓mq_0_0, ↓mq_0_1, ↓mq_0_4, ↓mq_0_5, ↓mq_0_7, ↓mq_0_10, ↓mq_0_13, ↓mq_0_14, ↓mq_0_15, ↓mq_0_16, ↓mq_0_18, ↓mq_0_21, ↓mq_0_22, ↓mq_0_25, ↓mq_0_26, ↓mq_0_29, ↓mq_0_30, ↓mq_0_31, ↓mq_0_34, ↓mq_0_35, ↓mq_0_38, ↓mq_0_41, mt_le (Nat.le_refl 14)]
    | succ d ih =>
      intro i hk hid k1 k2 k3 k4 k5
      obtain ⟨c, g, u, hc, C1, e2, e3, U1, U2, U3, U4⟩ := mh_pm (r := r) k2 k4 (by omega) rfl (by omega)
      obtain ⟨h', r1, r2⟩ := ih (i + 1) u (by omega) ((U4 24 (by omega) (by omega)).trans k1) U1 (fun k hk' => by
        by_cases e : k = i
        · subst e; exact U2
        · exact (k3 k (by omega)).cg (U4 _ (by omega) (by omega)) (U4 _ (by omega) (by omega))) (by rw [U3, show 26 + 2 * (i + 1) = 26 + 2 * i + 2 by omega, show sl + 14 + 13 * (i + 1) = sl + 14 + 13 * i + 13 by omega]) (fun k hk' => (U4 k (by omega) (by omega)).trans (k5 k hk'))
      refine ⟨h', ?_, r2⟩
      rw [mq_0_15]
      simp only [↓reduceIte, ↓mq_0_0, ↓mq_0_1, ↓mq_0_4, ↓mq_0_5, ↓mq_0_7, ↓mq_0_10, ↓mq_0_13, ↓mq_0_14, ↓mq_0_16, ↓mq_0_18, ↓mq_0_21, ↓mq_0_22, ↓mq_0_25, ↓mq_0_26, ↓mq_0_29, ↓mq_0_30, ↓mq_0_31, ↓mq_0_34, ↓mq_0_35, ↓mq_0_38, ↓mq_0_41, mf_le (show i < 14 by omega), ↓mj_bs (mh_gf 0 k1 rfl), ← hc, C1, ↓mj_bs (e2), Option.toList, List.nil_append, ↓mj_bs (e3), mn_add]
      exact r1
  obtain ⟨h', r1, r2⟩ := loop 14 0 b rfl B1 ((B2 25 (by decide)).trans A3) (fun k hk => by omega) B3 (fun k hk => (B2 k (by omega)).trans (A4 k hk))
  refine ⟨h', ?_, r2⟩
  rw [mc_0]
  simp only [↓reduceIte, ↓mq_0_0, ↓mq_0_1, ↓mq_0_4, ↓mq_0_5, ↓mq_0_7, ↓mq_0_10, ↓mq_0_13, ↓mq_0_14, ↓mq_0_16, ↓mq_0_18, ↓mq_0_21, ↓mq_0_22, ↓mq_0_25, ↓mq_0_26, ↓mq_0_29, ↓mq_0_30, ↓mq_0_31, ↓mq_0_34, ↓mq_0_35, ↓mq_0_38, ↓mq_0_41, A, ← ha, ↓mj_bs (e1)]
  exact r1
