/-! WHAT IS MADE: the class -/
theorem mh_mk {u : mj_H} {n n' sl sl' c f m : Nat} {fs as : List Value} {Q : (Nat → Option mj_E) → Prop} (O : u.1 1 = some (.inr (6, fs))) (N : u.2 = (n, sl)) (h1 : 1 < n) (hf : f < fs.length) (hv : mj_okv (mj_ft 6 f) (.ref n) = true) (K : ∀ g : mj_H, g.1 n = some (.inr (c, mj_dfl c)) → g.2 = (n + 1, sl + (mj_dfl c).length) → ∃ g', mj_C m as g = some (none, g') ∧ Q g'.1 ∧ g'.2 = (n', sl') ∧ ∀ k, k < n → g'.1 k = g.1 k) : ∃ a g u', a = mj_new u (.inr (c, mj_dfl c)) ∧ a.1 1 = some (.inr (6, fs)) ∧ u.2.1 = n ∧ mj_C m as a = some (none, g) ∧ mj_pf g 1 6 f (.ref n) = some u' ∧ u'.1 1 = some (.inr (6, fs.set f (.ref n))) ∧ u'.2 = (n', sl') ∧ Q g.1 ∧ (∀ k, k ≠ 1 → u'.1 k = g.1 k) ∧ ∀ k, k ≠ 1 → k < n → u'.1 k = u.1 k := by
  obtain ⟨a, ha⟩ : ∃ a, a = mj_new u (.inr (c, mj_dfl c)) := ⟨_, rfl⟩
  have A : u.2.1 = n := congrArg Prod.fst N
  have A1 : a.1 n = some (.inr (c, mj_dfl c)) := by rw [ha, ← A]; exact mh_na
  have A2 : a.2 = (n + 1, sl + (mj_dfl c).length) := by rw [ha, mh_n2, N]; rfl
  have A3 : ∀ k, k ≠ n → a.1 k = u.1 k := fun k hk => by rw [ha]; exact mh_no (by rw [A]; exact hk)
  obtain ⟨g, e, g1, g2, g3⟩ := K a A1 A2
  have G1 : g.1 1 = some (.inr (6, fs)) := by rw [g3 1 h1, A3 1 (by omega)]; exact O
  refine ⟨a, g, _, ha, by rw [A3 1 (by omega)]; exact O, A, e, mh_pf f G1 hf hv, mh_ua, g2, g1, fun k hk => if_neg hk, fun k k1 k2 => ?_⟩
  show (if k = 1 then _ else g.1 k) = _
  rw [if_neg k1, g3 k k2, A3 k (by omega)]
/-- a row of references made and put in a field -/
theorem mh_sq {u : mj_H} {s n sl c f z : Nat} {fs : List Value} (O : u.1 s = some (.inr (c, fs))) (N : u.2 = (n, sl)) (hs : s < n) (hf : f < fs.length) (hv : mj_okv (mj_ft c f) (.ref n) = true) : ∃ a u', a = mj_new u (.inr (99, List.replicate z .null)) ∧ u.2.1 = n ∧ mj_pf a s c f (.ref n) = some u' ∧ u'.1 s = some (.inr (c, fs.set f (.ref n))) ∧ u'.2 = (n + 1, sl + z) ∧ u'.1 n = some (.inr (99, List.replicate z .null)) ∧ ∀ k, k ≠ s → k < n → u'.1 k = u.1 k := by
  have A : u.2.1 = n := congrArg Prod.fst N
  have O1 : (mj_new u (.inr (99, List.replicate z .null))).1 s = some (.inr (c, fs)) := by rw [mh_no (by omega)]; exact O
  refine ⟨_, _, rfl, A, mh_pf f O1 hf hv, mh_ua, ?_, ?_, fun k k1 k2 => ?_⟩
  · show (mj_new u (.inr (99, List.replicate z .null))).2 = _
    rw [mh_n2, N]
    simp [mj_sz]
  · show (if n = s then _ else (mj_new u (.inr (99, List.replicate z .null))).1 n) = _
    rw [if_neg (by omega), ← A]
    exact mh_na
  · show (if k = s then _ else (mj_new u (.inr (99, List.replicate z .null))).1 k) = _
    rw [if_neg k1, mh_no (by omega)]
def mm_zf : Nat → Nat := fun _ => 0
def mm_R0 : mm_Ro := (0, 0, 0, mm_zf, mm_zf, mm_zf, mm_zf, mm_zf, mm_zf, mm_zf)
def mm_M0 : mm_Ma := (0, 0, 0, 0, 0, mm_zf)
def mm_S0 : mm_St := ([], mm_R0, mm_M0, [], fun _ => none, [], 0)
theorem mh_rep {q : mj_H} {a n : Nat} (H : q.1 a = some (.inl (0, List.replicate n 0))) : mh_ar q a n (fun _ => 0) := ⟨_, H, List.length_replicate, fun k hk => by rw [List.getElem?_replicate, if_pos hk]⟩
theorem mh_rap {q : mj_H} {a n : Nat} {P : Nat → Prop} {X : Nat → Nat} (H : q.1 a = some (.inl (0, List.replicate n 0))) (hP : ∀ k, k < n → ¬ P k) : mh_ap q a n P X := ⟨_, mh_rep H, fun k hk hp => absurd hp (hP k hk)⟩
theorem mh_z6.ma {q : mj_H} {r a : Nat} (H : mh_z6 q.1 r a) : mh_Ma q a r mm_M0 := ⟨H.1, mh_rap H.2 (fun k _ z => by
  have : (0 : Nat).testBit k = true := z
  rw [Nat.zero_testBit] at this
  cases this)⟩
def mh_q48 (s : Nat) (q : Nat → Option mj_E) : Prop := q s = some (.inr (5, [.ref (s + 1), .int (nI 0), .int (nI 0), .int (nI 0)])) ∧ q (s + 1) = some (.inl (0, List.replicate 64 0))
def mh_q25 (s : Nat) (q : Nat → Option mj_E) : Prop := q s = some (.inr (3, [.int (nI 0), .int (nI 0), .int (nI 0), .ref (s + 1), .ref (s + 2), .ref (s + 3), .ref (s + 4), .ref (s + 5), .ref (s + 6), .ref (s + 7)])) ∧ (q (s + 1) = some (.inl (0, List.replicate 6 0)) ∧ q (s + 2) = some (.inl (0, List.replicate 6 0)) ∧ q (s + 3) = some (.inl (0, List.replicate 6 0)) ∧ q (s + 4) = some (.inl (0, List.replicate 6 0)) ∧ q (s + 5) = some (.inl (0, List.replicate 6 0)) ∧ q (s + 6) = some (.inl (0, List.replicate 3 0)) ∧ q (s + 7) = some (.inl (0, List.replicate 3 0)))
def mh_q0 (q : Nat → Option mj_E) : Prop := q 24 = some (.inr (0, [.ref 25, .int (nI 0), .int (nI 0)])) ∧ (q 25 = some (.inr (99, (List.range 14).map (fun k => .ref (26 + 2 * k)))) ∧ ∀ k, k < 14 → mh_z6 q 4 (26 + 2 * k))
def mh_q5 (s : Nat) (q : Nat → Option mj_E) : Prop := q s = some (.inr (1, [.ref (s + 1), .ref (s + 2), .int (nI 0)])) ∧ (q (s + 1) = some (.inl (0, List.replicate 128 0)) ∧ q (s + 2) = some (.inl (0, List.replicate 128 0)))
def mh_q44 (s : Nat) (q : Nat → Option mj_E) : Prop := q s = some (.inr (4, [.ref (s + 1)])) ∧ q (s + 1) = some (.inl (0, List.replicate 64 0))
theorem mh_q25.ro {q : mj_H} {s : Nat} (H : mh_q25 s q.1) : mh_Ro q s mm_R0 := by
  obtain ⟨a, b1, b2, b3, b4, b5, b6, b7⟩ := H
  have no : ∀ n k, k < n → ¬ k < 0 := fun n k _ z => by omega
  exact ⟨a, mh_rap b1 (no 6), mh_rap b2 (no 6), mh_rap b3 (no 6), mh_rap b4 (no 6), mh_rap b5 (no 6), mh_rap b6 (no 3), mh_rap b7 (no 3)⟩

theorem mt_59 {h : mj_H} (O0 : h.1 1 = some (.inr (6, mj_dfl 6))) (N0 : h.2 = (2, 14)) : ∃ h', mj_C 59 [.ref 1] h = some (none, h') ∧ mh_JC mm_S0 h' ∧ h'.2 = (65, 753) ∧ h'.1 0 = h.1 0 := by
  obtain ⟨a1, g1, u1, ha1, B1, A1, k1, e1, O1, N1, R1, T1, P1⟩ := mh_mk (c := 5) (f := 0) (m := 48) (as := [.ref 2]) (Q := mh_q48 2) (n' := 4) (sl' := 82) O0 N0 (by decide) (by decide) rfl (fun g G1 G2 => by
    have K := mt_48 G1 (by rw [G2]; exact Nat.lt_succ_self _)
    simp only [G2] at K
    obtain ⟨g', e, x1, x2, x3, x4⟩ := K
    exact ⟨g', e, ⟨x1, x2⟩, x3.trans rfl, fun k hk => x4 k (by omega) (by omega)⟩)
  obtain ⟨a2, g2, u2, ha2, B2, A2, k2, e2, O2, N2, R2, T2, P2⟩ := mh_mk (c := 3) (f := 1) (m := 25) (as := [.ref 4]) (Q := mh_q25 4) (n' := 12) (sl' := 128) O1 N1 (by decide) (by decide) rfl (fun g G1 G2 => by
    have K := mt_25 G1 (by rw [G2]; exact Nat.lt_succ_self _)
    simp only [G2] at K
    obtain ⟨g', e, x1, x2, x3, x4⟩ := K
    exact ⟨g', e, ⟨x1, x2⟩, x3.trans rfl, fun k hk => x4 k (by omega) (by omega)⟩)
  obtain ⟨a3, g3, u3, ha3, B3, A3, k3, e3, O3, N3, R3, T3, P3⟩ := mh_mk (c := 3) (f := 2) (m := 25) (as := [.ref 12]) (Q := mh_q25 12) (n' := 20) (sl' := 174) O2 N2 (by decide) (by decide) rfl (fun g G1 G2 => by
    have K := mt_25 G1 (by rw [G2]; exact Nat.lt_succ_self _)
    simp only [G2] at K
    obtain ⟨g', e, x1, x2, x3, x4⟩ := K
    exact ⟨g', e, ⟨x1, x2⟩, x3.trans rfl, fun k hk => x4 k (by omega) (by omega)⟩)
  obtain ⟨a4, g4, u4, ha4, B4, A4, k4, e4, O4, N4, R4, T4, P4⟩ := mh_mk (c := 2) (f := 3) (m := 9) (as := [.ref 20, .ref 4]) (Q := fun q => mh_z6 q 4 20) (n' := 22) (sl' := 187) O3 N3 (by decide) (by decide) rfl (fun g G1 G2 => by
    have K := mt_9 (r := 4) G1 (by rw [G2]; exact Nat.lt_succ_self _)
    simp only [G2] at K
    obtain ⟨g', e, x1, x2, x3, x4⟩ := K
    exact ⟨g', e, ⟨x1, x2⟩, x3.trans rfl, fun k hk => x4 k (by omega) (by omega)⟩)
  obtain ⟨a5, g5, u5, ha5, B5, A5, k5, e5, O5, N5, R5, T5, P5⟩ := mh_mk (c := 2) (f := 4) (m := 9) (as := [.ref 22, .ref 4]) (Q := fun q => mh_z6 q 4 22) (n' := 24) (sl' := 200) O4 N4 (by decide) (by decide) rfl (fun g G1 G2 => by
    have K := mt_9 (r := 4) G1 (by rw [G2]; exact Nat.lt_succ_self _)
    simp only [G2] at K
    obtain ⟨g', e, x1, x2, x3, x4⟩ := K
    exact ⟨g', e, ⟨x1, x2⟩, x3.trans rfl, fun k hk => x4 k (by omega) (by omega)⟩)
  obtain ⟨a6, g6, u6, ha6, B6, A6, k6, e6, O6, N6, R6, T6, P6⟩ := mh_mk (c := 0) (f := 5) (m := 0) (as := [.ref 24, .ref 4]) (Q := mh_q0) (n' := 54) (sl' := 399) O5 N5 (by decide) (by decide) rfl (fun g G1 G2 => by
    obtain ⟨g', e, x1, x2, x3, x4⟩ := mt_0 (r := 4) G1 G2
    exact ⟨g', e, ⟨x1, x2⟩, x3.trans rfl, x4⟩)
  obtain ⟨a7, u7, ha7, A7, e7, O7, N7, R7, P7⟩ := mh_sq (f := 6) (z := 2) O6 N6 (by decide) (by decide) rfl
  obtain ⟨a8, u8, ha8, A8, e8, O8, N8, R8, P8⟩ := mh_st (f := 7) (t := 1) (z := 2) O7 N7 (by decide) (by decide) rfl
  obtain ⟨a9, g9, u9, ha9, B9, A9, k9, e9, O9, N9, R9, T9, P9⟩ := mh_mk (c := 1) (f := 8) (m := 5) (as := [.ref 56]) (Q := mh_q5 56) (n' := 59) (sl' := 662) O8 N8 (by decide) (by decide) rfl (fun g G1 G2 => by
    have K := mt_5 G1 (by rw [G2]; exact Nat.lt_succ_self _)
    simp only [G2] at K
    obtain ⟨g', e, x1, x2, x3, x4⟩ := K
    exact ⟨g', e, ⟨x1, x2⟩, x3.trans rfl, fun k hk => x4 k (by omega) (by omega)⟩)
  obtain ⟨a10, g10, u10, ha10, B10, A10, k10, e10, O10, N10, R10, T10, P10⟩ := mh_mk (c := 4) (f := 9) (m := 44) (as := [.ref 59]) (Q := mh_q44 59) (n' := 61) (sl' := 727) O9 N9 (by decide) (by decide) rfl (fun g G1 G2 => by
    have K := mt_44 G1 (by rw [G2]; exact Nat.lt_succ_self _)
    simp only [G2] at K
    obtain ⟨g', e, x1, x2, x3, x4⟩ := K
    exact ⟨g', e, ⟨x1, x2⟩, x3.trans rfl, fun k hk => x4 k (by omega) (by omega)⟩)
  have X10 : u10.1 54 = some (.inr (99, (List.range 0).map (fun k => .ref (61 + 2 * k)) ++ List.replicate 2 .null)) := (P10 54 (by decide) (by decide)).trans ((P9 54 (by decide) (by decide)).trans ((P8 54 (by decide) (by decide)).trans R7))
  obtain ⟨c1, d1, v1, hc1, C1, f1, q1, V1, Z1, M1, S1⟩ := mh_pm (r := 4) X10 N10 (by decide) rfl (by decide)
  obtain ⟨c2, d2, v2, hc2, C2, f2, q2, V2, Z2, M2, S2⟩ := mh_pm (r := 4) V1 M1 (by decide) rfl (by decide)
  have Q10 : ∀ k, k ≠ 1 → k ≠ 54 → k < 61 → v2.1 k = u10.1 k := fun k _ k1 k2 => (S2 k k1 (by omega)).trans (S1 k k1 k2)
  have Q9 : ∀ k, k ≠ 1 → k ≠ 54 → k < 59 → v2.1 k = u9.1 k := fun k k0 k1 k2 => (Q10 k k0 k1 (by omega)).trans (P10 k k0 k2)
  have Q8 : ∀ k, k ≠ 1 → k ≠ 54 → k < 56 → v2.1 k = u8.1 k := fun k k0 k1 k2 => (Q9 k k0 k1 (by omega)).trans (P9 k k0 k2)
  have Q7 : ∀ k, k ≠ 1 → k ≠ 54 → k < 55 → v2.1 k = u7.1 k := fun k k0 k1 k2 => (Q8 k k0 k1 (by omega)).trans (P8 k k0 k2)
  have Q6 : ∀ k, k ≠ 1 → k ≠ 54 → k < 54 → v2.1 k = u6.1 k := fun k k0 k1 k2 => (Q7 k k0 k1 (by omega)).trans (P7 k k0 k2)
  have Q5 : ∀ k, k ≠ 1 → k ≠ 54 → k < 24 → v2.1 k = u5.1 k := fun k k0 k1 k2 => (Q6 k k0 k1 (by omega)).trans (P6 k k0 k2)
  have Q4 : ∀ k, k ≠ 1 → k ≠ 54 → k < 22 → v2.1 k = u4.1 k := fun k k0 k1 k2 => (Q5 k k0 k1 (by omega)).trans (P5 k k0 k2)
  have Q3 : ∀ k, k ≠ 1 → k ≠ 54 → k < 20 → v2.1 k = u3.1 k := fun k k0 k1 k2 => (Q4 k k0 k1 (by omega)).trans (P4 k k0 k2)
  have Q2 : ∀ k, k ≠ 1 → k ≠ 54 → k < 12 → v2.1 k = u2.1 k := fun k k0 k1 k2 => (Q3 k k0 k1 (by omega)).trans (P3 k k0 k2)
  have Q1 : ∀ k, k ≠ 1 → k ≠ 54 → k < 4 → v2.1 k = u1.1 k := fun k k0 k1 k2 => (Q2 k k0 k1 (by omega)).trans (P2 k k0 k2)
  have Q0 : ∀ k, k ≠ 1 → k ≠ 54 → k < 2 → v2.1 k = h.1 k := fun k k0 k1 k2 => (Q1 k k0 k1 (by omega)).trans (P1 k k0 k2)
  have G1 : ∀ k, k ≠ 1 → k ≠ 54 → k < 4 → v2.1 k = g1.1 k := fun k k0 k1 k2 => (Q1 k k0 k1 k2).trans (T1 k k0)
  have G2 : ∀ k, k ≠ 1 → k ≠ 54 → k < 12 → v2.1 k = g2.1 k := fun k k0 k1 k2 => (Q2 k k0 k1 k2).trans (T2 k k0)
  have G3 : ∀ k, k ≠ 1 → k ≠ 54 → k < 20 → v2.1 k = g3.1 k := fun k k0 k1 k2 => (Q3 k k0 k1 k2).trans (T3 k k0)
  have G4 : ∀ k, k ≠ 1 → k ≠ 54 → k < 22 → v2.1 k = g4.1 k := fun k k0 k1 k2 => (Q4 k k0 k1 k2).trans (T4 k k0)
  have G5 : ∀ k, k ≠ 1 → k ≠ 54 → k < 24 → v2.1 k = g5.1 k := fun k k0 k1 k2 => (Q5 k k0 k1 k2).trans (T5 k k0)
  have G6 : ∀ k, k ≠ 1 → k ≠ 54 → k < 54 → v2.1 k = g6.1 k := fun k k0 k1 k2 => (Q6 k k0 k1 k2).trans (T6 k k0)
  have G9 : ∀ k, k ≠ 1 → k ≠ 54 → k < 59 → v2.1 k = g9.1 k := fun k k0 k1 k2 => (Q9 k k0 k1 k2).trans (T9 k k0)
  have G10 : ∀ k, k ≠ 1 → k ≠ 54 → k < 61 → v2.1 k = g10.1 k := fun k k0 k1 k2 => (Q10 k k0 k1 k2).trans (T10 k k0)
  have o1 : v2.1 1 = some (.inr (6, [.ref 2, .ref 4, .ref 12, .ref 20, .ref 22, .ref 24, .ref 54, .ref 55, .ref 56, .ref 59, .int (nI 0), .int (nI 0), .int (nI 0), .long 0])) := (S2 1 (by decide) (by decide)).trans ((S1 1 (by decide) (by decide)).trans O10)
  have z0 : v1.1 1 = u10.1 1 := S1 1 (by decide) (by decide)
  have o10 : u10.1 1 = some (.inr (6, [.ref 2, .ref 4, .ref 12, .ref 20, .ref 22, .ref 24, .ref 54, .ref 55, .ref 56, .ref 59, .int (nI 0), .int (nI 0), .int (nI 0), .long 0])) := O10
  have o11 := z0.trans o10
  have cb1 : c1.1 1 = some (.inr (6, [.ref 2, .ref 4, .ref 12, .ref 20, .ref 22, .ref 24, .ref 54, .ref 55, .ref 56, .ref 59, .int (nI 0), .int (nI 0), .int (nI 0), .long 0])) := by rw [hc1, mh_no (by rw [C1]; decide)]; exact o10
  have cb2 : c2.1 1 = some (.inr (6, [.ref 2, .ref 4, .ref 12, .ref 20, .ref 22, .ref 24, .ref 54, .ref 55, .ref 56, .ref 59, .int (nI 0), .int (nI 0), .int (nI 0), .long 0])) := by rw [hc2, mh_no (by rw [C2]; decide)]; exact o11
  have hSc : mh_q48 2 v2.1 := ⟨(G1 2 (by decide) (by decide) (by decide)).trans R1.1, (G1 3 (by decide) (by decide) (by decide)).trans R1.2⟩
  have hRo : mh_q25 4 v2.1 := ⟨(G2 4 (by decide) (by decide) (by decide)).trans R2.1, (G2 5 (by decide) (by decide) (by decide)).trans R2.2.1, (G2 6 (by decide) (by decide) (by decide)).trans R2.2.2.1, (G2 7 (by decide) (by decide) (by decide)).trans R2.2.2.2.1, (G2 8 (by decide) (by decide) (by decide)).trans R2.2.2.2.2.1, (G2 9 (by decide) (by decide) (by decide)).trans R2.2.2.2.2.2.1, (G2 10 (by decide) (by decide) (by decide)).trans R2.2.2.2.2.2.2.1, (G2 11 (by decide) (by decide) (by decide)).trans R2.2.2.2.2.2.2.2⟩
  have hRd : mh_q25 12 v2.1 := ⟨(G3 12 (by decide) (by decide) (by decide)).trans R3.1, (G3 13 (by decide) (by decide) (by decide)).trans R3.2.1, (G3 14 (by decide) (by decide) (by decide)).trans R3.2.2.1, (G3 15 (by decide) (by decide) (by decide)).trans R3.2.2.2.1, (G3 16 (by decide) (by decide) (by decide)).trans R3.2.2.2.2.1, (G3 17 (by decide) (by decide) (by decide)).trans R3.2.2.2.2.2.1, (G3 18 (by decide) (by decide) (by decide)).trans R3.2.2.2.2.2.2.1, (G3 19 (by decide) (by decide) (by decide)).trans R3.2.2.2.2.2.2.2⟩
  have hM : mh_z6 v2.1 4 20 := R4.cg (G4 20 (by decide) (by decide) (by decide)) (G4 21 (by decide) (by decide) (by decide))
  have hT : mh_z6 v2.1 4 22 := R5.cg (G5 22 (by decide) (by decide) (by decide)) (G5 23 (by decide) (by decide) (by decide))
  have hAc : mh_q0 v2.1 := ⟨(G6 24 (by decide) (by decide) (by decide)).trans R6.1, (G6 25 (by decide) (by decide) (by decide)).trans R6.2.1, fun k hk => (R6.2.2 k hk).cg (G6 _ (by omega) (by omega) (by omega)) (G6 _ (by omega) (by omega) (by omega))⟩
  have hKp : v2.1 55 = some (.inl (1, List.replicate 2 0)) := (Q8 55 (by decide) (by decide) (by decide)).trans R8
  have hFe : mh_q5 56 v2.1 := ⟨(G9 56 (by decide) (by decide) (by decide)).trans R9.1, (G9 57 (by decide) (by decide) (by decide)).trans R9.2.1, (G9 58 (by decide) (by decide) (by decide)).trans R9.2.2⟩
  have hRw : mh_q44 59 v2.1 := ⟨(G10 59 (by decide) (by decide) (by decide)).trans R10.1, (G10 60 (by decide) (by decide) (by decide)).trans R10.2⟩
  have hk0 : mh_z6 v2.1 4 61 := Z1.cg (S2 61 (by decide) (by decide)) (S2 62 (by decide) (by decide))
  have hk1 : mh_z6 v2.1 4 63 := Z2
  refine ⟨v2, ?_, ⟨o1, ⟨0, false, ?_⟩, hRo.ro, ⟨_, hRd.ro⟩, hM.ma, ⟨_, hT.ma⟩, ?_, V2, hKp, ?_, ⟨_, hRw.1, mh_rep hRw.2⟩, ⟨_, hk0.ma, fun ν z => by cases z⟩, ⟨_, hk1.ma, fun ν z => by cases z⟩⟩, M2, Q0 0 (by decide) (by decide) (by decide)⟩
  · rw [mc_59]
    simp only [↓reduceIte, ↓mq_59_0, ↓mq_59_1, ↓mq_59_4, ↓mq_59_5, ↓mq_59_8, ↓mq_59_9, ↓mq_59_12, ↓mq_59_15, ↓mq_59_16, ↓mq_59_19, ↓mq_59_20, ↓mq_59_23, ↓mq_59_26, ↓mq_59_27, ↓mq_59_30, ↓mq_59_31, ↓mq_59_34, ↓mq_59_37, ↓mq_59_38, ↓mq_59_41, ↓mq_59_42, ↓mq_59_43, ↓mq_59_46, ↓mq_59_49, ↓mq_59_52, ↓mq_59_53, ↓mq_59_56, ↓mq_59_57, ↓mq_59_58, ↓mq_59_61, ↓mq_59_64, ↓mq_59_67, ↓mq_59_68, ↓mq_59_71, ↓mq_59_72, ↓mq_59_73, ↓mq_59_76, ↓mq_59_79, ↓mq_59_82, ↓mq_59_83, ↓mq_59_84, ↓mq_59_87, ↓mq_59_90, ↓mq_59_91, ↓mq_59_92, ↓mq_59_94, ↓mq_59_97, ↓mq_59_98, ↓mq_59_101, ↓mq_59_102, ↓mq_59_105, ↓mq_59_108, ↓mq_59_109, ↓mq_59_112, ↓mq_59_113, ↓mq_59_116, ↓mq_59_119, ↓mq_59_120, ↓mq_59_122, ↓mq_59_123, ↓mq_59_126, ↓mq_59_127, ↓mq_59_130, ↓mq_59_131, ↓mq_59_134, ↓mq_59_135, ↓mq_59_136, ↓mq_59_139, ↓mq_59_142, ↓mq_59_143, ↓mq_59_146, ↓mq_59_149, ← ha1, A1, ↓mj_bs (k1), Option.toList, List.nil_append, ↓mj_bs (e1), ← ha2, A2, ↓mj_bs (k2), Option.toList, List.nil_append, ↓mj_bs (e2), ← ha3, A3, ↓mj_bs (k3), Option.toList, List.nil_append, ↓mj_bs (e3), ← ha4, A4, ↓mj_bs (mh_gf 1 B4 (v := .ref 4) rfl), ↓mj_bs (k4), Option.toList, List.nil_append, ↓mj_bs (e4), ← ha5, A5, ↓mj_bs (mh_gf 1 B5 (v := .ref 4) rfl), ↓mj_bs (k5), Option.toList, List.nil_append, ↓mj_bs (e5), ← ha6, A6, ↓mj_bs (mh_gf 1 B6 (v := .ref 4) rfl), ↓mj_bs (k6), Option.toList, List.nil_append, ↓mj_bs (e6), ← ha7, A7, ↓mj_bs (e7), ← ha8, A8, ↓mj_bs (e8), ← ha9, A9, ↓mj_bs (k9), Option.toList, List.nil_append, ↓mj_bs (e9), ← ha10, A10, ↓mj_bs (k10), Option.toList, List.nil_append, ↓mj_bs (e10)]
    rw [mq_59_121]
    simp only [↓reduceIte, ↓mq_59_0, ↓mq_59_1, ↓mq_59_4, ↓mq_59_5, ↓mq_59_8, ↓mq_59_9, ↓mq_59_12, ↓mq_59_15, ↓mq_59_16, ↓mq_59_19, ↓mq_59_20, ↓mq_59_23, ↓mq_59_26, ↓mq_59_27, ↓mq_59_30, ↓mq_59_31, ↓mq_59_34, ↓mq_59_37, ↓mq_59_38, ↓mq_59_41, ↓mq_59_42, ↓mq_59_43, ↓mq_59_46, ↓mq_59_49, ↓mq_59_52, ↓mq_59_53, ↓mq_59_56, ↓mq_59_57, ↓mq_59_58, ↓mq_59_61, ↓mq_59_64, ↓mq_59_67, ↓mq_59_68, ↓mq_59_71, ↓mq_59_72, ↓mq_59_73, ↓mq_59_76, ↓mq_59_79, ↓mq_59_82, ↓mq_59_83, ↓mq_59_84, ↓mq_59_87, ↓mq_59_90, ↓mq_59_91, ↓mq_59_92, ↓mq_59_94, ↓mq_59_97, ↓mq_59_98, ↓mq_59_101, ↓mq_59_102, ↓mq_59_105, ↓mq_59_108, ↓mq_59_109, ↓mq_59_112, ↓mq_59_113, ↓mq_59_116, ↓mq_59_119, ↓mq_59_120, ↓mq_59_122, ↓mq_59_123, ↓mq_59_126, ↓mq_59_127, ↓mq_59_130, ↓mq_59_131, ↓mq_59_134, ↓mq_59_135, ↓mq_59_136, ↓mq_59_139, ↓mq_59_142, ↓mq_59_143, ↓mq_59_146, ↓mq_59_149, mf_le (show 0 < 2 by omega), ↓mj_bs (mh_gf 6 o10 rfl), ← hc1, C1, ↓mj_bs (mh_gf 1 cb1 rfl), ↓mj_bs (f1), Option.toList, List.nil_append, ↓mj_bs (q1), mn_add]
    rw [mq_59_121]
    simp only [↓reduceIte, ↓mq_59_0, ↓mq_59_1, ↓mq_59_4, ↓mq_59_5, ↓mq_59_8, ↓mq_59_9, ↓mq_59_12, ↓mq_59_15, ↓mq_59_16, ↓mq_59_19, ↓mq_59_20, ↓mq_59_23, ↓mq_59_26, ↓mq_59_27, ↓mq_59_30, ↓mq_59_31, ↓mq_59_34, ↓mq_59_37, ↓mq_59_38, ↓mq_59_41, ↓mq_59_42, ↓mq_59_43, ↓mq_59_46, ↓mq_59_49, ↓mq_59_52, ↓mq_59_53, ↓mq_59_56, ↓mq_59_57, ↓mq_59_58, ↓mq_59_61, ↓mq_59_64, ↓mq_59_67, ↓mq_59_68, ↓mq_59_71, ↓mq_59_72, ↓mq_59_73, ↓mq_59_76, ↓mq_59_79, ↓mq_59_82, ↓mq_59_83, ↓mq_59_84, ↓mq_59_87, ↓mq_59_90, ↓mq_59_91, ↓mq_59_92, ↓mq_59_94, ↓mq_59_97, ↓mq_59_98, ↓mq_59_101, ↓mq_59_102, ↓mq_59_105, ↓mq_59_108, ↓mq_59_109, ↓mq_59_112, ↓mq_59_113, ↓mq_59_116, ↓mq_59_119, ↓mq_59_120, ↓mq_59_122, ↓mq_59_123, ↓mq_59_126, ↓mq_59_127, ↓mq_59_130, ↓mq_59_131, ↓mq_59_134, ↓mq_59_135, ↓mq_59_136, ↓mq_59_139, ↓mq_59_142, ↓mq_59_143, ↓mq_59_146, ↓mq_59_149, mf_le (show 0 + 1 < 2 by omega), ↓mj_bs (mh_gf 6 o11 rfl), ← hc2, C2, ↓mj_bs (mh_gf 1 cb2 rfl), ↓mj_bs (f2), Option.toList, List.nil_append, ↓mj_bs (q2), mn_add]
    rw [mq_59_121]
    simp only [↓reduceIte, ↓mq_59_0, ↓mq_59_1, ↓mq_59_4, ↓mq_59_5, ↓mq_59_8, ↓mq_59_9, ↓mq_59_12, ↓mq_59_15, ↓mq_59_16, ↓mq_59_19, ↓mq_59_20, ↓mq_59_23, ↓mq_59_26, ↓mq_59_27, ↓mq_59_30, ↓mq_59_31, ↓mq_59_34, ↓mq_59_37, ↓mq_59_38, ↓mq_59_41, ↓mq_59_42, ↓mq_59_43, ↓mq_59_46, ↓mq_59_49, ↓mq_59_52, ↓mq_59_53, ↓mq_59_56, ↓mq_59_57, ↓mq_59_58, ↓mq_59_61, ↓mq_59_64, ↓mq_59_67, ↓mq_59_68, ↓mq_59_71, ↓mq_59_72, ↓mq_59_73, ↓mq_59_76, ↓mq_59_79, ↓mq_59_82, ↓mq_59_83, ↓mq_59_84, ↓mq_59_87, ↓mq_59_90, ↓mq_59_91, ↓mq_59_92, ↓mq_59_94, ↓mq_59_97, ↓mq_59_98, ↓mq_59_101, ↓mq_59_102, ↓mq_59_105, ↓mq_59_108, ↓mq_59_109, ↓mq_59_112, ↓mq_59_113, ↓mq_59_116, ↓mq_59_119, ↓mq_59_120, ↓mq_59_122, ↓mq_59_123, ↓mq_59_126, ↓mq_59_127, ↓mq_59_130, ↓mq_59_131, ↓mq_59_134, ↓mq_59_135, ↓mq_59_136, ↓mq_59_139, ↓mq_59_142, ↓mq_59_143, ↓mq_59_146, ↓mq_59_149, mt_le (show 2 ≤ 0 + 1 + 1 by omega)]
  · exact ⟨hSc.1, mh_rap hSc.2 (fun k _ z => Nat.not_lt_zero k z), by show (0 : Nat) ≤ 64; omega, fun c hc => by cases hc⟩
  · exact ⟨0, by omega, by show (0 : Nat) ≤ 14; omega, hAc.1, hAc.2.1, fun k μ z => by simp [ms_a, mm_S0] at z, fun k hk => ⟨_, (hAc.2.2 k hk).ma⟩⟩
  · exact ⟨_, _, _, hFe.1, mh_rep hFe.2.1, mh_rep hFe.2.2⟩
