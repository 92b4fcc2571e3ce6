/-! COMMANDS: kept and gone on from, shares, who goes first, odds -/
section
variable {S : mm_St} {h h' : mj_H}
theorem mo_98 (J : mh_J S h) (x : Int32) : mh_op 98 164 [.int x] h := by
  have JJ := J
  obtain ⟨w, C, R⟩ := J
  have wr := w.2.2.1
  have wm := w.2.2.2.1
  have hb := mw_b wr wm
  have C' := C
  obtain ⟨o1, ⟨pl, sp, Sc⟩, Ro, ⟨ρd, Rd⟩, M, ⟨μt, T⟩, Ac, SL, KP, Fe, ⟨fy, Y⟩, K0, K1⟩ := C
  have hrb := R.rr.1
  rcases mn_range 2 (by omega) x with ⟨k, hk, rfl, -, -⟩ | ⟨-, hno⟩
  · obtain ⟨k', hk'⟩ : ∃ k' : Nat → Option mm_Ma, k' = mh_u (ms_k S) k (some (ms_m S)) := ⟨_, rfl⟩
    have hks : (k' k).isSome = true := by rw [hk', mh_u_at]; rfl
    have hko : ∀ i, i ≠ k → (k' i).isSome = (ms_k S i).isSome := fun i hi => by rw [hk', mh_u_ne hi]
    obtain ⟨ν, N⟩ : ∃ ν, mh_Ma h (61 + 2 * k) 4 ν := by
      rcases (show k = 0 ∨ k = 1 by omega) with e | e
      · subst e; obtain ⟨ν, N, -⟩ := K0; exact ⟨ν, N⟩
      · subst e; obtain ⟨ν, N, -⟩ := K1; exact ⟨ν, N⟩
    obtain ⟨h1, e1, N1, F1⟩ := mt_17 N M (by omega) (by omega) (by omega)
    have no1 : ∀ j, j < 61 → ¬ mh_A (61 + 2 * k) (61 + 2 * k + 1) j := fun j hj z => by have := z.1; omega
    obtain ⟨h2, e2, KP2, F2⟩ := mj_bs2_pz (k' := k') ((F1.2 55 (no1 _ (by omega))).trans KP) hk hks hko
    have oA := (F1.2 1 (no1 _ (by omega))).trans o1
    have oB := (F2.2 1 (by omega)).trans oA
    have M2 := (M.kp F1 (no1 _ (by omega)) (no1 _ (by omega))).kp F2 (by omega) (by omega)
    have F : mh_F (fun j => j = 55 ∨ mh_A (61 + 2 * k) (61 + 2 * k + 1) j) h h2 := (F1.mo (fun j z => Or.inr z)).tt (F2.mo (fun j z => Or.inl z))
    have no : ∀ j, j ≠ 55 → ¬ (61 + 2 * k ≤ j ∧ j ≤ 61 + 2 * k + 1) → ¬ (j = 55 ∨ mh_A (61 + 2 * k) (61 + 2 * k + 1) j) := fun j a b z => by
      rcases z with z | z
      · exact a z
      · exact b z
    have e2' : mj_pz h1 55 (nI k) (nI 1) = some h2 := e2
    have gq := mh_gq (h := h) SL (show k < 2 by omega)
    have c99 : mj_C 99 [.int (nI k)] h = some (some (.int (nI 1)), h) := by
      rw [mc_99]
      simp only [↓reduceIte, ↓mq_99_0, ↓mq_99_1, ↓mq_99_4, ↓mq_99_5, ↓mq_99_6, ↓mq_99_9, ↓mq_99_10, ↓mq_99_13, ↓mq_99_14, mf_lt (Nat.zero_le k), mf_le hk, mj_z1]
    refine mh_opI (v := .int (nI (mm_pop (ma_b (ms_m S)) 6))) (S' := (ms_t S, ms_r S, ms_m S, ms_a S, k', ms_s S, ms_g S)) JJ (h1 := h2) ⟨w.1, w.2.1, wr, wm, w.2.2.2.2.1, w.2.2.2.2.2.1, fun j μ hj => ?_, w.2.2.2.2.2.2.2⟩ ?_ (F.mo (fun j z => by
      rcases z with z | z
      · subst z; exact ⟨by omega, by omega⟩
      · exact ⟨by have := z.1; omega, by have := z.2; omega⟩)) ?_ ?_
    · have hj' : k' j = some μ := hj
      by_cases e : j = k
      · subst e; rw [hk', mh_u_at] at hj'; cases hj'; exact wm
      · rw [hk', mh_u_ne e] at hj'; exact w.2.2.2.2.2.2.1 j μ hj'
    · rw [mc_98]
      simp only [↓reduceIte, ↓mq_98_0, ↓mq_98_1, ↓mq_98_4, ↓mq_98_7, ↓mq_98_8, ↓mq_98_9, ↓mq_98_10, ↓mq_98_13, ↓mq_98_14, ↓mq_98_15, ↓mq_98_16, ↓mq_98_19, ↓mq_98_22, ↓mq_98_23, ↓mq_98_26, ↓mq_98_27, ↓mq_98_28, ↓mq_98_29, ↓mq_98_30, ↓mq_98_33, ↓mq_98_36, ↓mq_98_39, ↓mj_bs (c99), Option.toList, List.cons_append, List.nil_append, mf_eq (show 1 ≠ 0 by omega), ↓mj_bs (mh_gf 6 o1 rfl), ↓mj_bs (gq), ↓mj_bs (mh_gf 3 o1 rfl), mh_isC N.1, ↓mj_bs (e1), ↓mj_bs (mh_gf 7 oA rfl), ↓mj_bs (e2'), ↓mj_bs (mh_gf 3 oB rfl), ↓mj_bs (mh_gf 2 M2.1 rfl), ↓mj_bs (mt_166 hb)]
    · refine ⟨oB, ⟨pl, sp, Sc.kp F (no _ (by omega) (by omega)) (no _ (by omega) (by omega))⟩, Ro.kp F (fun k a b => no k (by omega) (by omega)), ⟨ρd, Rd.kp F (fun k a b => no k (by omega) (by omega))⟩, M2, ⟨μt, T.kp F (no _ (by omega) (by omega)) (no _ (by omega) (by omega))⟩, Ac.kp F (fun k a b => no k (by omega) (by omega)), (F.2 54 (no _ (by omega) (by omega))).trans SL, KP2, Fe.kp F (no _ (by omega) (by omega)) (no _ (by omega) (by omega)) (no _ (by omega) (by omega)), ⟨fy, Y.kp F (no _ (by omega) (by omega)) (no _ (by omega) (by omega))⟩, ?_, ?_⟩
      · show mh_kp h2 61 (k' 0)
        rcases (show k = 0 ∨ k = 1 by omega) with e | e
        · subst e
          exact ⟨_, N1.kp F2 (by omega) (by omega), fun ν hν => by rw [hk', mh_u_at] at hν; cases hν; rfl⟩
        · subst e
          rw [hk', mh_u_ne (by omega)]
          exact K0.kp F (no _ (by omega) (by omega)) (no _ (by omega) (by omega))
      · show mh_kp h2 63 (k' 1)
        rcases (show k = 0 ∨ k = 1 by omega) with e | e
        · subst e
          rw [hk', mh_u_ne (by omega)]
          exact K1.kp F (no _ (by omega) (by omega)) (no _ (by omega) (by omega))
        · subst e
          exact ⟨_, N1.kp F2 (by omega) (by omega), fun ν hν => by rw [hk', mh_u_at] at hν; cases hν; rfl⟩
    · intro R
      have hrb := R.rr.1
      obtain ⟨⟨pl, rb, rg, rp, o⟩, r2, ⟨r3, r4, r5⟩, ⟨r6, r7, r8⟩, G, r10, r11, ⟨fk, K1, K2⟩, r13, r14, r15, r16, r17⟩ := R
      obtain ⟨g1, f1, Q1, D1⟩ := mj_bs2_pz (k' := k') r13 hk hks hko
      have f1' : mj_pz h2 77 (nI k) (nI 1) = some g1 := f1
      have og := (D1.2 65 (by omega)).trans o
      have Gg := G.kp D1 (by omega)
      obtain ⟨fp, P1, P2⟩ := Gg
      have loop : ∀ d i hi fi, i + d = 11 → mh_ar hi 76 22 fi → (∀ j, j < i → fi (11 * k + j) = fp j) → (∀ j, ¬ (11 * k ≤ j ∧ j < 11 * k + 11) → fi j = fk j) → mh_F (fun x => x = 76) g1 hi → ∃ h' f', mj_R 164 (26, [.ref 65, .int (nI k), .int (nI i)], [], hi) = some (some (.int (nI (mm_pop (ma_b (ms_m S)) 6))), h') ∧ mh_ar h' 76 22 f' ∧ (∀ j, j < 11 → f' (11 * k + j) = fp j) ∧ (∀ j, ¬ (11 * k ≤ j ∧ j < 11 * k + 11) → f' j = fk j) ∧ mh_F (fun x => x = 76) g1 h' := by
        intro d
        induction d with
        | zero =>
          intro i hi fi hid ai hf ho hFi
          obtain rfl : i = 11 := by omega
          have oi := (hFi.2 65 (by omega)).trans og
          have Gi : mh_pg hi 73 (ms_m S) := ⟨fp, P1.kp hFi (by omega), P2⟩
          refine ⟨hi, fi, ?_, ai, hf, ho, hFi⟩
          simp only [↓reduceIte, ↓mq_164_0, ↓mq_164_1, ↓mq_164_2, ↓mq_164_5, ↓mq_164_6, ↓mq_164_7, ↓mq_164_8, ↓mq_164_9, ↓mq_164_12, ↓mq_164_15, ↓mq_164_16, ↓mq_164_17, ↓mq_164_18, ↓mq_164_21, ↓mq_164_22, ↓mq_164_23, ↓mq_164_24, ↓mq_164_25, ↓mq_164_26, ↓mq_164_27, ↓mq_164_29, ↓mq_164_32, ↓mq_164_33, ↓mq_164_36, ↓mq_164_38, ↓mq_164_39, ↓mq_164_40, ↓mq_164_41, ↓mq_164_42, ↓mq_164_43, ↓mq_164_46, ↓mq_164_47, ↓mq_164_48, ↓mq_164_49, ↓mq_164_52, ↓mq_164_55, ↓mq_164_56, ↓mq_164_59, ↓mq_164_60, ↓mq_164_61, ↓mq_164_64, mt_le (Nat.le_refl 11), ↓mj_bs (mh_gf 15 oi rfl), ↓mj_bs (mp_1 Gi), ↓mj_bs (mt_144 hb), Option.toList, List.cons_append, List.nil_append]
        | succ d ih =>
          intro i hi fi hid ai hf ho hFi
          have oi := (hFi.2 65 (by omega)).trans og
          have bi := P1.kp hFi (by omega)
          obtain ⟨h6, e6, a6, F6⟩ := ai.pt (show 11 * k + i < 22 by omega) (by omega) (fp i)
          obtain ⟨h', f', r1, r2⟩ := ih (i + 1) h6 _ (by omega) a6 (fun j hj => by
            by_cases e : j = i
            · subst e; exact mh_u_at
            · rw [mh_u_ne (by omega)]; exact hf j (by omega)) (fun j hj => by rw [mh_u_ne (by omega)]; exact ho j hj) (hFi.tt F6)
          refine ⟨h', f', ?_, r2⟩
          rw [mq_164_26]
          simp only [↓reduceIte, ↓mq_164_0, ↓mq_164_1, ↓mq_164_2, ↓mq_164_5, ↓mq_164_6, ↓mq_164_7, ↓mq_164_8, ↓mq_164_9, ↓mq_164_12, ↓mq_164_15, ↓mq_164_16, ↓mq_164_17, ↓mq_164_18, ↓mq_164_21, ↓mq_164_22, ↓mq_164_23, ↓mq_164_24, ↓mq_164_25, ↓mq_164_27, ↓mq_164_29, ↓mq_164_32, ↓mq_164_33, ↓mq_164_36, ↓mq_164_38, ↓mq_164_39, ↓mq_164_40, ↓mq_164_41, ↓mq_164_42, ↓mq_164_43, ↓mq_164_46, ↓mq_164_47, ↓mq_164_48, ↓mq_164_49, ↓mq_164_52, ↓mq_164_55, ↓mq_164_56, ↓mq_164_59, ↓mq_164_60, ↓mq_164_61, ↓mq_164_64, mf_le (show i < 11 by omega), ↓mj_bs (mh_gf 19 oi rfl), ↓mj_bs (mh_gf 15 oi rfl), mn_mul, mn_add, ↓mj_bs (bi.gt (show i < 11 by omega) (by omega)), ↓mj_bs (e6)]
          exact r1
      obtain ⟨g2, f', r1, a1, a2, a3, D2⟩ := loop 11 0 g1 fk rfl (K1.kp D1 (by omega)) (fun j hj => by omega) (fun j _ => rfl) mh_F.rf
      have D : mh_F (fun j => j = 77 ∨ j = 76) h2 g2 := (D1.mo (fun k z => Or.inl z)).tt (D2.mo (fun k z => Or.inr z))
      refine ⟨g2, ?_, ⟨⟨pl, rb, rg, rp, (D2.2 65 (by omega)).trans og⟩, r2.kp D (by omega), ⟨r3.kp D (by omega), r4.kp D (by omega), r5.kp D (by omega)⟩, ⟨r6.kp D (by omega), r7.kp D (by omega), r8.kp D (by omega)⟩, G.kp D (by omega), r10.kp D (by omega), r11.kp D (by omega), ⟨f', a1, fun i μ hi hμ j hj hP => ?_⟩, (D2.2 77 (by omega)).trans Q1, r14.kp D (by omega) (by omega), r15.kp D (by omega), r16.kp D (by omega), r17.kp D (by omega)⟩, D.mo (fun k z => by omega)⟩
      · rw [mc_164]
        simp only [↓reduceIte, ↓mq_164_0, ↓mq_164_1, ↓mq_164_2, ↓mq_164_5, ↓mq_164_6, ↓mq_164_7, ↓mq_164_8, ↓mq_164_9, ↓mq_164_12, ↓mq_164_15, ↓mq_164_16, ↓mq_164_17, ↓mq_164_18, ↓mq_164_21, ↓mq_164_22, ↓mq_164_23, ↓mq_164_24, ↓mq_164_25, ↓mq_164_27, ↓mq_164_29, ↓mq_164_32, ↓mq_164_33, ↓mq_164_36, ↓mq_164_38, ↓mq_164_39, ↓mq_164_40, ↓mq_164_41, ↓mq_164_42, ↓mq_164_43, ↓mq_164_46, ↓mq_164_47, ↓mq_164_48, ↓mq_164_49, ↓mq_164_52, ↓mq_164_55, ↓mq_164_56, ↓mq_164_59, ↓mq_164_60, ↓mq_164_61, ↓mq_164_64, ↓mj_bs (mr_th hrb), ↓mj_bs (mt_103_0_1), mn_dle (show k < 2 ^ 31 by omega) (show 1 < 2 ^ 31 by omega), show k ≤ 1 by omega, decide_true, Option.toList, List.cons_append, List.nil_append, mj_b0, Bool.true_eq_false, ↓mj_bs (mh_gf 20 o rfl), ↓mj_bs (f1')]
        exact r1
      · have hμ' : k' i = some μ := hμ
        by_cases e : i = k
        · subst e
          rw [hk', mh_u_at] at hμ'
          cases hμ'
          rw [a2 j hj]
          exact P2 j hj hP
        · rw [hk', mh_u_ne e] at hμ'
          rw [a3 _ (by omega)]
          exact K2 i μ hi hμ' j hj hP
  · refine mh_opQ (v := .int (-1)) JJ ?_ ?_
    · have c99 : mj_C 99 [.int x] h = some (some (.int (nI 0)), h) := by
        rw [mc_99]
        rcases mn_out hno (by omega) with z | ⟨z1, z2⟩
        · simp only [↓reduceIte, ↓mq_99_0, ↓mq_99_1, ↓mq_99_4, ↓mq_99_5, ↓mq_99_6, ↓mq_99_9, ↓mq_99_10, ↓mq_99_13, ↓mq_99_14, z, mj_z0]
        · have z3 : nI 2 ≤ x := by
            rw [Int32.le_iff_toInt_le, nI_toInt (by omega)] at z2 ⊢
            omega
          simp only [↓reduceIte, ↓mq_99_0, ↓mq_99_1, ↓mq_99_4, ↓mq_99_5, ↓mq_99_6, ↓mq_99_9, ↓mq_99_10, ↓mq_99_13, ↓mq_99_14, z1, z3, mj_z0]
      rw [mc_98]
      simp only [↓reduceIte, ↓mq_98_0, ↓mq_98_1, ↓mq_98_4, ↓mq_98_7, ↓mq_98_8, ↓mq_98_9, ↓mq_98_10, ↓mq_98_13, ↓mq_98_14, ↓mq_98_15, ↓mq_98_16, ↓mq_98_19, ↓mq_98_22, ↓mq_98_23, ↓mq_98_26, ↓mq_98_27, ↓mq_98_28, ↓mq_98_29, ↓mq_98_30, ↓mq_98_33, ↓mq_98_36, ↓mq_98_39, ↓mj_bs (c99), Option.toList, List.cons_append, List.nil_append]
    · rw [mc_164]
      simp only [↓reduceIte, ↓mq_164_0, ↓mq_164_1, ↓mq_164_2, ↓mq_164_5, ↓mq_164_6, ↓mq_164_7, ↓mq_164_8, ↓mq_164_9, ↓mq_164_12, ↓mq_164_15, ↓mq_164_16, ↓mq_164_17, ↓mq_164_18, ↓mq_164_21, ↓mq_164_22, ↓mq_164_23, ↓mq_164_24, ↓mq_164_25, ↓mq_164_26, ↓mq_164_27, ↓mq_164_29, ↓mq_164_32, ↓mq_164_33, ↓mq_164_36, ↓mq_164_38, ↓mq_164_39, ↓mq_164_40, ↓mq_164_41, ↓mq_164_42, ↓mq_164_43, ↓mq_164_46, ↓mq_164_47, ↓mq_164_48, ↓mq_164_49, ↓mq_164_52, ↓mq_164_55, ↓mq_164_56, ↓mq_164_59, ↓mq_164_60, ↓mq_164_61, ↓mq_164_64, ↓mj_bs (mr_th hrb), ↓mj_bs (mt_103_0_1), Option.toList, List.cons_append, List.nil_append, mn_dno' hno (show 1 < 2 by omega) (by omega), mj_b0]
theorem mo_100 (J : mh_J S h) (x : Int32) : mh_op 100 165 [.int x] h := by
  have JJ := J
  obtain ⟨w, C, R⟩ := J
  have wr := w.2.2.1
  have C' := C
  obtain ⟨o1, ⟨pl, sp, Sc⟩, Ro, ⟨ρd, Rd⟩, M, ⟨μt, T⟩, Ac, SL, KP, Fe, ⟨fy, Y⟩, K0, K1⟩ := C
  have hrb := R.rr.1
  rcases mn_range 2 (by omega) x with ⟨k, hk, rfl, -, -⟩ | ⟨-, hno⟩
  · have c99 : mj_C 99 [.int (nI k)] h = some (some (.int (nI 1)), h) := by
      rw [mc_99]
      simp only [↓reduceIte, ↓mq_99_0, ↓mq_99_1, ↓mq_99_4, ↓mq_99_5, ↓mq_99_6, ↓mq_99_9, ↓mq_99_10, ↓mq_99_13, ↓mq_99_14, mf_lt (Nat.zero_le k), mf_le hk, mj_z1]
    have gz := mj_bs2_gz KP hk
    cases hkk : ms_k S k with
    | none =>
      rw [hkk] at gz
      have gz' : mj_gz h 55 (nI k) = some (nI 0) := gz
      obtain ⟨pl', rb, rg, rp, o⟩ := R.1
      have gr := mj_bs2_gz R.2.2.2.2.2.2.2.2.1 hk
      rw [hkk] at gr
      have gr' : mj_gz h 77 (nI k) = some (nI 0) := gr
      refine mh_opQ (v := .int (-3)) JJ ?_ ?_
      · rw [mc_100]
        simp only [↓reduceIte, ↓mq_100_0, ↓mq_100_1, ↓mq_100_4, ↓mq_100_7, ↓mq_100_8, ↓mq_100_9, ↓mq_100_10, ↓mq_100_13, ↓mq_100_14, ↓mq_100_15, ↓mq_100_18, ↓mq_100_20, ↓mq_100_21, ↓mq_100_22, ↓mq_100_25, ↓mq_100_26, ↓mq_100_29, ↓mq_100_30, ↓mq_100_31, ↓mq_100_34, ↓mq_100_35, ↓mq_100_38, ↓mq_100_41, ↓mq_100_42, ↓mq_100_45, ↓mq_100_48, ↓mq_100_51, ↓mj_bs (c99), Option.toList, List.cons_append, List.nil_append, mf_eq (show 1 ≠ 0 by omega), ↓mj_bs (mh_gf 7 o1 rfl), ↓mj_bs (gz')]
      · rw [mc_165]
        simp only [↓reduceIte, ↓mq_165_0, ↓mq_165_1, ↓mq_165_2, ↓mq_165_5, ↓mq_165_6, ↓mq_165_7, ↓mq_165_8, ↓mq_165_9, ↓mq_165_12, ↓mq_165_15, ↓mq_165_16, ↓mq_165_17, ↓mq_165_18, ↓mq_165_21, ↓mq_165_22, ↓mq_165_23, ↓mq_165_26, ↓mq_165_28, ↓mq_165_29, ↓mq_165_30, ↓mq_165_31, ↓mq_165_32, ↓mq_165_34, ↓mq_165_37, ↓mq_165_38, ↓mq_165_41, ↓mq_165_42, ↓mq_165_43, ↓mq_165_46, ↓mq_165_48, ↓mq_165_49, ↓mq_165_50, ↓mq_165_51, ↓mq_165_52, ↓mq_165_53, ↓mq_165_54, ↓mq_165_57, ↓mq_165_60, ↓mq_165_61, ↓mq_165_62, ↓mq_165_65, ↓mq_165_66, ↓mq_165_69, ↓mq_165_70, ↓mq_165_71, ↓mq_165_74, ↓mj_bs (mr_th hrb), ↓mj_bs (mt_103_0_1), mn_dle (show k < 2 ^ 31 by omega) (show 1 < 2 ^ 31 by omega), show k ≤ 1 by omega, decide_true, Option.toList, List.cons_append, List.nil_append, mj_b0, Bool.true_eq_false, ↓mj_bs (mh_gf 20 o rfl), ↓mj_bs (gr')]
    | some ν =>
      rw [hkk] at gz
      have gz' : mj_gz h 55 (nI k) = some (nI 1) := gz
      have wν := w.2.2.2.2.2.2.1 k ν hkk
      have hbν := mw_b wr wν
      have N : mh_Ma h (61 + 2 * k) 4 ν := by
        rcases (show k = 0 ∨ k = 1 by omega) with e | e
        · subst e; obtain ⟨ξ, N, q⟩ := K0; rw [q ν hkk] at N; exact N
        · subst e; obtain ⟨ξ, N, q⟩ := K1; rw [q ν hkk] at N; exact N
      obtain ⟨h1, e1, M1, F1⟩ := mt_17 M N (by omega) (by omega) (by omega)
      have no1 : ∀ j, ¬ (20 ≤ j ∧ j ≤ 21) → ¬ mh_A 20 (20 + 1) j := fun j hj z => hj z
      have oA := (F1.2 1 (no1 _ (by omega))).trans o1
      have Ac1 := Ac.kp F1 (fun k a b => no1 k (by omega))
      obtain ⟨h2, e2, L2, F2⟩ := mt_1 Ac1
      have oB := (F2.2 1 (by omega)).trans oA
      have M2 := M1.kp F2 (by omega) (by omega)
      have F : mh_F (mh_A 20 53) h h2 := (F1.mo (fun j z => ⟨z.1, by have := z.2; omega⟩)).tt (F2.mo (fun j z => by subst z; exact ⟨by omega, by omega⟩))
      have gq := mh_gq (h := h) SL (show k < 2 by omega)
      refine mh_opI (v := .int (nI (mm_pop (ma_b ν) 6))) (S' := (ms_t S, ms_r S, ν, [], ms_k S, ms_s S, ms_g S)) JJ (h1 := h2) ⟨w.1, w.2.1, wr, wν, fun μ hμ => (by cases hμ), by show 0 ≤ 14; omega, w.2.2.2.2.2.2⟩ ?_ (F.mo (fun j z => ⟨by have := z.1; omega, by have := z.2; omega⟩)) (C'.ma F M2 ((T.kp F1 (no1 _ (by omega)) (no1 _ (by omega))).kp F2 (by omega) (by omega)) L2) ?_
      · rw [mc_100]
        simp only [↓reduceIte, ↓mq_100_0, ↓mq_100_1, ↓mq_100_4, ↓mq_100_7, ↓mq_100_8, ↓mq_100_9, ↓mq_100_10, ↓mq_100_13, ↓mq_100_14, ↓mq_100_15, ↓mq_100_18, ↓mq_100_20, ↓mq_100_21, ↓mq_100_22, ↓mq_100_25, ↓mq_100_26, ↓mq_100_29, ↓mq_100_30, ↓mq_100_31, ↓mq_100_34, ↓mq_100_35, ↓mq_100_38, ↓mq_100_41, ↓mq_100_42, ↓mq_100_45, ↓mq_100_48, ↓mq_100_51, ↓mj_bs (c99), Option.toList, List.cons_append, List.nil_append, mf_eq (show 1 ≠ 0 by omega), ↓mj_bs (mh_gf 7 o1 rfl), ↓mj_bs (gz'), ↓mj_bs (mh_gf 3 o1 rfl), ↓mj_bs (mh_gf 6 o1 rfl), ↓mj_bs (gq), mh_isC M.1, ↓mj_bs (e1), ↓mj_bs (mh_gf 5 oA rfl), mh_isC Ac1.choose_spec.2.2.1, ↓mj_bs (e2), ↓mj_bs (mh_gf 3 oB rfl), ↓mj_bs (mh_gf 2 M2.1 rfl), ↓mj_bs (mt_166 hbν)]
      · intro R
        have hrb := R.rr.1
        have gr := mj_bs2_gz R.2.2.2.2.2.2.2.2.1 hk
        rw [hkk] at gr
        have gr' : mj_gz h2 77 (nI k) = some (nI 1) := gr
        obtain ⟨⟨pl, rb, rg, rp, o⟩, r2, ⟨r3, r4, r5⟩, ⟨r6, r7, r8⟩, ⟨fp, P1, -⟩, r10, ⟨fb, B1, -⟩, ⟨fk, K1, K2⟩, r13, r14, r15, r16, r17⟩ := R
        have loop : ∀ d i hi fi, i + d = 11 → mh_ar hi 73 11 fi → (∀ j, j < i → fi j = fk (11 * k + j)) → mh_F (fun x => x = 73) h2 hi → ∃ h', mj_R 165 (31, [.ref 65, .int (nI k), .int (nI i)], [], hi) = some (some (.int (nI (mm_pop (ma_b ν) 6))), h') ∧ mh_pg h' 73 ν ∧ (h'.1 65 = some (.inr (7, mr_fs (nI (ms_t S).length) pl (nI (mr_n (ms_r S))) (nI (mr_g (ms_r S))) rb rg rp (nI 0) (nI (ms_s S).length) (ms_g S)))) ∧ mh_F (fun x => x = 73 ∨ x = 65) h2 h' := by
          intro d
          induction d with
          | zero =>
            intro i hi fi hid ai hf hFi
            obtain rfl : i = 11 := by omega
            have oi := (hFi.2 65 (by omega)).trans o
            obtain ⟨g9, hg9⟩ : ∃ g, g = mj_up hi 65 (.inr (7, mr_fs (nI (ms_t S).length) pl (nI (mr_n (ms_r S))) (nI (mr_g (ms_r S))) rb rg rp (nI 0) (nI (ms_s S).length) (ms_g S))) := ⟨_, rfl⟩
            have e9 : mj_pf hi 65 7 18 (.int (nI 0)) = some g9 := by rw [hg9]; exact mh_pf 18 oi (by simp) rfl
            have o9 := mh_ue hg9
            have F9 : mh_F (fun k => k = 65) hi g9 := by rw [hg9]; exact mh_uF
            have G9 : mh_pg g9 73 ν := ⟨fi, ai.kp F9 (by omega), fun j hj hP => by rw [hf j hj]; exact K2 k ν hk hkk j hj hP⟩
            refine ⟨g9, ?_, G9, o9, (hFi.mo (fun k z => Or.inl z)).tt (F9.mo (fun k z => Or.inr z))⟩
            simp only [↓reduceIte, ↓mq_165_0, ↓mq_165_1, ↓mq_165_2, ↓mq_165_5, ↓mq_165_6, ↓mq_165_7, ↓mq_165_8, ↓mq_165_9, ↓mq_165_12, ↓mq_165_15, ↓mq_165_16, ↓mq_165_17, ↓mq_165_18, ↓mq_165_21, ↓mq_165_22, ↓mq_165_23, ↓mq_165_26, ↓mq_165_28, ↓mq_165_29, ↓mq_165_30, ↓mq_165_31, ↓mq_165_32, ↓mq_165_34, ↓mq_165_37, ↓mq_165_38, ↓mq_165_41, ↓mq_165_42, ↓mq_165_43, ↓mq_165_46, ↓mq_165_48, ↓mq_165_49, ↓mq_165_50, ↓mq_165_51, ↓mq_165_52, ↓mq_165_53, ↓mq_165_54, ↓mq_165_57, ↓mq_165_60, ↓mq_165_61, ↓mq_165_62, ↓mq_165_65, ↓mq_165_66, ↓mq_165_69, ↓mq_165_70, ↓mq_165_71, ↓mq_165_74, mt_le (Nat.le_refl 11), ↓mj_bs (e9), ↓mj_bs (mh_gf 15 o9 rfl), ↓mj_bs (mp_1 G9), ↓mj_bs (mt_144 hbν), Option.toList, List.cons_append, List.nil_append]
          | succ d ih =>
            intro i hi fi hid ai hf hFi
            have oi := (hFi.2 65 (by omega)).trans o
            have bi := K1.kp hFi (by omega)
            obtain ⟨h6, e6, a6, F6⟩ := ai.pt (show i < 11 by omega) (by omega) (fk (11 * k + i))
            obtain ⟨h', r1, r2⟩ := ih (i + 1) h6 _ (by omega) a6 (fun j hj => by
              by_cases e : j = i
              · subst e; exact mh_u_at
              · rw [mh_u_ne e]; exact hf j (by omega)) (hFi.tt F6)
            refine ⟨h', ?_, r2⟩
            rw [mq_165_31]
            simp only [↓reduceIte, ↓mq_165_0, ↓mq_165_1, ↓mq_165_2, ↓mq_165_5, ↓mq_165_6, ↓mq_165_7, ↓mq_165_8, ↓mq_165_9, ↓mq_165_12, ↓mq_165_15, ↓mq_165_16, ↓mq_165_17, ↓mq_165_18, ↓mq_165_21, ↓mq_165_22, ↓mq_165_23, ↓mq_165_26, ↓mq_165_28, ↓mq_165_29, ↓mq_165_30, ↓mq_165_32, ↓mq_165_34, ↓mq_165_37, ↓mq_165_38, ↓mq_165_41, ↓mq_165_42, ↓mq_165_43, ↓mq_165_46, ↓mq_165_48, ↓mq_165_49, ↓mq_165_50, ↓mq_165_51, ↓mq_165_52, ↓mq_165_53, ↓mq_165_54, ↓mq_165_57, ↓mq_165_60, ↓mq_165_61, ↓mq_165_62, ↓mq_165_65, ↓mq_165_66, ↓mq_165_69, ↓mq_165_70, ↓mq_165_71, ↓mq_165_74, mf_le (show i < 11 by omega), ↓mj_bs (mh_gf 15 oi rfl), ↓mj_bs (mh_gf 19 oi rfl), mn_mul, mn_add, ↓mj_bs (bi.gt (show 11 * k + i < 22 by omega) (by omega)), ↓mj_bs (e6)]
            exact r1
        obtain ⟨g2, r1, G2, o2, D⟩ := loop 11 0 h2 fp rfl P1 (fun j hj => by omega) mh_F.rf
        refine ⟨g2, ?_, ⟨⟨pl, rb, rg, rp, o2⟩, r2.kp D (by omega), ⟨r3.kp D (by omega), r4.kp D (by omega), r5.kp D (by omega)⟩, ⟨r6.kp D (by omega), r7.kp D (by omega), r8.kp D (by omega)⟩, G2, r10.kp D (by omega), ⟨fb, B1.kp D (by omega), fun k μ hk => (by simp [ms_a] at hk)⟩, ⟨fk, K1.kp D (by omega), K2⟩, (D.2 77 (by omega)).trans r13, r14.kp D (by omega) (by omega), r15.kp D (by omega), r16.kp D (by omega), r17.kp D (by omega)⟩, D.mo (fun k z => by omega)⟩
        rw [mc_165]
        simp only [↓reduceIte, ↓mq_165_0, ↓mq_165_1, ↓mq_165_2, ↓mq_165_5, ↓mq_165_6, ↓mq_165_7, ↓mq_165_8, ↓mq_165_9, ↓mq_165_12, ↓mq_165_15, ↓mq_165_16, ↓mq_165_17, ↓mq_165_18, ↓mq_165_21, ↓mq_165_22, ↓mq_165_23, ↓mq_165_26, ↓mq_165_28, ↓mq_165_29, ↓mq_165_30, ↓mq_165_32, ↓mq_165_34, ↓mq_165_37, ↓mq_165_38, ↓mq_165_41, ↓mq_165_42, ↓mq_165_43, ↓mq_165_46, ↓mq_165_48, ↓mq_165_49, ↓mq_165_50, ↓mq_165_51, ↓mq_165_52, ↓mq_165_53, ↓mq_165_54, ↓mq_165_57, ↓mq_165_60, ↓mq_165_61, ↓mq_165_62, ↓mq_165_65, ↓mq_165_66, ↓mq_165_69, ↓mq_165_70, ↓mq_165_71, ↓mq_165_74, ↓mj_bs (mr_th hrb), ↓mj_bs (mt_103_0_1), mn_dle (show k < 2 ^ 31 by omega) (show 1 < 2 ^ 31 by omega), show k ≤ 1 by omega, decide_true, Option.toList, List.cons_append, List.nil_append, mj_b0, Bool.true_eq_false, ↓mj_bs (mh_gf 20 o rfl), ↓mj_bs (gr'), mf_eq (show 1 ≠ 0 by omega)]
        exact r1
  · refine mh_opQ (v := .int (-1)) JJ ?_ ?_
    · have c99 : mj_C 99 [.int x] h = some (some (.int (nI 0)), h) := by
        rw [mc_99]
        rcases mn_out hno (by omega) with z | ⟨z1, z2⟩
        · simp only [↓reduceIte, ↓mq_99_0, ↓mq_99_1, ↓mq_99_4, ↓mq_99_5, ↓mq_99_6, ↓mq_99_9, ↓mq_99_10, ↓mq_99_13, ↓mq_99_14, z, mj_z0]
        · have z3 : nI 2 ≤ x := by
            rw [Int32.le_iff_toInt_le, nI_toInt (by omega)] at z2 ⊢
            omega
          simp only [↓reduceIte, ↓mq_99_0, ↓mq_99_1, ↓mq_99_4, ↓mq_99_5, ↓mq_99_6, ↓mq_99_9, ↓mq_99_10, ↓mq_99_13, ↓mq_99_14, z1, z3, mj_z0]
      rw [mc_100]
      simp only [↓reduceIte, ↓mq_100_0, ↓mq_100_1, ↓mq_100_4, ↓mq_100_7, ↓mq_100_8, ↓mq_100_9, ↓mq_100_10, ↓mq_100_13, ↓mq_100_14, ↓mq_100_15, ↓mq_100_18, ↓mq_100_20, ↓mq_100_21, ↓mq_100_22, ↓mq_100_25, ↓mq_100_26, ↓mq_100_29, ↓mq_100_30, ↓mq_100_31, ↓mq_100_34, ↓mq_100_35, ↓mq_100_38, ↓mq_100_41, ↓mq_100_42, ↓mq_100_45, ↓mq_100_48, ↓mq_100_51, ↓mj_bs (c99), Option.toList, List.cons_append, List.nil_append]
    · rw [mc_165]
      simp only [↓reduceIte, ↓mq_165_0, ↓mq_165_1, ↓mq_165_2, ↓mq_165_5, ↓mq_165_6, ↓mq_165_7, ↓mq_165_8, ↓mq_165_9, ↓mq_165_12, ↓mq_165_15, ↓mq_165_16, ↓mq_165_17, ↓mq_165_18, ↓mq_165_21, ↓mq_165_22, ↓mq_165_23, ↓mq_165_26, ↓mq_165_28, ↓mq_165_29, ↓mq_165_30, ↓mq_165_31, ↓mq_165_32, ↓mq_165_34, ↓mq_165_37, ↓mq_165_38, ↓mq_165_41, ↓mq_165_42, ↓mq_165_43, ↓mq_165_46, ↓mq_165_48, ↓mq_165_49, ↓mq_165_50, ↓mq_165_51, ↓mq_165_52, ↓mq_165_53, ↓mq_165_54, ↓mq_165_57, ↓mq_165_60, ↓mq_165_61, ↓mq_165_62, ↓mq_165_65, ↓mq_165_66, ↓mq_165_69, ↓mq_165_70, ↓mq_165_71, ↓mq_165_74, ↓mj_bs (mr_th hrb), ↓mj_bs (mt_103_0_1), Option.toList, List.cons_append, List.nil_append, mn_dno' hno (show 1 < 2 by omega) (by omega), mj_b0]
end
