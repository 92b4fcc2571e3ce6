/-! COMMANDS: acts -/
theorem mw_rem {P : mm_Ma → Prop} {l : List mm_Ma} {μ : mm_Ma} (hl : ∀ ν ∈ l, P ν) (hμ : P μ) : ∀ ν ∈ mm_rem l μ, P ν := by
  intro ν hν
  unfold mm_rem at hν
  split at hν
  · rcases List.mem_append.mp hν with z | z
    · exact hl ν z
    · rw [List.mem_singleton.mp z]; exact hμ
  · rcases List.mem_append.mp hν with z | z
    · exact hl ν (List.mem_of_mem_tail z)
    · rw [List.mem_singleton.mp z]; exact hμ
theorem mm_rem14 {l : List mm_Ma} {μ : mm_Ma} (hl : l.length ≤ 14) : (mm_rem l μ).length ≤ 14 := by
  unfold mm_rem
  split
  · simp; omega
  · simp; omega
section
variable {S : mm_St} {h h' : mj_H}
theorem mh_JR.pgw (H : mh_JR S h) (F : mh_F (fun k => k = 73) h h') {μ : mm_Ma} (G : mh_pg h' 73 μ) : mh_JR (ms_t S, ms_r S, μ, ms_a S, ms_k S, ms_s S, ms_g S) h' := by
  obtain ⟨h1, h2, ⟨h3, h4, h5⟩, ⟨h6, h7, h8⟩, h9, h10, h11, h12, h13, h14, h15, h16, h17⟩ := H
  exact ⟨h1.kp F (by omega), h2.kp F (by omega), ⟨h3.kp F (by omega), h4.kp F (by omega), h5.kp F (by omega)⟩, ⟨h6.kp F (by omega), h7.kp F (by omega), h8.kp F (by omega)⟩, G, h10.kp F (by omega), h11.kp F (by omega), h12.kp F (by omega), (F.2 77 (by omega)).trans h13, h14.kp F (by omega) (by omega), h15.kp F (by omega), h16.kp F (by omega), h17.kp F (by omega)⟩
/-- an act of the class: remembered, then done -/
theorem mo_act {μ' : mm_Ma} {v : Nat} {h1 h2 : mj_H} (J : mh_J S h) (wm' : mw_M (ms_r S) μ') {c r : Nat} (L1 : mh_Ac h1 24 4 (mm_rem (ms_a S) (ms_m S))) (F1 : mh_F (mh_A 24 53) h h1) (M2 : mh_Ma h2 20 4 μ') (F2 : mh_F (mh_A 20 21) h1 h2) (e : mj_C c [.ref 1] h = some (some (.int (nI v)), h2)) (hr : ∀ h, mh_JR S h → ∃ h2, mj_C r [.ref 65] h = some (some (.int (nI v)), h2) ∧ mh_JR (ms_t S, ms_r S, μ', mm_rem (ms_a S) (ms_m S), ms_k S, ms_s S, ms_g S) h2 ∧ mh_F (fun k => 65 ≤ k) h h2) : mh_op c r [] h := by
  have J' := J
  obtain ⟨w, C, R⟩ := J
  have F : mh_F (mh_A 20 53) h h2 := (F1.mo (fun k z => ⟨by have := z.1; omega, z.2⟩)).tt (F2.mo (fun k z => ⟨z.1, by have := z.2; omega⟩))
  obtain ⟨μt, T⟩ := C.2.2.2.2.2.1
  refine mh_opI (v := .int (nI v)) (S' := (ms_t S, ms_r S, μ', mm_rem (ms_a S) (ms_m S), ms_k S, ms_s S, ms_g S)) J' (h1 := h2) ⟨w.1, w.2.1, w.2.2.1, wm', mw_rem w.2.2.2.2.1 w.2.2.2.1, mm_rem14 w.2.2.2.2.2.1, w.2.2.2.2.2.2⟩ e (F.mo (fun k z => ⟨by have := z.1; omega, by have := z.2; omega⟩)) (C.ma F M2 ((T.kp F1 (fun z => by have := z.1; omega) (fun z => by have := z.1; omega)).kp F2 (fun z => by have := z.2; omega) (fun z => by have := z.2; omega)) (L1.kp F2 (fun k a b z => by have := z.2; omega))) (hr h2)
theorem mo_67 (J : mh_J S h) : mh_op 67 124 [] h := by
  have JJ := J
  obtain ⟨wS, C, R⟩ := J
  have wr := wS.2.2.1
  have wm := wS.2.2.2.1
  have Rr := R.rr
  have hrb := Rr.1
  have G := R.pg
  obtain ⟨o1, -, Ro, -, M, -, Ac, -⟩ := C
  have hn9 := wr.1
  have hm9 := wm.2.2.1
  have e12 := mt_12 wr wm Ro M
  have e16 := mt_16 wr wm Ro M
  by_cases hc : ma_n (ms_m S) < mr_n (ms_r S)
  · have hh : mm_has (ms_r S) (ms_m S) = true := decide_eq_true hc
    cases hq : mm_can (ms_r S) (ms_m S)
    · refine mh_opQ (v := .int (-4)) JJ ?_ ?_
      · rw [mc_67]
        simp only [↓reduceIte, ↓mq_67_0, ↓mq_67_1, ↓mq_67_4, ↓mq_67_7, ↓mq_67_10, ↓mq_67_12, ↓mq_67_13, ↓mq_67_14, ↓mq_67_17, ↓mq_67_20, ↓mq_67_23, ↓mq_67_25, ↓mq_67_26, ↓mq_67_27, ↓mq_67_30, ↓mq_67_31, ↓mq_67_34, ↓mq_67_37, ↓mq_67_38, ↓mq_67_41, ↓mq_67_44, ↓mj_bs (mh_gf 3 o1 rfl), mh_isC M.1, ↓mj_bs (e12), ↓mj_bs (e16), Option.toList, List.cons_append, List.nil_append, mj_b0, hh, hq, Bool.true_eq_false]
      · rw [mc_124]
        simp only [↓reduceIte, ↓mq_124_0, ↓mq_124_1, ↓mq_124_2, ↓mq_124_5, ↓mq_124_6, ↓mq_124_9, ↓mq_124_10, ↓mq_124_11, ↓mq_124_12, ↓mq_124_15, ↓mq_124_18, ↓mq_124_20, ↓mq_124_21, ↓mq_124_22, ↓mq_124_23, ↓mq_124_26, ↓mq_124_29, ↓mq_124_32, ↓mq_124_34, ↓mq_124_35, ↓mq_124_36, ↓mq_124_39, ↓mq_124_40, ↓mq_124_41, ↓mq_124_44, ↓mq_124_47, ↓mj_bs (mr_th hrb), ↓mj_bs (mr_b15 hrb), ↓mj_bs (mp_3 G), ↓mj_bs (mr_bn hrb), mt_lt hc, mr_is hrb, ↓mj_bs (mt_125 wr wm Rr G), Option.toList, List.cons_append, List.nil_append, mj_b0, hq]
    · obtain ⟨h1, e1, L1, F1⟩ := mt_2 Ac M (by omega)
      have no1 : ∀ k, k < 24 → ¬ mh_A 24 (24 + 29) k := fun k hk z => by have := z.1; omega
      have M1 := M.kp F1 (no1 _ (by omega)) (no1 _ (by omega))
      have Ro1 := Ro.kp F1 (fun k a b => no1 k (by omega))
      have o11 := (F1.2 1 (no1 _ (by omega))).trans o1
      obtain ⟨h2, e2, M2, F2⟩ := mt_18 wr wm Ro1 (by omega) M1 hq
      refine mo_act JJ (mw_come wr wm hq) L1 F1 M2 F2 (v := mm_left (ms_r S) (ms_m S)) ?_ ?_
      · rw [mc_67]
        simp only [↓reduceIte, ↓mq_67_0, ↓mq_67_1, ↓mq_67_4, ↓mq_67_7, ↓mq_67_10, ↓mq_67_12, ↓mq_67_13, ↓mq_67_14, ↓mq_67_17, ↓mq_67_20, ↓mq_67_23, ↓mq_67_25, ↓mq_67_26, ↓mq_67_27, ↓mq_67_30, ↓mq_67_31, ↓mq_67_34, ↓mq_67_37, ↓mq_67_38, ↓mq_67_41, ↓mq_67_44, ↓mj_bs (mh_gf 3 o1 rfl), mh_isC M.1, ↓mj_bs (e12), ↓mj_bs (e16), Option.toList, List.cons_append, List.nil_append, mj_b0, hh, hq, Bool.true_eq_false, ↓mj_bs (mh_gf 5 o1 rfl), mh_isC Ac.choose_spec.2.2.1, ↓mj_bs (e1), ↓mj_bs (mh_gf 3 o11 rfl), mh_isC M1.1, ↓mj_bs (e2)]
      · intro h R
        have Rr := R.rr
        have hrb := Rr.1
        have G := R.pg
        obtain ⟨g1, f1, R1, D1⟩ := mt_126 R wS.2.2.2.2.2.1
        have Rr1 := R1.rr
        have hrb1 := Rr1.1
        have G1 := R1.pg
        obtain ⟨g2, f2, G2, D2⟩ := mt_127 wr wm Rr1 G1 (by omega) hq
        refine ⟨g2, ?_, R1.pgw D2 G2, (D1.mo (fun k z => by omega)).tt (D2.mo (fun k z => by omega))⟩
        rw [mc_124]
        simp only [↓reduceIte, ↓mq_124_0, ↓mq_124_1, ↓mq_124_2, ↓mq_124_5, ↓mq_124_6, ↓mq_124_9, ↓mq_124_10, ↓mq_124_11, ↓mq_124_12, ↓mq_124_15, ↓mq_124_18, ↓mq_124_20, ↓mq_124_21, ↓mq_124_22, ↓mq_124_23, ↓mq_124_26, ↓mq_124_29, ↓mq_124_32, ↓mq_124_34, ↓mq_124_35, ↓mq_124_36, ↓mq_124_39, ↓mq_124_40, ↓mq_124_41, ↓mq_124_44, ↓mq_124_47, ↓mj_bs (mr_th hrb), ↓mj_bs (mr_b15 hrb), ↓mj_bs (mp_3 G), ↓mj_bs (mr_bn hrb), mt_lt hc, mr_is hrb, ↓mj_bs (mt_125 wr wm Rr G), Option.toList, List.cons_append, List.nil_append, mj_b0, hq, Bool.true_eq_false, ↓mj_bs (f1), ↓mj_bs (mr_b15 hrb1), mr_is hrb1]
        rw [mj_bs f2]
        simp only [↓reduceIte, ↓mq_124_0, ↓mq_124_1, ↓mq_124_2, ↓mq_124_5, ↓mq_124_6, ↓mq_124_9, ↓mq_124_10, ↓mq_124_11, ↓mq_124_12, ↓mq_124_15, ↓mq_124_18, ↓mq_124_20, ↓mq_124_21, ↓mq_124_22, ↓mq_124_23, ↓mq_124_26, ↓mq_124_29, ↓mq_124_32, ↓mq_124_34, ↓mq_124_35, ↓mq_124_36, ↓mq_124_39, ↓mq_124_40, ↓mq_124_41, ↓mq_124_44, ↓mq_124_47, Option.toList, List.cons_append, List.nil_append]
  · have hh : mm_has (ms_r S) (ms_m S) = false := decide_eq_false hc
    refine mh_opQ (v := .int (-3)) JJ ?_ ?_
    · rw [mc_67]
      simp only [↓reduceIte, ↓mq_67_0, ↓mq_67_1, ↓mq_67_4, ↓mq_67_7, ↓mq_67_10, ↓mq_67_12, ↓mq_67_13, ↓mq_67_14, ↓mq_67_17, ↓mq_67_20, ↓mq_67_23, ↓mq_67_25, ↓mq_67_26, ↓mq_67_27, ↓mq_67_30, ↓mq_67_31, ↓mq_67_34, ↓mq_67_37, ↓mq_67_38, ↓mq_67_41, ↓mq_67_44, ↓mj_bs (mh_gf 3 o1 rfl), mh_isC M.1, ↓mj_bs (e12), Option.toList, List.cons_append, List.nil_append, mj_b0, hh]
    · rw [mc_124]
      simp only [↓reduceIte, ↓mq_124_0, ↓mq_124_1, ↓mq_124_2, ↓mq_124_5, ↓mq_124_6, ↓mq_124_9, ↓mq_124_10, ↓mq_124_11, ↓mq_124_12, ↓mq_124_15, ↓mq_124_18, ↓mq_124_20, ↓mq_124_21, ↓mq_124_22, ↓mq_124_23, ↓mq_124_26, ↓mq_124_29, ↓mq_124_32, ↓mq_124_34, ↓mq_124_35, ↓mq_124_36, ↓mq_124_39, ↓mq_124_40, ↓mq_124_41, ↓mq_124_44, ↓mq_124_47, ↓mj_bs (mr_th hrb), ↓mj_bs (mr_b15 hrb), ↓mj_bs (mp_3 G), ↓mj_bs (mr_bn hrb), mf_lt (Nat.le_of_not_lt hc)]
theorem mo_68 (J : mh_J S h) : mh_op 68 128 [] h := by
  have JJ := J
  obtain ⟨wS, C, R⟩ := J
  have wr := wS.2.2.1
  have wm := wS.2.2.2.1
  have Rr := R.rr
  have hrb := Rr.1
  have G := R.pg
  obtain ⟨o1, -, Ro, -, M, -, Ac, -⟩ := C
  have hn9 := wr.1
  have hm9 := wm.2.2.1
  have e12 := mt_12 wr wm Ro M
  by_cases hc : ma_n (ms_m S) < mr_n (ms_r S)
  · have hh : mm_has (ms_r S) (ms_m S) = true := decide_eq_true hc
    have wsk := mw_skip wm hc
    obtain ⟨h1, e1, L1, F1⟩ := mt_2 Ac M (by omega)
    have no1 : ∀ k, k < 24 → ¬ mh_A 24 (24 + 29) k := fun k hk z => by have := z.1; omega
    have M1 := M.kp F1 (no1 _ (by omega)) (no1 _ (by omega))
    have Ro1 := Ro.kp F1 (fun k a b => no1 k (by omega))
    have o11 := (F1.2 1 (no1 _ (by omega))).trans o1
    obtain ⟨h2, e2, M2, F2⟩ := mt_20 wr wm Ro1 M1 hc
    have o12 := (F2.2 1 (by omega)).trans o11
    have Ro2 := Ro1.kp F2 (fun k a b => by omega)
    have e11 := mt_11 wr wsk Ro2 M2
    have F2' : mh_F (mh_A 20 21) h1 h2 := F2.mo (fun k z => by subst z; exact ⟨by omega, by omega⟩)
    have key : ∀ v : Int32, (if ma_n (mm_skip (ms_m S)) < mr_n (ms_r S) then nI (ma_n (mm_skip (ms_m S))) else -9) = v → mh_op 68 128 [] h := by
      intro v hv
      have F : mh_F (mh_A 20 53) h h2 := (F1.mo (fun k z => ⟨by have := z.1; omega, z.2⟩)).tt (F2'.mo (fun k z => ⟨z.1, by have := z.2; omega⟩))
      obtain ⟨μt, T⟩ := JJ.2.1.2.2.2.2.2.1
      refine mh_opI (v := .int v) (S' := (ms_t S, ms_r S, mm_skip (ms_m S), mm_rem (ms_a S) (ms_m S), ms_k S, ms_s S, ms_g S)) JJ (h1 := h2) ⟨wS.1, wS.2.1, wS.2.2.1, wsk, mw_rem wS.2.2.2.2.1 wS.2.2.2.1, mm_rem14 wS.2.2.2.2.2.1, wS.2.2.2.2.2.2⟩ ?_ (F.mo (fun k z => ⟨by have := z.1; omega, by have := z.2; omega⟩)) (JJ.2.1.ma F M2 ((T.kp F1 (fun z => by have := z.1; omega) (fun z => by have := z.1; omega)).kp F2 (by omega) (by omega)) (L1.kp F2 (fun k a b z => by omega))) ?_
      · rw [mc_68]
        rw [hv] at e11
        simp only [↓reduceIte, ↓mq_68_0, ↓mq_68_1, ↓mq_68_4, ↓mq_68_7, ↓mq_68_10, ↓mq_68_12, ↓mq_68_13, ↓mq_68_14, ↓mq_68_17, ↓mq_68_18, ↓mq_68_21, ↓mq_68_24, ↓mq_68_25, ↓mq_68_28, ↓mq_68_31, ↓mq_68_32, ↓mq_68_35, ↓mq_68_38, ↓mj_bs (mh_gf 3 o1 rfl), mh_isC M.1, ↓mj_bs (e12), Option.toList, List.cons_append, List.nil_append, mj_b0, hh, Bool.true_eq_false, ↓mj_bs (mh_gf 5 o1 rfl), mh_isC Ac.choose_spec.2.2.1, ↓mj_bs (e1), ↓mj_bs (mh_gf 3 o11 rfl), mh_isC M1.1, ↓mj_bs (e2), ↓mj_bs (mh_gf 3 o12 rfl), mh_isC M2.1, ↓mj_bs (e11)]
      · intro R
        have Rr := R.rr
        have hrb := Rr.1
        have G := R.pg
        obtain ⟨g1, f1, R1, D1⟩ := mt_126 R wS.2.2.2.2.2.1
        have Rr1 := R1.rr
        have hrb1 := Rr1.1
        have G1 := R1.pg
        obtain ⟨g2, f2, G2, D2⟩ := mp_u3 G1 (ma_n (ms_m S) + 1)
        have R2 := R1.pgw D2 G2
        have hrb2 := R2.rr.1
        refine ⟨g2, ?_, R2, (D1.mo (fun k z => by omega)).tt (D2.mo (fun k z => by omega))⟩
        have g13 := mp_3 G1
        have g23 := mp_3 G2
        have bn2 : mj_gf g2 65 7 4 = some (.int (nI (mr_n (ms_r S)))) := mr_bn hrb2
        have g13' : mj_gi g1 73 (nI 3) = some (nI (ma_n (ms_m S))) := g13
        have g23' : mj_gi g2 73 (nI 3) = some (nI (ma_n (ms_m S) + 1)) := g23
        rw [mc_128, ← hv]
        by_cases hc2 : ma_n (ms_m S) + 1 < mr_n (ms_r S)
        · simp only [↓reduceIte, ↓mq_128_0, ↓mq_128_1, ↓mq_128_2, ↓mq_128_5, ↓mq_128_6, ↓mq_128_9, ↓mq_128_10, ↓mq_128_11, ↓mq_128_12, ↓mq_128_15, ↓mq_128_18, ↓mq_128_20, ↓mq_128_21, ↓mq_128_22, ↓mq_128_25, ↓mq_128_26, ↓mq_128_29, ↓mq_128_30, ↓mq_128_31, ↓mq_128_32, ↓mq_128_33, ↓mq_128_34, ↓mq_128_35, ↓mq_128_36, ↓mq_128_39, ↓mq_128_40, ↓mq_128_41, ↓mq_128_42, ↓mq_128_45, ↓mq_128_48, ↓mq_128_49, ↓mq_128_52, ↓mq_128_53, ↓mq_128_54, ↓mq_128_57, ↓mq_128_59, ↓mj_bs (mr_th hrb), ↓mj_bs (mr_b15 hrb), ↓mj_bs (mp_3 G), ↓mj_bs (mr_bn hrb), mt_lt hc, mr_is hrb, ↓mj_bs (f1), Option.toList, List.cons_append, List.nil_append, ↓mj_bs (mr_b15 hrb1), ↓mj_bs (g13'), mn_add, ↓mj_bs (f2), ↓mj_bs (mr_b15 hrb2), ↓mj_bs (g23'), ↓mj_bs (bn2), mf_le hc2, mm_skip, ma_n_mk, hc2]
        · simp only [↓reduceIte, ↓mq_128_0, ↓mq_128_1, ↓mq_128_2, ↓mq_128_5, ↓mq_128_6, ↓mq_128_9, ↓mq_128_10, ↓mq_128_11, ↓mq_128_12, ↓mq_128_15, ↓mq_128_18, ↓mq_128_20, ↓mq_128_21, ↓mq_128_22, ↓mq_128_25, ↓mq_128_26, ↓mq_128_29, ↓mq_128_30, ↓mq_128_31, ↓mq_128_32, ↓mq_128_33, ↓mq_128_34, ↓mq_128_35, ↓mq_128_36, ↓mq_128_39, ↓mq_128_40, ↓mq_128_41, ↓mq_128_42, ↓mq_128_45, ↓mq_128_48, ↓mq_128_49, ↓mq_128_52, ↓mq_128_53, ↓mq_128_54, ↓mq_128_57, ↓mq_128_59, ↓mj_bs (mr_th hrb), ↓mj_bs (mr_b15 hrb), ↓mj_bs (mp_3 G), ↓mj_bs (mr_bn hrb), mt_lt hc, mr_is hrb, ↓mj_bs (f1), Option.toList, List.cons_append, List.nil_append, ↓mj_bs (mr_b15 hrb1), ↓mj_bs (g13'), mn_add, ↓mj_bs (f2), ↓mj_bs (mr_b15 hrb2), ↓mj_bs (g23'), ↓mj_bs (bn2), mt_le (Nat.le_of_not_lt hc2), mm_skip, ma_n_mk, hc2]
    exact key _ rfl
  · have hh : mm_has (ms_r S) (ms_m S) = false := decide_eq_false hc
    refine mh_opQ (v := .int (-3)) JJ ?_ ?_
    · rw [mc_68]
      simp only [↓reduceIte, ↓mq_68_0, ↓mq_68_1, ↓mq_68_4, ↓mq_68_7, ↓mq_68_10, ↓mq_68_12, ↓mq_68_13, ↓mq_68_14, ↓mq_68_17, ↓mq_68_18, ↓mq_68_21, ↓mq_68_24, ↓mq_68_25, ↓mq_68_28, ↓mq_68_31, ↓mq_68_32, ↓mq_68_35, ↓mq_68_38, ↓mj_bs (mh_gf 3 o1 rfl), mh_isC M.1, ↓mj_bs (e12), Option.toList, List.cons_append, List.nil_append, mj_b0, hh]
    · rw [mc_128]
      simp only [↓reduceIte, ↓mq_128_0, ↓mq_128_1, ↓mq_128_2, ↓mq_128_5, ↓mq_128_6, ↓mq_128_9, ↓mq_128_10, ↓mq_128_11, ↓mq_128_12, ↓mq_128_15, ↓mq_128_18, ↓mq_128_20, ↓mq_128_21, ↓mq_128_22, ↓mq_128_25, ↓mq_128_26, ↓mq_128_29, ↓mq_128_30, ↓mq_128_31, ↓mq_128_32, ↓mq_128_33, ↓mq_128_34, ↓mq_128_35, ↓mq_128_36, ↓mq_128_39, ↓mq_128_40, ↓mq_128_41, ↓mq_128_42, ↓mq_128_45, ↓mq_128_48, ↓mq_128_49, ↓mq_128_52, ↓mq_128_53, ↓mq_128_54, ↓mq_128_57, ↓mq_128_59, ↓mj_bs (mr_th hrb), ↓mj_bs (mr_b15 hrb), ↓mj_bs (mp_3 G), ↓mj_bs (mr_bn hrb), mf_lt (Nat.le_of_not_lt hc)]
theorem mo_69 (J : mh_J S h) : mh_op 69 129 [] h := by
  have JJ := J
  obtain ⟨wS, C, R⟩ := J
  have wr := wS.2.2.1
  have wm := wS.2.2.2.1
  obtain ⟨o1, -, Ro, -, M, -, Ac, -⟩ := C
  obtain ⟨h1, e1, L1, F1⟩ := mt_2 Ac M (by omega)
  have no1 : ∀ k, k < 24 → ¬ mh_A 24 (24 + 29) k := fun k hk z => by have := z.1; omega
  have M1 := M.kp F1 (no1 _ (by omega)) (no1 _ (by omega))
  have Ro1 := Ro.kp F1 (fun k a b => no1 k (by omega))
  have o11 := (F1.2 1 (no1 _ (by omega))).trans o1
  obtain ⟨h2, e2, M2, F2⟩ := mt_21 wr wm Ro1 (by omega) M1
  refine mo_act JJ (mw_slp wr wm) L1 F1 M2 (F2.mo (fun k z => by subst z; exact ⟨by omega, by omega⟩)) (v := mm_slw (ms_r S) (ms_m S)) ?_ ?_
  · rw [mc_69]
    simp only [↓reduceIte, ↓mq_69_0, ↓mq_69_1, ↓mq_69_4, ↓mq_69_5, ↓mq_69_8, ↓mq_69_11, ↓mq_69_12, ↓mq_69_15, ↓mq_69_18, ↓mj_bs (mh_gf 3 o1 rfl), Option.toList, List.cons_append, List.nil_append, ↓mj_bs (mh_gf 5 o1 rfl), mh_isC Ac.choose_spec.2.2.1, ↓mj_bs (e1), ↓mj_bs (mh_gf 3 o11 rfl), mh_isC M1.1, ↓mj_bs (e2)]
  · intro h R
    have Rr := R.rr
    have hrb := Rr.1
    have G := R.pg
    obtain ⟨g1, f1, R1, D1⟩ := mt_126 R wS.2.2.2.2.2.1
    have Rr1 := R1.rr
    have hrb1 := Rr1.1
    have G1 := R1.pg
    obtain ⟨g2, f2, G2, D2⟩ := mt_130 wr wm Rr1 G1 (by omega)
    refine ⟨g2, ?_, R1.pgw D2 G2, (D1.mo (fun k z => by omega)).tt (D2.mo (fun k z => by omega))⟩
    rw [mc_129]
    simp only [↓reduceIte, ↓mq_129_0, ↓mq_129_1, ↓mq_129_2, ↓mq_129_5, ↓mq_129_6, ↓mq_129_9, ↓mq_129_10, ↓mq_129_11, ↓mq_129_14, ↓mq_129_17, ↓mj_bs (mr_th hrb), mr_is hrb, ↓mj_bs (f1), Option.toList, List.cons_append, List.nil_append, ↓mj_bs (mr_b15 hrb1), mr_is hrb1]
    rw [mj_bs f2]
    simp only [↓reduceIte, ↓mq_129_0, ↓mq_129_1, ↓mq_129_2, ↓mq_129_5, ↓mq_129_6, ↓mq_129_9, ↓mq_129_10, ↓mq_129_11, ↓mq_129_14, ↓mq_129_17, Option.toList, List.cons_append, List.nil_append]
theorem mo_70 (J : mh_J S h) : mh_op 70 131 [] h := by
  have JJ := J
  obtain ⟨wS, C, R⟩ := J
  have wr := wS.2.2.1
  have wm := wS.2.2.2.1
  have Rr := R.rr
  have hrb := Rr.1
  have G := R.pg
  obtain ⟨o1, -, Ro, -, M, -, Ac, -⟩ := C
  have ho9 := wm.2.2.2.1
  have e22 := mt_22 wr wm Ro M
  cases hq : mm_cul (ms_r S) (ms_m S)
  · refine mh_opQ (v := .int (-3)) JJ ?_ ?_
    · rw [mc_70]
      simp only [↓reduceIte, ↓mq_70_0, ↓mq_70_1, ↓mq_70_4, ↓mq_70_7, ↓mq_70_10, ↓mq_70_12, ↓mq_70_13, ↓mq_70_14, ↓mq_70_17, ↓mq_70_18, ↓mq_70_21, ↓mq_70_24, ↓mq_70_25, ↓mq_70_28, ↓mq_70_31, ↓mj_bs (mh_gf 3 o1 rfl), mh_isC M.1, ↓mj_bs (e22), Option.toList, List.cons_append, List.nil_append, mj_b0, hq]
    · rw [mc_131]
      simp only [↓reduceIte, ↓mq_131_0, ↓mq_131_1, ↓mq_131_2, ↓mq_131_5, ↓mq_131_6, ↓mq_131_7, ↓mq_131_10, ↓mq_131_13, ↓mq_131_16, ↓mq_131_18, ↓mq_131_19, ↓mq_131_20, ↓mq_131_23, ↓mq_131_24, ↓mq_131_27, ↓mq_131_28, ↓mq_131_29, ↓mq_131_30, ↓mq_131_31, ↓mq_131_32, ↓mq_131_33, ↓mq_131_34, ↓mq_131_37, ↓mq_131_38, ↓mq_131_39, ↓mq_131_40, ↓mq_131_41, ↓mj_bs (mr_th hrb), ↓mj_bs (mr_b15 hrb), mr_is hrb, ↓mj_bs (mt_132 wr wm Rr G), Option.toList, List.cons_append, List.nil_append, mj_b0, hq]
  · obtain ⟨h1, e1, L1, F1⟩ := mt_2 Ac M (by omega)
    have no1 : ∀ k, k < 24 → ¬ mh_A 24 (24 + 29) k := fun k hk z => by have := z.1; omega
    have M1 := M.kp F1 (no1 _ (by omega)) (no1 _ (by omega))
    have o11 := (F1.2 1 (no1 _ (by omega))).trans o1
    obtain ⟨h2, e2, M2, F2⟩ := mt_23 M1
    refine mo_act JJ (mw_unl wm hq) L1 F1 M2 (F2.mo (fun k z => by subst z; exact ⟨by omega, by omega⟩)) (v := ma_o (ms_m S)) ?_ ?_
    · rw [mc_70]
      simp only [↓reduceIte, ↓mq_70_0, ↓mq_70_1, ↓mq_70_4, ↓mq_70_7, ↓mq_70_10, ↓mq_70_12, ↓mq_70_13, ↓mq_70_14, ↓mq_70_17, ↓mq_70_18, ↓mq_70_21, ↓mq_70_24, ↓mq_70_25, ↓mq_70_28, ↓mq_70_31, ↓mj_bs (mh_gf 3 o1 rfl), mh_isC M.1, ↓mj_bs (e22), Option.toList, List.cons_append, List.nil_append, mj_b0, hq, Bool.true_eq_false, ↓mj_bs (mh_gf 5 o1 rfl), mh_isC Ac.choose_spec.2.2.1, ↓mj_bs (e1), ↓mj_bs (mh_gf 3 o11 rfl), mh_isC M1.1, ↓mj_bs (e2)]
    · intro h R
      have Rr := R.rr
      have hrb := Rr.1
      have G := R.pg
      obtain ⟨g1, f1, R1, D1⟩ := mt_126 R wS.2.2.2.2.2.1
      have hrb1 := R1.rr.1
      have G1 := R1.pg
      obtain ⟨g2, f2, G2, D2⟩ := mp_u4 G1 (ma_o (ms_m S) + 1)
      have R2 := R1.pgw D2 G2
      have hrb2 := R2.rr.1
      have g13' : mj_gi g1 73 (nI 4) = some (nI (ma_o (ms_m S))) := mp_4 G1
      have g23' : mj_gi g2 73 (nI 4) = some (nI (ma_o (ms_m S) + 1)) := mp_4 G2
      refine ⟨g2, ?_, R2, (D1.mo (fun k z => by omega)).tt (D2.mo (fun k z => by omega))⟩
      rw [mc_131]
      simp only [↓reduceIte, ↓mq_131_0, ↓mq_131_1, ↓mq_131_2, ↓mq_131_5, ↓mq_131_6, ↓mq_131_7, ↓mq_131_10, ↓mq_131_13, ↓mq_131_16, ↓mq_131_18, ↓mq_131_19, ↓mq_131_20, ↓mq_131_23, ↓mq_131_24, ↓mq_131_27, ↓mq_131_28, ↓mq_131_29, ↓mq_131_30, ↓mq_131_31, ↓mq_131_32, ↓mq_131_33, ↓mq_131_34, ↓mq_131_37, ↓mq_131_38, ↓mq_131_39, ↓mq_131_40, ↓mq_131_41, ↓mj_bs (mr_th hrb), ↓mj_bs (mr_b15 hrb), mr_is hrb, ↓mj_bs (mt_132 wr wm Rr G), Option.toList, List.cons_append, List.nil_append, mj_b0, hq, Bool.true_eq_false, ↓mj_bs (f1), ↓mj_bs (mr_b15 hrb1), ↓mj_bs (g13'), mn_add, ↓mj_bs (f2), ↓mj_bs (mr_b15 hrb2), ↓mj_bs (g23'), mn_sub (show 1 ≤ ma_o (ms_m S) + 1 by omega), Nat.add_sub_cancel]
theorem mo_71 (J : mh_J S h) : mh_op 71 134 [] h := by
  have JJ := J
  obtain ⟨wS, C, R⟩ := J
  have wr := wS.2.2.1
  have wm := wS.2.2.2.1
  have hrb := R.rr.1
  have C' := C
  obtain ⟨o1, -, Ro, -, M, ⟨μt, T⟩, Ac, -⟩ := C
  have h14 := wS.2.2.2.2.2.1
  rcases List.eq_nil_or_concat (ms_a S) with hA | ⟨l, ν, hA⟩
  · obtain ⟨pl', rb, rg, rp, o⟩ := R.1
    rw [hA] at Ac o
    refine mh_opQ (v := .int (-3)) JJ ?_ ?_
    · rw [mc_71]
      simp only [↓reduceIte, ↓mq_71_0, ↓mq_71_1, ↓mq_71_4, ↓mq_71_5, ↓mq_71_8, ↓mq_71_11, ↓mq_71_14, ↓mq_71_15, ↓mq_71_18, ↓mq_71_21, ↓mq_71_24, ↓mq_71_26, ↓mj_bs (mh_gf 5 o1 rfl), ↓mj_bs (mh_gf 3 o1 rfl), mh_isC Ac.choose_spec.2.2.1, ↓mj_bs (mt_4n Ac), Option.toList, List.cons_append, List.nil_append]
    · rw [mc_134]
      simp only [↓reduceIte, ↓mq_134_0, ↓mq_134_1, ↓mq_134_2, ↓mq_134_5, ↓mq_134_6, ↓mq_134_9, ↓mq_134_12, ↓mq_134_14, ↓mq_134_15, ↓mq_134_16, ↓mq_134_17, ↓mq_134_20, ↓mq_134_21, ↓mq_134_22, ↓mq_134_25, ↓mq_134_26, ↓mq_134_27, ↓mq_134_28, ↓mq_134_30, ↓mq_134_33, ↓mq_134_34, ↓mq_134_37, ↓mq_134_38, ↓mq_134_39, ↓mq_134_42, ↓mq_134_44, ↓mq_134_45, ↓mq_134_48, ↓mq_134_49, ↓mq_134_50, ↓mq_134_51, ↓mq_134_52, ↓mq_134_53, ↓mq_134_56, ↓mq_134_59, ↓mq_134_60, ↓mq_134_63, ↓mj_bs (mr_th hrb), ↓mj_bs (mh_gf 18 o rfl), List.length_nil]
  · rw [List.concat_eq_append] at hA
    have wν : mw_M (ms_r S) ν := wS.2.2.2.2.1 ν (by rw [hA]; simp)
    have wl : ∀ μ ∈ l, mw_M (ms_r S) μ := fun μ hμ => wS.2.2.2.2.1 μ (by rw [hA]; exact List.mem_append_left _ hμ)
    have hll : l.length < 14 := by rw [hA] at h14; simp at h14; omega
    have Ac0 := Ac
    rw [hA] at Ac
    obtain ⟨h1, e1, L1, M1, F1⟩ := mt_4 Ac M (by omega)
    have no1 : ∀ k, k ≠ 20 → k ≠ 21 → k ≠ 24 → ¬ (k = 24 ∨ mh_A 20 (20 + 1) k) := fun k a b c z => by
      rcases z with z | z
      · exact c z
      · have z1 := z.1; have z2 := z.2; omega
    have o11 := (F1.2 1 (no1 _ (by omega) (by omega) (by omega))).trans o1
    have F : mh_F (mh_A 20 53) h h1 := F1.mo (fun k z => by
      rcases z with z | z
      · subst z; exact ⟨by omega, by omega⟩
      · exact ⟨z.1, by have := z.2; omega⟩)
    refine mh_opI (v := .int (nI l.length)) (S' := (ms_t S, ms_r S, ν, l, ms_k S, ms_s S, ms_g S)) JJ (h1 := h1) ⟨wS.1, wS.2.1, wr, wν, wl, by show l.length ≤ 14; omega, wS.2.2.2.2.2.2⟩ ?_ (F.mo (fun k z => ⟨by have := z.1; omega, by have := z.2; omega⟩)) (C'.ma F M1 (T.kp F1 (no1 _ (by omega) (by omega) (by omega)) (no1 _ (by omega) (by omega) (by omega))) L1) ?_
    · rw [mc_71]
      simp only [↓reduceIte, ↓mq_71_0, ↓mq_71_1, ↓mq_71_4, ↓mq_71_5, ↓mq_71_8, ↓mq_71_11, ↓mq_71_14, ↓mq_71_15, ↓mq_71_18, ↓mq_71_21, ↓mq_71_24, ↓mq_71_26, ↓mj_bs (mh_gf 5 o1 rfl), ↓mj_bs (mh_gf 3 o1 rfl), mh_isC Ac.choose_spec.2.2.1, ↓mj_bs (e1), Option.toList, List.cons_append, List.nil_append, mf_eq (show 1 ≠ 0 by omega), ↓mj_bs (mh_gf 5 o11 rfl), ↓mj_bs (mh_gf 2 L1.choose_spec.2.2.1 rfl)]
    · intro R
      have hrb := R.rr.1
      obtain ⟨⟨pl, rb, rg, rp, o⟩, h2, ⟨h3, h4, h5⟩, ⟨h6, h7, h8⟩, G, h10, ⟨fb, B1, B2⟩, h12, h13, h14, h15, h16, h17⟩ := R
      rw [hA] at o
      simp only [List.length_append, List.length_cons, List.length_nil, Nat.zero_add] at o
      have F9 : mh_F (fun k => k = 65) h1 (mj_up h1 65 (.inr (7, mr_fs (nI (ms_t S).length) pl (nI (mr_n (ms_r S))) (nI (mr_g (ms_r S))) rb rg rp (nI l.length) (nI (ms_s S).length) (ms_g S)))) := mh_uF
      obtain ⟨g9, hg9⟩ : ∃ g, g = mj_up h1 65 (.inr (7, mr_fs (nI (ms_t S).length) pl (nI (mr_n (ms_r S))) (nI (mr_g (ms_r S))) rb rg rp (nI l.length) (nI (ms_s S).length) (ms_g S))) := ⟨_, rfl⟩
      have o9 : g9.1 65 = some (.inr (7, mr_fs (nI (ms_t S).length) pl (nI (mr_n (ms_r S))) (nI (mr_g (ms_r S))) rb rg rp (nI l.length) (nI (ms_s S).length) (ms_g S))) := by rw [hg9]; exact mh_ua
      have e9 : mj_pf h1 65 7 18 (.int (nI l.length)) = some g9 := by rw [hg9]; exact mh_pf 18 o (by simp) rfl
      rw [← hg9] at F9
      have B9 := B1.kp F9 (by omega)
      have G9 := G.kp F9 (by omega)
      obtain ⟨fp, G91, -⟩ := G9
      have loop : ∀ d i hi fi, i + d = 11 → mh_ar hi 73 11 fi → (∀ j, j < i → fi j = fb (11 * l.length + j)) → mh_F (fun x => x = 73) g9 hi → ∃ h' f', mj_R 134 (27, [.ref 65, .int (nI i)], [], hi) = some (some (.int (nI l.length)), h') ∧ mh_ar h' 73 11 f' ∧ (∀ j, j < 11 → f' j = fb (11 * l.length + j)) ∧ mh_F (fun k => k = 73) g9 h' := by
        intro d
        induction d with
        | zero =>
          intro i hi fi hid ai hf hFi
          obtain rfl : i = 11 := by omega
          have oi := (hFi.2 65 (by omega)).trans o9
          refine ⟨hi, fi, ?_, ai, hf, hFi⟩
          simp only [↓reduceIte, ↓mq_134_0, ↓mq_134_1, ↓mq_134_2, ↓mq_134_5, ↓mq_134_6, ↓mq_134_9, ↓mq_134_12, ↓mq_134_14, ↓mq_134_15, ↓mq_134_16, ↓mq_134_17, ↓mq_134_20, ↓mq_134_21, ↓mq_134_22, ↓mq_134_25, ↓mq_134_26, ↓mq_134_27, ↓mq_134_28, ↓mq_134_30, ↓mq_134_33, ↓mq_134_34, ↓mq_134_37, ↓mq_134_38, ↓mq_134_39, ↓mq_134_42, ↓mq_134_44, ↓mq_134_45, ↓mq_134_48, ↓mq_134_49, ↓mq_134_50, ↓mq_134_51, ↓mq_134_52, ↓mq_134_53, ↓mq_134_56, ↓mq_134_59, ↓mq_134_60, ↓mq_134_63, mt_le (Nat.le_refl 11), ↓mj_bs (mh_gf 18 oi rfl)]
        | succ d ih =>
          intro i hi fi hid ai hf hFi
          have oi := (hFi.2 65 (by omega)).trans o9
          have bi := B9.kp hFi (by omega)
          obtain ⟨h6, e6, a6, F6⟩ := ai.pt (show i < 11 by omega) (by omega) (fb (11 * l.length + i))
          obtain ⟨h', f', r1, r2⟩ := ih (i + 1) h6 _ (by omega) a6 (fun j hj => by
            by_cases e : j = i
            · subst e; exact mh_u_at
            · rw [mh_u_ne e]; exact hf j (by omega)) (hFi.tt F6)
          refine ⟨h', f', ?_, r2⟩
          rw [mq_134_27]
          simp only [↓reduceIte, ↓mq_134_0, ↓mq_134_1, ↓mq_134_2, ↓mq_134_5, ↓mq_134_6, ↓mq_134_9, ↓mq_134_12, ↓mq_134_14, ↓mq_134_15, ↓mq_134_16, ↓mq_134_17, ↓mq_134_20, ↓mq_134_21, ↓mq_134_22, ↓mq_134_25, ↓mq_134_26, ↓mq_134_28, ↓mq_134_30, ↓mq_134_33, ↓mq_134_34, ↓mq_134_37, ↓mq_134_38, ↓mq_134_39, ↓mq_134_42, ↓mq_134_44, ↓mq_134_45, ↓mq_134_48, ↓mq_134_49, ↓mq_134_50, ↓mq_134_51, ↓mq_134_52, ↓mq_134_53, ↓mq_134_56, ↓mq_134_59, ↓mq_134_60, ↓mq_134_63, mf_le (show i < 11 by omega), ↓mj_bs (mh_gf 15 oi rfl), ↓mj_bs (mh_gf 17 oi rfl), ↓mj_bs (mh_gf 18 oi rfl), mn_mul, mn_add, ↓mj_bs (bi.gt (show 11 * l.length + i < 154 by omega) (by omega)), ↓mj_bs (e6)]
          exact r1
      obtain ⟨h', f', r1, r2, r3, r4⟩ := loop 11 0 g9 fp rfl G91 (fun j hj => by omega) mh_F.rf
      have F' : mh_F (fun k => k = 65 ∨ k = 73) h1 h' := (F9.mo (fun k z => Or.inl z)).tt (r4.mo (fun k z => Or.inr z))
      refine ⟨h', ?_, ⟨⟨pl, rb, rg, rp, (r4.2 65 (by omega)).trans o9⟩, h2.kp F' (by omega), ⟨h3.kp F' (by omega), h4.kp F' (by omega), h5.kp F' (by omega)⟩, ⟨h6.kp F' (by omega), h7.kp F' (by omega), h8.kp F' (by omega)⟩, ⟨f', r2, fun j hj hP => by rw [r3 j hj]; exact B2 l.length ν (by rw [hA]; simp) j hj hP⟩, h10.kp F' (by omega), ⟨fb, B1.kp F' (by omega), fun k μ hk => B2 k μ (by
        have hk' : l[k]? = some μ := hk
        rw [hA, List.getElem?_append_left (List.getElem?_eq_some_iff.mp hk').1]; exact hk')⟩, h12.kp F' (by omega), (F'.2 77 (by omega)).trans h13, h14.kp F' (by omega) (by omega), h15.kp F' (by omega), h16.kp F' (by omega), h17.kp F' (by omega)⟩, F'.mo (fun k z => by omega)⟩
      rw [mc_134]
      simp only [↓reduceIte, ↓mq_134_0, ↓mq_134_1, ↓mq_134_2, ↓mq_134_5, ↓mq_134_6, ↓mq_134_9, ↓mq_134_12, ↓mq_134_14, ↓mq_134_15, ↓mq_134_16, ↓mq_134_17, ↓mq_134_20, ↓mq_134_21, ↓mq_134_22, ↓mq_134_25, ↓mq_134_26, ↓mq_134_28, ↓mq_134_30, ↓mq_134_33, ↓mq_134_34, ↓mq_134_37, ↓mq_134_38, ↓mq_134_39, ↓mq_134_42, ↓mq_134_44, ↓mq_134_45, ↓mq_134_48, ↓mq_134_49, ↓mq_134_50, ↓mq_134_51, ↓mq_134_52, ↓mq_134_53, ↓mq_134_56, ↓mq_134_59, ↓mq_134_60, ↓mq_134_63, ↓mj_bs (mr_th hrb), ↓mj_bs (mh_gf 18 o rfl), mf_eq (show l.length + 1 ≠ 0 by omega), mn_sub (show 1 ≤ l.length + 1 by omega), Nat.add_sub_cancel, ↓mj_bs (e9)]
      exact r1
end
