/-! COMMANDS: the boat -/
def mm_ph (s : Nat) : Nat := 64 * (s % 2) + s / 2
def mh_tr (T : Nat → Option Nat) (s : Nat) : Int32 := match T s with
  | some c => nI c
  | none => nI 9999
def mh_Bf (h : mj_H) (b : mm_Bf) : Prop := (∃ T, mh_ar h 80 128 T ∧ ∀ s, s < 128 → T (mm_ph s) = mh_tr b.1 s) ∧ ∃ L, mh_ar h 81 128 L ∧ ∀ i s, b.2[i]? = some s → L i = nI (mm_ph s)
def mh_ln (k : Nat) : Prop := k = 80 ∨ k = 81
theorem mm_ph_lt {s : Nat} (hs : s < 128) : mm_ph s < 128 := by unfold mm_ph; omega
theorem mm_ph_inj {s t : Nat} (hs : s < 128) (ht : t < 128) (h : mm_ph s = mm_ph t) : s = t := by unfold mm_ph at h; omega
theorem mm_ph_at {x s : Nat} (hx : x < 64) (hs : s < 2) : mm_ph (2 * x + s) = 64 * s + x := by unfold mm_ph; omega
theorem mm_go_up {ρ : mm_Ro} {k near side bank d : Nat} {b : mm_Bf} (hb : bank < 64) : ∀ e, bank + 1 + e ≤ 64 → mm_go ρ k near side bank d b (bank + 1 + e) = mm_go ρ k near side bank d b (bank + 1) := by
  intro e
  induction e with
  | zero => intro _; rfl
  | succ e ih =>
    intro he
    have hz := mm_dif_gt (bank + 1 + e) (by omega) bank (by omega)
    rw [show bank + 1 + (e + 1) = (bank + 1 + e) + 1 by omega, mm_go, if_neg, ih (by omega)]
    simp [mm_fit, hz]
theorem mm_subx : ∀ s, s < 64 → ∀ t, t < 64 → mm_dif t s = 0 → mm_dif s t = s ^^^ t := by decide +kernel
theorem mm_disx : ∀ s, s < 64 → ∀ t, t < 64 → s &&& t = 0 → s ||| t = s ^^^ t := by decide +kernel
theorem mm_dis {near l band : Nat} (hn : near < 64) (hl : l < 64) (hb : band < 64) (hz : mm_dif l (mm_dif band near) = 0) : near &&& l = 0 := by
  refine mm_ext _ (mm_and_lt hn) 0 (by omega) (fun j hj => ?_)
  have h1 := mm_dif_at l hl (mm_dif band near) (mm_dif_lt _ hb _ hn) j hj
  rw [hz, mm_dif_at band hb near hn j hj] at h1
  rw [Nat.testBit_and]
  cases h2 : near.testBit j
  · simp
  · cases h3 : l.testBit j
    · simp
    · rw [h2, h3] at h1; simp at h1
section
variable {h : mj_H} {ρ : mm_Ro}
theorem mr_b25 (H : mh_Rb h ρ) : mj_gf h 65 7 25 = some (.ref 80) := by
  obtain ⟨ts, pl, rb, rg, rp, ac, ta, sd, e⟩ := H
  exact mh_gf 25 e rfl
theorem mr_b26 (H : mh_Rb h ρ) : mj_gf h 65 7 26 = some (.ref 81) := by
  obtain ⟨ts, pl, rb, rg, rp, ac, ta, sd, e⟩ := H
  exact mh_gf 26 e rfl
theorem mt_154 (w : mw_R ρ) (H : mh_RR h ρ) {s : Nat} (hs : s < 64) : mj_C 154 [.ref 65, .int (nI s)] h = some (some (.int (mj_bI (!mm_hat ρ s))), h) := by
  have hn := w.1
  have loop : ∀ d i c, i + d = mr_n ρ → c = decide (s &&& mm_or (mr_E ρ) s i = 0) → mj_R 154 (4, [.ref 65, .int (nI s), .int (mj_bI c), .int (nI i)], [], h) = some (some (.int (mj_bI (!mm_hat ρ s))), h) := by
    intro d
    induction d with
    | zero =>
      intro i c hi hc
      obtain rfl : i = mr_n ρ := by omega
      have e : (!mm_hat ρ s) = c := by rw [hc]; simp [mm_hat]
      simp only [↓reduceIte, ↓mq_154_0, ↓mq_154_1, ↓mq_154_2, ↓mq_154_3, ↓mq_154_4, ↓mq_154_5, ↓mq_154_6, ↓mq_154_9, ↓mq_154_12, ↓mq_154_13, ↓mq_154_16, ↓mq_154_17, ↓mq_154_18, ↓mq_154_21, ↓mq_154_24, ↓mq_154_25, ↓mq_154_28, ↓mq_154_29, ↓mq_154_30, ↓mq_154_31, ↓mq_154_32, ↓mq_154_35, ↓mq_154_36, ↓mq_154_39, ↓mq_154_40, ↓mq_154_41, ↓mq_154_44, ↓mq_154_47, ↓mq_154_48, ↓mj_bs (mr_bn H.1), mt_le (Nat.le_refl (mr_n ρ)), mj_zb, e]
    | succ d ih =>
      intro i c hi hc
      have hin : i < mr_n ρ := by omega
      have hE64 : mr_E ρ i &&& s < 64 := Nat.lt_of_le_of_lt Nat.and_le_right hs
      have ih1 := fun hz => ih (i + 1) true (by omega) (decide_eq_true hz).symm
      have ih0 := fun hz => ih (i + 1) false (by omega) (decide_eq_false hz).symm
      rw [mq_154_4]
      have e0 : s &&& mm_or (mr_E ρ) s (i + 1) = (s &&& mm_or (mr_E ρ) s i) ||| (s &&& (if s.testBit i = true then mr_E ρ i else 0)) := by
        rw [mm_or, Nat.and_or_distrib_left]
      cases c
      · have hz : ¬ s &&& mm_or (mr_E ρ) s i = 0 := fun z => by rw [decide_eq_true z] at hc; cases hc
        have ih' := ih0 (by rw [e0]; intro z; exact hz (Nat.or_eq_zero_iff.mp z).1)
        simp only [↓reduceIte, ↓mq_154_0, ↓mq_154_1, ↓mq_154_2, ↓mq_154_3, ↓mq_154_5, ↓mq_154_6, ↓mq_154_9, ↓mq_154_12, ↓mq_154_13, ↓mq_154_16, ↓mq_154_17, ↓mq_154_18, ↓mq_154_21, ↓mq_154_24, ↓mq_154_25, ↓mq_154_28, ↓mq_154_29, ↓mq_154_30, ↓mq_154_31, ↓mq_154_32, ↓mq_154_35, ↓mq_154_36, ↓mq_154_39, ↓mq_154_40, ↓mq_154_41, ↓mq_154_44, ↓mq_154_47, ↓mq_154_48, ↓mj_bs (mr_bn H.1), mf_le hin, mj_b0, mn_add]
        exact ih'
      · have hz : s &&& mm_or (mr_E ρ) s i = 0 := of_decide_eq_true hc.symm
        cases hb : s.testBit i
        · have ih' := ih1 (by rw [e0, hz, hb]; simp)
          simp only [↓reduceIte, ↓mq_154_0, ↓mq_154_1, ↓mq_154_2, ↓mq_154_3, ↓mq_154_5, ↓mq_154_6, ↓mq_154_9, ↓mq_154_12, ↓mq_154_13, ↓mq_154_16, ↓mq_154_17, ↓mq_154_18, ↓mq_154_21, ↓mq_154_24, ↓mq_154_25, ↓mq_154_28, ↓mq_154_29, ↓mq_154_30, ↓mq_154_31, ↓mq_154_32, ↓mq_154_35, ↓mq_154_36, ↓mq_154_39, ↓mq_154_40, ↓mq_154_41, ↓mq_154_44, ↓mq_154_47, ↓mq_154_48, ↓mj_bs (mr_bn H.1), mf_le hin, mj_b0, Bool.true_eq_false, ↓mj_bs (mt_113 hs (show i < 6 by omega)), Option.toList, List.cons_append, List.nil_append, hb, mn_add]
          exact ih'
        · by_cases hE : mr_E ρ i &&& s = 0
          · have ih' := ih1 (by rw [e0, hz, hb, if_pos rfl, Nat.and_comm s, hE]; rfl)
            simp only [↓reduceIte, ↓mq_154_0, ↓mq_154_1, ↓mq_154_2, ↓mq_154_3, ↓mq_154_5, ↓mq_154_6, ↓mq_154_9, ↓mq_154_12, ↓mq_154_13, ↓mq_154_16, ↓mq_154_17, ↓mq_154_18, ↓mq_154_21, ↓mq_154_24, ↓mq_154_25, ↓mq_154_28, ↓mq_154_29, ↓mq_154_30, ↓mq_154_31, ↓mq_154_32, ↓mq_154_35, ↓mq_154_36, ↓mq_154_39, ↓mq_154_40, ↓mq_154_41, ↓mq_154_44, ↓mq_154_47, ↓mq_154_48, ↓mj_bs (mr_bn H.1), mf_le hin, mj_b0, Bool.true_eq_false, ↓mj_bs (mt_113 hs (show i < 6 by omega)), Option.toList, List.cons_append, List.nil_append, hb, ↓mj_bs (mr_b7 H.1), ↓mj_bs (mr_E4 H hn hin), mn_and, mt_eq hE, mn_add]
            exact ih'
          · have ih' := ih0 (by rw [e0, hz, hb, if_pos rfl, Nat.and_comm s, Nat.zero_or]; exact hE)
            simp only [↓reduceIte, ↓mq_154_0, ↓mq_154_1, ↓mq_154_2, ↓mq_154_3, ↓mq_154_5, ↓mq_154_6, ↓mq_154_9, ↓mq_154_12, ↓mq_154_13, ↓mq_154_16, ↓mq_154_17, ↓mq_154_18, ↓mq_154_21, ↓mq_154_24, ↓mq_154_25, ↓mq_154_28, ↓mq_154_29, ↓mq_154_30, ↓mq_154_31, ↓mq_154_32, ↓mq_154_35, ↓mq_154_36, ↓mq_154_39, ↓mq_154_40, ↓mq_154_41, ↓mq_154_44, ↓mq_154_47, ↓mq_154_48, ↓mj_bs (mr_bn H.1), mf_le hin, mj_b0, Bool.true_eq_false, ↓mj_bs (mt_113 hs (show i < 6 by omega)), Option.toList, List.cons_append, List.nil_append, hb, ↓mj_bs (mr_b7 H.1), ↓mj_bs (mr_E4 H hn hin), mn_and, mf_eq hE, mn_add]
            exact ih'
  rw [mc_154]
  simp only [↓reduceIte, ↓mq_154_0, ↓mq_154_1, ↓mq_154_2, ↓mq_154_3, ↓mq_154_5, ↓mq_154_6, ↓mq_154_9, ↓mq_154_12, ↓mq_154_13, ↓mq_154_16, ↓mq_154_17, ↓mq_154_18, ↓mq_154_21, ↓mq_154_24, ↓mq_154_25, ↓mq_154_28, ↓mq_154_29, ↓mq_154_30, ↓mq_154_31, ↓mq_154_32, ↓mq_154_35, ↓mq_154_36, ↓mq_154_39, ↓mq_154_40, ↓mq_154_41, ↓mq_154_44, ↓mq_154_47, ↓mq_154_48]
  exact loop (mr_n ρ) 0 true (by omega) (by simp [mm_or])
/-- the reference enters a state -/
theorem mh_Bf.ent {b : mm_Bf} (H : mh_Bf h b) (hI : mm_BI b) {s d : Nat} (hs : s < 128) (hc : b.1 s = none) : ∃ h1 h2, mj_pi h 80 (nI (mm_ph s)) (nI d) = some h1 ∧ mj_pi h1 81 (nI b.2.length) (nI (mm_ph s)) = some h2 ∧ mh_Bf h2 (mm_ent b s d) ∧ (mm_ent b s d).2.length = b.2.length + 1 ∧ mh_F mh_ln h h1 ∧ mh_F mh_ln h h2 := by
  obtain ⟨⟨T, t1, t2⟩, L, l1, l2⟩ := H
  have hq := hI.room hs hc
  have he : mm_ent b s d = (mh_u b.1 s (some d), b.2 ++ [s]) := by simp [mm_ent, hc]
  obtain ⟨h1, e1, a1, F1⟩ := t1.pt (mm_ph_lt hs) (by omega) (nI d)
  obtain ⟨h2, e2, a2, F2⟩ := (l1.kp F1 (by omega)).pt hq (by omega) (nI (mm_ph s))
  have G1 : mh_F mh_ln h h1 := F1.mo (fun k z => Or.inl z)
  refine ⟨h1, h2, e1, e2, ?_, by rw [he]; simp, G1, G1.tt (F2.mo (fun k z => Or.inr z))⟩
  rw [he]
  refine ⟨⟨_, a1.kp F2 (by omega), fun x hx => ?_⟩, _, a2, fun i x hx => ?_⟩
  · by_cases e : x = s
    · subst e; simp [mh_tr, mh_u_at]
    · rw [mh_u_ne (fun z => e (mm_ph_inj hx hs z)), t2 x hx]; simp only [mh_tr, mh_u_ne e]
  · by_cases hi : i < b.2.length
    · rw [mh_u_ne (by omega)]
      have hx' : (b.2 ++ [s])[i]? = some x := hx
      rw [List.getElem?_append_left hi] at hx'
      exact l2 i x hx'
    · have hx' : (b.2 ++ [s])[i]? = some x := hx
      rw [List.getElem?_append_right (by omega)] at hx'
      have hk0 : i - b.2.length < 1 := (List.getElem?_eq_some_iff.mp hx').1
      have : i = b.2.length := by omega
      subst this
      rw [Nat.sub_self] at hx'
      cases hx'
      exact mh_u_at
theorem mh_Bf.gt {b : mm_Bf} (H : mh_Bf h b) {s : Nat} (hs : s < 128) : mj_gi h 80 (nI (mm_ph s)) = some (mh_tr b.1 s) := by
  obtain ⟨⟨T, t1, t2⟩, -⟩ := H
  rw [t1.gt (mm_ph_lt hs) (by omega), t2 s hs]
/-- from one state on: all loads -/
theorem mt_153r (w : mw_R ρ) (H : mh_RR h ρ) {b : mm_Bf} (B : mh_Bf h b) (hI : mm_BI b) (hBd : ∀ x c, b.1 x = some c → c ≤ 1000) {band s k c i : Nat} (hb : band < 64) (hs : s < 128) (hc : b.1 s = some c) (hk : k < 4) (l9 : Value) : ∃ h' l8 l9', mj_R 153 (123, [.ref 65, .int (nI k), .int (nI band), .int (nI i), .int (nI b.2.length), .int (nI (mm_ph s)), .int (nI (s / 2)), .int (nI (mm_bank band s)), .int (nI 0), l9], [], h) = mj_R 153 (76, [.ref 65, .int (nI k), .int (nI band), .int (nI i), .int (nI (mm_row ρ k band s b).2.length), .int (nI (mm_ph s)), .int (nI (s / 2)), .int (nI (mm_bank band s)), l8, l9'], [], h') ∧ mh_Bf h' (mm_row ρ k band s b) ∧ mh_F mh_ln h h' := by
  have hn := w.1
  have hnear : s / 2 < 64 := by omega
  have hc1 := hBd s c hc
  have hbk := mm_bank_lt hb hs
  have hrow : mm_row ρ k band s b = mm_go ρ k (s / 2) (s % 2) (mm_bank band s) (c + 1) b 64 := by
    have h1 := mm_go_up (ρ := ρ) (k := k) (near := s / 2) (side := s % 2) (d := c + 1) (b := b) hbk (63 - mm_bank band s) (by omega)
    rw [show mm_bank band s + 1 + (63 - mm_bank band s) = 64 by omega] at h1
    rw [h1, mm_row, hc]; rfl
  have ok := fun l (hl : l ≤ 64) => mm_go_ok (ρ := ρ) (k := k) (near := s / 2) (side := s % 2) (bank := mm_bank band s) (d := c + 1) (B := 1001) hI hnear (fun x c h => by have := hBd x c h; omega) (by omega) l hl
  have hsp : mm_ph s < 128 := mm_ph_lt hs
  have loop : ∀ d l hl l9, l + d = 64 → mh_Bf hl (mm_go ρ k (s / 2) (s % 2) (mm_bank band s) (c + 1) b l) → mh_F mh_ln h hl → ∃ h' l8 l9', mj_R 153 (123, [.ref 65, .int (nI k), .int (nI band), .int (nI i), .int (nI (mm_go ρ k (s / 2) (s % 2) (mm_bank band s) (c + 1) b l).2.length), .int (nI (mm_ph s)), .int (nI (s / 2)), .int (nI (mm_bank band s)), .int (nI l), l9], [], hl) = mj_R 153 (76, [.ref 65, .int (nI k), .int (nI band), .int (nI i), .int (nI (mm_row ρ k band s b).2.length), .int (nI (mm_ph s)), .int (nI (s / 2)), .int (nI (mm_bank band s)), l8, l9'], [], h') ∧ mh_Bf h' (mm_row ρ k band s b) ∧ mh_F mh_ln h h' := by
    intro d
    induction d with
    | zero =>
      intro l hl l9 hld Bl Fl
      obtain rfl : l = 64 := by omega
      refine ⟨hl, .int (nI 64), l9, ?_, by rw [hrow]; exact Bl, Fl⟩
      rw [hrow]
      simp only [↓reduceIte, ↓mq_153_0, ↓mq_153_1, ↓mq_153_2, ↓mq_153_5, ↓mq_153_6, ↓mq_153_7, ↓mq_153_8, ↓mq_153_11, ↓mq_153_14, ↓mq_153_17, ↓mq_153_19, ↓mq_153_20, ↓mq_153_21, ↓mq_153_24, ↓mq_153_25, ↓mq_153_26, ↓mq_153_27, ↓mq_153_28, ↓mq_153_31, ↓mq_153_32, ↓mq_153_33, ↓mq_153_34, ↓mq_153_35, ↓mq_153_36, ↓mq_153_39, ↓mq_153_42, ↓mq_153_43, ↓mq_153_46, ↓mq_153_47, ↓mq_153_50, ↓mq_153_51, ↓mq_153_54, ↓mq_153_57, ↓mq_153_58, ↓mq_153_59, ↓mq_153_60, ↓mq_153_62, ↓mq_153_63, ↓mq_153_66, ↓mq_153_67, ↓mq_153_68, ↓mq_153_69, ↓mq_153_70, ↓mq_153_73, ↓mq_153_74, ↓mq_153_75, ↓mq_153_77, ↓mq_153_79, ↓mq_153_82, ↓mq_153_83, ↓mq_153_86, ↓mq_153_87, ↓mq_153_88, ↓mq_153_90, ↓mq_153_93, ↓mq_153_95, ↓mq_153_97, ↓mq_153_98, ↓mq_153_100, ↓mq_153_102, ↓mq_153_104, ↓mq_153_107, ↓mq_153_109, ↓mq_153_112, ↓mq_153_113, ↓mq_153_115, ↓mq_153_116, ↓mq_153_117, ↓mq_153_118, ↓mq_153_120, ↓mq_153_121, ↓mq_153_123, ↓mq_153_125, ↓mq_153_127, ↓mq_153_130, ↓mq_153_132, ↓mq_153_134, ↓mq_153_137, ↓mq_153_139, ↓mq_153_141, ↓mq_153_143, ↓mq_153_144, ↓mq_153_145, ↓mq_153_146, ↓mq_153_147, ↓mq_153_150, ↓mq_153_152, ↓mq_153_154, ↓mq_153_155, ↓mq_153_157, ↓mq_153_159, ↓mq_153_161, ↓mq_153_162, ↓mq_153_163, ↓mq_153_164, ↓mq_153_167, ↓mq_153_169, ↓mq_153_172, ↓mq_153_173, ↓mq_153_176, ↓mq_153_177, ↓mq_153_179, ↓mq_153_181, ↓mq_153_182, ↓mq_153_183, ↓mq_153_184, ↓mq_153_187, ↓mq_153_190, ↓mq_153_191, ↓mq_153_194, ↓mq_153_196, ↓mq_153_197, ↓mq_153_200, ↓mq_153_203, ↓mq_153_204, ↓mq_153_207, ↓mq_153_209, ↓mq_153_210, ↓mq_153_213, ↓mq_153_215, ↓mq_153_216, ↓mq_153_217, ↓mq_153_218, ↓mq_153_219, ↓mq_153_220, ↓mq_153_223, ↓mq_153_225, ↓mq_153_227, ↓mq_153_228, ↓mq_153_231, ↓mq_153_234, ↓mq_153_237, ↓mq_153_240, ↓mq_153_241, ↓mq_153_244, ↓mq_153_246, ↓mq_153_247, ↓mq_153_250, ↓mq_153_253, ↓mq_153_255, ↓mq_153_258, ↓mq_153_259, ↓mq_153_262, ↓mq_153_264, ↓mq_153_265, mt_le (Nat.le_refl 64)]
    | succ d ih =>
      intro l hl l9 hld Bl Fl
      have Hl := H.kp Fl (fun z => by rcases z with z | z <;> omega) (fun z => by rcases z with z | z <;> omega) (fun z => by rcases z with z | z <;> omega) (fun z => by rcases z with z | z <;> omega)
      have hl64 : l < 64 := by omega
      have okl := ok l (by omega)
      have hst : ∀ bb, mm_fit ρ k (mm_bank band s) l = bb → mm_go ρ k (s / 2) (s % 2) (mm_bank band s) (c + 1) b (l + 1) = if bb = true then mm_ent (mm_go ρ k (s / 2) (s % 2) (mm_bank band s) (c + 1) b l) (2 * (s / 2 ^^^ l) + (1 - s % 2)) (c + 1) else mm_go ρ k (s / 2) (s % 2) (mm_bank band s) (c + 1) b l := fun bb e => by rw [mm_go, e]
      have hp6 := mm_pop6 l hl64
      have hdl := mm_dif_lt _ hl64 _ hbk
      have hdn := mm_dif_lt _ hnear _ hl64
      -- where it would go
      obtain ⟨t, ht, htv, hhead⟩ : ∃ t, t < 128 ∧ (mm_dif l (mm_bank band s) = 0 → t = mm_ph (2 * (s / 2 ^^^ l) + (1 - s % 2))) ∧ ∀ n : Nat, mj_R 153 (123, [.ref 65, .int (nI k), .int (nI band), .int (nI i), .int (nI n), .int (nI (mm_ph s)), .int (nI (s / 2)), .int (nI (mm_bank band s)), .int (nI l), l9], [], hl) = mj_R 153 (157, [.ref 65, .int (nI k), .int (nI band), .int (nI i), .int (nI n), .int (nI (mm_ph s)), .int (nI (s / 2)), .int (nI (mm_bank band s)), .int (nI l), .int (nI t)], [], hl) := by
        have hx := mm_xor_lt _ hnear l hl64
        by_cases hsd : s % 2 = 0
        · have hph : mm_ph s < 64 := by unfold mm_ph; omega
          refine ⟨64 + mm_dif (s / 2) l, by omega, fun hz => ?_, fun n => ?_⟩
          · have hbe : mm_bank band s = s / 2 := by simp [mm_bank, hsd]
            rw [hbe] at hz
            rw [mm_ph_at hx (by omega), mm_subx _ hnear _ hl64 hz]; omega
          · rw [mq_153_123]
            simp only [↓reduceIte, ↓mq_153_0, ↓mq_153_1, ↓mq_153_2, ↓mq_153_5, ↓mq_153_6, ↓mq_153_7, ↓mq_153_8, ↓mq_153_11, ↓mq_153_14, ↓mq_153_17, ↓mq_153_19, ↓mq_153_20, ↓mq_153_21, ↓mq_153_24, ↓mq_153_25, ↓mq_153_26, ↓mq_153_27, ↓mq_153_28, ↓mq_153_31, ↓mq_153_32, ↓mq_153_33, ↓mq_153_34, ↓mq_153_35, ↓mq_153_36, ↓mq_153_39, ↓mq_153_42, ↓mq_153_43, ↓mq_153_46, ↓mq_153_47, ↓mq_153_50, ↓mq_153_51, ↓mq_153_54, ↓mq_153_57, ↓mq_153_58, ↓mq_153_59, ↓mq_153_60, ↓mq_153_62, ↓mq_153_63, ↓mq_153_66, ↓mq_153_67, ↓mq_153_68, ↓mq_153_69, ↓mq_153_70, ↓mq_153_73, ↓mq_153_74, ↓mq_153_75, ↓mq_153_76, ↓mq_153_77, ↓mq_153_79, ↓mq_153_82, ↓mq_153_83, ↓mq_153_86, ↓mq_153_87, ↓mq_153_88, ↓mq_153_90, ↓mq_153_93, ↓mq_153_95, ↓mq_153_97, ↓mq_153_98, ↓mq_153_100, ↓mq_153_102, ↓mq_153_104, ↓mq_153_107, ↓mq_153_109, ↓mq_153_112, ↓mq_153_113, ↓mq_153_115, ↓mq_153_116, ↓mq_153_117, ↓mq_153_118, ↓mq_153_120, ↓mq_153_121, ↓mq_153_125, ↓mq_153_127, ↓mq_153_130, ↓mq_153_132, ↓mq_153_134, ↓mq_153_137, ↓mq_153_139, ↓mq_153_141, ↓mq_153_143, ↓mq_153_144, ↓mq_153_145, ↓mq_153_146, ↓mq_153_147, ↓mq_153_150, ↓mq_153_152, ↓mq_153_154, ↓mq_153_155, ↓mq_153_159, ↓mq_153_161, ↓mq_153_162, ↓mq_153_163, ↓mq_153_164, ↓mq_153_167, ↓mq_153_169, ↓mq_153_172, ↓mq_153_173, ↓mq_153_176, ↓mq_153_177, ↓mq_153_179, ↓mq_153_181, ↓mq_153_182, ↓mq_153_183, ↓mq_153_184, ↓mq_153_187, ↓mq_153_190, ↓mq_153_191, ↓mq_153_194, ↓mq_153_196, ↓mq_153_197, ↓mq_153_200, ↓mq_153_203, ↓mq_153_204, ↓mq_153_207, ↓mq_153_209, ↓mq_153_210, ↓mq_153_213, ↓mq_153_215, ↓mq_153_216, ↓mq_153_217, ↓mq_153_218, ↓mq_153_219, ↓mq_153_220, ↓mq_153_223, ↓mq_153_225, ↓mq_153_227, ↓mq_153_228, ↓mq_153_231, ↓mq_153_234, ↓mq_153_237, ↓mq_153_240, ↓mq_153_241, ↓mq_153_244, ↓mq_153_246, ↓mq_153_247, ↓mq_153_250, ↓mq_153_253, ↓mq_153_255, ↓mq_153_258, ↓mq_153_259, ↓mq_153_262, ↓mq_153_264, ↓mq_153_265, mf_le hl64, mf_le hph, mn_dif _ hnear _ hl64, mn_add]
        · have hph : 64 ≤ mm_ph s := by unfold mm_ph; omega
          have hol : s / 2 ||| l < 64 := Nat.or_lt_two_pow (n := 6) hnear hl64
          refine ⟨s / 2 ||| l, by omega, fun hz => ?_, fun n => ?_⟩
          · have hbe : mm_bank band s = mm_dif band (s / 2) := by simp [mm_bank, hsd]
            rw [hbe] at hz
            rw [mm_ph_at hx (by omega), mm_disx _ hnear _ hl64 (mm_dis hnear hl64 hb hz)]; omega
          · rw [mq_153_123]
            simp only [↓reduceIte, ↓mq_153_0, ↓mq_153_1, ↓mq_153_2, ↓mq_153_5, ↓mq_153_6, ↓mq_153_7, ↓mq_153_8, ↓mq_153_11, ↓mq_153_14, ↓mq_153_17, ↓mq_153_19, ↓mq_153_20, ↓mq_153_21, ↓mq_153_24, ↓mq_153_25, ↓mq_153_26, ↓mq_153_27, ↓mq_153_28, ↓mq_153_31, ↓mq_153_32, ↓mq_153_33, ↓mq_153_34, ↓mq_153_35, ↓mq_153_36, ↓mq_153_39, ↓mq_153_42, ↓mq_153_43, ↓mq_153_46, ↓mq_153_47, ↓mq_153_50, ↓mq_153_51, ↓mq_153_54, ↓mq_153_57, ↓mq_153_58, ↓mq_153_59, ↓mq_153_60, ↓mq_153_62, ↓mq_153_63, ↓mq_153_66, ↓mq_153_67, ↓mq_153_68, ↓mq_153_69, ↓mq_153_70, ↓mq_153_73, ↓mq_153_74, ↓mq_153_75, ↓mq_153_76, ↓mq_153_77, ↓mq_153_79, ↓mq_153_82, ↓mq_153_83, ↓mq_153_86, ↓mq_153_87, ↓mq_153_88, ↓mq_153_90, ↓mq_153_93, ↓mq_153_95, ↓mq_153_97, ↓mq_153_98, ↓mq_153_100, ↓mq_153_102, ↓mq_153_104, ↓mq_153_107, ↓mq_153_109, ↓mq_153_112, ↓mq_153_113, ↓mq_153_115, ↓mq_153_116, ↓mq_153_117, ↓mq_153_118, ↓mq_153_120, ↓mq_153_121, ↓mq_153_125, ↓mq_153_127, ↓mq_153_130, ↓mq_153_132, ↓mq_153_134, ↓mq_153_137, ↓mq_153_139, ↓mq_153_141, ↓mq_153_143, ↓mq_153_144, ↓mq_153_145, ↓mq_153_146, ↓mq_153_147, ↓mq_153_150, ↓mq_153_152, ↓mq_153_154, ↓mq_153_155, ↓mq_153_159, ↓mq_153_161, ↓mq_153_162, ↓mq_153_163, ↓mq_153_164, ↓mq_153_167, ↓mq_153_169, ↓mq_153_172, ↓mq_153_173, ↓mq_153_176, ↓mq_153_177, ↓mq_153_179, ↓mq_153_181, ↓mq_153_182, ↓mq_153_183, ↓mq_153_184, ↓mq_153_187, ↓mq_153_190, ↓mq_153_191, ↓mq_153_194, ↓mq_153_196, ↓mq_153_197, ↓mq_153_200, ↓mq_153_203, ↓mq_153_204, ↓mq_153_207, ↓mq_153_209, ↓mq_153_210, ↓mq_153_213, ↓mq_153_215, ↓mq_153_216, ↓mq_153_217, ↓mq_153_218, ↓mq_153_219, ↓mq_153_220, ↓mq_153_223, ↓mq_153_225, ↓mq_153_227, ↓mq_153_228, ↓mq_153_231, ↓mq_153_234, ↓mq_153_237, ↓mq_153_240, ↓mq_153_241, ↓mq_153_244, ↓mq_153_246, ↓mq_153_247, ↓mq_153_250, ↓mq_153_253, ↓mq_153_255, ↓mq_153_258, ↓mq_153_259, ↓mq_153_262, ↓mq_153_264, ↓mq_153_265, mf_le hl64, mt_le hph (show mm_ph s < 2 ^ 31 by omega), mn_or]
      rw [hhead]
      have skip : ∀ hl', hl' = hl → mm_go ρ k (s / 2) (s % 2) (mm_bank band s) (c + 1) b (l + 1) = mm_go ρ k (s / 2) (s % 2) (mm_bank band s) (c + 1) b l → ∃ h' l8 l9', mj_R 153 (231, [.ref 65, .int (nI k), .int (nI band), .int (nI i), .int (nI (mm_go ρ k (s / 2) (s % 2) (mm_bank band s) (c + 1) b l).2.length), .int (nI (mm_ph s)), .int (nI (s / 2)), .int (nI (mm_bank band s)), .int (nI l), .int (nI t)], [], hl') = mj_R 153 (76, [.ref 65, .int (nI k), .int (nI band), .int (nI i), .int (nI (mm_row ρ k band s b).2.length), .int (nI (mm_ph s)), .int (nI (s / 2)), .int (nI (mm_bank band s)), l8, l9'], [], h') ∧ mh_Bf h' (mm_row ρ k band s b) ∧ mh_F mh_ln h h' := by
        intro hl' e1 e2
        subst e1
        obtain ⟨h', l8, l9', r1, r2, r3⟩ := ih (l + 1) hl' (.int (nI t)) (by omega) (by rw [e2]; exact Bl) Fl
        refine ⟨h', l8, l9', ?_, r2, r3⟩
        rw [e2] at r1
        rw [← r1]
        simp only [↓reduceIte, ↓mq_153_0, ↓mq_153_1, ↓mq_153_2, ↓mq_153_5, ↓mq_153_6, ↓mq_153_7, ↓mq_153_8, ↓mq_153_11, ↓mq_153_14, ↓mq_153_17, ↓mq_153_19, ↓mq_153_20, ↓mq_153_21, ↓mq_153_24, ↓mq_153_25, ↓mq_153_26, ↓mq_153_27, ↓mq_153_28, ↓mq_153_31, ↓mq_153_32, ↓mq_153_33, ↓mq_153_34, ↓mq_153_35, ↓mq_153_36, ↓mq_153_39, ↓mq_153_42, ↓mq_153_43, ↓mq_153_46, ↓mq_153_47, ↓mq_153_50, ↓mq_153_51, ↓mq_153_54, ↓mq_153_57, ↓mq_153_58, ↓mq_153_59, ↓mq_153_60, ↓mq_153_62, ↓mq_153_63, ↓mq_153_66, ↓mq_153_67, ↓mq_153_68, ↓mq_153_69, ↓mq_153_70, ↓mq_153_73, ↓mq_153_74, ↓mq_153_75, ↓mq_153_76, ↓mq_153_77, ↓mq_153_79, ↓mq_153_82, ↓mq_153_83, ↓mq_153_86, ↓mq_153_87, ↓mq_153_88, ↓mq_153_90, ↓mq_153_93, ↓mq_153_95, ↓mq_153_97, ↓mq_153_98, ↓mq_153_100, ↓mq_153_102, ↓mq_153_104, ↓mq_153_107, ↓mq_153_109, ↓mq_153_112, ↓mq_153_113, ↓mq_153_115, ↓mq_153_116, ↓mq_153_117, ↓mq_153_118, ↓mq_153_120, ↓mq_153_121, ↓mq_153_125, ↓mq_153_127, ↓mq_153_130, ↓mq_153_132, ↓mq_153_134, ↓mq_153_137, ↓mq_153_139, ↓mq_153_141, ↓mq_153_143, ↓mq_153_144, ↓mq_153_145, ↓mq_153_146, ↓mq_153_147, ↓mq_153_150, ↓mq_153_152, ↓mq_153_154, ↓mq_153_155, ↓mq_153_157, ↓mq_153_159, ↓mq_153_161, ↓mq_153_162, ↓mq_153_163, ↓mq_153_164, ↓mq_153_167, ↓mq_153_169, ↓mq_153_172, ↓mq_153_173, ↓mq_153_176, ↓mq_153_177, ↓mq_153_179, ↓mq_153_181, ↓mq_153_182, ↓mq_153_183, ↓mq_153_184, ↓mq_153_187, ↓mq_153_190, ↓mq_153_191, ↓mq_153_194, ↓mq_153_196, ↓mq_153_197, ↓mq_153_200, ↓mq_153_203, ↓mq_153_204, ↓mq_153_207, ↓mq_153_209, ↓mq_153_210, ↓mq_153_213, ↓mq_153_215, ↓mq_153_216, ↓mq_153_217, ↓mq_153_218, ↓mq_153_219, ↓mq_153_220, ↓mq_153_223, ↓mq_153_225, ↓mq_153_227, ↓mq_153_228, ↓mq_153_231, ↓mq_153_234, ↓mq_153_237, ↓mq_153_240, ↓mq_153_241, ↓mq_153_244, ↓mq_153_246, ↓mq_153_247, ↓mq_153_250, ↓mq_153_253, ↓mq_153_255, ↓mq_153_258, ↓mq_153_259, ↓mq_153_262, ↓mq_153_264, ↓mq_153_265, mn_add]
      by_cases h1 : mm_dif l (mm_bank band s) = 0
      · by_cases h2 : mm_pop l 6 ≤ k
        · have hdb := mm_dif_lt _ hbk _ hl64
          have hq := mt_154 w Hl hdb
          cases h3 : mm_hat ρ (mm_dif (mm_bank band s) l)
          · have hfit : mm_fit ρ k (mm_bank band s) l = true := by simp [mm_fit, h1, h2, h3]
            have hx := mm_xor_lt _ hnear l hl64
            have hts := htv h1
            have hs' : 2 * (s / 2 ^^^ l) + (1 - s % 2) < 128 := by omega
            generalize hsx : 2 * (s / 2 ^^^ l) + (1 - s % 2) = sx at hts hs' hst
            subst hts
            have g1 := Bl.gt hs'
            rw [h3] at hq
            cases hcx : (mm_go ρ k (s / 2) (s % 2) (mm_bank band s) (c + 1) b l).1 sx with
            | none =>
              have g2 : mj_gi hl 80 (nI (mm_ph sx)) = some (nI 9999) := by rw [g1]; simp [mh_tr, hcx]
              have g3 : mj_gi hl 80 (nI (mm_ph s)) = some (nI c) := by rw [Bl.gt hs]; simp [mh_tr, okl.2.2.1 s c hc]
              obtain ⟨ha, hb2, p1, p2, B2, n2, Fa, F2⟩ := Bl.ent okl.1 (d := c + 1) hs' hcx
              have Ha := H.kp (Fl.tt Fa) (fun z => by rcases z with z | z <;> omega) (fun z => by rcases z with z | z <;> omega) (fun z => by rcases z with z | z <;> omega) (fun z => by rcases z with z | z <;> omega)
              have e2 := hst true hfit
              rw [if_pos rfl] at e2
              obtain ⟨h', l8, l9', r1, r2, r3⟩ := ih (l + 1) hb2 (.int (nI (mm_ph sx))) (by omega) (by rw [e2]; exact B2) (Fl.tt F2)
              refine ⟨h', l8, l9', ?_, r2, r3⟩
              rw [e2, n2] at r1
              rw [← r1]
              simp only [↓reduceIte, ↓mq_153_0, ↓mq_153_1, ↓mq_153_2, ↓mq_153_5, ↓mq_153_6, ↓mq_153_7, ↓mq_153_8, ↓mq_153_11, ↓mq_153_14, ↓mq_153_17, ↓mq_153_19, ↓mq_153_20, ↓mq_153_21, ↓mq_153_24, ↓mq_153_25, ↓mq_153_26, ↓mq_153_27, ↓mq_153_28, ↓mq_153_31, ↓mq_153_32, ↓mq_153_33, ↓mq_153_34, ↓mq_153_35, ↓mq_153_36, ↓mq_153_39, ↓mq_153_42, ↓mq_153_43, ↓mq_153_46, ↓mq_153_47, ↓mq_153_50, ↓mq_153_51, ↓mq_153_54, ↓mq_153_57, ↓mq_153_58, ↓mq_153_59, ↓mq_153_60, ↓mq_153_62, ↓mq_153_63, ↓mq_153_66, ↓mq_153_67, ↓mq_153_68, ↓mq_153_69, ↓mq_153_70, ↓mq_153_73, ↓mq_153_74, ↓mq_153_75, ↓mq_153_76, ↓mq_153_77, ↓mq_153_79, ↓mq_153_82, ↓mq_153_83, ↓mq_153_86, ↓mq_153_87, ↓mq_153_88, ↓mq_153_90, ↓mq_153_93, ↓mq_153_95, ↓mq_153_97, ↓mq_153_98, ↓mq_153_100, ↓mq_153_102, ↓mq_153_104, ↓mq_153_107, ↓mq_153_109, ↓mq_153_112, ↓mq_153_113, ↓mq_153_115, ↓mq_153_116, ↓mq_153_117, ↓mq_153_118, ↓mq_153_120, ↓mq_153_121, ↓mq_153_125, ↓mq_153_127, ↓mq_153_130, ↓mq_153_132, ↓mq_153_134, ↓mq_153_137, ↓mq_153_139, ↓mq_153_141, ↓mq_153_143, ↓mq_153_144, ↓mq_153_145, ↓mq_153_146, ↓mq_153_147, ↓mq_153_150, ↓mq_153_152, ↓mq_153_154, ↓mq_153_155, ↓mq_153_157, ↓mq_153_159, ↓mq_153_161, ↓mq_153_162, ↓mq_153_163, ↓mq_153_164, ↓mq_153_167, ↓mq_153_169, ↓mq_153_172, ↓mq_153_173, ↓mq_153_176, ↓mq_153_177, ↓mq_153_179, ↓mq_153_181, ↓mq_153_182, ↓mq_153_183, ↓mq_153_184, ↓mq_153_187, ↓mq_153_190, ↓mq_153_191, ↓mq_153_194, ↓mq_153_196, ↓mq_153_197, ↓mq_153_200, ↓mq_153_203, ↓mq_153_204, ↓mq_153_207, ↓mq_153_209, ↓mq_153_210, ↓mq_153_213, ↓mq_153_215, ↓mq_153_216, ↓mq_153_217, ↓mq_153_218, ↓mq_153_219, ↓mq_153_220, ↓mq_153_223, ↓mq_153_225, ↓mq_153_227, ↓mq_153_228, ↓mq_153_231, ↓mq_153_234, ↓mq_153_237, ↓mq_153_240, ↓mq_153_241, ↓mq_153_244, ↓mq_153_246, ↓mq_153_247, ↓mq_153_250, ↓mq_153_253, ↓mq_153_255, ↓mq_153_258, ↓mq_153_259, ↓mq_153_262, ↓mq_153_264, ↓mq_153_265, mn_dif _ hl64 _ hbk, mt_eq h1, ↓mj_bs (mt_144 hl64), Option.toList, List.cons_append, List.nil_append, mf_lt h2, mn_dif _ hbk _ hl64, mr_is Hl.1, ↓mj_bs (hq), mj_b0, Bool.not_false, Bool.true_eq_false, ↓mj_bs (mr_b25 Hl.1), ↓mj_bs (g2), ↓mj_bs (g3), mn_add, ↓mj_bs (p1), ↓mj_bs (mr_b26 Ha.1), ↓mj_bs (p2)]
            | some cx =>
              have hcx9 := okl.2.1 sx cx hcx
              have g2 : mj_gi hl 80 (nI (mm_ph sx)) = some (nI cx) := by rw [g1]; simp [mh_tr, hcx]
              have e2 := hst true hfit
              rw [if_pos rfl] at e2
              have e3 : mm_ent (mm_go ρ k (s / 2) (s % 2) (mm_bank band s) (c + 1) b l) sx (c + 1) = mm_go ρ k (s / 2) (s % 2) (mm_bank band s) (c + 1) b l := by rw [mm_ent, if_neg (by rw [hcx]; simp)]
              obtain ⟨h', l8, l9', r1, r2⟩ := skip hl rfl (e2.trans e3)
              refine ⟨h', l8, l9', ?_, r2⟩
              rw [← r1]
              simp only [↓reduceIte, ↓mq_153_0, ↓mq_153_1, ↓mq_153_2, ↓mq_153_5, ↓mq_153_6, ↓mq_153_7, ↓mq_153_8, ↓mq_153_11, ↓mq_153_14, ↓mq_153_17, ↓mq_153_19, ↓mq_153_20, ↓mq_153_21, ↓mq_153_24, ↓mq_153_25, ↓mq_153_26, ↓mq_153_27, ↓mq_153_28, ↓mq_153_31, ↓mq_153_32, ↓mq_153_33, ↓mq_153_34, ↓mq_153_35, ↓mq_153_36, ↓mq_153_39, ↓mq_153_42, ↓mq_153_43, ↓mq_153_46, ↓mq_153_47, ↓mq_153_50, ↓mq_153_51, ↓mq_153_54, ↓mq_153_57, ↓mq_153_58, ↓mq_153_59, ↓mq_153_60, ↓mq_153_62, ↓mq_153_63, ↓mq_153_66, ↓mq_153_67, ↓mq_153_68, ↓mq_153_69, ↓mq_153_70, ↓mq_153_73, ↓mq_153_74, ↓mq_153_75, ↓mq_153_76, ↓mq_153_77, ↓mq_153_79, ↓mq_153_82, ↓mq_153_83, ↓mq_153_86, ↓mq_153_87, ↓mq_153_88, ↓mq_153_90, ↓mq_153_93, ↓mq_153_95, ↓mq_153_97, ↓mq_153_98, ↓mq_153_100, ↓mq_153_102, ↓mq_153_104, ↓mq_153_107, ↓mq_153_109, ↓mq_153_112, ↓mq_153_113, ↓mq_153_115, ↓mq_153_116, ↓mq_153_117, ↓mq_153_118, ↓mq_153_120, ↓mq_153_121, ↓mq_153_125, ↓mq_153_127, ↓mq_153_130, ↓mq_153_132, ↓mq_153_134, ↓mq_153_137, ↓mq_153_139, ↓mq_153_141, ↓mq_153_143, ↓mq_153_144, ↓mq_153_145, ↓mq_153_146, ↓mq_153_147, ↓mq_153_150, ↓mq_153_152, ↓mq_153_154, ↓mq_153_155, ↓mq_153_157, ↓mq_153_159, ↓mq_153_161, ↓mq_153_162, ↓mq_153_163, ↓mq_153_164, ↓mq_153_167, ↓mq_153_169, ↓mq_153_172, ↓mq_153_173, ↓mq_153_176, ↓mq_153_177, ↓mq_153_179, ↓mq_153_181, ↓mq_153_182, ↓mq_153_183, ↓mq_153_184, ↓mq_153_187, ↓mq_153_190, ↓mq_153_191, ↓mq_153_194, ↓mq_153_196, ↓mq_153_197, ↓mq_153_200, ↓mq_153_203, ↓mq_153_204, ↓mq_153_207, ↓mq_153_209, ↓mq_153_210, ↓mq_153_213, ↓mq_153_215, ↓mq_153_216, ↓mq_153_217, ↓mq_153_218, ↓mq_153_219, ↓mq_153_220, ↓mq_153_223, ↓mq_153_225, ↓mq_153_227, ↓mq_153_228, ↓mq_153_234, ↓mq_153_237, ↓mq_153_240, ↓mq_153_241, ↓mq_153_244, ↓mq_153_246, ↓mq_153_247, ↓mq_153_250, ↓mq_153_253, ↓mq_153_255, ↓mq_153_258, ↓mq_153_259, ↓mq_153_262, ↓mq_153_264, ↓mq_153_265, mn_dif _ hl64 _ hbk, mt_eq h1, ↓mj_bs (mt_144 hl64), Option.toList, List.cons_append, List.nil_append, mf_lt h2, mn_dif _ hbk _ hl64, mr_is Hl.1, ↓mj_bs (hq), mj_b0, Bool.not_false, Bool.true_eq_false, ↓mj_bs (mr_b25 Hl.1), ↓mj_bs (g2), mf_eq (show cx ≠ 9999 by omega)]
          · have hfit : mm_fit ρ k (mm_bank band s) l = false := by simp [mm_fit, h3]
            have e2 := hst false hfit
            rw [if_neg (by simp)] at e2
            rw [h3] at hq
            obtain ⟨h', l8, l9', r1, r2⟩ := skip hl rfl e2
            refine ⟨h', l8, l9', ?_, r2⟩
            rw [← r1]
            simp only [↓reduceIte, ↓mq_153_0, ↓mq_153_1, ↓mq_153_2, ↓mq_153_5, ↓mq_153_6, ↓mq_153_7, ↓mq_153_8, ↓mq_153_11, ↓mq_153_14, ↓mq_153_17, ↓mq_153_19, ↓mq_153_20, ↓mq_153_21, ↓mq_153_24, ↓mq_153_25, ↓mq_153_26, ↓mq_153_27, ↓mq_153_28, ↓mq_153_31, ↓mq_153_32, ↓mq_153_33, ↓mq_153_34, ↓mq_153_35, ↓mq_153_36, ↓mq_153_39, ↓mq_153_42, ↓mq_153_43, ↓mq_153_46, ↓mq_153_47, ↓mq_153_50, ↓mq_153_51, ↓mq_153_54, ↓mq_153_57, ↓mq_153_58, ↓mq_153_59, ↓mq_153_60, ↓mq_153_62, ↓mq_153_63, ↓mq_153_66, ↓mq_153_67, ↓mq_153_68, ↓mq_153_69, ↓mq_153_70, ↓mq_153_73, ↓mq_153_74, ↓mq_153_75, ↓mq_153_76, ↓mq_153_77, ↓mq_153_79, ↓mq_153_82, ↓mq_153_83, ↓mq_153_86, ↓mq_153_87, ↓mq_153_88, ↓mq_153_90, ↓mq_153_93, ↓mq_153_95, ↓mq_153_97, ↓mq_153_98, ↓mq_153_100, ↓mq_153_102, ↓mq_153_104, ↓mq_153_107, ↓mq_153_109, ↓mq_153_112, ↓mq_153_113, ↓mq_153_115, ↓mq_153_116, ↓mq_153_117, ↓mq_153_118, ↓mq_153_120, ↓mq_153_121, ↓mq_153_125, ↓mq_153_127, ↓mq_153_130, ↓mq_153_132, ↓mq_153_134, ↓mq_153_137, ↓mq_153_139, ↓mq_153_141, ↓mq_153_143, ↓mq_153_144, ↓mq_153_145, ↓mq_153_146, ↓mq_153_147, ↓mq_153_150, ↓mq_153_152, ↓mq_153_154, ↓mq_153_155, ↓mq_153_157, ↓mq_153_159, ↓mq_153_161, ↓mq_153_162, ↓mq_153_163, ↓mq_153_164, ↓mq_153_167, ↓mq_153_169, ↓mq_153_172, ↓mq_153_173, ↓mq_153_176, ↓mq_153_177, ↓mq_153_179, ↓mq_153_181, ↓mq_153_182, ↓mq_153_183, ↓mq_153_184, ↓mq_153_187, ↓mq_153_190, ↓mq_153_191, ↓mq_153_194, ↓mq_153_196, ↓mq_153_197, ↓mq_153_200, ↓mq_153_203, ↓mq_153_204, ↓mq_153_207, ↓mq_153_209, ↓mq_153_210, ↓mq_153_213, ↓mq_153_215, ↓mq_153_216, ↓mq_153_217, ↓mq_153_218, ↓mq_153_219, ↓mq_153_220, ↓mq_153_223, ↓mq_153_225, ↓mq_153_227, ↓mq_153_228, ↓mq_153_234, ↓mq_153_237, ↓mq_153_240, ↓mq_153_241, ↓mq_153_244, ↓mq_153_246, ↓mq_153_247, ↓mq_153_250, ↓mq_153_253, ↓mq_153_255, ↓mq_153_258, ↓mq_153_259, ↓mq_153_262, ↓mq_153_264, ↓mq_153_265, mn_dif _ hl64 _ hbk, mt_eq h1, ↓mj_bs (mt_144 hl64), Option.toList, List.cons_append, List.nil_append, mf_lt h2, mn_dif _ hbk _ hl64, mr_is Hl.1, ↓mj_bs (hq), mj_b0, Bool.not_true]
        · have hfit : mm_fit ρ k (mm_bank band s) l = false := by simp [mm_fit, h2]
          have e2 := hst false hfit
          rw [if_neg (by simp)] at e2
          obtain ⟨h', l8, l9', r1, r2⟩ := skip hl rfl e2
          refine ⟨h', l8, l9', ?_, r2⟩
          rw [← r1]
          simp only [↓reduceIte, ↓mq_153_0, ↓mq_153_1, ↓mq_153_2, ↓mq_153_5, ↓mq_153_6, ↓mq_153_7, ↓mq_153_8, ↓mq_153_11, ↓mq_153_14, ↓mq_153_17, ↓mq_153_19, ↓mq_153_20, ↓mq_153_21, ↓mq_153_24, ↓mq_153_25, ↓mq_153_26, ↓mq_153_27, ↓mq_153_28, ↓mq_153_31, ↓mq_153_32, ↓mq_153_33, ↓mq_153_34, ↓mq_153_35, ↓mq_153_36, ↓mq_153_39, ↓mq_153_42, ↓mq_153_43, ↓mq_153_46, ↓mq_153_47, ↓mq_153_50, ↓mq_153_51, ↓mq_153_54, ↓mq_153_57, ↓mq_153_58, ↓mq_153_59, ↓mq_153_60, ↓mq_153_62, ↓mq_153_63, ↓mq_153_66, ↓mq_153_67, ↓mq_153_68, ↓mq_153_69, ↓mq_153_70, ↓mq_153_73, ↓mq_153_74, ↓mq_153_75, ↓mq_153_76, ↓mq_153_77, ↓mq_153_79, ↓mq_153_82, ↓mq_153_83, ↓mq_153_86, ↓mq_153_87, ↓mq_153_88, ↓mq_153_90, ↓mq_153_93, ↓mq_153_95, ↓mq_153_97, ↓mq_153_98, ↓mq_153_100, ↓mq_153_102, ↓mq_153_104, ↓mq_153_107, ↓mq_153_109, ↓mq_153_112, ↓mq_153_113, ↓mq_153_115, ↓mq_153_116, ↓mq_153_117, ↓mq_153_118, ↓mq_153_120, ↓mq_153_121, ↓mq_153_125, ↓mq_153_127, ↓mq_153_130, ↓mq_153_132, ↓mq_153_134, ↓mq_153_137, ↓mq_153_139, ↓mq_153_141, ↓mq_153_143, ↓mq_153_144, ↓mq_153_145, ↓mq_153_146, ↓mq_153_147, ↓mq_153_150, ↓mq_153_152, ↓mq_153_154, ↓mq_153_155, ↓mq_153_157, ↓mq_153_159, ↓mq_153_161, ↓mq_153_162, ↓mq_153_163, ↓mq_153_164, ↓mq_153_167, ↓mq_153_169, ↓mq_153_172, ↓mq_153_173, ↓mq_153_176, ↓mq_153_177, ↓mq_153_179, ↓mq_153_181, ↓mq_153_182, ↓mq_153_183, ↓mq_153_184, ↓mq_153_187, ↓mq_153_190, ↓mq_153_191, ↓mq_153_194, ↓mq_153_196, ↓mq_153_197, ↓mq_153_200, ↓mq_153_203, ↓mq_153_204, ↓mq_153_207, ↓mq_153_209, ↓mq_153_210, ↓mq_153_213, ↓mq_153_215, ↓mq_153_216, ↓mq_153_217, ↓mq_153_218, ↓mq_153_219, ↓mq_153_220, ↓mq_153_223, ↓mq_153_225, ↓mq_153_227, ↓mq_153_228, ↓mq_153_234, ↓mq_153_237, ↓mq_153_240, ↓mq_153_241, ↓mq_153_244, ↓mq_153_246, ↓mq_153_247, ↓mq_153_250, ↓mq_153_253, ↓mq_153_255, ↓mq_153_258, ↓mq_153_259, ↓mq_153_262, ↓mq_153_264, ↓mq_153_265, mn_dif _ hl64 _ hbk, mt_eq h1, ↓mj_bs (mt_144 hl64), Option.toList, List.cons_append, List.nil_append, mt_lt (Nat.lt_of_not_le h2)]
      · have hfit : mm_fit ρ k (mm_bank band s) l = false := by simp [mm_fit, h1]
        have e2 := hst false hfit
        rw [if_neg (by simp)] at e2
        obtain ⟨h', l8, l9', r1, r2⟩ := skip hl rfl e2
        refine ⟨h', l8, l9', ?_, r2⟩
        rw [← r1]
        simp only [↓reduceIte, ↓mq_153_0, ↓mq_153_1, ↓mq_153_2, ↓mq_153_5, ↓mq_153_6, ↓mq_153_7, ↓mq_153_8, ↓mq_153_11, ↓mq_153_14, ↓mq_153_17, ↓mq_153_19, ↓mq_153_20, ↓mq_153_21, ↓mq_153_24, ↓mq_153_25, ↓mq_153_26, ↓mq_153_27, ↓mq_153_28, ↓mq_153_31, ↓mq_153_32, ↓mq_153_33, ↓mq_153_34, ↓mq_153_35, ↓mq_153_36, ↓mq_153_39, ↓mq_153_42, ↓mq_153_43, ↓mq_153_46, ↓mq_153_47, ↓mq_153_50, ↓mq_153_51, ↓mq_153_54, ↓mq_153_57, ↓mq_153_58, ↓mq_153_59, ↓mq_153_60, ↓mq_153_62, ↓mq_153_63, ↓mq_153_66, ↓mq_153_67, ↓mq_153_68, ↓mq_153_69, ↓mq_153_70, ↓mq_153_73, ↓mq_153_74, ↓mq_153_75, ↓mq_153_76, ↓mq_153_77, ↓mq_153_79, ↓mq_153_82, ↓mq_153_83, ↓mq_153_86, ↓mq_153_87, ↓mq_153_88, ↓mq_153_90, ↓mq_153_93, ↓mq_153_95, ↓mq_153_97, ↓mq_153_98, ↓mq_153_100, ↓mq_153_102, ↓mq_153_104, ↓mq_153_107, ↓mq_153_109, ↓mq_153_112, ↓mq_153_113, ↓mq_153_115, ↓mq_153_116, ↓mq_153_117, ↓mq_153_118, ↓mq_153_120, ↓mq_153_121, ↓mq_153_125, ↓mq_153_127, ↓mq_153_130, ↓mq_153_132, ↓mq_153_134, ↓mq_153_137, ↓mq_153_139, ↓mq_153_141, ↓mq_153_143, ↓mq_153_144, ↓mq_153_145, ↓mq_153_146, ↓mq_153_147, ↓mq_153_150, ↓mq_153_152, ↓mq_153_154, ↓mq_153_155, ↓mq_153_157, ↓mq_153_159, ↓mq_153_161, ↓mq_153_162, ↓mq_153_163, ↓mq_153_164, ↓mq_153_167, ↓mq_153_169, ↓mq_153_172, ↓mq_153_173, ↓mq_153_176, ↓mq_153_177, ↓mq_153_179, ↓mq_153_181, ↓mq_153_182, ↓mq_153_183, ↓mq_153_184, ↓mq_153_187, ↓mq_153_190, ↓mq_153_191, ↓mq_153_194, ↓mq_153_196, ↓mq_153_197, ↓mq_153_200, ↓mq_153_203, ↓mq_153_204, ↓mq_153_207, ↓mq_153_209, ↓mq_153_210, ↓mq_153_213, ↓mq_153_215, ↓mq_153_216, ↓mq_153_217, ↓mq_153_218, ↓mq_153_219, ↓mq_153_220, ↓mq_153_223, ↓mq_153_225, ↓mq_153_227, ↓mq_153_228, ↓mq_153_234, ↓mq_153_237, ↓mq_153_240, ↓mq_153_241, ↓mq_153_244, ↓mq_153_246, ↓mq_153_247, ↓mq_153_250, ↓mq_153_253, ↓mq_153_255, ↓mq_153_258, ↓mq_153_259, ↓mq_153_262, ↓mq_153_264, ↓mq_153_265, mn_dif _ hl64 _ hbk, mf_eq h1]
  exact loop 64 0 h l9 rfl B mh_F.rf
end
