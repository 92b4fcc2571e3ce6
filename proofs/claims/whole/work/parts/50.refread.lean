/-! THE REFERENCE READS: a figure, who may be told an enemy -/
def mh_RP (h : mj_H) (S : mm_St) (d : Int32) (pl : Nat) (ρ : mm_Ro) : Prop := h.1 65 = some (.inr (7, mr_fs (nI (ms_t S).length) (nI pl) (nI (mr_n (ms_r S))) (nI (mr_g (ms_r S))) (nI (mr_n ρ)) (nI (mr_g ρ)) d (nI (ms_a S).length) (nI (ms_s S).length) (ms_g S))) ∧ mh_ap h 66 64 (fun k => k < (ms_t S).length) (fun k => (ms_t S).getD k 0) ∧ mh_ap h 70 24 (fun k => k < 4 * mr_n ρ) (mr_told ρ) ∧ mh_ap h 71 6 (fun k => k < mr_n ρ) (mr_E ρ) ∧ mh_ap h 72 6 (fun k => k < 2 * mr_g ρ) (mr_want ρ)
def mh_RF : Nat → Prop := fun k => k = 65 ∨ k = 70 ∨ k = 71 ∨ k = 72
def mm_fp (pl : Nat) (o : Option Nat) : Nat := match o with
  | some _ => pl + 1
  | none => pl
theorem mn_c48 : ∀ c, c < 256 → (nI c - nI 48).toInt = (c : Int) - 48 := by decide +kernel
theorem mt_103t {h : mj_H} {x lo hi : Int32} : mj_C 103 [.long x.toInt64, .long lo.toInt64, .long hi.toInt64] h = some (some (.int (mj_bI (decide (lo ≤ x ∧ x ≤ hi)))), h) := by
  rw [mt_103, Int32.toInt_toInt64, Int32.toInt_toInt64, Int32.toInt_toInt64]
  simp only [Int32.le_iff_toInt_le]
section
variable {h h' : mj_H} {S : mm_St} {ρ : mm_Ro} {d : Int32} {pl : Nat}
theorem mh_RP.sp (H : mh_RP h S d pl ρ) (p : Nat) : ∃ h', mj_pf h 65 7 3 (.int (nI p)) = some h' ∧ mh_RP h' S d p ρ ∧ mh_F (fun k => k = 65) h h' := by
  obtain ⟨o, a, b, c, e⟩ := H
  have F : mh_F (fun k => k = 65) h (mj_up h 65 (.inr (7, mr_fs (nI (ms_t S).length) (nI p) (nI (mr_n (ms_r S))) (nI (mr_g (ms_r S))) (nI (mr_n ρ)) (nI (mr_g ρ)) d (nI (ms_a S).length) (nI (ms_s S).length) (ms_g S)))) := mh_uF
  exact ⟨_, mh_pf 3 o (by simp) rfl, ⟨mh_ua, a.kp F (by omega), b.kp F (by omega), c.kp F (by omega), e.kp F (by omega)⟩, F⟩
theorem mt_107 (w : mw_S S) (H : mh_RP h S d pl ρ) (hp : pl ≤ (ms_t S).length) {lo hi : Nat} (hl : lo ≤ 9) (hh : hi ≤ 9) : ∃ h', mj_C 107 [.ref 65, .int (nI lo), .int (nI hi)] h = some (some (.int (mm_ov (mm_fig (ms_t S) pl lo hi))), h') ∧ mh_RP h' S d (mm_fp pl (mm_fig (ms_t S) pl lo hi)) ρ ∧ mh_F (fun k => k = 65) h h' := by
  have h64 := w.1
  have o := H.1
  by_cases hc : pl < (ms_t S).length
  · have e : (ms_t S)[pl]? = some ((ms_t S).getD pl 0) := by simp [List.getD, hc]
    have hc256 := w.2.1 _ (List.mem_of_getElem? e)
    have gt := H.2.1.gt (show pl < 64 by omega) hc
    obtain ⟨c, hcc⟩ : ∃ c, c = (ms_t S).getD pl 0 := ⟨_, rfl⟩
    rw [← hcc] at e hc256 gt
    have hx := mn_c48 c hc256
    have hd : decide (nI lo ≤ nI c - nI 48 ∧ nI c - nI 48 ≤ nI hi) = decide (lo + 48 ≤ c ∧ c ≤ hi + 48) := by
      refine decide_eq_decide.mpr ?_
      rw [Int32.le_iff_toInt_le, Int32.le_iff_toInt_le, hx, nI_toInt (by omega), nI_toInt (by omega)]
      exact ⟨fun z => ⟨by omega, by omega⟩, fun z => ⟨by omega, by omega⟩⟩
    have e103 := mt_103t (h := h) (x := nI c - nI 48) (lo := nI lo) (hi := nI hi)
    rw [hd] at e103
    by_cases hf : lo + 48 ≤ c ∧ c ≤ hi + 48
    · have ef : mm_fig (ms_t S) pl lo hi = some (c - 48) := by simp only [mm_fig, e]; rw [if_pos hf]
      rw [ef]
      obtain ⟨h1, e1, H1, F1⟩ := H.sp (pl + 1)
      refine ⟨h1, ?_, H1, F1⟩
      have o1 := H1.1
      have gt1 := gt
      have gt1 : mj_gi h1 66 (nI pl) = some (nI c) := by rw [H1.2.1.gt (show pl < 64 by omega) hc, hcc]
      rw [decide_eq_true hf] at e103
      rw [mc_107]
      simp only [↓reduceIte, ↓mq_107_0, ↓mq_107_1, ↓mq_107_4, ↓mq_107_5, ↓mq_107_8, ↓mq_107_11, ↓mq_107_12, ↓mq_107_15, ↓mq_107_16, ↓mq_107_19, ↓mq_107_20, ↓mq_107_22, ↓mq_107_23, ↓mq_107_24, ↓mq_107_25, ↓mq_107_26, ↓mq_107_27, ↓mq_107_28, ↓mq_107_31, ↓mq_107_34, ↓mq_107_36, ↓mq_107_37, ↓mq_107_38, ↓mq_107_39, ↓mq_107_42, ↓mq_107_43, ↓mq_107_44, ↓mq_107_47, ↓mq_107_48, ↓mq_107_51, ↓mq_107_52, ↓mq_107_55, ↓mq_107_56, ↓mq_107_57, ↓mq_107_58, ↓mq_107_60, ↓mq_107_61, ↓mj_bs (mh_gf 3 o rfl), ↓mj_bs (mh_gf 2 o rfl), mf_eq (show pl ≠ (ms_t S).length by omega), ↓mj_bs (mh_gf 1 o rfl), ↓mj_bs (gt), ↓mj_bs (e103), Option.toList, List.cons_append, List.nil_append, mj_b0, Bool.true_eq_false, mn_add, ↓mj_bs (e1), ↓mj_bs (mh_gf 1 o1 rfl), ↓mj_bs (mh_gf 3 o1 rfl), mn_sub (show 1 ≤ pl + 1 by omega), Nat.add_sub_cancel, ↓mj_bs (gt1), mn_sub (show 48 ≤ c by omega), mm_ov]
    · have ef : mm_fig (ms_t S) pl lo hi = none := by simp only [mm_fig, e]; rw [if_neg hf]
      rw [ef]
      refine ⟨h, ?_, H, mh_F.rf⟩
      rw [decide_eq_false hf] at e103
      rw [mc_107]
      simp only [↓reduceIte, ↓mq_107_0, ↓mq_107_1, ↓mq_107_4, ↓mq_107_5, ↓mq_107_8, ↓mq_107_11, ↓mq_107_12, ↓mq_107_15, ↓mq_107_16, ↓mq_107_19, ↓mq_107_20, ↓mq_107_22, ↓mq_107_23, ↓mq_107_24, ↓mq_107_25, ↓mq_107_26, ↓mq_107_27, ↓mq_107_28, ↓mq_107_31, ↓mq_107_34, ↓mq_107_36, ↓mq_107_37, ↓mq_107_38, ↓mq_107_39, ↓mq_107_42, ↓mq_107_43, ↓mq_107_44, ↓mq_107_47, ↓mq_107_48, ↓mq_107_51, ↓mq_107_52, ↓mq_107_55, ↓mq_107_56, ↓mq_107_57, ↓mq_107_58, ↓mq_107_60, ↓mq_107_61, ↓mj_bs (mh_gf 3 o rfl), ↓mj_bs (mh_gf 2 o rfl), mf_eq (show pl ≠ (ms_t S).length by omega), ↓mj_bs (mh_gf 1 o rfl), ↓mj_bs (gt), ↓mj_bs (e103), Option.toList, List.cons_append, List.nil_append, mj_b0, mm_ov]
  · have ef : mm_fig (ms_t S) pl lo hi = none := by
      simp only [mm_fig, List.getElem?_eq_none (show (ms_t S).length ≤ pl by omega)]
    rw [ef]
    refine ⟨h, ?_, H, mh_F.rf⟩
    rw [mc_107]
    simp only [↓reduceIte, ↓mq_107_0, ↓mq_107_1, ↓mq_107_4, ↓mq_107_5, ↓mq_107_8, ↓mq_107_11, ↓mq_107_12, ↓mq_107_15, ↓mq_107_16, ↓mq_107_19, ↓mq_107_20, ↓mq_107_22, ↓mq_107_23, ↓mq_107_24, ↓mq_107_25, ↓mq_107_26, ↓mq_107_27, ↓mq_107_28, ↓mq_107_31, ↓mq_107_34, ↓mq_107_36, ↓mq_107_37, ↓mq_107_38, ↓mq_107_39, ↓mq_107_42, ↓mq_107_43, ↓mq_107_44, ↓mq_107_47, ↓mq_107_48, ↓mq_107_51, ↓mq_107_52, ↓mq_107_55, ↓mq_107_56, ↓mq_107_57, ↓mq_107_58, ↓mq_107_60, ↓mq_107_61, ↓mj_bs (mh_gf 3 o rfl), ↓mj_bs (mh_gf 2 o rfl), mt_eq (show pl = (ms_t S).length by omega), mm_ov]
theorem mm_open2 (w : mw_R ρ) {i : Nat} (hi : i < mr_n ρ) : mm_dif (mm_del (2 ^ mr_n ρ - 1) i) (mr_E ρ i) = mm_open ρ i := by
  have hn := w.1
  have hE := mm_64 (w.2.2.2.1 i hi).2.2.2.2.2.2.1 hn
  have h1 : 2 ^ mr_n ρ - 1 < 64 := by
    have : 2 ^ mr_n ρ ≤ 64 := Nat.pow_le_pow_right (n := 2) (by decide) hn
    have := Nat.two_pow_pos (mr_n ρ)
    omega
  have h2 := mm_del_lt _ h1 i (by omega)
  refine mm_ext _ (mm_dif_lt _ h2 _ hE) _ (mm_open_lt w (by omega) hE) (fun j hj => ?_)
  rw [mm_dif_at _ h2 _ hE j hj, mm_del_at _ h1 i (by omega) j hj, mm_open_at w (by omega) hE hj, mm_all_at]
  cases decide (j < mr_n ρ) <;> cases (mr_E ρ i).testBit j <;> cases decide (j ≠ i) <;> rfl
theorem mt_110 (w : mw_R ρ) (H : mh_RP h S d pl ρ) {i : Nat} (hi : i < mr_n ρ) : mj_C 110 [.ref 65, .int (nI i)] h = some (some (.int (nI (mm_open ρ i))), h) := by
  have hn := w.1
  have o := H.1
  have hE := mm_64 (w.2.2.2.1 i hi).2.2.2.2.2.2.1 hn
  have h1 : 2 ^ mr_n ρ - 1 < 64 := by
    have : 2 ^ mr_n ρ ≤ 64 := Nat.pow_le_pow_right (n := 2) (by decide) hn
    have := Nat.two_pow_pos (mr_n ρ)
    omega
  have h2 := mm_del_lt _ h1 i (by omega)
  rw [mc_110]
  simp only [↓reduceIte, ↓mq_110_0, ↓mq_110_1, ↓mq_110_2, ↓mq_110_5, ↓mq_110_6, ↓mq_110_7, ↓mq_110_8, ↓mq_110_9, ↓mq_110_10, ↓mq_110_11, ↓mq_110_12, ↓mq_110_13, ↓mq_110_14, ↓mq_110_15, ↓mq_110_18, ↓mq_110_19, ↓mq_110_20, ↓mq_110_21, ↓mq_110_22, ↓mq_110_23, ↓mj_bs (mh_gf 9 o rfl), mn_all _ (show mr_n ρ < 31 by omega), mn_shl i (show i < 31 by omega), mn_not _ h1 i (show i < 6 by omega), ↓mj_bs (mh_gf 13 o rfl), ↓mj_bs (H.2.2.2.1.gt (show i < 6 by omega) hi), mn_dif _ h2 _ hE, mm_open2 w hi]
theorem mm_may_or : ∀ k, k ≤ 6 → (mm_may ρ (k + 1) ≠ 0 ↔ mm_may ρ k ≠ 0 ∨ mm_open ρ k ≠ 0) := by
  intro k hk
  simp only [mm_may]
  split
  · rename_i hz
    refine ⟨fun _ => Or.inr hz, fun _ hx => ?_⟩
    have := congrArg (fun z => z.testBit k) hx
    simp [Nat.testBit_or, Nat.testBit_two_pow_self] at this
  · rename_i hz
    exact ⟨Or.inl, fun z => z.resolve_right hz⟩
theorem mt_109 (w : mw_R ρ) (H : mh_RP h S d pl ρ) : mj_C 109 [.ref 65] h = some (some (.int (mj_bI (decide (mm_may ρ (mr_n ρ) ≠ 0)))), h) := by
  have hn := w.1
  have o := H.1
  have loop : ∀ e i, i + e = mr_n ρ → mj_R 109 (4, [.ref 65, .int (mj_bI (decide (mm_may ρ i ≠ 0))), .int (nI i)], [], h) = some (some (.int (mj_bI (decide (mm_may ρ (mr_n ρ) ≠ 0)))), h) := by
    intro e
    induction e with
    | zero =>
      intro i hi
      obtain rfl : i = mr_n ρ := by omega
      simp only [↓reduceIte, ↓mq_109_0, ↓mq_109_1, ↓mq_109_2, ↓mq_109_3, ↓mq_109_4, ↓mq_109_5, ↓mq_109_6, ↓mq_109_9, ↓mq_109_12, ↓mq_109_13, ↓mq_109_16, ↓mq_109_17, ↓mq_109_18, ↓mq_109_21, ↓mq_109_24, ↓mq_109_25, ↓mq_109_28, ↓mq_109_29, ↓mq_109_30, ↓mq_109_33, ↓mq_109_36, ↓mq_109_37, ↓mj_bs (mh_gf 9 o rfl), mt_le (Nat.le_refl (mr_n ρ)), mj_zb]
    | succ e ih =>
      intro i hi
      have hin : i < mr_n ρ := by omega
      have ih' := ih (i + 1) (by omega)
      have hop := mm_open_lt w (show i < 6 by omega) (mm_64 (w.2.2.2.1 i hin).2.2.2.2.2.2.1 hn)
      rw [mq_109_4]
      by_cases h1 : mm_may ρ i ≠ 0
      · rw [decide_eq_true ((mm_may_or i (by omega)).mpr (Or.inl h1))] at ih'
        rw [decide_eq_true h1]
        simp only [↓reduceIte, ↓mq_109_0, ↓mq_109_1, ↓mq_109_2, ↓mq_109_3, ↓mq_109_5, ↓mq_109_6, ↓mq_109_9, ↓mq_109_12, ↓mq_109_13, ↓mq_109_16, ↓mq_109_17, ↓mq_109_18, ↓mq_109_21, ↓mq_109_24, ↓mq_109_25, ↓mq_109_28, ↓mq_109_29, ↓mq_109_30, ↓mq_109_33, ↓mq_109_36, ↓mq_109_37, ↓mj_bs (mh_gf 9 o rfl), mf_le hin, mj_b0, Bool.true_eq_false, mn_add]
        exact ih'
      · rw [decide_eq_false h1]
        by_cases h2 : mm_open ρ i = 0
        · rw [decide_eq_false (fun z => ((mm_may_or i (by omega)).mp z).elim h1 (fun q => q h2))] at ih'
          simp only [↓reduceIte, ↓mq_109_0, ↓mq_109_1, ↓mq_109_2, ↓mq_109_3, ↓mq_109_5, ↓mq_109_6, ↓mq_109_9, ↓mq_109_12, ↓mq_109_13, ↓mq_109_16, ↓mq_109_17, ↓mq_109_18, ↓mq_109_21, ↓mq_109_24, ↓mq_109_25, ↓mq_109_28, ↓mq_109_29, ↓mq_109_30, ↓mq_109_33, ↓mq_109_36, ↓mq_109_37, ↓mj_bs (mh_gf 9 o rfl), mf_le hin, mj_b0, mh_isC o, ↓mj_bs (mt_110 w H hin), Option.toList, List.cons_append, List.nil_append, mt_eq h2, mn_add]
          exact ih'
        · rw [decide_eq_true ((mm_may_or i (by omega)).mpr (Or.inr h2))] at ih'
          simp only [↓reduceIte, ↓mq_109_0, ↓mq_109_1, ↓mq_109_2, ↓mq_109_3, ↓mq_109_5, ↓mq_109_6, ↓mq_109_9, ↓mq_109_12, ↓mq_109_13, ↓mq_109_16, ↓mq_109_17, ↓mq_109_18, ↓mq_109_21, ↓mq_109_24, ↓mq_109_25, ↓mq_109_28, ↓mq_109_29, ↓mq_109_30, ↓mq_109_33, ↓mq_109_36, ↓mq_109_37, ↓mj_bs (mh_gf 9 o rfl), mf_le hin, mj_b0, mh_isC o, ↓mj_bs (mt_110 w H hin), Option.toList, List.cons_append, List.nil_append, mf_eq h2, mn_add]
          exact ih'
  rw [mc_109]
  simp only [↓reduceIte, ↓mq_109_0, ↓mq_109_1, ↓mq_109_2, ↓mq_109_3, ↓mq_109_5, ↓mq_109_6, ↓mq_109_9, ↓mq_109_12, ↓mq_109_13, ↓mq_109_16, ↓mq_109_17, ↓mq_109_18, ↓mq_109_21, ↓mq_109_24, ↓mq_109_25, ↓mq_109_28, ↓mq_109_29, ↓mq_109_30, ↓mq_109_33, ↓mq_109_36, ↓mq_109_37]
  exact loop (mr_n ρ) 0 (by omega)
/-- what a part does, in the reference -/
def mh_rt (h h' : mj_H) (S : mm_St) (d : Int32) (ρ : mm_Ro) (X : Nat × Option mm_Ro) (b : Bool) : Prop := ∃ ρ', mh_RP h' S d X.1 ρ' ∧ mh_F mh_RF h h' ∧ X.1 ≤ (ms_t S).length ∧ X.2 = (if b = true then some ρ' else none) ∧ (b = false → ρ' = ρ)
end
