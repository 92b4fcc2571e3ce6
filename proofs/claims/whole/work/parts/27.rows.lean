/-! HOW MANY; THE CLASS'S ROWS (orders) -/
def mm_bc (x : Int32) : Int32 :=
  let a := x - ((x.toUInt32 >>> ((nI 1).toUInt32 &&& Int32.toUInt32 31)).toInt32 &&& nI 1431655765)
  let b := (a &&& nI 858993459) + ((a.toUInt32 >>> ((nI 2).toUInt32 &&& Int32.toUInt32 31)).toInt32 &&& nI 858993459)
  let c := (b + (b.toUInt32 >>> ((nI 4).toUInt32 &&& Int32.toUInt32 31)).toInt32) &&& nI 252645135
  let d := c + (c.toUInt32 >>> ((nI 8).toUInt32 &&& Int32.toUInt32 31)).toInt32
  let e := d + (d.toUInt32 >>> ((nI 16).toUInt32 &&& Int32.toUInt32 31)).toInt32
  e &&& nI 63
theorem mm_bc_ok : ∀ s, s < 64 → mm_bc (nI s) = nI (mm_pop s 6) := by decide +kernel
theorem mt_166 {h : mj_H} {s : Nat} (hs : s < 64) : mj_C 166 [.int (nI s)] h = some (some (.int (nI (mm_pop s 6))), h) := by
  rw [← mm_bc_ok s hs, mc_166]
  simp only [↓reduceIte, ↓mq_166_0, ↓mq_166_1, ↓mq_166_2, ↓mq_166_3, ↓mq_166_4, ↓mq_166_7, ↓mq_166_8, ↓mq_166_9, ↓mq_166_10, ↓mq_166_11, ↓mq_166_14, ↓mq_166_15, ↓mq_166_16, ↓mq_166_17, ↓mq_166_18, ↓mq_166_21, ↓mq_166_22, ↓mq_166_23, ↓mq_166_24, ↓mq_166_25, ↓mq_166_26, ↓mq_166_27, ↓mq_166_28, ↓mq_166_29, ↓mq_166_32, ↓mq_166_33, ↓mq_166_34, ↓mq_166_35, ↓mq_166_36, ↓mq_166_38, ↓mq_166_39, ↓mq_166_40, ↓mq_166_41, ↓mq_166_42, ↓mq_166_43, ↓mq_166_45, ↓mq_166_46, ↓mq_166_47, ↓mq_166_48, ↓mq_166_49, ↓mq_166_51, ↓mq_166_52]
  rfl
def mm_cont (ρ : mm_Ro) (last others : Nat) : Bool := decide (mr_K ρ last ≠ 2 ∨ ∀ j, j < mr_n ρ → others.testBit j = true → mm_pa ρ j ≤ mr_P ρ last)
def mm_wof (ρ : mm_Ro) (T : Nat → Nat) (some : Nat) : Nat → Nat
  | 0 => 0
  | k + 1 => mm_wof ρ T some k + (if some.testBit k = true ∧ mm_cont ρ k (mm_del some k) = true then T (mm_del some k) else 0)
def mm_tab (ρ : mm_Ro) (set : Nat) : Nat → Nat → Nat
  | 0 => fun _ => 1
  | k + 1 => mh_u (mm_tab ρ set k) (k + 1) (if mm_dif (k + 1) set = 0 then mm_wof ρ (mm_tab ρ set k) (k + 1) (mr_n ρ) else 0)
theorem mm_del_lt2 : ∀ s, s < 64 → ∀ k, k < 6 → s.testBit k = true → mm_del s k < s := by decide +kernel
theorem mm_del_eq : ∀ s, s < 64 → ∀ k, k < 6 → (mm_del s k = s ↔ s.testBit k = false) := by decide +kernel
section
variable {h : mj_H} {y r : Nat} {ρ : mm_Ro}
theorem mt_47 (w : mw_R ρ) (H : mh_Ro h r ρ) {last others : Nat} (hl : last < mr_n ρ) (ho : others < 64) : mj_C 47 [.ref y, .ref r, .int (nI last), .int (nI others)] h = some (some (.int (mj_bI (mm_cont ρ last others))), h) := by
  have hn := w.1
  obtain ⟨w1, w2, w3, -⟩ := w.2.2.2.1 last hl
  rw [mc_47]
  by_cases hk : mr_K ρ last = 2
  · have loop : ∀ d i, i + d = mr_n ρ → (∀ j, j < i → others.testBit j = true → mm_pa ρ j ≤ mr_P ρ last) → mj_R 47 (15, [.ref y, .ref r, .int (nI last), .int (nI others), .int (nI i)], [], h) = some (some (.int (mj_bI (mm_cont ρ last others))), h) := by
      intro d
      induction d with
      | zero =>
        intro i hi hall
        obtain rfl : i = mr_n ρ := by omega
        have hc : mm_cont ρ last others = true := decide_eq_true (Or.inr hall)
        simp only [↓reduceIte, ↓mq_47_0, ↓mq_47_1, ↓mq_47_4, ↓mq_47_5, ↓mq_47_6, ↓mq_47_7, ↓mq_47_10, ↓mq_47_11, ↓mq_47_12, ↓mq_47_13, ↓mq_47_15, ↓mq_47_17, ↓mq_47_18, ↓mq_47_21, ↓mq_47_24, ↓mq_47_25, ↓mq_47_26, ↓mq_47_28, ↓mq_47_29, ↓mq_47_30, ↓mq_47_33, ↓mq_47_34, ↓mq_47_36, ↓mq_47_39, ↓mq_47_40, ↓mq_47_43, ↓mq_47_44, ↓mq_47_45, ↓mq_47_48, ↓mq_47_49, ↓mq_47_50, ↓mq_47_53, ↓mq_47_56, ↓mq_47_57, ↓mj_bs (mh_gf 1 H.1 rfl), mt_le (Nat.le_refl (mr_n ρ)), mj_z1, hc]
        rfl
      | succ d ih =>
        intro i hi hall
        have hin : i < mr_n ρ := by omega
        rw [mq_47_15]
        cases hb : others.testBit i
        · have ih' := ih (i + 1) (by omega) (fun j hj z => by
            by_cases e : j = i
            · subst e; rw [hb] at z; cases z
            · exact hall j (by omega) z)
          simp only [↓reduceIte, ↓mq_47_0, ↓mq_47_1, ↓mq_47_4, ↓mq_47_5, ↓mq_47_6, ↓mq_47_7, ↓mq_47_10, ↓mq_47_11, ↓mq_47_12, ↓mq_47_13, ↓mq_47_17, ↓mq_47_18, ↓mq_47_21, ↓mq_47_24, ↓mq_47_25, ↓mq_47_26, ↓mq_47_28, ↓mq_47_29, ↓mq_47_30, ↓mq_47_33, ↓mq_47_34, ↓mq_47_36, ↓mq_47_39, ↓mq_47_40, ↓mq_47_43, ↓mq_47_44, ↓mq_47_45, ↓mq_47_48, ↓mq_47_49, ↓mq_47_50, ↓mq_47_53, ↓mq_47_56, ↓mq_47_57, ↓mj_bs (mh_gf 1 H.1 rfl), mf_le hin, mn_shl i (by omega), mn_and, mn_bb ho (show i < 6 by omega), hb, mn_add]
          exact ih'
        · have hp := mm_pa9 w hin
          by_cases hle : mm_pa ρ i ≤ mr_P ρ last
          · have ih' := ih (i + 1) (by omega) (fun j hj z => by
              by_cases e : j = i
              · subst e; exact hle
              · exact hall j (by omega) z)
            simp only [↓reduceIte, ↓mq_47_0, ↓mq_47_1, ↓mq_47_4, ↓mq_47_5, ↓mq_47_6, ↓mq_47_7, ↓mq_47_10, ↓mq_47_11, ↓mq_47_12, ↓mq_47_13, ↓mq_47_17, ↓mq_47_18, ↓mq_47_21, ↓mq_47_24, ↓mq_47_25, ↓mq_47_26, ↓mq_47_28, ↓mq_47_29, ↓mq_47_30, ↓mq_47_33, ↓mq_47_34, ↓mq_47_36, ↓mq_47_39, ↓mq_47_40, ↓mq_47_43, ↓mq_47_44, ↓mq_47_45, ↓mq_47_48, ↓mq_47_49, ↓mq_47_50, ↓mq_47_53, ↓mq_47_56, ↓mq_47_57, ↓mj_bs (mh_gf 1 H.1 rfl), mf_le hin, mn_shl i (by omega), mn_and, mn_bb ho (show i < 6 by omega), hb, Bool.true_eq_false, mh_isC H.1, ↓mj_bs (mt_38 w H hin), Option.toList, List.cons_append, List.nil_append, ↓mj_bs (mh_gf 4 H.1 rfl), ↓mj_bs (H.2.2.1.gt (show last < 6 by omega) hl), mt_le hle, mn_add]
            exact ih'
          · have hc : mm_cont ρ last others = false := decide_eq_false (fun z => by
              rcases z with z | z
              · exact z hk
              · exact hle (z i hin hb))
            simp only [↓reduceIte, ↓mq_47_0, ↓mq_47_1, ↓mq_47_4, ↓mq_47_5, ↓mq_47_6, ↓mq_47_7, ↓mq_47_10, ↓mq_47_11, ↓mq_47_12, ↓mq_47_13, ↓mq_47_17, ↓mq_47_18, ↓mq_47_21, ↓mq_47_24, ↓mq_47_25, ↓mq_47_26, ↓mq_47_28, ↓mq_47_29, ↓mq_47_30, ↓mq_47_33, ↓mq_47_34, ↓mq_47_36, ↓mq_47_39, ↓mq_47_40, ↓mq_47_43, ↓mq_47_44, ↓mq_47_45, ↓mq_47_48, ↓mq_47_49, ↓mq_47_50, ↓mq_47_53, ↓mq_47_56, ↓mq_47_57, ↓mj_bs (mh_gf 1 H.1 rfl), mf_le hin, mn_shl i (by omega), mn_and, mn_bb ho (show i < 6 by omega), hb, Bool.true_eq_false, mh_isC H.1, ↓mj_bs (mt_38 w H hin), Option.toList, List.cons_append, List.nil_append, ↓mj_bs (mh_gf 4 H.1 rfl), ↓mj_bs (H.2.2.1.gt (show last < 6 by omega) hl), mf_le (Nat.lt_of_not_le hle), mj_z0, hc]
            rfl
    simp only [↓reduceIte, ↓mq_47_0, ↓mq_47_1, ↓mq_47_4, ↓mq_47_5, ↓mq_47_6, ↓mq_47_7, ↓mq_47_10, ↓mq_47_11, ↓mq_47_12, ↓mq_47_13, ↓mq_47_17, ↓mq_47_18, ↓mq_47_21, ↓mq_47_24, ↓mq_47_25, ↓mq_47_26, ↓mq_47_28, ↓mq_47_29, ↓mq_47_30, ↓mq_47_33, ↓mq_47_34, ↓mq_47_36, ↓mq_47_39, ↓mq_47_40, ↓mq_47_43, ↓mq_47_44, ↓mq_47_45, ↓mq_47_48, ↓mq_47_49, ↓mq_47_50, ↓mq_47_53, ↓mq_47_56, ↓mq_47_57, ↓mj_bs (mh_gf 3 H.1 rfl), ↓mj_bs (H.2.1.gt (show last < 6 by omega) hl), mt_eq hk]
    exact loop (mr_n ρ) 0 (by omega) (fun j hj => by omega)
  · have hc : mm_cont ρ last others = true := decide_eq_true (Or.inl hk)
    simp only [↓reduceIte, ↓mq_47_0, ↓mq_47_1, ↓mq_47_4, ↓mq_47_5, ↓mq_47_6, ↓mq_47_7, ↓mq_47_10, ↓mq_47_11, ↓mq_47_12, ↓mq_47_13, ↓mq_47_15, ↓mq_47_17, ↓mq_47_18, ↓mq_47_21, ↓mq_47_24, ↓mq_47_25, ↓mq_47_26, ↓mq_47_28, ↓mq_47_29, ↓mq_47_30, ↓mq_47_33, ↓mq_47_34, ↓mq_47_36, ↓mq_47_39, ↓mq_47_40, ↓mq_47_43, ↓mq_47_44, ↓mq_47_45, ↓mq_47_48, ↓mq_47_49, ↓mq_47_50, ↓mq_47_53, ↓mq_47_56, ↓mq_47_57, ↓mj_bs (mh_gf 3 H.1 rfl), ↓mj_bs (H.2.1.gt (show last < 6 by omega) hl), mf_eq hk, mj_z1, hc]
    rfl
def mh_Rw (h : mj_H) (y : Nat) (f : Nat → Int32) : Prop := h.1 y = some (.inr (4, [.ref (y + 1)])) ∧ mh_ar h (y + 1) 64 f
theorem mt_46 (w : mw_R ρ) (H : mh_Ro h r ρ) {f : Nat → Int32} (Y : mh_Rw h y f) {T : Nat → Nat} {some' : Nat} (hs : some' < 64) (hf : ∀ j, j < some' → f j = nI (T j)) : mj_C 46 [.ref y, .ref r, .int (nI some')] h = some (some (.int (nI (mm_wof ρ T some' (mr_n ρ)))), h) := by
  have hn := w.1
  have loop : ∀ d i l5, i + d = mr_n ρ → mj_R 46 (5, [.ref y, .ref r, .int (nI some'), .int (nI (mm_wof ρ T some' i)), .int (nI i), l5], [], h) = some (some (.int (nI (mm_wof ρ T some' (mr_n ρ)))), h) := by
    intro d
    induction d with
    | zero =>
      intro i l5 hi
      obtain rfl : i = mr_n ρ := by omega
      simp only [↓reduceIte, ↓mq_46_0, ↓mq_46_1, ↓mq_46_2, ↓mq_46_3, ↓mq_46_5, ↓mq_46_7, ↓mq_46_8, ↓mq_46_11, ↓mq_46_14, ↓mq_46_15, ↓mq_46_16, ↓mq_46_18, ↓mq_46_19, ↓mq_46_20, ↓mq_46_21, ↓mq_46_22, ↓mq_46_24, ↓mq_46_26, ↓mq_46_27, ↓mq_46_30, ↓mq_46_31, ↓mq_46_32, ↓mq_46_34, ↓mq_46_36, ↓mq_46_39, ↓mq_46_42, ↓mq_46_43, ↓mq_46_44, ↓mq_46_47, ↓mq_46_49, ↓mq_46_50, ↓mq_46_51, ↓mq_46_52, ↓mq_46_55, ↓mq_46_58, ↓mq_46_59, ↓mj_bs (mh_gf 1 H.1 rfl), mt_le (Nat.le_refl (mr_n ρ))]
    | succ d ih =>
      intro i l5 hi
      have hin : i < mr_n ρ := by omega
      have ih' := ih (i + 1) (.int (nI (mm_del some' i))) (by omega)
      have hdl := mm_del_lt some' hs i (by omega)
      rw [mq_46_5]
      cases hb : some'.testBit i
      · have he := (mm_del_eq some' hs i (by omega)).mpr hb
        simp only [↓reduceIte, ↓mq_46_0, ↓mq_46_1, ↓mq_46_2, ↓mq_46_3, ↓mq_46_7, ↓mq_46_8, ↓mq_46_11, ↓mq_46_14, ↓mq_46_15, ↓mq_46_16, ↓mq_46_18, ↓mq_46_19, ↓mq_46_20, ↓mq_46_21, ↓mq_46_22, ↓mq_46_24, ↓mq_46_26, ↓mq_46_27, ↓mq_46_30, ↓mq_46_31, ↓mq_46_32, ↓mq_46_34, ↓mq_46_36, ↓mq_46_39, ↓mq_46_42, ↓mq_46_43, ↓mq_46_44, ↓mq_46_47, ↓mq_46_49, ↓mq_46_50, ↓mq_46_51, ↓mq_46_52, ↓mq_46_55, ↓mq_46_58, ↓mq_46_59, ↓mj_bs (mh_gf 1 H.1 rfl), mf_le hin, mn_shl i (by omega), mn_not _ hs i (by omega), mt_eq he, mn_add]
        simpa only [mm_wof, hb, Bool.false_eq_true, false_and, if_false, Nat.add_zero] using ih'
      · have he : mm_del some' i ≠ some' := fun z => by
          have := (mm_del_eq some' hs i (by omega)).mp z
          rw [hb] at this; cases this
        have hlt := mm_del_lt2 some' hs i (by omega) hb
        cases hc : mm_cont ρ i (mm_del some' i)
        · simp only [↓reduceIte, ↓mq_46_0, ↓mq_46_1, ↓mq_46_2, ↓mq_46_3, ↓mq_46_7, ↓mq_46_8, ↓mq_46_11, ↓mq_46_14, ↓mq_46_15, ↓mq_46_16, ↓mq_46_18, ↓mq_46_19, ↓mq_46_20, ↓mq_46_21, ↓mq_46_22, ↓mq_46_24, ↓mq_46_26, ↓mq_46_27, ↓mq_46_30, ↓mq_46_31, ↓mq_46_32, ↓mq_46_34, ↓mq_46_36, ↓mq_46_39, ↓mq_46_42, ↓mq_46_43, ↓mq_46_44, ↓mq_46_47, ↓mq_46_49, ↓mq_46_50, ↓mq_46_51, ↓mq_46_52, ↓mq_46_55, ↓mq_46_58, ↓mq_46_59, ↓mj_bs (mh_gf 1 H.1 rfl), mf_le hin, mn_shl i (by omega), mn_not _ hs i (by omega), mf_eq he, mh_isC Y.1, ↓mj_bs (mt_47 (y := y) w H hin hdl), Option.toList, List.cons_append, List.nil_append, mj_b0, hc, mn_add]
          simpa only [mm_wof, hb, hc, Bool.false_eq_true, and_false, if_false, Nat.add_zero] using ih'
        · simp only [↓reduceIte, ↓mq_46_0, ↓mq_46_1, ↓mq_46_2, ↓mq_46_3, ↓mq_46_7, ↓mq_46_8, ↓mq_46_11, ↓mq_46_14, ↓mq_46_15, ↓mq_46_16, ↓mq_46_18, ↓mq_46_19, ↓mq_46_20, ↓mq_46_21, ↓mq_46_22, ↓mq_46_24, ↓mq_46_26, ↓mq_46_27, ↓mq_46_30, ↓mq_46_31, ↓mq_46_32, ↓mq_46_34, ↓mq_46_36, ↓mq_46_39, ↓mq_46_42, ↓mq_46_43, ↓mq_46_44, ↓mq_46_47, ↓mq_46_49, ↓mq_46_50, ↓mq_46_51, ↓mq_46_52, ↓mq_46_55, ↓mq_46_58, ↓mq_46_59, ↓mj_bs (mh_gf 1 H.1 rfl), mf_le hin, mn_shl i (by omega), mn_not _ hs i (by omega), mf_eq he, mh_isC Y.1, ↓mj_bs (mt_47 (y := y) w H hin hdl), Option.toList, List.cons_append, List.nil_append, mj_b0, hc, Bool.true_eq_false, ↓mj_bs (mh_gf 0 Y.1 rfl), ↓mj_bs (Y.2.gt hdl (by omega)), hf _ hlt, mn_add]
          simpa only [mm_wof, hb, hc, and_self, if_true] using ih'
  rw [mc_46]
  simp only [↓reduceIte, ↓mq_46_0, ↓mq_46_1, ↓mq_46_2, ↓mq_46_3, ↓mq_46_7, ↓mq_46_8, ↓mq_46_11, ↓mq_46_14, ↓mq_46_15, ↓mq_46_16, ↓mq_46_18, ↓mq_46_19, ↓mq_46_20, ↓mq_46_21, ↓mq_46_22, ↓mq_46_24, ↓mq_46_26, ↓mq_46_27, ↓mq_46_30, ↓mq_46_31, ↓mq_46_32, ↓mq_46_34, ↓mq_46_36, ↓mq_46_39, ↓mq_46_42, ↓mq_46_43, ↓mq_46_44, ↓mq_46_47, ↓mq_46_49, ↓mq_46_50, ↓mq_46_51, ↓mq_46_52, ↓mq_46_55, ↓mq_46_58, ↓mq_46_59]
  exact loop (mr_n ρ) 0 .null (by omega)
theorem mt_45 (w : mw_R ρ) (H : mh_Ro h r ρ) (hd : r + 7 < y) {f : Nat → Int32} (Y : mh_Rw h y f) {set : Nat} (hs : set < 64) : ∃ h', mj_C 45 [.ref y, .ref r, .int (nI set)] h = some (some (.int (nI (mm_tab ρ set set set))), h') ∧ (∃ f', mh_Rw h' y f') ∧ mh_F (fun k => k = y + 1) h h' := by
  have hn := w.1
  have loop : ∀ d k hk fk, k + d = set → mh_Rw hk y fk → (∀ j, j ≤ k → fk j = nI (mm_tab ρ set k j)) → mh_F (fun k => k = y + 1) h hk → ∃ h', mj_R 45 (24, [.ref y, .ref r, .int (nI set), .int (nI (k + 1))], [], hk) = some (some (.int (nI (mm_tab ρ set set set))), h') ∧ (∃ f', mh_Rw h' y f') ∧ mh_F (fun k => k = y + 1) h h' := by
    intro d
    induction d with
    | zero =>
      intro k hk fk hkd Yk hf Fk
      obtain rfl : k = set := by omega
      refine ⟨hk, ?_, ⟨fk, Yk⟩, Fk⟩
      simp only [↓reduceIte, ↓mq_45_0, ↓mq_45_1, ↓mq_45_4, ↓mq_45_5, ↓mq_45_6, ↓mq_45_9, ↓mq_45_10, ↓mq_45_13, ↓mq_45_14, ↓mq_45_15, ↓mq_45_16, ↓mq_45_19, ↓mq_45_20, ↓mq_45_21, ↓mq_45_22, ↓mq_45_23, ↓mq_45_24, ↓mq_45_25, ↓mq_45_26, ↓mq_45_29, ↓mq_45_30, ↓mq_45_33, ↓mq_45_34, ↓mq_45_35, ↓mq_45_36, ↓mq_45_37, ↓mq_45_38, ↓mq_45_39, ↓mq_45_42, ↓mq_45_43, ↓mq_45_44, ↓mq_45_45, ↓mq_45_48, ↓mq_45_51, ↓mq_45_52, ↓mq_45_53, ↓mq_45_56, ↓mq_45_59, ↓mq_45_60, ↓mq_45_63, ↓mq_45_64, ↓mq_45_65, mt_lt (show k < k + 1 by omega), ↓mj_bs (mh_gf 0 Yk.1 rfl), ↓mj_bs (Yk.2.gt hs (by omega)), hf k (Nat.le_refl k)]
    | succ d ih =>
      intro k hk fk hkd Yk hf Fk
      have Hk := H.kp Fk (fun x _ _ => by omega)
      have hks : k + 1 < 64 := by omega
      rw [mq_45_24]
      have fin : ∀ v, v = (if mm_dif (k + 1) set = 0 then mm_wof ρ (mm_tab ρ set k) (k + 1) (mr_n ρ) else 0) → ∃ h6, mj_pi hk (y + 1) (nI (k + 1)) (nI v) = some h6 ∧ ∃ h', mj_R 45 (24, [.ref y, .ref r, .int (nI set), .int (nI (k + 1 + 1))], [], h6) = some (some (.int (nI (mm_tab ρ set set set))), h') ∧ (∃ f', mh_Rw h' y f') ∧ mh_F (fun k => k = y + 1) h h' := by
        intro v hv
        obtain ⟨h6, e6, a6, F6⟩ := Yk.2.pt hks (by omega) (nI v)
        refine ⟨h6, e6, ih (k + 1) h6 _ (by omega) ⟨(F6.2 y (by omega)).trans Yk.1, a6⟩ (fun j hj => ?_) (Fk.tt F6)⟩
        by_cases e : j = k + 1
        · subst e
          rw [mh_u_at, mm_tab, mh_u_at, hv]
        · rw [mh_u_ne e, mm_tab, mh_u_ne e]
          exact hf j (by omega)
      by_cases hz : mm_dif (k + 1) set = 0
      · obtain ⟨h6, e6, h', r1, r2, r3⟩ := fin (mm_wof ρ (mm_tab ρ set k) (k + 1) (mr_n ρ)) (by rw [if_pos hz])
        refine ⟨h', ?_, r2, r3⟩
        simp only [↓reduceIte, ↓mq_45_0, ↓mq_45_1, ↓mq_45_4, ↓mq_45_5, ↓mq_45_6, ↓mq_45_9, ↓mq_45_10, ↓mq_45_13, ↓mq_45_14, ↓mq_45_15, ↓mq_45_16, ↓mq_45_19, ↓mq_45_20, ↓mq_45_21, ↓mq_45_22, ↓mq_45_23, ↓mq_45_25, ↓mq_45_26, ↓mq_45_29, ↓mq_45_30, ↓mq_45_33, ↓mq_45_34, ↓mq_45_35, ↓mq_45_36, ↓mq_45_37, ↓mq_45_38, ↓mq_45_39, ↓mq_45_42, ↓mq_45_43, ↓mq_45_44, ↓mq_45_45, ↓mq_45_48, ↓mq_45_51, ↓mq_45_52, ↓mq_45_53, ↓mq_45_56, ↓mq_45_59, ↓mq_45_60, ↓mq_45_63, ↓mq_45_64, ↓mq_45_65, mf_lt (show k + 1 ≤ set by omega), ↓mj_bs (mh_gf 0 Yk.1 rfl), mn_dif _ hks _ hs, mt_eq hz, mh_isC Yk.1, ↓mj_bs (mt_46 (T := mm_tab ρ set k) w Hk Yk hks (fun j hj => hf j (by omega))), Option.toList, List.cons_append, List.nil_append, ↓mj_bs (e6), mn_add]
        exact r1
      · obtain ⟨h6, e6, h', r1, r2, r3⟩ := fin 0 (by rw [if_neg hz])
        have hdl := mm_dif_lt _ hks _ hs
        refine ⟨h', ?_, r2, r3⟩
        simp only [↓reduceIte, ↓mq_45_0, ↓mq_45_1, ↓mq_45_4, ↓mq_45_5, ↓mq_45_6, ↓mq_45_9, ↓mq_45_10, ↓mq_45_13, ↓mq_45_14, ↓mq_45_15, ↓mq_45_16, ↓mq_45_19, ↓mq_45_20, ↓mq_45_21, ↓mq_45_22, ↓mq_45_23, ↓mq_45_25, ↓mq_45_26, ↓mq_45_29, ↓mq_45_30, ↓mq_45_33, ↓mq_45_34, ↓mq_45_35, ↓mq_45_36, ↓mq_45_37, ↓mq_45_38, ↓mq_45_39, ↓mq_45_42, ↓mq_45_43, ↓mq_45_44, ↓mq_45_45, ↓mq_45_48, ↓mq_45_51, ↓mq_45_52, ↓mq_45_53, ↓mq_45_56, ↓mq_45_59, ↓mq_45_60, ↓mq_45_63, ↓mq_45_64, ↓mq_45_65, mf_lt (show k + 1 ≤ set by omega), ↓mj_bs (mh_gf 0 Yk.1 rfl), mn_dif _ hks _ hs, mf_eq hz, ↓mj_bs (e6), mn_add]
        exact r1
  obtain ⟨h1, e1, a1, F1⟩ := Y.2.pt (show 0 < 64 by omega) (by omega) (nI 1)
  obtain ⟨h', r1, r2, r3⟩ := loop set 0 h1 _ (by omega) ⟨(F1.2 y (by omega)).trans Y.1, a1⟩ (fun j hj => by
    obtain rfl : j = 0 := by omega
    rw [mh_u_at]; rfl) F1
  refine ⟨h', ?_, r2, r3⟩
  rw [mc_45]
  simp only [↓reduceIte, ↓mq_45_0, ↓mq_45_1, ↓mq_45_4, ↓mq_45_5, ↓mq_45_6, ↓mq_45_9, ↓mq_45_10, ↓mq_45_13, ↓mq_45_14, ↓mq_45_15, ↓mq_45_16, ↓mq_45_19, ↓mq_45_20, ↓mq_45_21, ↓mq_45_22, ↓mq_45_23, ↓mq_45_25, ↓mq_45_26, ↓mq_45_29, ↓mq_45_30, ↓mq_45_33, ↓mq_45_34, ↓mq_45_35, ↓mq_45_36, ↓mq_45_37, ↓mq_45_38, ↓mq_45_39, ↓mq_45_42, ↓mq_45_43, ↓mq_45_44, ↓mq_45_45, ↓mq_45_48, ↓mq_45_51, ↓mq_45_52, ↓mq_45_53, ↓mq_45_56, ↓mq_45_59, ↓mq_45_60, ↓mq_45_63, ↓mq_45_64, ↓mq_45_65, mf_lt (Nat.zero_le set), ↓mj_bs (mh_gf 0 Y.1 rfl), ↓mj_bs (Y.2.ln), mt_lt hs, ↓mj_bs (e1)]
  exact r1
end
