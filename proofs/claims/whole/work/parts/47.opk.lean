/-! COMMANDS: the farthest taking -/
theorem mw_fa_ok {ρ : mm_Ro} {μ : mm_Ma} (hp : ma_p μ ≤ 99) (ho : ∀ s ν, s < 64 → mm_cs ρ μ s = some ν → ma_o ν ≤ 3) : ∀ k, k ≤ 64 → mw_fa (mm_fa ρ μ k) := by
  intro k
  induction k with
  | zero => intro _ x hx; cases hx
  | succ k ih =>
    intro hk x hx
    simp only [mm_fa] at hx
    split at hx
    · exact ih (by omega) x hx
    · rename_i ν hν
      split at hx
      · cases hx
        exact ⟨by show k < 64; omega, by show ma_p μ - _ ≤ 99; omega, ho k ν (by omega) hν⟩
      · exact ih (by omega) x hx
section
variable {S : mm_St} {h h' : mj_H}

theorem mo_76 (J : mh_J S h) (x : Int32) : mh_op 76 140 [.int x] h := by
  have JJ := J
  obtain ⟨w, C, R⟩ := J
  have wr := w.2.2.1
  have wm := w.2.2.2.1
  have hp99 := wm.1
  have hn9 := wr.1
  have hg9 := wr.2.1
  have hn64 : 2 ^ mr_n (ms_r S) ≤ 64 := Nat.pow_le_pow_right (n := 2) (by decide) hn9
  have hpos := Nat.two_pow_pos (mr_n (ms_r S))
  have hrb := R.rr.1
  have hsh : nI 1 <<< (nI (mr_n (ms_r S)) &&& 31) = nI (2 ^ mr_n (ms_r S)) := mn_shl _ (by omega)
  rcases mn_range 3 (by omega) x with ⟨t, ht, rfl, -, -⟩ | ⟨-, hno⟩
  · have wcs : ∀ s ν, s < 64 → mm_cs (ms_r S) (ms_m S) s = some ν → mw_M (ms_r S) ν := fun s ν hs hν => mw_cs wr w C rfl rfl hs hν
    have hfa := mw_fa_ok (ρ := ms_r S) hp99 (fun s ν hs hν => Nat.le_trans (wcs s ν hs hν).2.2.2.1 hg9)
    obtain ⟨b, hb⟩ : ∃ b, mm_fa (ms_r S) (ms_m S) (2 ^ mr_n (ms_r S)) = some b := by
      have := mm_fa_some (ρ := ms_r S) (μ := ms_m S) (2 ^ mr_n (ms_r S) - 1)
      rwa [show 2 ^ mr_n (ms_r S) - 1 + 1 = 2 ^ mr_n (ms_r S) by omega] at this
    have fin : ∀ v : Int32, v = (if t = 0 then nI b.2.2 else if t = 1 then nI b.2.1 else nI b.1) → mh_op 76 140 [.int (nI t)] h := by
      intro v hv
      have loopC : ∀ d i hk l6, i + d = 2 ^ mr_n (ms_r S) → mh_JC S hk → mh_F (mh_A 22 23) h hk → ∃ h', mj_R 76 (25, [.ref 1, .int (nI t), .int (mm_fv (-9) (fun x => x.1) (mm_fa (ms_r S) (ms_m S) i)), .int (mm_fv (-9) (fun x => x.2.1) (mm_fa (ms_r S) (ms_m S) i)), .int (mm_fv (-9) (fun x => x.2.2) (mm_fa (ms_r S) (ms_m S) i)), .int (nI i), l6], [], hk) = some (some (.int v), h') ∧ mh_JC S h' ∧ mh_F (mh_A 22 23) h h' := by
        intro d
        induction d with
        | zero =>
          intro i hk l6 hi Ck F
          obtain rfl : i = 2 ^ mr_n (ms_r S) := by omega
          have o1k := Ck.1
          have Rok := Ck.2.2.1
          refine ⟨hk, ?_, Ck, F⟩
          rw [hb]
          by_cases t0 : t = 0
          · rw [hv.trans (if_pos t0)]
            simp only [↓reduceIte, ↓mq_76_0, ↓mq_76_1, ↓mq_76_4, ↓mq_76_5, ↓mq_76_6, ↓mq_76_9, ↓mq_76_11, ↓mq_76_12, ↓mq_76_14, ↓mq_76_15, ↓mq_76_17, ↓mq_76_18, ↓mq_76_20, ↓mq_76_22, ↓mq_76_23, ↓mq_76_25, ↓mq_76_27, ↓mq_76_28, ↓mq_76_31, ↓mq_76_34, ↓mq_76_37, ↓mq_76_38, ↓mq_76_40, ↓mq_76_43, ↓mq_76_46, ↓mq_76_47, ↓mq_76_49, ↓mq_76_52, ↓mq_76_55, ↓mq_76_57, ↓mq_76_59, ↓mq_76_61, ↓mq_76_63, ↓mq_76_66, ↓mq_76_67, ↓mq_76_70, ↓mq_76_73, ↓mq_76_75, ↓mq_76_78, ↓mq_76_79, ↓mq_76_82, ↓mq_76_85, ↓mq_76_87, ↓mq_76_90, ↓mq_76_92, ↓mq_76_93, ↓mq_76_96, ↓mq_76_98, ↓mq_76_99, ↓mq_76_101, ↓mq_76_102, ↓mq_76_103, ↓mq_76_106, ↓mq_76_109, ↓mq_76_111, ↓mq_76_114, ↓mq_76_117, ↓mq_76_118, ↓mq_76_121, ↓mq_76_123, ↓mq_76_126, ↓mq_76_127, ↓mq_76_128, ↓mq_76_131, ↓mq_76_132, ↓mq_76_135, ↓mq_76_136, ↓mj_bs (mh_gf 1 o1k rfl), mh_isC Rok.1, ↓mj_bs (mt_32 wr Rok), Option.toList, List.cons_append, List.nil_append, mt_lt (show 2 ^ mr_n (ms_r S) - 1 < 2 ^ mr_n (ms_r S) by omega) (show 2 ^ mr_n (ms_r S) < 2 ^ 31 by omega), mt_eq t0, mm_fv]
          · by_cases t1 : t = 1
            · rw [hv.trans ((if_neg t0).trans (if_pos t1))]
              simp only [↓reduceIte, ↓mq_76_0, ↓mq_76_1, ↓mq_76_4, ↓mq_76_5, ↓mq_76_6, ↓mq_76_9, ↓mq_76_11, ↓mq_76_12, ↓mq_76_14, ↓mq_76_15, ↓mq_76_17, ↓mq_76_18, ↓mq_76_20, ↓mq_76_22, ↓mq_76_23, ↓mq_76_25, ↓mq_76_27, ↓mq_76_28, ↓mq_76_31, ↓mq_76_34, ↓mq_76_37, ↓mq_76_38, ↓mq_76_40, ↓mq_76_43, ↓mq_76_46, ↓mq_76_47, ↓mq_76_49, ↓mq_76_52, ↓mq_76_55, ↓mq_76_57, ↓mq_76_59, ↓mq_76_61, ↓mq_76_63, ↓mq_76_66, ↓mq_76_67, ↓mq_76_70, ↓mq_76_73, ↓mq_76_75, ↓mq_76_78, ↓mq_76_79, ↓mq_76_82, ↓mq_76_85, ↓mq_76_87, ↓mq_76_90, ↓mq_76_92, ↓mq_76_93, ↓mq_76_96, ↓mq_76_98, ↓mq_76_99, ↓mq_76_101, ↓mq_76_102, ↓mq_76_103, ↓mq_76_106, ↓mq_76_109, ↓mq_76_111, ↓mq_76_114, ↓mq_76_117, ↓mq_76_118, ↓mq_76_121, ↓mq_76_123, ↓mq_76_126, ↓mq_76_127, ↓mq_76_128, ↓mq_76_131, ↓mq_76_132, ↓mq_76_135, ↓mq_76_136, ↓mj_bs (mh_gf 1 o1k rfl), mh_isC Rok.1, ↓mj_bs (mt_32 wr Rok), Option.toList, List.cons_append, List.nil_append, mt_lt (show 2 ^ mr_n (ms_r S) - 1 < 2 ^ mr_n (ms_r S) by omega) (show 2 ^ mr_n (ms_r S) < 2 ^ 31 by omega), mf_eq t0, mt_eq t1, mm_fv]
            · rw [hv.trans ((if_neg t0).trans (if_neg t1))]
              simp only [↓reduceIte, ↓mq_76_0, ↓mq_76_1, ↓mq_76_4, ↓mq_76_5, ↓mq_76_6, ↓mq_76_9, ↓mq_76_11, ↓mq_76_12, ↓mq_76_14, ↓mq_76_15, ↓mq_76_17, ↓mq_76_18, ↓mq_76_20, ↓mq_76_22, ↓mq_76_23, ↓mq_76_25, ↓mq_76_27, ↓mq_76_28, ↓mq_76_31, ↓mq_76_34, ↓mq_76_37, ↓mq_76_38, ↓mq_76_40, ↓mq_76_43, ↓mq_76_46, ↓mq_76_47, ↓mq_76_49, ↓mq_76_52, ↓mq_76_55, ↓mq_76_57, ↓mq_76_59, ↓mq_76_61, ↓mq_76_63, ↓mq_76_66, ↓mq_76_67, ↓mq_76_70, ↓mq_76_73, ↓mq_76_75, ↓mq_76_78, ↓mq_76_79, ↓mq_76_82, ↓mq_76_85, ↓mq_76_87, ↓mq_76_90, ↓mq_76_92, ↓mq_76_93, ↓mq_76_96, ↓mq_76_98, ↓mq_76_99, ↓mq_76_101, ↓mq_76_102, ↓mq_76_103, ↓mq_76_106, ↓mq_76_109, ↓mq_76_111, ↓mq_76_114, ↓mq_76_117, ↓mq_76_118, ↓mq_76_121, ↓mq_76_123, ↓mq_76_126, ↓mq_76_127, ↓mq_76_128, ↓mq_76_131, ↓mq_76_132, ↓mq_76_135, ↓mq_76_136, ↓mj_bs (mh_gf 1 o1k rfl), mh_isC Rok.1, ↓mj_bs (mt_32 wr Rok), Option.toList, List.cons_append, List.nil_append, mt_lt (show 2 ^ mr_n (ms_r S) - 1 < 2 ^ mr_n (ms_r S) by omega) (show 2 ^ mr_n (ms_r S) < 2 ^ 31 by omega), mf_eq t0, mf_eq t1, mm_fv]
        | succ d ih =>
          intro i hk l6 hi Ck F
          have hi2 : i < 2 ^ mr_n (ms_r S) := by omega
          have o1k := Ck.1
          have Rok := Ck.2.2.1
          obtain ⟨h1, c, e73, a1, a2, hc, F1, ν, T1, q1⟩ := mt_75s w Ck hi2
          have C1 := Ck.tr F1 T1
          have o11 := C1.1
          rw [mq_76_25]
          cases htc : mm_tc (ms_m S) i
          · rw [htc] at e73
            have e : mm_fa (ms_r S) (ms_m S) (i + 1) = mm_fa (ms_r S) (ms_m S) i := by simp [mm_fa, mm_cs, htc]
            obtain ⟨h', r1, r2⟩ := ih (i + 1) hk (.int (-9)) (by omega) Ck F
            refine ⟨h', ?_, r2⟩
            rw [e] at r1
            simp only [↓reduceIte, ↓mq_76_0, ↓mq_76_1, ↓mq_76_4, ↓mq_76_5, ↓mq_76_6, ↓mq_76_9, ↓mq_76_11, ↓mq_76_12, ↓mq_76_14, ↓mq_76_15, ↓mq_76_17, ↓mq_76_18, ↓mq_76_20, ↓mq_76_22, ↓mq_76_23, ↓mq_76_27, ↓mq_76_28, ↓mq_76_31, ↓mq_76_34, ↓mq_76_37, ↓mq_76_38, ↓mq_76_40, ↓mq_76_43, ↓mq_76_46, ↓mq_76_47, ↓mq_76_49, ↓mq_76_52, ↓mq_76_55, ↓mq_76_57, ↓mq_76_59, ↓mq_76_61, ↓mq_76_63, ↓mq_76_66, ↓mq_76_67, ↓mq_76_70, ↓mq_76_73, ↓mq_76_75, ↓mq_76_78, ↓mq_76_79, ↓mq_76_82, ↓mq_76_85, ↓mq_76_87, ↓mq_76_90, ↓mq_76_92, ↓mq_76_93, ↓mq_76_96, ↓mq_76_98, ↓mq_76_99, ↓mq_76_101, ↓mq_76_102, ↓mq_76_103, ↓mq_76_106, ↓mq_76_109, ↓mq_76_111, ↓mq_76_114, ↓mq_76_117, ↓mq_76_118, ↓mq_76_121, ↓mq_76_123, ↓mq_76_126, ↓mq_76_127, ↓mq_76_128, ↓mq_76_131, ↓mq_76_132, ↓mq_76_135, ↓mq_76_136, ↓mj_bs (mh_gf 1 o1k rfl), mh_isC Rok.1, ↓mj_bs (mt_32 wr Rok), Option.toList, List.cons_append, List.nil_append, mf_lt (show i ≤ 2 ^ mr_n (ms_r S) - 1 by omega) (show 2 ^ mr_n (ms_r S) - 1 < 2 ^ 31 by omega), mh_isC o1k, ↓mj_bs (e73), mj_b0, mn_add]
            exact r1
          · rw [htc] at e73
            have e74 := a1 htc
            cases hk2 : mm_cs (ms_r S) (ms_m S) i with
            | none =>
              rw [hk2] at hc
              have e : mm_fa (ms_r S) (ms_m S) (i + 1) = mm_fa (ms_r S) (ms_m S) i := by simp [mm_fa, hk2]
              rw [show c = -9 from hc] at e74
              obtain ⟨h', r1, r2⟩ := ih (i + 1) h1 (.int (-9)) (by omega) C1 (F.tt F1)
              refine ⟨h', ?_, r2⟩
              rw [e] at r1
              simp only [↓reduceIte, ↓mq_76_0, ↓mq_76_1, ↓mq_76_4, ↓mq_76_5, ↓mq_76_6, ↓mq_76_9, ↓mq_76_11, ↓mq_76_12, ↓mq_76_14, ↓mq_76_15, ↓mq_76_17, ↓mq_76_18, ↓mq_76_20, ↓mq_76_22, ↓mq_76_23, ↓mq_76_27, ↓mq_76_28, ↓mq_76_31, ↓mq_76_34, ↓mq_76_37, ↓mq_76_38, ↓mq_76_40, ↓mq_76_43, ↓mq_76_46, ↓mq_76_47, ↓mq_76_49, ↓mq_76_52, ↓mq_76_55, ↓mq_76_57, ↓mq_76_59, ↓mq_76_61, ↓mq_76_63, ↓mq_76_66, ↓mq_76_67, ↓mq_76_70, ↓mq_76_73, ↓mq_76_75, ↓mq_76_78, ↓mq_76_79, ↓mq_76_82, ↓mq_76_85, ↓mq_76_87, ↓mq_76_90, ↓mq_76_92, ↓mq_76_93, ↓mq_76_96, ↓mq_76_98, ↓mq_76_99, ↓mq_76_101, ↓mq_76_102, ↓mq_76_103, ↓mq_76_106, ↓mq_76_109, ↓mq_76_111, ↓mq_76_114, ↓mq_76_117, ↓mq_76_118, ↓mq_76_121, ↓mq_76_123, ↓mq_76_126, ↓mq_76_127, ↓mq_76_128, ↓mq_76_131, ↓mq_76_132, ↓mq_76_135, ↓mq_76_136, ↓mj_bs (mh_gf 1 o1k rfl), mh_isC Rok.1, ↓mj_bs (mt_32 wr Rok), Option.toList, List.cons_append, List.nil_append, mf_lt (show i ≤ 2 ^ mr_n (ms_r S) - 1 by omega) (show 2 ^ mr_n (ms_r S) - 1 < 2 ^ 31 by omega), mh_isC o1k, ↓mj_bs (e73), mj_b0, Bool.true_eq_false, ↓mj_bs (e74), mn_add]
              exact r1
            | some ξ =>
              rw [hk2] at hc
              have hξ := q1 ξ hk2
              subst hξ
              have wν := wcs i ν (by omega) hk2
              have ho9 := wν.2.2.2.1
              have hop := T1.1
              rw [show c = nI (ma_p (ms_m S) - ma_p ν) from hc] at e74
              obtain ⟨h', r1, r2⟩ := ih (i + 1) h1 (.int (nI (ma_p (ms_m S) - ma_p ν))) (by omega) C1 (F.tt F1)
              refine ⟨h', ?_, r2⟩
              cases hch : mm_fa (ms_r S) (ms_m S) i with
              | none =>
                have e : mm_fa (ms_r S) (ms_m S) (i + 1) = some (i, ma_p (ms_m S) - ma_p ν, ma_o ν) := by simp [mm_fa, hk2, hch, mm_fbt]
                rw [e] at r1
                simp only [↓reduceIte, ↓mq_76_0, ↓mq_76_1, ↓mq_76_4, ↓mq_76_5, ↓mq_76_6, ↓mq_76_9, ↓mq_76_11, ↓mq_76_12, ↓mq_76_14, ↓mq_76_15, ↓mq_76_17, ↓mq_76_18, ↓mq_76_20, ↓mq_76_22, ↓mq_76_23, ↓mq_76_27, ↓mq_76_28, ↓mq_76_31, ↓mq_76_34, ↓mq_76_37, ↓mq_76_38, ↓mq_76_40, ↓mq_76_43, ↓mq_76_46, ↓mq_76_47, ↓mq_76_49, ↓mq_76_52, ↓mq_76_55, ↓mq_76_57, ↓mq_76_59, ↓mq_76_61, ↓mq_76_63, ↓mq_76_66, ↓mq_76_67, ↓mq_76_70, ↓mq_76_73, ↓mq_76_75, ↓mq_76_78, ↓mq_76_79, ↓mq_76_82, ↓mq_76_85, ↓mq_76_87, ↓mq_76_90, ↓mq_76_92, ↓mq_76_93, ↓mq_76_96, ↓mq_76_98, ↓mq_76_99, ↓mq_76_101, ↓mq_76_102, ↓mq_76_103, ↓mq_76_106, ↓mq_76_109, ↓mq_76_111, ↓mq_76_114, ↓mq_76_117, ↓mq_76_118, ↓mq_76_121, ↓mq_76_123, ↓mq_76_126, ↓mq_76_127, ↓mq_76_128, ↓mq_76_131, ↓mq_76_132, ↓mq_76_135, ↓mq_76_136, ↓mj_bs (mh_gf 1 o1k rfl), mh_isC Rok.1, ↓mj_bs (mt_32 wr Rok), Option.toList, List.cons_append, List.nil_append, mf_lt (show i ≤ 2 ^ mr_n (ms_r S) - 1 by omega) (show 2 ^ mr_n (ms_r S) - 1 < 2 ^ 31 by omega), mh_isC o1k, ↓mj_bs (e73), mj_b0, Bool.true_eq_false, ↓mj_bs (e74), mf_m9 (d := ma_p (ms_m S) - ma_p ν) (by omega), ↓mj_bs (mh_gf 4 o11 rfl), ↓mj_bs (mh_gf 5 hop rfl), mm_fv, mm_m9lt (show ma_o ν < 2 ^ 31 by omega), mn_add]
                exact r1
              | some b =>
                have hb9 := hfa i (by omega) b hch
                by_cases hlt : b.2.2 < ma_o ν
                · have e : mm_fa (ms_r S) (ms_m S) (i + 1) = some (i, ma_p (ms_m S) - ma_p ν, ma_o ν) := by simp [mm_fa, hk2, hch, mm_fbt, hlt]
                  rw [e] at r1
                  simp only [↓reduceIte, ↓mq_76_0, ↓mq_76_1, ↓mq_76_4, ↓mq_76_5, ↓mq_76_6, ↓mq_76_9, ↓mq_76_11, ↓mq_76_12, ↓mq_76_14, ↓mq_76_15, ↓mq_76_17, ↓mq_76_18, ↓mq_76_20, ↓mq_76_22, ↓mq_76_23, ↓mq_76_27, ↓mq_76_28, ↓mq_76_31, ↓mq_76_34, ↓mq_76_37, ↓mq_76_38, ↓mq_76_40, ↓mq_76_43, ↓mq_76_46, ↓mq_76_47, ↓mq_76_49, ↓mq_76_52, ↓mq_76_55, ↓mq_76_57, ↓mq_76_59, ↓mq_76_61, ↓mq_76_63, ↓mq_76_66, ↓mq_76_67, ↓mq_76_70, ↓mq_76_73, ↓mq_76_75, ↓mq_76_78, ↓mq_76_79, ↓mq_76_82, ↓mq_76_85, ↓mq_76_87, ↓mq_76_90, ↓mq_76_92, ↓mq_76_93, ↓mq_76_96, ↓mq_76_98, ↓mq_76_99, ↓mq_76_101, ↓mq_76_102, ↓mq_76_103, ↓mq_76_106, ↓mq_76_109, ↓mq_76_111, ↓mq_76_114, ↓mq_76_117, ↓mq_76_118, ↓mq_76_121, ↓mq_76_123, ↓mq_76_126, ↓mq_76_127, ↓mq_76_128, ↓mq_76_131, ↓mq_76_132, ↓mq_76_135, ↓mq_76_136, ↓mj_bs (mh_gf 1 o1k rfl), mh_isC Rok.1, ↓mj_bs (mt_32 wr Rok), Option.toList, List.cons_append, List.nil_append, mf_lt (show i ≤ 2 ^ mr_n (ms_r S) - 1 by omega) (show 2 ^ mr_n (ms_r S) - 1 < 2 ^ 31 by omega), mh_isC o1k, ↓mj_bs (e73), mj_b0, Bool.true_eq_false, ↓mj_bs (e74), mf_m9 (d := ma_p (ms_m S) - ma_p ν) (by omega), ↓mj_bs (mh_gf 4 o11 rfl), ↓mj_bs (mh_gf 5 hop rfl), mm_fv, mt_lt hlt (show ma_o ν < 2 ^ 31 by omega), mn_add]
                  exact r1
                · by_cases heq : ma_o ν = b.2.2
                  · by_cases hl2 : ma_p (ms_m S) - ma_p ν < b.2.1
                    · have e : mm_fa (ms_r S) (ms_m S) (i + 1) = some (i, ma_p (ms_m S) - ma_p ν, ma_o ν) := by simp [mm_fa, hk2, hch, mm_fbt, heq, hl2]
                      rw [e] at r1
                      simp only [↓reduceIte, ↓mq_76_0, ↓mq_76_1, ↓mq_76_4, ↓mq_76_5, ↓mq_76_6, ↓mq_76_9, ↓mq_76_11, ↓mq_76_12, ↓mq_76_14, ↓mq_76_15, ↓mq_76_17, ↓mq_76_18, ↓mq_76_20, ↓mq_76_22, ↓mq_76_23, ↓mq_76_27, ↓mq_76_28, ↓mq_76_31, ↓mq_76_34, ↓mq_76_37, ↓mq_76_38, ↓mq_76_40, ↓mq_76_43, ↓mq_76_46, ↓mq_76_47, ↓mq_76_49, ↓mq_76_52, ↓mq_76_55, ↓mq_76_57, ↓mq_76_59, ↓mq_76_61, ↓mq_76_63, ↓mq_76_66, ↓mq_76_67, ↓mq_76_70, ↓mq_76_73, ↓mq_76_75, ↓mq_76_78, ↓mq_76_79, ↓mq_76_82, ↓mq_76_85, ↓mq_76_87, ↓mq_76_90, ↓mq_76_92, ↓mq_76_93, ↓mq_76_96, ↓mq_76_98, ↓mq_76_99, ↓mq_76_101, ↓mq_76_102, ↓mq_76_103, ↓mq_76_106, ↓mq_76_109, ↓mq_76_111, ↓mq_76_114, ↓mq_76_117, ↓mq_76_118, ↓mq_76_121, ↓mq_76_123, ↓mq_76_126, ↓mq_76_127, ↓mq_76_128, ↓mq_76_131, ↓mq_76_132, ↓mq_76_135, ↓mq_76_136, ↓mj_bs (mh_gf 1 o1k rfl), mh_isC Rok.1, ↓mj_bs (mt_32 wr Rok), Option.toList, List.cons_append, List.nil_append, mf_lt (show i ≤ 2 ^ mr_n (ms_r S) - 1 by omega) (show 2 ^ mr_n (ms_r S) - 1 < 2 ^ 31 by omega), mh_isC o1k, ↓mj_bs (e73), mj_b0, Bool.true_eq_false, ↓mj_bs (e74), mf_m9 (d := ma_p (ms_m S) - ma_p ν) (by omega), ↓mj_bs (mh_gf 4 o11 rfl), ↓mj_bs (mh_gf 5 hop rfl), mm_fv, mf_lt (Nat.le_of_not_lt hlt) (show b.2.2 < 2 ^ 31 by omega), mt_eq heq, mf_le hl2, mn_add]
                      exact r1
                    · have e : mm_fa (ms_r S) (ms_m S) (i + 1) = some b := by simp [mm_fa, hk2, hch, mm_fbt, hlt, hl2]
                      rw [e] at r1
                      simp only [↓reduceIte, ↓mq_76_0, ↓mq_76_1, ↓mq_76_4, ↓mq_76_5, ↓mq_76_6, ↓mq_76_9, ↓mq_76_11, ↓mq_76_12, ↓mq_76_14, ↓mq_76_15, ↓mq_76_17, ↓mq_76_18, ↓mq_76_20, ↓mq_76_22, ↓mq_76_23, ↓mq_76_27, ↓mq_76_28, ↓mq_76_31, ↓mq_76_34, ↓mq_76_37, ↓mq_76_38, ↓mq_76_40, ↓mq_76_43, ↓mq_76_46, ↓mq_76_47, ↓mq_76_49, ↓mq_76_52, ↓mq_76_55, ↓mq_76_57, ↓mq_76_59, ↓mq_76_61, ↓mq_76_63, ↓mq_76_66, ↓mq_76_67, ↓mq_76_70, ↓mq_76_73, ↓mq_76_75, ↓mq_76_78, ↓mq_76_79, ↓mq_76_82, ↓mq_76_85, ↓mq_76_87, ↓mq_76_90, ↓mq_76_92, ↓mq_76_93, ↓mq_76_96, ↓mq_76_98, ↓mq_76_99, ↓mq_76_101, ↓mq_76_102, ↓mq_76_103, ↓mq_76_106, ↓mq_76_109, ↓mq_76_111, ↓mq_76_114, ↓mq_76_117, ↓mq_76_118, ↓mq_76_121, ↓mq_76_123, ↓mq_76_126, ↓mq_76_127, ↓mq_76_128, ↓mq_76_131, ↓mq_76_132, ↓mq_76_135, ↓mq_76_136, ↓mj_bs (mh_gf 1 o1k rfl), mh_isC Rok.1, ↓mj_bs (mt_32 wr Rok), Option.toList, List.cons_append, List.nil_append, mf_lt (show i ≤ 2 ^ mr_n (ms_r S) - 1 by omega) (show 2 ^ mr_n (ms_r S) - 1 < 2 ^ 31 by omega), mh_isC o1k, ↓mj_bs (e73), mj_b0, Bool.true_eq_false, ↓mj_bs (e74), mf_m9 (d := ma_p (ms_m S) - ma_p ν) (by omega), ↓mj_bs (mh_gf 4 o11 rfl), ↓mj_bs (mh_gf 5 hop rfl), mm_fv, mf_lt (Nat.le_of_not_lt hlt) (show b.2.2 < 2 ^ 31 by omega), mt_eq heq, mt_le (Nat.le_of_not_lt hl2), mn_add]
                      exact r1
                  · have e : mm_fa (ms_r S) (ms_m S) (i + 1) = some b := by simp [mm_fa, hk2, hch, mm_fbt, hlt, heq]
                    rw [e] at r1
                    simp only [↓reduceIte, ↓mq_76_0, ↓mq_76_1, ↓mq_76_4, ↓mq_76_5, ↓mq_76_6, ↓mq_76_9, ↓mq_76_11, ↓mq_76_12, ↓mq_76_14, ↓mq_76_15, ↓mq_76_17, ↓mq_76_18, ↓mq_76_20, ↓mq_76_22, ↓mq_76_23, ↓mq_76_27, ↓mq_76_28, ↓mq_76_31, ↓mq_76_34, ↓mq_76_37, ↓mq_76_38, ↓mq_76_40, ↓mq_76_43, ↓mq_76_46, ↓mq_76_47, ↓mq_76_49, ↓mq_76_52, ↓mq_76_55, ↓mq_76_57, ↓mq_76_59, ↓mq_76_61, ↓mq_76_63, ↓mq_76_66, ↓mq_76_67, ↓mq_76_70, ↓mq_76_73, ↓mq_76_75, ↓mq_76_78, ↓mq_76_79, ↓mq_76_82, ↓mq_76_85, ↓mq_76_87, ↓mq_76_90, ↓mq_76_92, ↓mq_76_93, ↓mq_76_96, ↓mq_76_98, ↓mq_76_99, ↓mq_76_101, ↓mq_76_102, ↓mq_76_103, ↓mq_76_106, ↓mq_76_109, ↓mq_76_111, ↓mq_76_114, ↓mq_76_117, ↓mq_76_118, ↓mq_76_121, ↓mq_76_123, ↓mq_76_126, ↓mq_76_127, ↓mq_76_128, ↓mq_76_131, ↓mq_76_132, ↓mq_76_135, ↓mq_76_136, ↓mj_bs (mh_gf 1 o1k rfl), mh_isC Rok.1, ↓mj_bs (mt_32 wr Rok), Option.toList, List.cons_append, List.nil_append, mf_lt (show i ≤ 2 ^ mr_n (ms_r S) - 1 by omega) (show 2 ^ mr_n (ms_r S) - 1 < 2 ^ 31 by omega), mh_isC o1k, ↓mj_bs (e73), mj_b0, Bool.true_eq_false, ↓mj_bs (e74), mf_m9 (d := ma_p (ms_m S) - ma_p ν) (by omega), ↓mj_bs (mh_gf 4 o11 rfl), ↓mj_bs (mh_gf 5 hop rfl), mm_fv, mf_lt (Nat.le_of_not_lt hlt) (show b.2.2 < 2 ^ 31 by omega), mf_eq heq, mn_add]
                    exact r1
      have loopR : ∀ h0, mh_JR S h0 → ∀ d i hk l6, i + d = 2 ^ mr_n (ms_r S) → mh_JR S hk → mh_F (fun k => k = 74) h0 hk → ∃ h', mj_R 140 (31, [.ref 65, .int (nI t), .int (mm_fv (-9) (fun x => x.2.2) (mm_fa (ms_r S) (ms_m S) i)), .int (mm_fv (nI 0) (fun x => x.2.1) (mm_fa (ms_r S) (ms_m S) i)), .int (mm_fv (nI 0) (fun x => x.1) (mm_fa (ms_r S) (ms_m S) i)), .int (nI i), l6], [], hk) = some (some (.int v), h') ∧ mh_JR S h' ∧ mh_F (fun k => k = 74) h0 h' := by
        intro h0 R0 d
        induction d with
        | zero =>
          intro i hk l6 hi Rk F
          obtain rfl : i = 2 ^ mr_n (ms_r S) := by omega
          have hrk := Rk.rr.1
          refine ⟨hk, ?_, Rk, F⟩
          rw [hb]
          by_cases t0 : t = 0
          · rw [hv.trans (if_pos t0)]
            simp only [↓reduceIte, ↓mq_140_0, ↓mq_140_1, ↓mq_140_2, ↓mq_140_5, ↓mq_140_6, ↓mq_140_7, ↓mq_140_8, ↓mq_140_11, ↓mq_140_14, ↓mq_140_17, ↓mq_140_19, ↓mq_140_20, ↓mq_140_22, ↓mq_140_23, ↓mq_140_24, ↓mq_140_25, ↓mq_140_26, ↓mq_140_28, ↓mq_140_29, ↓mq_140_31, ↓mq_140_33, ↓mq_140_34, ↓mq_140_35, ↓mq_140_38, ↓mq_140_39, ↓mq_140_42, ↓mq_140_43, ↓mq_140_45, ↓mq_140_48, ↓mq_140_51, ↓mq_140_53, ↓mq_140_56, ↓mq_140_57, ↓mq_140_59, ↓mq_140_62, ↓mq_140_64, ↓mq_140_66, ↓mq_140_68, ↓mq_140_71, ↓mq_140_72, ↓mq_140_75, ↓mq_140_76, ↓mq_140_77, ↓mq_140_78, ↓mq_140_81, ↓mq_140_82, ↓mq_140_85, ↓mq_140_86, ↓mq_140_87, ↓mq_140_88, ↓mq_140_91, ↓mq_140_93, ↓mq_140_94, ↓mq_140_97, ↓mq_140_98, ↓mq_140_101, ↓mq_140_102, ↓mq_140_103, ↓mq_140_104, ↓mq_140_106, ↓mq_140_107, ↓mq_140_109, ↓mq_140_111, ↓mq_140_114, ↓mq_140_117, ↓mq_140_118, ↓mq_140_121, ↓mq_140_122, ↓mq_140_125, ↓mq_140_126, ↓mq_140_127, ↓mq_140_130, ↓mq_140_131, ↓mq_140_134, ↓mq_140_136, ↓mj_bs (mr_bn hrk), hsh, mt_le (Nat.le_refl (2 ^ mr_n (ms_r S))) (show 2 ^ mr_n (ms_r S) < 2 ^ 31 by omega), mt_eq t0, mm_fv]
          · by_cases t1 : t = 1
            · rw [hv.trans ((if_neg t0).trans (if_pos t1))]
              simp only [↓reduceIte, ↓mq_140_0, ↓mq_140_1, ↓mq_140_2, ↓mq_140_5, ↓mq_140_6, ↓mq_140_7, ↓mq_140_8, ↓mq_140_11, ↓mq_140_14, ↓mq_140_17, ↓mq_140_19, ↓mq_140_20, ↓mq_140_22, ↓mq_140_23, ↓mq_140_24, ↓mq_140_25, ↓mq_140_26, ↓mq_140_28, ↓mq_140_29, ↓mq_140_31, ↓mq_140_33, ↓mq_140_34, ↓mq_140_35, ↓mq_140_38, ↓mq_140_39, ↓mq_140_42, ↓mq_140_43, ↓mq_140_45, ↓mq_140_48, ↓mq_140_51, ↓mq_140_53, ↓mq_140_56, ↓mq_140_57, ↓mq_140_59, ↓mq_140_62, ↓mq_140_64, ↓mq_140_66, ↓mq_140_68, ↓mq_140_71, ↓mq_140_72, ↓mq_140_75, ↓mq_140_76, ↓mq_140_77, ↓mq_140_78, ↓mq_140_81, ↓mq_140_82, ↓mq_140_85, ↓mq_140_86, ↓mq_140_87, ↓mq_140_88, ↓mq_140_91, ↓mq_140_93, ↓mq_140_94, ↓mq_140_97, ↓mq_140_98, ↓mq_140_101, ↓mq_140_102, ↓mq_140_103, ↓mq_140_104, ↓mq_140_106, ↓mq_140_107, ↓mq_140_109, ↓mq_140_111, ↓mq_140_114, ↓mq_140_117, ↓mq_140_118, ↓mq_140_121, ↓mq_140_122, ↓mq_140_125, ↓mq_140_126, ↓mq_140_127, ↓mq_140_130, ↓mq_140_131, ↓mq_140_134, ↓mq_140_136, ↓mj_bs (mr_bn hrk), hsh, mt_le (Nat.le_refl (2 ^ mr_n (ms_r S))) (show 2 ^ mr_n (ms_r S) < 2 ^ 31 by omega), mf_eq t0, mt_eq t1, mm_fv]
            · rw [hv.trans ((if_neg t0).trans (if_neg t1))]
              simp only [↓reduceIte, ↓mq_140_0, ↓mq_140_1, ↓mq_140_2, ↓mq_140_5, ↓mq_140_6, ↓mq_140_7, ↓mq_140_8, ↓mq_140_11, ↓mq_140_14, ↓mq_140_17, ↓mq_140_19, ↓mq_140_20, ↓mq_140_22, ↓mq_140_23, ↓mq_140_24, ↓mq_140_25, ↓mq_140_26, ↓mq_140_28, ↓mq_140_29, ↓mq_140_31, ↓mq_140_33, ↓mq_140_34, ↓mq_140_35, ↓mq_140_38, ↓mq_140_39, ↓mq_140_42, ↓mq_140_43, ↓mq_140_45, ↓mq_140_48, ↓mq_140_51, ↓mq_140_53, ↓mq_140_56, ↓mq_140_57, ↓mq_140_59, ↓mq_140_62, ↓mq_140_64, ↓mq_140_66, ↓mq_140_68, ↓mq_140_71, ↓mq_140_72, ↓mq_140_75, ↓mq_140_76, ↓mq_140_77, ↓mq_140_78, ↓mq_140_81, ↓mq_140_82, ↓mq_140_85, ↓mq_140_86, ↓mq_140_87, ↓mq_140_88, ↓mq_140_91, ↓mq_140_93, ↓mq_140_94, ↓mq_140_97, ↓mq_140_98, ↓mq_140_101, ↓mq_140_102, ↓mq_140_103, ↓mq_140_104, ↓mq_140_106, ↓mq_140_107, ↓mq_140_109, ↓mq_140_111, ↓mq_140_114, ↓mq_140_117, ↓mq_140_118, ↓mq_140_121, ↓mq_140_122, ↓mq_140_125, ↓mq_140_126, ↓mq_140_127, ↓mq_140_130, ↓mq_140_131, ↓mq_140_134, ↓mq_140_136, ↓mj_bs (mr_bn hrk), hsh, mt_le (Nat.le_refl (2 ^ mr_n (ms_r S))) (show 2 ^ mr_n (ms_r S) < 2 ^ 31 by omega), mf_eq t0, mf_eq t1, mm_fv]
        | succ d ih =>
          intro i hk l6 hi Rk F
          have hi2 : i < 2 ^ mr_n (ms_r S) := by omega
          have hrk := Rk.rr.1
          obtain ⟨h1, c, e136, a1, a2, hc, F1, R1, q1⟩ := mt_139s w Rk hi2
          have hr1 := R1.rr.1
          rw [mq_140_31]
          cases htc : mm_tc (ms_m S) i
          · rw [htc] at e136
            have e : mm_fa (ms_r S) (ms_m S) (i + 1) = mm_fa (ms_r S) (ms_m S) i := by simp [mm_fa, mm_cs, htc]
            obtain ⟨h', r1, r2⟩ := ih (i + 1) hk (.int (-9)) (by omega) Rk F
            refine ⟨h', ?_, r2⟩
            rw [e] at r1
            simp only [↓reduceIte, ↓mq_140_0, ↓mq_140_1, ↓mq_140_2, ↓mq_140_5, ↓mq_140_6, ↓mq_140_7, ↓mq_140_8, ↓mq_140_11, ↓mq_140_14, ↓mq_140_17, ↓mq_140_19, ↓mq_140_20, ↓mq_140_22, ↓mq_140_23, ↓mq_140_24, ↓mq_140_25, ↓mq_140_26, ↓mq_140_28, ↓mq_140_29, ↓mq_140_33, ↓mq_140_34, ↓mq_140_35, ↓mq_140_38, ↓mq_140_39, ↓mq_140_42, ↓mq_140_43, ↓mq_140_45, ↓mq_140_48, ↓mq_140_51, ↓mq_140_53, ↓mq_140_56, ↓mq_140_57, ↓mq_140_59, ↓mq_140_62, ↓mq_140_64, ↓mq_140_66, ↓mq_140_68, ↓mq_140_71, ↓mq_140_72, ↓mq_140_75, ↓mq_140_76, ↓mq_140_77, ↓mq_140_78, ↓mq_140_81, ↓mq_140_82, ↓mq_140_85, ↓mq_140_86, ↓mq_140_87, ↓mq_140_88, ↓mq_140_91, ↓mq_140_93, ↓mq_140_94, ↓mq_140_97, ↓mq_140_98, ↓mq_140_101, ↓mq_140_102, ↓mq_140_103, ↓mq_140_104, ↓mq_140_106, ↓mq_140_107, ↓mq_140_109, ↓mq_140_111, ↓mq_140_114, ↓mq_140_117, ↓mq_140_118, ↓mq_140_121, ↓mq_140_122, ↓mq_140_125, ↓mq_140_126, ↓mq_140_127, ↓mq_140_130, ↓mq_140_131, ↓mq_140_134, ↓mq_140_136, ↓mj_bs (mr_bn hrk), hsh, mf_le hi2 (show 2 ^ mr_n (ms_r S) < 2 ^ 31 by omega), mr_is hrk, ↓mj_bs (e136), Option.toList, List.cons_append, List.nil_append, mj_b0, Bool.not_false, Bool.true_eq_false, mn_add]
            exact r1
          · rw [htc] at e136
            have e137 := a1 htc
            cases hk2 : mm_cs (ms_r S) (ms_m S) i with
            | none =>
              rw [hk2] at hc
              have e : mm_fa (ms_r S) (ms_m S) (i + 1) = mm_fa (ms_r S) (ms_m S) i := by simp [mm_fa, hk2]
              rw [show c = -9 from hc] at e137
              obtain ⟨h', r1, r2⟩ := ih (i + 1) h1 (.int (-9)) (by omega) R1 (F.tt F1)
              refine ⟨h', ?_, r2⟩
              rw [e] at r1
              simp only [↓reduceIte, ↓mq_140_0, ↓mq_140_1, ↓mq_140_2, ↓mq_140_5, ↓mq_140_6, ↓mq_140_7, ↓mq_140_8, ↓mq_140_11, ↓mq_140_14, ↓mq_140_17, ↓mq_140_19, ↓mq_140_20, ↓mq_140_22, ↓mq_140_23, ↓mq_140_24, ↓mq_140_25, ↓mq_140_26, ↓mq_140_28, ↓mq_140_29, ↓mq_140_33, ↓mq_140_34, ↓mq_140_35, ↓mq_140_38, ↓mq_140_39, ↓mq_140_42, ↓mq_140_43, ↓mq_140_45, ↓mq_140_48, ↓mq_140_51, ↓mq_140_53, ↓mq_140_56, ↓mq_140_57, ↓mq_140_59, ↓mq_140_62, ↓mq_140_64, ↓mq_140_66, ↓mq_140_68, ↓mq_140_71, ↓mq_140_72, ↓mq_140_75, ↓mq_140_76, ↓mq_140_77, ↓mq_140_78, ↓mq_140_81, ↓mq_140_82, ↓mq_140_85, ↓mq_140_86, ↓mq_140_87, ↓mq_140_88, ↓mq_140_91, ↓mq_140_93, ↓mq_140_94, ↓mq_140_97, ↓mq_140_98, ↓mq_140_101, ↓mq_140_102, ↓mq_140_103, ↓mq_140_104, ↓mq_140_106, ↓mq_140_107, ↓mq_140_109, ↓mq_140_111, ↓mq_140_114, ↓mq_140_117, ↓mq_140_118, ↓mq_140_121, ↓mq_140_122, ↓mq_140_125, ↓mq_140_126, ↓mq_140_127, ↓mq_140_130, ↓mq_140_131, ↓mq_140_134, ↓mq_140_136, ↓mj_bs (mr_bn hrk), hsh, mf_le hi2 (show 2 ^ mr_n (ms_r S) < 2 ^ 31 by omega), mr_is hrk, ↓mj_bs (e136), Option.toList, List.cons_append, List.nil_append, mj_b0, Bool.not_true, ↓mj_bs (e137), mn_add]
              exact r1
            | some ν =>
              rw [hk2] at hc
              have G1 := q1 ν hk2
              have wν := wcs i ν (by omega) hk2
              have ho9 := wν.2.2.2.1
              rw [show c = nI (ma_p (ms_m S) - ma_p ν) from hc] at e137
              obtain ⟨h', r1, r2⟩ := ih (i + 1) h1 (.int (nI (ma_p (ms_m S) - ma_p ν))) (by omega) R1 (F.tt F1)
              refine ⟨h', ?_, r2⟩
              cases hch : mm_fa (ms_r S) (ms_m S) i with
              | none =>
                have e : mm_fa (ms_r S) (ms_m S) (i + 1) = some (i, ma_p (ms_m S) - ma_p ν, ma_o ν) := by simp [mm_fa, hk2, hch, mm_fbt]
                rw [e] at r1
                simp only [↓reduceIte, ↓mq_140_0, ↓mq_140_1, ↓mq_140_2, ↓mq_140_5, ↓mq_140_6, ↓mq_140_7, ↓mq_140_8, ↓mq_140_11, ↓mq_140_14, ↓mq_140_17, ↓mq_140_19, ↓mq_140_20, ↓mq_140_22, ↓mq_140_23, ↓mq_140_24, ↓mq_140_25, ↓mq_140_26, ↓mq_140_28, ↓mq_140_29, ↓mq_140_33, ↓mq_140_34, ↓mq_140_35, ↓mq_140_38, ↓mq_140_39, ↓mq_140_42, ↓mq_140_43, ↓mq_140_45, ↓mq_140_48, ↓mq_140_51, ↓mq_140_53, ↓mq_140_56, ↓mq_140_57, ↓mq_140_59, ↓mq_140_62, ↓mq_140_64, ↓mq_140_66, ↓mq_140_68, ↓mq_140_71, ↓mq_140_72, ↓mq_140_75, ↓mq_140_76, ↓mq_140_77, ↓mq_140_78, ↓mq_140_81, ↓mq_140_82, ↓mq_140_85, ↓mq_140_86, ↓mq_140_87, ↓mq_140_88, ↓mq_140_91, ↓mq_140_93, ↓mq_140_94, ↓mq_140_97, ↓mq_140_98, ↓mq_140_101, ↓mq_140_102, ↓mq_140_103, ↓mq_140_104, ↓mq_140_106, ↓mq_140_107, ↓mq_140_109, ↓mq_140_111, ↓mq_140_114, ↓mq_140_117, ↓mq_140_118, ↓mq_140_121, ↓mq_140_122, ↓mq_140_125, ↓mq_140_126, ↓mq_140_127, ↓mq_140_130, ↓mq_140_131, ↓mq_140_134, ↓mq_140_136, ↓mj_bs (mr_bn hrk), hsh, mf_le hi2 (show 2 ^ mr_n (ms_r S) < 2 ^ 31 by omega), mr_is hrk, ↓mj_bs (e136), Option.toList, List.cons_append, List.nil_append, mj_b0, Bool.not_true, ↓mj_bs (e137), mf_m9 (d := ma_p (ms_m S) - ma_p ν) (by omega), ↓mj_bs (mr_b16 hr1), ↓mj_bs (mp_4 G1), mm_fv, mm_m9lt (show ma_o ν < 2 ^ 31 by omega), mn_add]
                exact r1
              | some b =>
                have hb9 := hfa i (by omega) b hch
                by_cases hlt : b.2.2 < ma_o ν
                · have e : mm_fa (ms_r S) (ms_m S) (i + 1) = some (i, ma_p (ms_m S) - ma_p ν, ma_o ν) := by simp [mm_fa, hk2, hch, mm_fbt, hlt]
                  rw [e] at r1
                  simp only [↓reduceIte, ↓mq_140_0, ↓mq_140_1, ↓mq_140_2, ↓mq_140_5, ↓mq_140_6, ↓mq_140_7, ↓mq_140_8, ↓mq_140_11, ↓mq_140_14, ↓mq_140_17, ↓mq_140_19, ↓mq_140_20, ↓mq_140_22, ↓mq_140_23, ↓mq_140_24, ↓mq_140_25, ↓mq_140_26, ↓mq_140_28, ↓mq_140_29, ↓mq_140_33, ↓mq_140_34, ↓mq_140_35, ↓mq_140_38, ↓mq_140_39, ↓mq_140_42, ↓mq_140_43, ↓mq_140_45, ↓mq_140_48, ↓mq_140_51, ↓mq_140_53, ↓mq_140_56, ↓mq_140_57, ↓mq_140_59, ↓mq_140_62, ↓mq_140_64, ↓mq_140_66, ↓mq_140_68, ↓mq_140_71, ↓mq_140_72, ↓mq_140_75, ↓mq_140_76, ↓mq_140_77, ↓mq_140_78, ↓mq_140_81, ↓mq_140_82, ↓mq_140_85, ↓mq_140_86, ↓mq_140_87, ↓mq_140_88, ↓mq_140_91, ↓mq_140_93, ↓mq_140_94, ↓mq_140_97, ↓mq_140_98, ↓mq_140_101, ↓mq_140_102, ↓mq_140_103, ↓mq_140_104, ↓mq_140_106, ↓mq_140_107, ↓mq_140_109, ↓mq_140_111, ↓mq_140_114, ↓mq_140_117, ↓mq_140_118, ↓mq_140_121, ↓mq_140_122, ↓mq_140_125, ↓mq_140_126, ↓mq_140_127, ↓mq_140_130, ↓mq_140_131, ↓mq_140_134, ↓mq_140_136, ↓mj_bs (mr_bn hrk), hsh, mf_le hi2 (show 2 ^ mr_n (ms_r S) < 2 ^ 31 by omega), mr_is hrk, ↓mj_bs (e136), Option.toList, List.cons_append, List.nil_append, mj_b0, Bool.not_true, ↓mj_bs (e137), mf_m9 (d := ma_p (ms_m S) - ma_p ν) (by omega), ↓mj_bs (mr_b16 hr1), ↓mj_bs (mp_4 G1), mm_fv, mt_lt hlt (show ma_o ν < 2 ^ 31 by omega), mn_add]
                  exact r1
                · by_cases heq : ma_o ν = b.2.2
                  · by_cases hl2 : ma_p (ms_m S) - ma_p ν < b.2.1
                    · have e : mm_fa (ms_r S) (ms_m S) (i + 1) = some (i, ma_p (ms_m S) - ma_p ν, ma_o ν) := by simp [mm_fa, hk2, hch, mm_fbt, heq, hl2]
                      rw [e] at r1
                      simp only [↓reduceIte, ↓mq_140_0, ↓mq_140_1, ↓mq_140_2, ↓mq_140_5, ↓mq_140_6, ↓mq_140_7, ↓mq_140_8, ↓mq_140_11, ↓mq_140_14, ↓mq_140_17, ↓mq_140_19, ↓mq_140_20, ↓mq_140_22, ↓mq_140_23, ↓mq_140_24, ↓mq_140_25, ↓mq_140_26, ↓mq_140_28, ↓mq_140_29, ↓mq_140_33, ↓mq_140_34, ↓mq_140_35, ↓mq_140_38, ↓mq_140_39, ↓mq_140_42, ↓mq_140_43, ↓mq_140_45, ↓mq_140_48, ↓mq_140_51, ↓mq_140_53, ↓mq_140_56, ↓mq_140_57, ↓mq_140_59, ↓mq_140_62, ↓mq_140_64, ↓mq_140_66, ↓mq_140_68, ↓mq_140_71, ↓mq_140_72, ↓mq_140_75, ↓mq_140_76, ↓mq_140_77, ↓mq_140_78, ↓mq_140_81, ↓mq_140_82, ↓mq_140_85, ↓mq_140_86, ↓mq_140_87, ↓mq_140_88, ↓mq_140_91, ↓mq_140_93, ↓mq_140_94, ↓mq_140_97, ↓mq_140_98, ↓mq_140_101, ↓mq_140_102, ↓mq_140_103, ↓mq_140_104, ↓mq_140_106, ↓mq_140_107, ↓mq_140_109, ↓mq_140_111, ↓mq_140_114, ↓mq_140_117, ↓mq_140_118, ↓mq_140_121, ↓mq_140_122, ↓mq_140_125, ↓mq_140_126, ↓mq_140_127, ↓mq_140_130, ↓mq_140_131, ↓mq_140_134, ↓mq_140_136, ↓mj_bs (mr_bn hrk), hsh, mf_le hi2 (show 2 ^ mr_n (ms_r S) < 2 ^ 31 by omega), mr_is hrk, ↓mj_bs (e136), Option.toList, List.cons_append, List.nil_append, mj_b0, Bool.not_true, ↓mj_bs (e137), mf_m9 (d := ma_p (ms_m S) - ma_p ν) (by omega), ↓mj_bs (mr_b16 hr1), ↓mj_bs (mp_4 G1), mm_fv, mf_lt (Nat.le_of_not_lt hlt) (show b.2.2 < 2 ^ 31 by omega), mt_eq heq, mf_le hl2, mn_add]
                      exact r1
                    · have e : mm_fa (ms_r S) (ms_m S) (i + 1) = some b := by simp [mm_fa, hk2, hch, mm_fbt, hlt, hl2]
                      rw [e] at r1
                      simp only [↓reduceIte, ↓mq_140_0, ↓mq_140_1, ↓mq_140_2, ↓mq_140_5, ↓mq_140_6, ↓mq_140_7, ↓mq_140_8, ↓mq_140_11, ↓mq_140_14, ↓mq_140_17, ↓mq_140_19, ↓mq_140_20, ↓mq_140_22, ↓mq_140_23, ↓mq_140_24, ↓mq_140_25, ↓mq_140_26, ↓mq_140_28, ↓mq_140_29, ↓mq_140_33, ↓mq_140_34, ↓mq_140_35, ↓mq_140_38, ↓mq_140_39, ↓mq_140_42, ↓mq_140_43, ↓mq_140_45, ↓mq_140_48, ↓mq_140_51, ↓mq_140_53, ↓mq_140_56, ↓mq_140_57, ↓mq_140_59, ↓mq_140_62, ↓mq_140_64, ↓mq_140_66, ↓mq_140_68, ↓mq_140_71, ↓mq_140_72, ↓mq_140_75, ↓mq_140_76, ↓mq_140_77, ↓mq_140_78, ↓mq_140_81, ↓mq_140_82, ↓mq_140_85, ↓mq_140_86, ↓mq_140_87, ↓mq_140_88, ↓mq_140_91, ↓mq_140_93, ↓mq_140_94, ↓mq_140_97, ↓mq_140_98, ↓mq_140_101, ↓mq_140_102, ↓mq_140_103, ↓mq_140_104, ↓mq_140_106, ↓mq_140_107, ↓mq_140_109, ↓mq_140_111, ↓mq_140_114, ↓mq_140_117, ↓mq_140_118, ↓mq_140_121, ↓mq_140_122, ↓mq_140_125, ↓mq_140_126, ↓mq_140_127, ↓mq_140_130, ↓mq_140_131, ↓mq_140_134, ↓mq_140_136, ↓mj_bs (mr_bn hrk), hsh, mf_le hi2 (show 2 ^ mr_n (ms_r S) < 2 ^ 31 by omega), mr_is hrk, ↓mj_bs (e136), Option.toList, List.cons_append, List.nil_append, mj_b0, Bool.not_true, ↓mj_bs (e137), mf_m9 (d := ma_p (ms_m S) - ma_p ν) (by omega), ↓mj_bs (mr_b16 hr1), ↓mj_bs (mp_4 G1), mm_fv, mf_lt (Nat.le_of_not_lt hlt) (show b.2.2 < 2 ^ 31 by omega), mt_eq heq, mt_le (Nat.le_of_not_lt hl2), mn_add]
                      exact r1
                  · have e : mm_fa (ms_r S) (ms_m S) (i + 1) = some b := by simp [mm_fa, hk2, hch, mm_fbt, hlt, heq]
                    rw [e] at r1
                    simp only [↓reduceIte, ↓mq_140_0, ↓mq_140_1, ↓mq_140_2, ↓mq_140_5, ↓mq_140_6, ↓mq_140_7, ↓mq_140_8, ↓mq_140_11, ↓mq_140_14, ↓mq_140_17, ↓mq_140_19, ↓mq_140_20, ↓mq_140_22, ↓mq_140_23, ↓mq_140_24, ↓mq_140_25, ↓mq_140_26, ↓mq_140_28, ↓mq_140_29, ↓mq_140_33, ↓mq_140_34, ↓mq_140_35, ↓mq_140_38, ↓mq_140_39, ↓mq_140_42, ↓mq_140_43, ↓mq_140_45, ↓mq_140_48, ↓mq_140_51, ↓mq_140_53, ↓mq_140_56, ↓mq_140_57, ↓mq_140_59, ↓mq_140_62, ↓mq_140_64, ↓mq_140_66, ↓mq_140_68, ↓mq_140_71, ↓mq_140_72, ↓mq_140_75, ↓mq_140_76, ↓mq_140_77, ↓mq_140_78, ↓mq_140_81, ↓mq_140_82, ↓mq_140_85, ↓mq_140_86, ↓mq_140_87, ↓mq_140_88, ↓mq_140_91, ↓mq_140_93, ↓mq_140_94, ↓mq_140_97, ↓mq_140_98, ↓mq_140_101, ↓mq_140_102, ↓mq_140_103, ↓mq_140_104, ↓mq_140_106, ↓mq_140_107, ↓mq_140_109, ↓mq_140_111, ↓mq_140_114, ↓mq_140_117, ↓mq_140_118, ↓mq_140_121, ↓mq_140_122, ↓mq_140_125, ↓mq_140_126, ↓mq_140_127, ↓mq_140_130, ↓mq_140_131, ↓mq_140_134, ↓mq_140_136, ↓mj_bs (mr_bn hrk), hsh, mf_le hi2 (show 2 ^ mr_n (ms_r S) < 2 ^ 31 by omega), mr_is hrk, ↓mj_bs (e136), Option.toList, List.cons_append, List.nil_append, mj_b0, Bool.not_true, ↓mj_bs (e137), mf_m9 (d := ma_p (ms_m S) - ma_p ν) (by omega), ↓mj_bs (mr_b16 hr1), ↓mj_bs (mp_4 G1), mm_fv, mf_lt (Nat.le_of_not_lt hlt) (show b.2.2 < 2 ^ 31 by omega), mf_eq heq, mn_add]
                    exact r1
      obtain ⟨h1, r1, C1, F1⟩ := loopC (2 ^ mr_n (ms_r S)) 0 h .null (by omega) C mh_F.rf
      refine mh_opI (v := .int v) (S' := S) JJ (h1 := h1) w ?_ (F1.mo (fun k z => ⟨by have := z.1; omega, by have := z.2; omega⟩)) C1 ?_
      · rw [mc_76]
        simp only [↓reduceIte, ↓mq_76_0, ↓mq_76_1, ↓mq_76_4, ↓mq_76_5, ↓mq_76_6, ↓mq_76_9, ↓mq_76_11, ↓mq_76_12, ↓mq_76_14, ↓mq_76_15, ↓mq_76_17, ↓mq_76_18, ↓mq_76_20, ↓mq_76_22, ↓mq_76_23, ↓mq_76_27, ↓mq_76_28, ↓mq_76_31, ↓mq_76_34, ↓mq_76_37, ↓mq_76_38, ↓mq_76_40, ↓mq_76_43, ↓mq_76_46, ↓mq_76_47, ↓mq_76_49, ↓mq_76_52, ↓mq_76_55, ↓mq_76_57, ↓mq_76_59, ↓mq_76_61, ↓mq_76_63, ↓mq_76_66, ↓mq_76_67, ↓mq_76_70, ↓mq_76_73, ↓mq_76_75, ↓mq_76_78, ↓mq_76_79, ↓mq_76_82, ↓mq_76_85, ↓mq_76_87, ↓mq_76_90, ↓mq_76_92, ↓mq_76_93, ↓mq_76_96, ↓mq_76_98, ↓mq_76_99, ↓mq_76_101, ↓mq_76_102, ↓mq_76_103, ↓mq_76_106, ↓mq_76_109, ↓mq_76_111, ↓mq_76_114, ↓mq_76_117, ↓mq_76_118, ↓mq_76_121, ↓mq_76_123, ↓mq_76_126, ↓mq_76_127, ↓mq_76_128, ↓mq_76_131, ↓mq_76_132, ↓mq_76_135, ↓mq_76_136, mf_lt (Nat.zero_le t), mt_le (show t ≤ 2 by omega)]
        exact r1
      · intro R
        have hrb := R.rr.1
        obtain ⟨h2, r2, R2, F2⟩ := loopR h1 R (2 ^ mr_n (ms_r S)) 0 h1 .null (by omega) R mh_F.rf
        refine ⟨h2, ?_, R2, F2.mo (fun k z => by omega)⟩
        rw [mc_140]
        simp only [↓reduceIte, ↓mq_140_0, ↓mq_140_1, ↓mq_140_2, ↓mq_140_5, ↓mq_140_6, ↓mq_140_7, ↓mq_140_8, ↓mq_140_11, ↓mq_140_14, ↓mq_140_17, ↓mq_140_19, ↓mq_140_20, ↓mq_140_22, ↓mq_140_23, ↓mq_140_24, ↓mq_140_25, ↓mq_140_26, ↓mq_140_28, ↓mq_140_29, ↓mq_140_33, ↓mq_140_34, ↓mq_140_35, ↓mq_140_38, ↓mq_140_39, ↓mq_140_42, ↓mq_140_43, ↓mq_140_45, ↓mq_140_48, ↓mq_140_51, ↓mq_140_53, ↓mq_140_56, ↓mq_140_57, ↓mq_140_59, ↓mq_140_62, ↓mq_140_64, ↓mq_140_66, ↓mq_140_68, ↓mq_140_71, ↓mq_140_72, ↓mq_140_75, ↓mq_140_76, ↓mq_140_77, ↓mq_140_78, ↓mq_140_81, ↓mq_140_82, ↓mq_140_85, ↓mq_140_86, ↓mq_140_87, ↓mq_140_88, ↓mq_140_91, ↓mq_140_93, ↓mq_140_94, ↓mq_140_97, ↓mq_140_98, ↓mq_140_101, ↓mq_140_102, ↓mq_140_103, ↓mq_140_104, ↓mq_140_106, ↓mq_140_107, ↓mq_140_109, ↓mq_140_111, ↓mq_140_114, ↓mq_140_117, ↓mq_140_118, ↓mq_140_121, ↓mq_140_122, ↓mq_140_125, ↓mq_140_126, ↓mq_140_127, ↓mq_140_130, ↓mq_140_131, ↓mq_140_134, ↓mq_140_136, ↓mj_bs (mr_th hrb), ↓mj_bs (mt_103_0_2), mn_dle (show t < 2 ^ 31 by omega) (show 2 < 2 ^ 31 by omega), show t ≤ 2 by omega, decide_true, Option.toList, List.cons_append, List.nil_append, mj_b0, Bool.true_eq_false]
        exact r2
    exact fin _ rfl
  · refine mh_opQ (v := .int (-2)) JJ ?_ ?_
    · rw [mc_76]
      rcases mn_out hno (by omega) with z | ⟨z1, z2⟩
      · simp only [↓reduceIte, ↓mq_76_0, ↓mq_76_1, ↓mq_76_4, ↓mq_76_5, ↓mq_76_6, ↓mq_76_9, ↓mq_76_11, ↓mq_76_12, ↓mq_76_14, ↓mq_76_15, ↓mq_76_17, ↓mq_76_18, ↓mq_76_20, ↓mq_76_22, ↓mq_76_23, ↓mq_76_25, ↓mq_76_27, ↓mq_76_28, ↓mq_76_31, ↓mq_76_34, ↓mq_76_37, ↓mq_76_38, ↓mq_76_40, ↓mq_76_43, ↓mq_76_46, ↓mq_76_47, ↓mq_76_49, ↓mq_76_52, ↓mq_76_55, ↓mq_76_57, ↓mq_76_59, ↓mq_76_61, ↓mq_76_63, ↓mq_76_66, ↓mq_76_67, ↓mq_76_70, ↓mq_76_73, ↓mq_76_75, ↓mq_76_78, ↓mq_76_79, ↓mq_76_82, ↓mq_76_85, ↓mq_76_87, ↓mq_76_90, ↓mq_76_92, ↓mq_76_93, ↓mq_76_96, ↓mq_76_98, ↓mq_76_99, ↓mq_76_101, ↓mq_76_102, ↓mq_76_103, ↓mq_76_106, ↓mq_76_109, ↓mq_76_111, ↓mq_76_114, ↓mq_76_117, ↓mq_76_118, ↓mq_76_121, ↓mq_76_123, ↓mq_76_126, ↓mq_76_127, ↓mq_76_128, ↓mq_76_131, ↓mq_76_132, ↓mq_76_135, ↓mq_76_136, z]
      · simp only [↓reduceIte, ↓mq_76_0, ↓mq_76_1, ↓mq_76_4, ↓mq_76_5, ↓mq_76_6, ↓mq_76_9, ↓mq_76_11, ↓mq_76_12, ↓mq_76_14, ↓mq_76_15, ↓mq_76_17, ↓mq_76_18, ↓mq_76_20, ↓mq_76_22, ↓mq_76_23, ↓mq_76_25, ↓mq_76_27, ↓mq_76_28, ↓mq_76_31, ↓mq_76_34, ↓mq_76_37, ↓mq_76_38, ↓mq_76_40, ↓mq_76_43, ↓mq_76_46, ↓mq_76_47, ↓mq_76_49, ↓mq_76_52, ↓mq_76_55, ↓mq_76_57, ↓mq_76_59, ↓mq_76_61, ↓mq_76_63, ↓mq_76_66, ↓mq_76_67, ↓mq_76_70, ↓mq_76_73, ↓mq_76_75, ↓mq_76_78, ↓mq_76_79, ↓mq_76_82, ↓mq_76_85, ↓mq_76_87, ↓mq_76_90, ↓mq_76_92, ↓mq_76_93, ↓mq_76_96, ↓mq_76_98, ↓mq_76_99, ↓mq_76_101, ↓mq_76_102, ↓mq_76_103, ↓mq_76_106, ↓mq_76_109, ↓mq_76_111, ↓mq_76_114, ↓mq_76_117, ↓mq_76_118, ↓mq_76_121, ↓mq_76_123, ↓mq_76_126, ↓mq_76_127, ↓mq_76_128, ↓mq_76_131, ↓mq_76_132, ↓mq_76_135, ↓mq_76_136, z1, z2]
    · rw [mc_140]
      simp only [↓reduceIte, ↓mq_140_0, ↓mq_140_1, ↓mq_140_2, ↓mq_140_5, ↓mq_140_6, ↓mq_140_7, ↓mq_140_8, ↓mq_140_11, ↓mq_140_14, ↓mq_140_17, ↓mq_140_19, ↓mq_140_20, ↓mq_140_22, ↓mq_140_23, ↓mq_140_24, ↓mq_140_25, ↓mq_140_26, ↓mq_140_28, ↓mq_140_29, ↓mq_140_31, ↓mq_140_33, ↓mq_140_34, ↓mq_140_35, ↓mq_140_38, ↓mq_140_39, ↓mq_140_42, ↓mq_140_43, ↓mq_140_45, ↓mq_140_48, ↓mq_140_51, ↓mq_140_53, ↓mq_140_56, ↓mq_140_57, ↓mq_140_59, ↓mq_140_62, ↓mq_140_64, ↓mq_140_66, ↓mq_140_68, ↓mq_140_71, ↓mq_140_72, ↓mq_140_75, ↓mq_140_76, ↓mq_140_77, ↓mq_140_78, ↓mq_140_81, ↓mq_140_82, ↓mq_140_85, ↓mq_140_86, ↓mq_140_87, ↓mq_140_88, ↓mq_140_91, ↓mq_140_93, ↓mq_140_94, ↓mq_140_97, ↓mq_140_98, ↓mq_140_101, ↓mq_140_102, ↓mq_140_103, ↓mq_140_104, ↓mq_140_106, ↓mq_140_107, ↓mq_140_109, ↓mq_140_111, ↓mq_140_114, ↓mq_140_117, ↓mq_140_118, ↓mq_140_121, ↓mq_140_122, ↓mq_140_125, ↓mq_140_126, ↓mq_140_127, ↓mq_140_130, ↓mq_140_131, ↓mq_140_134, ↓mq_140_136, ↓mj_bs (mr_th hrb), ↓mj_bs (mt_103_0_2), Option.toList, List.cons_append, List.nil_append, mn_dno' hno (show 2 < 3 by omega) (by omega), mj_b0]

end
