/-! COMMANDS: roads by a seed -/
def mm_nx (g : Int64) : Int64 := g * 6364136223846793005 + 1442695040888963407
def mm_rv (g : Int64) : Int64 := (g.toUInt64 >>> ((nI 33).toInt64.toUInt64 &&& Int64.toUInt64 63)).toInt64 - (g.toUInt64 >>> ((nI 33).toInt64.toUInt64 &&& Int64.toUInt64 63)).toInt64 / 10 * 10
def mm_rm (ρ : mm_Ro) (t : Int32) : Nat → mm_Ma → Int64 → mm_Ma × Int64
  | 0, μ, g => (μ, g)
  | d + 1, μ, g => if lg_cmp (mm_rv (mm_nx g)) t.toInt64 < nI 0 ∧ mm_can ρ μ = true then mm_rm ρ t d (mm_come ρ μ) (mm_nx g) else mm_rm ρ t d (mm_skip μ) (mm_nx g)
section
variable {S : mm_St} {h h' : mj_H}
theorem mo_97 (J : mh_J S h) (x : Int32) : mh_op 97 163 [.int x] h := by
  have JJ := J
  obtain ⟨w, C, R⟩ := J
  have wr := w.2.2.1
  have wm := w.2.2.2.1
  have hn9 := wr.1
  have hnx := wm.2.2.1
  have hrb := R.rr.1
  have h10z : ((10 : Int64) = 0) = False := by decide
  have C' := C
  obtain ⟨o1, -, Ro, -, M, ⟨μt, T⟩, -⟩ := C
  rcases mn_range 11 (by omega) x with ⟨t, ht, rfl, -, -⟩ | ⟨-, hno⟩
  · obtain ⟨μ', g', hE⟩ : ∃ μ' g', mm_rm (ms_r S) (nI t) (mr_n (ms_r S) - ma_n (ms_m S)) (ms_m S) (ms_g S) = (μ', g') := ⟨_, _, rfl⟩
    have loopC : ∀ d i hk (μ : mm_Ma) (g : Int64), i + d = mr_n (ms_r S) → ma_n μ = i → mw_M (ms_r S) μ → mh_Ma hk 22 4 μ → mh_JC (ms_t S, ms_r S, ms_m S, ms_a S, ms_k S, ms_s S, g) hk → mh_F (fun k => k = 1 ∨ mh_A 22 23 k) h hk → mm_rm (ms_r S) (nI t) d μ g = (μ', g') → ∃ h', mj_R 97 (32, [.ref 1, .int (nI t), .int (nI i)], [], hk) = some (some (.int (nI (ma_b μ'))), h') ∧ mh_JC (ms_t S, ms_r S, ms_m S, ms_a S, ms_k S, ms_s S, g') h' ∧ mh_F (fun k => k = 1 ∨ mh_A 22 23 k) h h' := by
      intro d
      induction d with
      | zero =>
        intro i hk μ g hi hni wμ G Ck F hE
        obtain rfl : i = mr_n (ms_r S) := by omega
        cases hE
        have ok := Ck.1
        have Rk := Ck.2.2.1
        have Rk' : mh_Ro hk 4 (ms_r S) := Rk
        refine ⟨hk, ?_, Ck, F⟩
        simp only [↓reduceIte, ↓mq_97_0, ↓mq_97_1, ↓mq_97_4, ↓mq_97_5, ↓mq_97_7, ↓mq_97_10, ↓mq_97_12, ↓mq_97_13, ↓mq_97_14, ↓mq_97_17, ↓mq_97_18, ↓mq_97_21, ↓mq_97_24, ↓mq_97_25, ↓mq_97_28, ↓mq_97_31, ↓mq_97_32, ↓mq_97_33, ↓mq_97_34, ↓mq_97_37, ↓mq_97_40, ↓mq_97_43, ↓mq_97_44, ↓mq_97_45, ↓mq_97_48, ↓mq_97_51, ↓mq_97_52, ↓mq_97_55, ↓mq_97_56, ↓mq_97_59, ↓mq_97_60, ↓mq_97_63, ↓mq_97_65, ↓mq_97_66, ↓mq_97_69, ↓mq_97_70, ↓mq_97_71, ↓mq_97_72, ↓mq_97_73, ↓mq_97_76, ↓mq_97_77, ↓mq_97_80, ↓mq_97_83, ↓mq_97_86, ↓mq_97_87, ↓mq_97_90, ↓mq_97_93, ↓mq_97_94, ↓mq_97_97, ↓mq_97_98, ↓mq_97_101, ↓mq_97_104, ↓mq_97_107, ↓mq_97_110, ↓mq_97_111, ↓mq_97_114, ↓mq_97_117, ↓mj_bs (mh_gf 1 ok rfl), ↓mj_bs (mh_gf 1 Rk'.1 rfl), mt_le (Nat.le_refl (mr_n (ms_r S))), ↓mj_bs (mh_gf 4 ok rfl), ↓mj_bs (mh_gf 2 G.1 rfl)]
      | succ d ih =>
        intro i hk μ g hi hni wμ G Ck F hE
        have hin : i < mr_n (ms_r S) := by omega
        have ok := Ck.1
        have Rk : mh_Ro hk 4 (ms_r S) := Ck.2.2.1
        obtain ⟨nx, hnx2⟩ : ∃ z, z = mm_nx g := ⟨_, rfl⟩
        obtain ⟨h1, hh1⟩ : ∃ k, k = mj_up hk 1 (.inr (6, [.ref 2, .ref 4, .ref 12, .ref 20, .ref 22, .ref 24, .ref 54, .ref 55, .ref 56, .ref 59, .int (nI (ms_s S).length), .int (nI (mm_mask (ms_s S) true)), .int (nI (mm_mask (ms_s S) false)), .long nx])) := ⟨_, rfl⟩
        have ok' : hk.1 1 = some (.inr (6, [.ref 2, .ref 4, .ref 12, .ref 20, .ref 22, .ref 24, .ref 54, .ref 55, .ref 56, .ref 59, .int (nI (ms_s S).length), .int (nI (mm_mask (ms_s S) true)), .int (nI (mm_mask (ms_s S) false)), .long g])) := ok
        have e1 : mj_pf hk 1 6 13 (.long (g * 6364136223846793005 + 1442695040888963407)) = some h1 := by rw [hh1, hnx2]; exact mh_pf 13 ok' (by simp) rfl
        have o2 := mh_ue hh1
        have F1 : mh_F (fun k => k = 1) hk h1 := by rw [hh1]; exact mh_uF
        have C1 : mh_JC (ms_t S, ms_r S, ms_m S, ms_a S, ms_k S, ms_s S, nx) h1 := Ck.ob F1 o2
        have R1 : mh_Ro h1 4 (ms_r S) := C1.2.2.1
        have G1 := G.kp F1 (by omega) (by omega)
        have e16 := mt_16 wr wμ R1 G1
        have toT : ∀ {q q' : mj_H}, mh_F (fun k => k = 1) q q' → mh_F (fun k => k = 1 ∨ mh_A 22 23 k) q q' := fun F => F.mo (fun k z => Or.inl z)
        have toM : ∀ {q q' : mj_H}, mh_F (mh_A 22 23) q q' → mh_F (fun k => k = 1 ∨ mh_A 22 23 k) q q' := fun F => F.mo (fun k z => Or.inr z)
        obtain ⟨gs, fs, Gs, Ds⟩ := mt_20 wr wμ R1 G1 (by omega)
        have Ds' : mh_F (mh_A 22 23) h1 gs := Ds.mo (fun k z => by subst z; exact ⟨by omega, by omega⟩)
        rw [mq_97_32]
        by_cases hlt : lg_cmp (mm_rv nx) (nI t).toInt64 < nI 0
        · have hle : (nI 0 ≤ lg_cmp (mm_rv nx) (nI t).toInt64) = False := eq_false (fun z => mn_nlt.mpr z hlt)
          have hle' := hle
          simp only [mm_rv] at hle'
          cases hc : mm_can (ms_r S) μ
          · have e : mm_rm (ms_r S) (nI t) (d + 1) μ g = mm_rm (ms_r S) (nI t) d (mm_skip μ) nx := by simp only [mm_rm, ← hnx2, hc, Bool.false_eq_true, and_false, if_false]
            obtain ⟨h', r1, r2⟩ := ih (i + 1) gs _ nx (by omega) (by show ma_n μ + 1 = i + 1; omega) (mw_skip wμ (by omega)) Gs (C1.tr Ds' Gs) ((F.tt (toT F1)).tt (toM Ds')) (by rw [← e]; exact hE)
            refine ⟨h', ?_, r2⟩
            have o2' := o2
            simp only [↓reduceIte, ↓mq_97_0, ↓mq_97_1, ↓mq_97_4, ↓mq_97_5, ↓mq_97_7, ↓mq_97_10, ↓mq_97_12, ↓mq_97_13, ↓mq_97_14, ↓mq_97_17, ↓mq_97_18, ↓mq_97_21, ↓mq_97_24, ↓mq_97_25, ↓mq_97_28, ↓mq_97_31, ↓mq_97_33, ↓mq_97_34, ↓mq_97_37, ↓mq_97_40, ↓mq_97_43, ↓mq_97_44, ↓mq_97_45, ↓mq_97_48, ↓mq_97_51, ↓mq_97_52, ↓mq_97_55, ↓mq_97_56, ↓mq_97_59, ↓mq_97_60, ↓mq_97_63, ↓mq_97_65, ↓mq_97_66, ↓mq_97_69, ↓mq_97_70, ↓mq_97_71, ↓mq_97_72, ↓mq_97_73, ↓mq_97_76, ↓mq_97_77, ↓mq_97_80, ↓mq_97_83, ↓mq_97_86, ↓mq_97_87, ↓mq_97_90, ↓mq_97_93, ↓mq_97_94, ↓mq_97_97, ↓mq_97_98, ↓mq_97_101, ↓mq_97_104, ↓mq_97_107, ↓mq_97_110, ↓mq_97_111, ↓mq_97_114, ↓mq_97_117, ↓mj_bs (mh_gf 1 ok' rfl), ↓mj_bs (mh_gf 1 Rk.1 rfl), mf_le hin, ↓mj_bs (mh_gf 13 ok' rfl), ↓mj_bs (e1), ↓mj_bs (mh_gf 13 o2' rfl), h10z, hle', ↓mj_bs (mh_gf 4 o2' rfl), mh_isC G1.1, ↓mj_bs (e16), hc, mj_b0, ↓mj_bs (fs), Option.toList, List.cons_append, List.nil_append, mn_add]
            exact r1
          · have e : mm_rm (ms_r S) (nI t) (d + 1) μ g = mm_rm (ms_r S) (nI t) d (mm_come (ms_r S) μ) nx := by simp only [mm_rm, ← hnx2, hc, hlt, and_self, if_true]
            obtain ⟨gc, fc, Gc, Dc⟩ := mt_18 wr wμ R1 (by omega) G1 hc
            have Dc' : mh_F (mh_A 22 23) h1 gc := Dc
            obtain ⟨h', r1, r2⟩ := ih (i + 1) gc _ nx (by omega) (by show ma_n μ + 1 = i + 1; omega) (mw_come wr wμ hc) Gc (C1.tr Dc' Gc) ((F.tt (toT F1)).tt (toM Dc')) (by rw [← e]; exact hE)
            refine ⟨h', ?_, r2⟩
            have o2' := o2
            simp only [↓reduceIte, ↓mq_97_0, ↓mq_97_1, ↓mq_97_4, ↓mq_97_5, ↓mq_97_7, ↓mq_97_10, ↓mq_97_12, ↓mq_97_13, ↓mq_97_14, ↓mq_97_17, ↓mq_97_18, ↓mq_97_21, ↓mq_97_24, ↓mq_97_25, ↓mq_97_28, ↓mq_97_31, ↓mq_97_33, ↓mq_97_34, ↓mq_97_37, ↓mq_97_40, ↓mq_97_43, ↓mq_97_44, ↓mq_97_45, ↓mq_97_48, ↓mq_97_51, ↓mq_97_52, ↓mq_97_55, ↓mq_97_56, ↓mq_97_59, ↓mq_97_60, ↓mq_97_63, ↓mq_97_65, ↓mq_97_66, ↓mq_97_69, ↓mq_97_70, ↓mq_97_71, ↓mq_97_72, ↓mq_97_73, ↓mq_97_76, ↓mq_97_77, ↓mq_97_80, ↓mq_97_83, ↓mq_97_86, ↓mq_97_87, ↓mq_97_90, ↓mq_97_93, ↓mq_97_94, ↓mq_97_97, ↓mq_97_98, ↓mq_97_101, ↓mq_97_104, ↓mq_97_107, ↓mq_97_110, ↓mq_97_111, ↓mq_97_114, ↓mq_97_117, ↓mj_bs (mh_gf 1 ok' rfl), ↓mj_bs (mh_gf 1 Rk.1 rfl), mf_le hin, ↓mj_bs (mh_gf 13 ok' rfl), ↓mj_bs (e1), ↓mj_bs (mh_gf 13 o2' rfl), h10z, hle', ↓mj_bs (mh_gf 4 o2' rfl), mh_isC G1.1, ↓mj_bs (e16), hc, mj_b0, Bool.true_eq_false, ↓mj_bs (fc), Option.toList, List.cons_append, List.nil_append, mn_add]
            exact r1
        · have hle : (nI 0 ≤ lg_cmp (mm_rv nx) (nI t).toInt64) = True := eq_true (mn_nlt.mp hlt)
          have hle' := hle
          simp only [mm_rv] at hle'
          have e : mm_rm (ms_r S) (nI t) (d + 1) μ g = mm_rm (ms_r S) (nI t) d (mm_skip μ) nx := by simp only [mm_rm, ← hnx2, hlt, false_and, if_false]
          obtain ⟨h', r1, r2⟩ := ih (i + 1) gs _ nx (by omega) (by show ma_n μ + 1 = i + 1; omega) (mw_skip wμ (by omega)) Gs (C1.tr Ds' Gs) ((F.tt (toT F1)).tt (toM Ds')) (by rw [← e]; exact hE)
          refine ⟨h', ?_, r2⟩
          have o2' := o2
          simp only [↓reduceIte, ↓mq_97_0, ↓mq_97_1, ↓mq_97_4, ↓mq_97_5, ↓mq_97_7, ↓mq_97_10, ↓mq_97_12, ↓mq_97_13, ↓mq_97_14, ↓mq_97_17, ↓mq_97_18, ↓mq_97_21, ↓mq_97_24, ↓mq_97_25, ↓mq_97_28, ↓mq_97_31, ↓mq_97_33, ↓mq_97_34, ↓mq_97_37, ↓mq_97_40, ↓mq_97_43, ↓mq_97_44, ↓mq_97_45, ↓mq_97_48, ↓mq_97_51, ↓mq_97_52, ↓mq_97_55, ↓mq_97_56, ↓mq_97_59, ↓mq_97_60, ↓mq_97_63, ↓mq_97_65, ↓mq_97_66, ↓mq_97_69, ↓mq_97_70, ↓mq_97_71, ↓mq_97_72, ↓mq_97_73, ↓mq_97_76, ↓mq_97_77, ↓mq_97_80, ↓mq_97_83, ↓mq_97_86, ↓mq_97_87, ↓mq_97_90, ↓mq_97_93, ↓mq_97_94, ↓mq_97_97, ↓mq_97_98, ↓mq_97_101, ↓mq_97_104, ↓mq_97_107, ↓mq_97_110, ↓mq_97_111, ↓mq_97_114, ↓mq_97_117, ↓mj_bs (mh_gf 1 ok' rfl), ↓mj_bs (mh_gf 1 Rk.1 rfl), mf_le hin, ↓mj_bs (mh_gf 13 ok' rfl), ↓mj_bs (e1), ↓mj_bs (mh_gf 13 o2' rfl), h10z, hle', ↓mj_bs (mh_gf 4 o2' rfl), mh_isC G1.1, ↓mj_bs (fs), Option.toList, List.cons_append, List.nil_append, mn_add]
          exact r1
    have loopR : ∀ d hk (μ : mm_Ma) (g : Int64), ma_n μ + d = mr_n (ms_r S) → mw_M (ms_r S) μ → mh_pg hk 74 μ → mh_JR (ms_t S, ms_r S, ms_m S, ms_a S, ms_k S, ms_s S, g) hk → mm_rm (ms_r S) (nI t) d μ g = (μ', g') → ∃ h', mj_R 163 (24, [.ref 65, .int (nI t)], [], hk) = some (some (.int (nI (ma_b μ'))), h') ∧ mh_JR (ms_t S, ms_r S, ms_m S, ms_a S, ms_k S, ms_s S, g') h' ∧ mh_F (fun k => 65 ≤ k) hk h' := by
      intro d
      induction d with
      | zero =>
        intro hk μ g hi wμ G Rk hE
        cases hE
        have hrk : mh_Rb hk (ms_r S) := Rk.rr.1
        refine ⟨hk, ?_, Rk, mh_F.rf⟩
        simp only [↓reduceIte, ↓mq_163_0, ↓mq_163_1, ↓mq_163_2, ↓mq_163_5, ↓mq_163_6, ↓mq_163_7, ↓mq_163_8, ↓mq_163_11, ↓mq_163_14, ↓mq_163_17, ↓mq_163_19, ↓mq_163_20, ↓mq_163_21, ↓mq_163_24, ↓mq_163_25, ↓mq_163_28, ↓mq_163_29, ↓mq_163_30, ↓mq_163_31, ↓mq_163_34, ↓mq_163_37, ↓mq_163_38, ↓mq_163_39, ↓mq_163_42, ↓mq_163_45, ↓mq_163_46, ↓mq_163_49, ↓mq_163_50, ↓mq_163_53, ↓mq_163_54, ↓mq_163_57, ↓mq_163_59, ↓mq_163_60, ↓mq_163_63, ↓mq_163_64, ↓mq_163_65, ↓mq_163_66, ↓mq_163_67, ↓mq_163_70, ↓mq_163_71, ↓mq_163_72, ↓mq_163_75, ↓mq_163_78, ↓mq_163_81, ↓mq_163_82, ↓mq_163_83, ↓mq_163_86, ↓mq_163_89, ↓mq_163_90, ↓mq_163_93, ↓mq_163_94, ↓mq_163_97, ↓mq_163_98, ↓mq_163_99, ↓mq_163_100, ↓mq_163_101, ↓mq_163_102, ↓mq_163_103, ↓mq_163_106, ↓mq_163_107, ↓mq_163_110, ↓mq_163_111, ↓mq_163_112, ↓mj_bs (mr_b16 hrk), ↓mj_bs (mp_3 G), ↓mj_bs (mr_bn hrk), mt_le (show mr_n (ms_r S) ≤ ma_n μ' by omega) (show ma_n μ' < 2 ^ 31 by omega), ↓mj_bs (mp_1 G)]
      | succ d ih =>
        intro hk μ g hi wμ G Rk hE
        have hin : ma_n μ < mr_n (ms_r S) := by omega
        have hrk : mh_Rb hk (ms_r S) := Rk.rr.1
        have Rk' := Rk
        obtain ⟨⟨pl, rb, rg, rp, o⟩, -, -, -, -, -, -, -, -, TW, -⟩ := Rk
        have o' : hk.1 65 = some (.inr (7, mr_fs (nI (ms_t S).length) pl (nI (mr_n (ms_r S))) (nI (mr_g (ms_r S))) rb rg rp (nI (ms_a S).length) (nI (ms_s S).length) g)) := o
        obtain ⟨nx, hnx2⟩ : ∃ z, z = mm_nx g := ⟨_, rfl⟩
        obtain ⟨h1, hh1⟩ : ∃ k, k = mj_up hk 65 (.inr (7, mr_fs (nI (ms_t S).length) pl (nI (mr_n (ms_r S))) (nI (mr_g (ms_r S))) rb rg rp (nI (ms_a S).length) (nI (ms_s S).length) nx)) := ⟨_, rfl⟩
        have e1 : mj_pf hk 65 7 24 (.long (g * 6364136223846793005 + 1442695040888963407)) = some h1 := by rw [hh1, hnx2]; exact mh_pf 24 o' (by simp) rfl
        have o2 := mh_ue hh1
        have F1 : mh_F (fun k => k = 65) hk h1 := by rw [hh1]; exact mh_uF
        have R1 : mh_JR (ms_t S, ms_r S, ms_m S, ms_a S, ms_k S, ms_s S, nx) h1 := Rk'.ob (F1.mo (fun k z => Or.inl z)) ⟨pl, rb, rg, rp, o2⟩ (TW.kp F1 (by omega) (by omega))
        have Rr1 : mh_RR h1 (ms_r S) := R1.rr
        have G1 := G.kp F1 (by omega)
        have e125 := mt_125 wr wμ Rr1 G1
        have up : ∀ {q q' : mj_H}, mh_F (fun k => k = 74) q q' → mh_F (fun k => 65 ≤ k) q q' := fun F => F.mo (fun k z => by omega)
        have F1' : mh_F (fun k => 65 ≤ k) hk h1 := F1.mo (fun k z => by omega)
        obtain ⟨gs, fs, Gs, Ds⟩ := mp_u3 G1 (ma_n μ + 1)
        have Gs' : mh_pg gs 74 (mm_skip μ) := Gs
        have any : ∀ {q ν}, mh_pg q 74 ν → mh_any q 74 11 := fun z => by obtain ⟨f, f1, -⟩ := z; exact ⟨f, f1⟩
        have o2' := o2
        rw [mq_163_24]
        by_cases hlt : lg_cmp (mm_rv nx) (nI t).toInt64 < nI 0
        · have hle : (nI 0 ≤ lg_cmp (mm_rv nx) (nI t).toInt64) = False := eq_false (fun z => mn_nlt.mpr z hlt)
          have hle' := hle
          simp only [mm_rv] at hle'
          cases hc : mm_can (ms_r S) μ
          · have e : mm_rm (ms_r S) (nI t) (d + 1) μ g = mm_rm (ms_r S) (nI t) d (mm_skip μ) nx := by simp only [mm_rm, ← hnx2, hc, Bool.false_eq_true, and_false, if_false]
            obtain ⟨h', r1, r2, r3⟩ := ih gs _ nx (by show ma_n μ + 1 + d = _; omega) (mw_skip wμ hin) Gs' (R1.tr Ds (any Gs)) (by rw [← e]; exact hE)
            refine ⟨h', ?_, r2, (F1'.tt (up Ds)).tt r3⟩
            simp only [↓reduceIte, ↓mq_163_0, ↓mq_163_1, ↓mq_163_2, ↓mq_163_5, ↓mq_163_6, ↓mq_163_7, ↓mq_163_8, ↓mq_163_11, ↓mq_163_14, ↓mq_163_17, ↓mq_163_19, ↓mq_163_20, ↓mq_163_21, ↓mq_163_25, ↓mq_163_28, ↓mq_163_29, ↓mq_163_30, ↓mq_163_31, ↓mq_163_34, ↓mq_163_37, ↓mq_163_38, ↓mq_163_39, ↓mq_163_42, ↓mq_163_45, ↓mq_163_46, ↓mq_163_49, ↓mq_163_50, ↓mq_163_53, ↓mq_163_54, ↓mq_163_57, ↓mq_163_59, ↓mq_163_60, ↓mq_163_63, ↓mq_163_64, ↓mq_163_65, ↓mq_163_66, ↓mq_163_67, ↓mq_163_70, ↓mq_163_71, ↓mq_163_72, ↓mq_163_75, ↓mq_163_78, ↓mq_163_81, ↓mq_163_82, ↓mq_163_83, ↓mq_163_86, ↓mq_163_89, ↓mq_163_90, ↓mq_163_93, ↓mq_163_94, ↓mq_163_97, ↓mq_163_98, ↓mq_163_99, ↓mq_163_100, ↓mq_163_101, ↓mq_163_102, ↓mq_163_103, ↓mq_163_106, ↓mq_163_107, ↓mq_163_110, ↓mq_163_111, ↓mq_163_112, ↓mj_bs (mr_b16 hrk), ↓mj_bs (mp_3 G), ↓mj_bs (mr_bn hrk), mf_le hin, ↓mj_bs (mh_gf 24 o' rfl), ↓mj_bs (e1), ↓mj_bs (mh_gf 24 o2' rfl), h10z, hle', ↓mj_bs (mr_b16 Rr1.1), mr_is Rr1.1, ↓mj_bs (e125), hc, mj_b0, ↓mj_bs (mp_3 G1), Option.toList, List.cons_append, List.nil_append, mn_add, ↓mj_bs (fs)]
            exact r1
          · have e : mm_rm (ms_r S) (nI t) (d + 1) μ g = mm_rm (ms_r S) (nI t) d (mm_come (ms_r S) μ) nx := by simp only [mm_rm, ← hnx2, hc, hlt, and_self, if_true]
            obtain ⟨gc, fc, Gc, Dc⟩ := mt_127 wr wμ Rr1 G1 (by omega) hc
            obtain ⟨h', r1, r2, r3⟩ := ih gc _ nx (by show ma_n μ + 1 + d = _; omega) (mw_come wr wμ hc) Gc (R1.tr Dc (any Gc)) (by rw [← e]; exact hE)
            refine ⟨h', ?_, r2, (F1'.tt (up Dc)).tt r3⟩
            simp only [↓reduceIte, ↓mq_163_0, ↓mq_163_1, ↓mq_163_2, ↓mq_163_5, ↓mq_163_6, ↓mq_163_7, ↓mq_163_8, ↓mq_163_11, ↓mq_163_14, ↓mq_163_17, ↓mq_163_19, ↓mq_163_20, ↓mq_163_21, ↓mq_163_25, ↓mq_163_28, ↓mq_163_29, ↓mq_163_30, ↓mq_163_31, ↓mq_163_34, ↓mq_163_37, ↓mq_163_38, ↓mq_163_39, ↓mq_163_42, ↓mq_163_45, ↓mq_163_46, ↓mq_163_49, ↓mq_163_50, ↓mq_163_53, ↓mq_163_54, ↓mq_163_57, ↓mq_163_59, ↓mq_163_60, ↓mq_163_63, ↓mq_163_64, ↓mq_163_65, ↓mq_163_66, ↓mq_163_67, ↓mq_163_70, ↓mq_163_71, ↓mq_163_72, ↓mq_163_75, ↓mq_163_78, ↓mq_163_81, ↓mq_163_82, ↓mq_163_83, ↓mq_163_86, ↓mq_163_89, ↓mq_163_90, ↓mq_163_93, ↓mq_163_94, ↓mq_163_97, ↓mq_163_98, ↓mq_163_99, ↓mq_163_100, ↓mq_163_101, ↓mq_163_102, ↓mq_163_103, ↓mq_163_106, ↓mq_163_107, ↓mq_163_110, ↓mq_163_111, ↓mq_163_112, ↓mj_bs (mr_b16 hrk), ↓mj_bs (mp_3 G), ↓mj_bs (mr_bn hrk), mf_le hin, ↓mj_bs (mh_gf 24 o' rfl), ↓mj_bs (e1), ↓mj_bs (mh_gf 24 o2' rfl), h10z, hle', ↓mj_bs (mr_b16 Rr1.1), mr_is Rr1.1, ↓mj_bs (e125), hc, mj_b0, Bool.true_eq_false, Option.toList, List.cons_append, List.nil_append]
            rw [mj_bs fc]
            simp only [↓reduceIte, ↓mq_163_0, ↓mq_163_1, ↓mq_163_2, ↓mq_163_5, ↓mq_163_6, ↓mq_163_7, ↓mq_163_8, ↓mq_163_11, ↓mq_163_14, ↓mq_163_17, ↓mq_163_19, ↓mq_163_20, ↓mq_163_21, ↓mq_163_25, ↓mq_163_28, ↓mq_163_29, ↓mq_163_30, ↓mq_163_31, ↓mq_163_34, ↓mq_163_37, ↓mq_163_38, ↓mq_163_39, ↓mq_163_42, ↓mq_163_45, ↓mq_163_46, ↓mq_163_49, ↓mq_163_50, ↓mq_163_53, ↓mq_163_54, ↓mq_163_57, ↓mq_163_59, ↓mq_163_60, ↓mq_163_63, ↓mq_163_64, ↓mq_163_65, ↓mq_163_66, ↓mq_163_67, ↓mq_163_70, ↓mq_163_71, ↓mq_163_72, ↓mq_163_75, ↓mq_163_78, ↓mq_163_81, ↓mq_163_82, ↓mq_163_83, ↓mq_163_86, ↓mq_163_89, ↓mq_163_90, ↓mq_163_93, ↓mq_163_94, ↓mq_163_97, ↓mq_163_98, ↓mq_163_99, ↓mq_163_100, ↓mq_163_101, ↓mq_163_102, ↓mq_163_103, ↓mq_163_106, ↓mq_163_107, ↓mq_163_110, ↓mq_163_111, ↓mq_163_112, Option.toList, List.cons_append, List.nil_append]
            exact r1
        · have hle : (nI 0 ≤ lg_cmp (mm_rv nx) (nI t).toInt64) = True := eq_true (mn_nlt.mp hlt)
          have hle' := hle
          simp only [mm_rv] at hle'
          have e : mm_rm (ms_r S) (nI t) (d + 1) μ g = mm_rm (ms_r S) (nI t) d (mm_skip μ) nx := by simp only [mm_rm, ← hnx2, hlt, false_and, if_false]
          obtain ⟨h', r1, r2, r3⟩ := ih gs _ nx (by show ma_n μ + 1 + d = _; omega) (mw_skip wμ hin) Gs' (R1.tr Ds (any Gs)) (by rw [← e]; exact hE)
          refine ⟨h', ?_, r2, (F1'.tt (up Ds)).tt r3⟩
          simp only [↓reduceIte, ↓mq_163_0, ↓mq_163_1, ↓mq_163_2, ↓mq_163_5, ↓mq_163_6, ↓mq_163_7, ↓mq_163_8, ↓mq_163_11, ↓mq_163_14, ↓mq_163_17, ↓mq_163_19, ↓mq_163_20, ↓mq_163_21, ↓mq_163_25, ↓mq_163_28, ↓mq_163_29, ↓mq_163_30, ↓mq_163_31, ↓mq_163_34, ↓mq_163_37, ↓mq_163_38, ↓mq_163_39, ↓mq_163_42, ↓mq_163_45, ↓mq_163_46, ↓mq_163_49, ↓mq_163_50, ↓mq_163_53, ↓mq_163_54, ↓mq_163_57, ↓mq_163_59, ↓mq_163_60, ↓mq_163_63, ↓mq_163_64, ↓mq_163_65, ↓mq_163_66, ↓mq_163_67, ↓mq_163_70, ↓mq_163_71, ↓mq_163_72, ↓mq_163_75, ↓mq_163_78, ↓mq_163_81, ↓mq_163_82, ↓mq_163_83, ↓mq_163_86, ↓mq_163_89, ↓mq_163_90, ↓mq_163_93, ↓mq_163_94, ↓mq_163_97, ↓mq_163_98, ↓mq_163_99, ↓mq_163_100, ↓mq_163_101, ↓mq_163_102, ↓mq_163_103, ↓mq_163_106, ↓mq_163_107, ↓mq_163_110, ↓mq_163_111, ↓mq_163_112, ↓mj_bs (mr_b16 hrk), ↓mj_bs (mp_3 G), ↓mj_bs (mr_bn hrk), mf_le hin, ↓mj_bs (mh_gf 24 o' rfl), ↓mj_bs (e1), ↓mj_bs (mh_gf 24 o2' rfl), h10z, hle', ↓mj_bs (mr_b16 Rr1.1), ↓mj_bs (mp_3 G1), Option.toList, List.cons_append, List.nil_append, mn_add, ↓mj_bs (fs)]
          exact r1
    obtain ⟨h1, e1, T1, F1⟩ := mt_17 T M (by omega) (by omega) (by omega)
    have F1' : mh_F (mh_A 22 23) h h1 := F1
    have no : ∀ k, k < 22 → ¬ mh_A 22 23 k := fun k hk z => by have := z.1; omega
    have C1 := C'.tr F1' T1
    have oA := (F1'.2 1 (no _ (by omega))).trans o1
    have M1 := M.kp F1' (no _ (by omega)) (no _ (by omega))
    obtain ⟨h2, r1, C2, F2⟩ := loopC (mr_n (ms_r S) - ma_n (ms_m S)) (ma_n (ms_m S)) h1 (ms_m S) (ms_g S) (by omega) rfl wm T1 C1 (F1'.mo (fun k z => Or.inr z)) hE
    refine mh_opI (v := .int (nI (ma_b μ'))) (S' := (ms_t S, ms_r S, ms_m S, ms_a S, ms_k S, ms_s S, g')) JJ (h1 := h2) w ?_ (F2.mo (fun k z => by
      rcases z with z | z
      · subst z; exact ⟨by omega, by omega⟩
      · exact ⟨by have := z.1; omega, by have := z.2; omega⟩)) C2 ?_
    · rw [mc_97]
      simp only [↓reduceIte, ↓mq_97_0, ↓mq_97_1, ↓mq_97_4, ↓mq_97_5, ↓mq_97_7, ↓mq_97_10, ↓mq_97_12, ↓mq_97_13, ↓mq_97_14, ↓mq_97_17, ↓mq_97_18, ↓mq_97_21, ↓mq_97_24, ↓mq_97_25, ↓mq_97_28, ↓mq_97_31, ↓mq_97_33, ↓mq_97_34, ↓mq_97_37, ↓mq_97_40, ↓mq_97_43, ↓mq_97_44, ↓mq_97_45, ↓mq_97_48, ↓mq_97_51, ↓mq_97_52, ↓mq_97_55, ↓mq_97_56, ↓mq_97_59, ↓mq_97_60, ↓mq_97_63, ↓mq_97_65, ↓mq_97_66, ↓mq_97_69, ↓mq_97_70, ↓mq_97_71, ↓mq_97_72, ↓mq_97_73, ↓mq_97_76, ↓mq_97_77, ↓mq_97_80, ↓mq_97_83, ↓mq_97_86, ↓mq_97_87, ↓mq_97_90, ↓mq_97_93, ↓mq_97_94, ↓mq_97_97, ↓mq_97_98, ↓mq_97_101, ↓mq_97_104, ↓mq_97_107, ↓mq_97_110, ↓mq_97_111, ↓mq_97_114, ↓mq_97_117, mf_lt (Nat.zero_le t), mt_le (show t ≤ 10 by omega), ↓mj_bs (mh_gf 4 o1 rfl), ↓mj_bs (mh_gf 3 o1 rfl), mh_isC T.1, ↓mj_bs (e1), ↓mj_bs (mh_gf 3 oA rfl), ↓mj_bs (mh_gf 4 M1.1 rfl), Option.toList, List.nil_append]
      exact r1
    · intro R
      have hrb := R.rr.1
      obtain ⟨ft, T9⟩ := R.2.2.2.2.2.1
      obtain ⟨g1, f1, G1, D1⟩ := mt_138 hrb R.pg T9
      have any : mh_any g1 74 11 := by obtain ⟨f, f1, -⟩ := G1; exact ⟨f, f1⟩
      obtain ⟨g2, r2, R2, D2⟩ := loopR (mr_n (ms_r S) - ma_n (ms_m S)) g1 (ms_m S) (ms_g S) (by omega) wm G1 (R.tr D1 any) hE
      refine ⟨g2, ?_, R2, (D1.mo (fun k z => by omega)).tt D2⟩
      rw [mc_163]
      simp only [↓reduceIte, ↓mq_163_0, ↓mq_163_1, ↓mq_163_2, ↓mq_163_5, ↓mq_163_6, ↓mq_163_7, ↓mq_163_8, ↓mq_163_11, ↓mq_163_14, ↓mq_163_17, ↓mq_163_19, ↓mq_163_20, ↓mq_163_21, ↓mq_163_25, ↓mq_163_28, ↓mq_163_29, ↓mq_163_30, ↓mq_163_31, ↓mq_163_34, ↓mq_163_37, ↓mq_163_38, ↓mq_163_39, ↓mq_163_42, ↓mq_163_45, ↓mq_163_46, ↓mq_163_49, ↓mq_163_50, ↓mq_163_53, ↓mq_163_54, ↓mq_163_57, ↓mq_163_59, ↓mq_163_60, ↓mq_163_63, ↓mq_163_64, ↓mq_163_65, ↓mq_163_66, ↓mq_163_67, ↓mq_163_70, ↓mq_163_71, ↓mq_163_72, ↓mq_163_75, ↓mq_163_78, ↓mq_163_81, ↓mq_163_82, ↓mq_163_83, ↓mq_163_86, ↓mq_163_89, ↓mq_163_90, ↓mq_163_93, ↓mq_163_94, ↓mq_163_97, ↓mq_163_98, ↓mq_163_99, ↓mq_163_100, ↓mq_163_101, ↓mq_163_102, ↓mq_163_103, ↓mq_163_106, ↓mq_163_107, ↓mq_163_110, ↓mq_163_111, ↓mq_163_112, ↓mj_bs (mr_th hrb), ↓mj_bs (mt_103_0_10), mn_dle (show t < 2 ^ 31 by omega) (show 10 < 2 ^ 31 by omega), show t ≤ 10 by omega, decide_true, Option.toList, List.cons_append, List.nil_append, mj_b0, Bool.true_eq_false, mr_is hrb, ↓mj_bs (f1)]
      exact r2
  · refine mh_opQ (v := .int (-2)) JJ ?_ ?_
    · rw [mc_97]
      rcases mn_out hno (by omega) with z | ⟨z1, z2⟩
      · simp only [↓reduceIte, ↓mq_97_0, ↓mq_97_1, ↓mq_97_4, ↓mq_97_5, ↓mq_97_7, ↓mq_97_10, ↓mq_97_12, ↓mq_97_13, ↓mq_97_14, ↓mq_97_17, ↓mq_97_18, ↓mq_97_21, ↓mq_97_24, ↓mq_97_25, ↓mq_97_28, ↓mq_97_31, ↓mq_97_32, ↓mq_97_33, ↓mq_97_34, ↓mq_97_37, ↓mq_97_40, ↓mq_97_43, ↓mq_97_44, ↓mq_97_45, ↓mq_97_48, ↓mq_97_51, ↓mq_97_52, ↓mq_97_55, ↓mq_97_56, ↓mq_97_59, ↓mq_97_60, ↓mq_97_63, ↓mq_97_65, ↓mq_97_66, ↓mq_97_69, ↓mq_97_70, ↓mq_97_71, ↓mq_97_72, ↓mq_97_73, ↓mq_97_76, ↓mq_97_77, ↓mq_97_80, ↓mq_97_83, ↓mq_97_86, ↓mq_97_87, ↓mq_97_90, ↓mq_97_93, ↓mq_97_94, ↓mq_97_97, ↓mq_97_98, ↓mq_97_101, ↓mq_97_104, ↓mq_97_107, ↓mq_97_110, ↓mq_97_111, ↓mq_97_114, ↓mq_97_117, z]
      · simp only [↓reduceIte, ↓mq_97_0, ↓mq_97_1, ↓mq_97_4, ↓mq_97_5, ↓mq_97_7, ↓mq_97_10, ↓mq_97_12, ↓mq_97_13, ↓mq_97_14, ↓mq_97_17, ↓mq_97_18, ↓mq_97_21, ↓mq_97_24, ↓mq_97_25, ↓mq_97_28, ↓mq_97_31, ↓mq_97_32, ↓mq_97_33, ↓mq_97_34, ↓mq_97_37, ↓mq_97_40, ↓mq_97_43, ↓mq_97_44, ↓mq_97_45, ↓mq_97_48, ↓mq_97_51, ↓mq_97_52, ↓mq_97_55, ↓mq_97_56, ↓mq_97_59, ↓mq_97_60, ↓mq_97_63, ↓mq_97_65, ↓mq_97_66, ↓mq_97_69, ↓mq_97_70, ↓mq_97_71, ↓mq_97_72, ↓mq_97_73, ↓mq_97_76, ↓mq_97_77, ↓mq_97_80, ↓mq_97_83, ↓mq_97_86, ↓mq_97_87, ↓mq_97_90, ↓mq_97_93, ↓mq_97_94, ↓mq_97_97, ↓mq_97_98, ↓mq_97_101, ↓mq_97_104, ↓mq_97_107, ↓mq_97_110, ↓mq_97_111, ↓mq_97_114, ↓mq_97_117, z1, z2]
    · rw [mc_163]
      simp only [↓reduceIte, ↓mq_163_0, ↓mq_163_1, ↓mq_163_2, ↓mq_163_5, ↓mq_163_6, ↓mq_163_7, ↓mq_163_8, ↓mq_163_11, ↓mq_163_14, ↓mq_163_17, ↓mq_163_19, ↓mq_163_20, ↓mq_163_21, ↓mq_163_24, ↓mq_163_25, ↓mq_163_28, ↓mq_163_29, ↓mq_163_30, ↓mq_163_31, ↓mq_163_34, ↓mq_163_37, ↓mq_163_38, ↓mq_163_39, ↓mq_163_42, ↓mq_163_45, ↓mq_163_46, ↓mq_163_49, ↓mq_163_50, ↓mq_163_53, ↓mq_163_54, ↓mq_163_57, ↓mq_163_59, ↓mq_163_60, ↓mq_163_63, ↓mq_163_64, ↓mq_163_65, ↓mq_163_66, ↓mq_163_67, ↓mq_163_70, ↓mq_163_71, ↓mq_163_72, ↓mq_163_75, ↓mq_163_78, ↓mq_163_81, ↓mq_163_82, ↓mq_163_83, ↓mq_163_86, ↓mq_163_89, ↓mq_163_90, ↓mq_163_93, ↓mq_163_94, ↓mq_163_97, ↓mq_163_98, ↓mq_163_99, ↓mq_163_100, ↓mq_163_101, ↓mq_163_102, ↓mq_163_103, ↓mq_163_106, ↓mq_163_107, ↓mq_163_110, ↓mq_163_111, ↓mq_163_112, ↓mj_bs (mr_th hrb), ↓mj_bs (mt_103_0_10), Option.toList, List.cons_append, List.nil_append, mn_dno' hno (show 10 < 11 by omega) (by omega), mj_b0]
end
