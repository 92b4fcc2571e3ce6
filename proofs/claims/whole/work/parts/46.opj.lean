/-! COMMANDS: the cheapest taking, the farthest -/
def mm_bet (b : Option (Nat × Nat)) (c : Nat) : Bool := match b with
  | none => true
  | some b => decide (c < b.2)
def mm_ch (ρ : mm_Ro) (μ : mm_Ma) : Nat → Option (Nat × Nat)
  | 0 => none
  | k + 1 => match mm_cs ρ μ k with
    | none => mm_ch ρ μ k
    | some ν => if ma_o ν = mr_g ρ ∧ mm_bet (mm_ch ρ μ k) (ma_p μ - ma_p ν) = true then some (k, ma_p μ - ma_p ν) else mm_ch ρ μ k
def mm_o1 (b : Option (Nat × Nat)) : Int32 := match b with
  | none => -9
  | some b => nI b.1
def mm_o2 (b : Option (Nat × Nat)) : Int32 := match b with
  | none => -9
  | some b => nI b.2
theorem mm_ch_le {ρ : mm_Ro} {μ : mm_Ma} (hp : ma_p μ ≤ 99) : ∀ k b, mm_ch ρ μ k = some b → b.1 < k ∧ b.2 ≤ 99 := by
  intro k
  induction k with
  | zero => intro b hb; cases hb
  | succ k ih =>
    intro b hb
    simp only [mm_ch] at hb
    split at hb
    · have := ih b hb; exact ⟨by omega, this.2⟩
    · split at hb
      · cases hb; exact ⟨by show k < k + 1; omega, by show ma_p μ - _ ≤ 99; omega⟩
      · have := ih b hb; exact ⟨by omega, this.2⟩
def mm_fbt (b : Option (Nat × Nat × Nat)) (c g : Nat) : Bool := match b with
  | none => true
  | some b => decide (b.2.2 < g ∨ (g = b.2.2 ∧ c < b.2.1))
def mm_fa (ρ : mm_Ro) (μ : mm_Ma) : Nat → Option (Nat × Nat × Nat)
  | 0 => none
  | k + 1 => match mm_cs ρ μ k with
    | none => mm_fa ρ μ k
    | some ν => if mm_fbt (mm_fa ρ μ k) (ma_p μ - ma_p ν) (ma_o ν) = true then some (k, ma_p μ - ma_p ν, ma_o ν) else mm_fa ρ μ k
def mm_fv (d : Int32) (f : Nat × Nat × Nat → Nat) (b : Option (Nat × Nat × Nat)) : Int32 := match b with
  | none => d
  | some b => nI (f b)
def mw_fa (b : Option (Nat × Nat × Nat)) : Prop := ∀ x, b = some x → x.1 < 64 ∧ x.2.1 ≤ 99 ∧ x.2.2 ≤ 3
theorem mm_cs0 {ρ : mm_Ro} {μ : mm_Ma} : ∃ ν, mm_cs ρ μ 0 = some ν := by
  have h : ∀ d μ, ∃ ν, mm_tk ρ 0 d μ = some ν := by
    intro d
    induction d with
    | zero => intro μ; exact ⟨μ, rfl⟩
    | succ d ih =>
      intro μ
      obtain ⟨ν, hν⟩ := ih (mm_skip μ)
      exact ⟨ν, by simp only [mm_tk, Nat.zero_testBit, Bool.false_eq_true, if_false]; exact hν⟩
  obtain ⟨ν, hν⟩ := h (mr_n ρ - ma_n μ) μ
  exact ⟨mm_ol ρ (mr_g ρ) ν, by simp [mm_cs, mm_tc, mm_tko, hν]⟩
theorem mm_fa_some {ρ : mm_Ro} {μ : mm_Ma} : ∀ k, ∃ x, mm_fa ρ μ (k + 1) = some x := by
  intro k
  induction k with
  | zero =>
    obtain ⟨ν, hν⟩ := mm_cs0 (ρ := ρ) (μ := μ)
    exact ⟨(0, ma_p μ - ma_p ν, ma_o ν), by simp [mm_fa, hν, mm_fbt]⟩
  | succ k ih =>
    obtain ⟨x, hx⟩ := ih
    have e : mm_fa ρ μ (k + 1 + 1) = (match mm_cs ρ μ (k + 1) with
      | none => mm_fa ρ μ (k + 1)
      | some ν => if mm_fbt (mm_fa ρ μ (k + 1)) (ma_p μ - ma_p ν) (ma_o ν) = true then some (k + 1, ma_p μ - ma_p ν, ma_o ν) else mm_fa ρ μ (k + 1)) := rfl
    rw [e]
    cases mm_cs ρ μ (k + 1) with
    | none => exact ⟨x, hx⟩
    | some ν =>
      simp only
      split
      · exact ⟨_, rfl⟩
      · exact ⟨x, hx⟩
theorem mm_m9lt {o : Nat} (ho : o < 2 ^ 31) : ((-9 : Int32) < nI o) = True := by
  refine eq_true ?_
  rw [Int32.lt_iff_toInt_lt, nI_toInt ho]
  have : ((-9 : Int32)).toInt = -9 := by decide
  omega
theorem mw_cs {ρ : mm_Ro} {μ ν : mm_Ma} (w : mw_R ρ) {s : Nat} {h : mj_H} {S : mm_St} (hS : mw_S S) (C : mh_JC S h) (e1 : ms_r S = ρ) (e2 : ms_m S = μ) (hs : s < 64) (hν : mm_cs ρ μ s = some ν) : mw_M ρ ν := by
  subst e1; subst e2
  obtain ⟨h', ξ, -, -, -, wξ, q⟩ := mt_74 hS C hs
  unfold mm_cs at hν
  split at hν
  · rw [← q ν hν]; exact wξ
  · cases hν
section
variable {S : mm_St} {h h' : mj_H}

theorem mo_75 (J : mh_J S h) (x : Int32) : mh_op 75 139 [.int x] h := by
  have JJ := J
  obtain ⟨w, C, R⟩ := J
  have wr := w.2.2.1
  have wm := w.2.2.2.1
  have hp99 := wm.1
  have hn9 := wr.1
  have hg9 := wr.2.1
  have hn64 : 2 ^ mr_n (ms_r S) ≤ 64 := Nat.pow_le_pow_right (n := 2) (by decide) hn9
  have hpos := Nat.two_pow_pos (mr_n (ms_r S))
  have hrb := R.rr.1
  have hsh : nI 1 <<< (nI (mr_n (ms_r S)) &&& 31) = nI (2 ^ mr_n (ms_r S)) := mn_shl _ (by omega)
  rcases mn_range 2 (by omega) x with ⟨t, ht, rfl, -, -⟩ | ⟨-, hno⟩
  · have fin : ∀ v : Int32, v = (if t = 0 then mm_o2 (mm_ch (ms_r S) (ms_m S) (2 ^ mr_n (ms_r S))) else mm_o1 (mm_ch (ms_r S) (ms_m S) (2 ^ mr_n (ms_r S)))) → mh_op 75 139 [.int (nI t)] h := by
      intro v hv
      have wcs : ∀ s ν, s < 64 → mm_cs (ms_r S) (ms_m S) s = some ν → mw_M (ms_r S) ν := fun s ν hs hν => mw_cs wr w C rfl rfl hs hν
      have loopC : ∀ d i hk l5, i + d = 2 ^ mr_n (ms_r S) → mh_JC S hk → mh_F (mh_A 22 23) h hk → ∃ h', mj_R 75 (21, [.ref 1, .int (nI t), .int (mm_o1 (mm_ch (ms_r S) (ms_m S) i)), .int (mm_o2 (mm_ch (ms_r S) (ms_m S) i)), .int (nI i), l5], [], hk) = some (some (.int v), h') ∧ mh_JC S h' ∧ mh_F (mh_A 22 23) h h' := by
        intro d
        induction d with
        | zero =>
          intro i hk l5 hi Ck F
          obtain rfl : i = 2 ^ mr_n (ms_r S) := by omega
          have o1k := Ck.1
          have Rok := Ck.2.2.1
          refine ⟨hk, ?_, Ck, F⟩
          by_cases t0 : t = 0
          · rw [hv.trans (if_pos t0)]
            simp only [↓reduceIte, ↓mq_75_0, ↓mq_75_1, ↓mq_75_4, ↓mq_75_5, ↓mq_75_6, ↓mq_75_9, ↓mq_75_11, ↓mq_75_12, ↓mq_75_14, ↓mq_75_15, ↓mq_75_17, ↓mq_75_18, ↓mq_75_19, ↓mq_75_21, ↓mq_75_23, ↓mq_75_24, ↓mq_75_27, ↓mq_75_30, ↓mq_75_33, ↓mq_75_34, ↓mq_75_36, ↓mq_75_39, ↓mq_75_42, ↓mq_75_43, ↓mq_75_45, ↓mq_75_48, ↓mq_75_51, ↓mq_75_53, ↓mq_75_55, ↓mq_75_57, ↓mq_75_59, ↓mq_75_62, ↓mq_75_63, ↓mq_75_66, ↓mq_75_69, ↓mq_75_70, ↓mq_75_73, ↓mq_75_76, ↓mq_75_79, ↓mq_75_80, ↓mq_75_82, ↓mq_75_85, ↓mq_75_87, ↓mq_75_88, ↓mq_75_91, ↓mq_75_93, ↓mq_75_94, ↓mq_75_96, ↓mq_75_97, ↓mq_75_100, ↓mq_75_103, ↓mq_75_104, ↓mq_75_107, ↓mq_75_108, ↓mq_75_111, ↓mq_75_112, ↓mj_bs (mh_gf 1 o1k rfl), mh_isC Rok.1, ↓mj_bs (mt_32 wr Rok), Option.toList, List.cons_append, List.nil_append, mt_lt (show 2 ^ mr_n (ms_r S) - 1 < 2 ^ mr_n (ms_r S) by omega) (show 2 ^ mr_n (ms_r S) < 2 ^ 31 by omega), mt_eq t0]
          · rw [hv.trans (if_neg t0)]
            simp only [↓reduceIte, ↓mq_75_0, ↓mq_75_1, ↓mq_75_4, ↓mq_75_5, ↓mq_75_6, ↓mq_75_9, ↓mq_75_11, ↓mq_75_12, ↓mq_75_14, ↓mq_75_15, ↓mq_75_17, ↓mq_75_18, ↓mq_75_19, ↓mq_75_21, ↓mq_75_23, ↓mq_75_24, ↓mq_75_27, ↓mq_75_30, ↓mq_75_33, ↓mq_75_34, ↓mq_75_36, ↓mq_75_39, ↓mq_75_42, ↓mq_75_43, ↓mq_75_45, ↓mq_75_48, ↓mq_75_51, ↓mq_75_53, ↓mq_75_55, ↓mq_75_57, ↓mq_75_59, ↓mq_75_62, ↓mq_75_63, ↓mq_75_66, ↓mq_75_69, ↓mq_75_70, ↓mq_75_73, ↓mq_75_76, ↓mq_75_79, ↓mq_75_80, ↓mq_75_82, ↓mq_75_85, ↓mq_75_87, ↓mq_75_88, ↓mq_75_91, ↓mq_75_93, ↓mq_75_94, ↓mq_75_96, ↓mq_75_97, ↓mq_75_100, ↓mq_75_103, ↓mq_75_104, ↓mq_75_107, ↓mq_75_108, ↓mq_75_111, ↓mq_75_112, ↓mj_bs (mh_gf 1 o1k rfl), mh_isC Rok.1, ↓mj_bs (mt_32 wr Rok), Option.toList, List.cons_append, List.nil_append, mt_lt (show 2 ^ mr_n (ms_r S) - 1 < 2 ^ mr_n (ms_r S) by omega) (show 2 ^ mr_n (ms_r S) < 2 ^ 31 by omega), mf_eq t0]
        | succ d ih =>
          intro i hk l5 hi Ck F
          have hi2 : i < 2 ^ mr_n (ms_r S) := by omega
          have o1k := Ck.1
          have Rok := Ck.2.2.1
          obtain ⟨h1, c, e73, a1, a2, hc, F1, ν, T1, q1⟩ := mt_75s w Ck hi2
          have C1 := Ck.tr F1 T1
          have o11 := C1.1
          have Ro1 := C1.2.2.1
          rw [mq_75_21]
          cases htc : mm_tc (ms_m S) i
          · rw [htc] at e73
            have e : mm_ch (ms_r S) (ms_m S) (i + 1) = mm_ch (ms_r S) (ms_m S) i := by simp [mm_ch, mm_cs, htc]
            obtain ⟨h', r1, r2⟩ := ih (i + 1) hk (.int (-9)) (by omega) Ck F
            refine ⟨h', ?_, r2⟩
            rw [e] at r1
            simp only [↓reduceIte, ↓mq_75_0, ↓mq_75_1, ↓mq_75_4, ↓mq_75_5, ↓mq_75_6, ↓mq_75_9, ↓mq_75_11, ↓mq_75_12, ↓mq_75_14, ↓mq_75_15, ↓mq_75_17, ↓mq_75_18, ↓mq_75_19, ↓mq_75_23, ↓mq_75_24, ↓mq_75_27, ↓mq_75_30, ↓mq_75_33, ↓mq_75_34, ↓mq_75_36, ↓mq_75_39, ↓mq_75_42, ↓mq_75_43, ↓mq_75_45, ↓mq_75_48, ↓mq_75_51, ↓mq_75_53, ↓mq_75_55, ↓mq_75_57, ↓mq_75_59, ↓mq_75_62, ↓mq_75_63, ↓mq_75_66, ↓mq_75_69, ↓mq_75_70, ↓mq_75_73, ↓mq_75_76, ↓mq_75_79, ↓mq_75_80, ↓mq_75_82, ↓mq_75_85, ↓mq_75_87, ↓mq_75_88, ↓mq_75_91, ↓mq_75_93, ↓mq_75_94, ↓mq_75_96, ↓mq_75_97, ↓mq_75_100, ↓mq_75_103, ↓mq_75_104, ↓mq_75_107, ↓mq_75_108, ↓mq_75_111, ↓mq_75_112, ↓mj_bs (mh_gf 1 o1k rfl), mh_isC Rok.1, ↓mj_bs (mt_32 wr Rok), Option.toList, List.cons_append, List.nil_append, mf_lt (show i ≤ 2 ^ mr_n (ms_r S) - 1 by omega) (show 2 ^ mr_n (ms_r S) - 1 < 2 ^ 31 by omega), mh_isC o1k, ↓mj_bs (e73), mj_b0, mn_add]
            exact r1
          · rw [htc] at e73
            have e74 := a1 htc
            cases hk2 : mm_cs (ms_r S) (ms_m S) i with
            | none =>
              rw [hk2] at hc
              have e : mm_ch (ms_r S) (ms_m S) (i + 1) = mm_ch (ms_r S) (ms_m S) i := by simp [mm_ch, hk2]
              rw [show c = -9 from hc] at e74
              obtain ⟨h', r1, r2⟩ := ih (i + 1) h1 (.int (-9)) (by omega) C1 (F.tt F1)
              refine ⟨h', ?_, r2⟩
              rw [e] at r1
              simp only [↓reduceIte, ↓mq_75_0, ↓mq_75_1, ↓mq_75_4, ↓mq_75_5, ↓mq_75_6, ↓mq_75_9, ↓mq_75_11, ↓mq_75_12, ↓mq_75_14, ↓mq_75_15, ↓mq_75_17, ↓mq_75_18, ↓mq_75_19, ↓mq_75_23, ↓mq_75_24, ↓mq_75_27, ↓mq_75_30, ↓mq_75_33, ↓mq_75_34, ↓mq_75_36, ↓mq_75_39, ↓mq_75_42, ↓mq_75_43, ↓mq_75_45, ↓mq_75_48, ↓mq_75_51, ↓mq_75_53, ↓mq_75_55, ↓mq_75_57, ↓mq_75_59, ↓mq_75_62, ↓mq_75_63, ↓mq_75_66, ↓mq_75_69, ↓mq_75_70, ↓mq_75_73, ↓mq_75_76, ↓mq_75_79, ↓mq_75_80, ↓mq_75_82, ↓mq_75_85, ↓mq_75_87, ↓mq_75_88, ↓mq_75_91, ↓mq_75_93, ↓mq_75_94, ↓mq_75_96, ↓mq_75_97, ↓mq_75_100, ↓mq_75_103, ↓mq_75_104, ↓mq_75_107, ↓mq_75_108, ↓mq_75_111, ↓mq_75_112, ↓mj_bs (mh_gf 1 o1k rfl), mh_isC Rok.1, ↓mj_bs (mt_32 wr Rok), Option.toList, List.cons_append, List.nil_append, mf_lt (show i ≤ 2 ^ mr_n (ms_r S) - 1 by omega) (show 2 ^ mr_n (ms_r S) - 1 < 2 ^ 31 by omega), mh_isC o1k, ↓mj_bs (e73), mj_b0, Bool.true_eq_false, ↓mj_bs (e74), mn_add]
              exact r1
            | some ξ =>
              rw [hk2] at hc
              have hξ := q1 ξ hk2
              subst hξ
              have wν := wcs i ν (by omega) hk2
              have ho9 := wν.2.2.2.1
              have hop := T1.1
              rw [show c = nI (ma_p (ms_m S) - ma_p ν) from hc] at e74
              obtain ⟨h', r1, r2⟩ := ih (i + 1) h1 (.int (nI (ma_p (ms_m S) - ma_p ν))) (by omega) C1 (F.tt F1)
              refine ⟨h', ?_, r2⟩
              by_cases hog : ma_o ν = mr_g (ms_r S)
              · cases hch : mm_ch (ms_r S) (ms_m S) i with
                | none =>
                  have e : mm_ch (ms_r S) (ms_m S) (i + 1) = some (i, ma_p (ms_m S) - ma_p ν) := by simp [mm_ch, hk2, hog, hch, mm_bet]
                  rw [e] at r1
                  simp only [↓reduceIte, ↓mq_75_0, ↓mq_75_1, ↓mq_75_4, ↓mq_75_5, ↓mq_75_6, ↓mq_75_9, ↓mq_75_11, ↓mq_75_12, ↓mq_75_14, ↓mq_75_15, ↓mq_75_17, ↓mq_75_18, ↓mq_75_19, ↓mq_75_23, ↓mq_75_24, ↓mq_75_27, ↓mq_75_30, ↓mq_75_33, ↓mq_75_34, ↓mq_75_36, ↓mq_75_39, ↓mq_75_42, ↓mq_75_43, ↓mq_75_45, ↓mq_75_48, ↓mq_75_51, ↓mq_75_53, ↓mq_75_55, ↓mq_75_57, ↓mq_75_59, ↓mq_75_62, ↓mq_75_63, ↓mq_75_66, ↓mq_75_69, ↓mq_75_70, ↓mq_75_73, ↓mq_75_76, ↓mq_75_79, ↓mq_75_80, ↓mq_75_82, ↓mq_75_85, ↓mq_75_87, ↓mq_75_88, ↓mq_75_91, ↓mq_75_93, ↓mq_75_94, ↓mq_75_96, ↓mq_75_97, ↓mq_75_100, ↓mq_75_103, ↓mq_75_104, ↓mq_75_107, ↓mq_75_108, ↓mq_75_111, ↓mq_75_112, ↓mj_bs (mh_gf 1 o1k rfl), mh_isC Rok.1, ↓mj_bs (mt_32 wr Rok), Option.toList, List.cons_append, List.nil_append, mf_lt (show i ≤ 2 ^ mr_n (ms_r S) - 1 by omega) (show 2 ^ mr_n (ms_r S) - 1 < 2 ^ 31 by omega), mh_isC o1k, ↓mj_bs (e73), mj_b0, Bool.true_eq_false, ↓mj_bs (e74), mf_m9 (d := ma_p (ms_m S) - ma_p ν) (by omega), ↓mj_bs (mh_gf 4 o11 rfl), ↓mj_bs (mh_gf 5 hop rfl), ↓mj_bs (mh_gf 1 o11 rfl), ↓mj_bs (mh_gf 2 Ro1.1 rfl), mt_eq hog, mm_o1, mn_add]
                  exact r1
                | some b =>
                  have hb9 := mm_ch_le hp99 i b hch
                  by_cases hlt : ma_p (ms_m S) - ma_p ν < b.2
                  · have e : mm_ch (ms_r S) (ms_m S) (i + 1) = some (i, ma_p (ms_m S) - ma_p ν) := by simp [mm_ch, hk2, hog, hch, mm_bet, hlt]
                    rw [e] at r1
                    simp only [↓reduceIte, ↓mq_75_0, ↓mq_75_1, ↓mq_75_4, ↓mq_75_5, ↓mq_75_6, ↓mq_75_9, ↓mq_75_11, ↓mq_75_12, ↓mq_75_14, ↓mq_75_15, ↓mq_75_17, ↓mq_75_18, ↓mq_75_19, ↓mq_75_23, ↓mq_75_24, ↓mq_75_27, ↓mq_75_30, ↓mq_75_33, ↓mq_75_34, ↓mq_75_36, ↓mq_75_39, ↓mq_75_42, ↓mq_75_43, ↓mq_75_45, ↓mq_75_48, ↓mq_75_51, ↓mq_75_53, ↓mq_75_55, ↓mq_75_57, ↓mq_75_59, ↓mq_75_62, ↓mq_75_63, ↓mq_75_66, ↓mq_75_69, ↓mq_75_70, ↓mq_75_73, ↓mq_75_76, ↓mq_75_79, ↓mq_75_80, ↓mq_75_82, ↓mq_75_85, ↓mq_75_87, ↓mq_75_88, ↓mq_75_91, ↓mq_75_93, ↓mq_75_94, ↓mq_75_96, ↓mq_75_97, ↓mq_75_100, ↓mq_75_103, ↓mq_75_104, ↓mq_75_107, ↓mq_75_108, ↓mq_75_111, ↓mq_75_112, ↓mj_bs (mh_gf 1 o1k rfl), mh_isC Rok.1, ↓mj_bs (mt_32 wr Rok), Option.toList, List.cons_append, List.nil_append, mf_lt (show i ≤ 2 ^ mr_n (ms_r S) - 1 by omega) (show 2 ^ mr_n (ms_r S) - 1 < 2 ^ 31 by omega), mh_isC o1k, ↓mj_bs (e73), mj_b0, Bool.true_eq_false, ↓mj_bs (e74), mf_m9 (d := ma_p (ms_m S) - ma_p ν) (by omega), ↓mj_bs (mh_gf 4 o11 rfl), ↓mj_bs (mh_gf 5 hop rfl), ↓mj_bs (mh_gf 1 o11 rfl), ↓mj_bs (mh_gf 2 Ro1.1 rfl), mt_eq hog, mm_o1, mm_o2, mf_m9 (d := b.1) (by omega), mf_le hlt, mn_add]
                    exact r1
                  · have e : mm_ch (ms_r S) (ms_m S) (i + 1) = some b := by simp [mm_ch, hk2, hog, hch, mm_bet, hlt]
                    rw [e] at r1
                    simp only [↓reduceIte, ↓mq_75_0, ↓mq_75_1, ↓mq_75_4, ↓mq_75_5, ↓mq_75_6, ↓mq_75_9, ↓mq_75_11, ↓mq_75_12, ↓mq_75_14, ↓mq_75_15, ↓mq_75_17, ↓mq_75_18, ↓mq_75_19, ↓mq_75_23, ↓mq_75_24, ↓mq_75_27, ↓mq_75_30, ↓mq_75_33, ↓mq_75_34, ↓mq_75_36, ↓mq_75_39, ↓mq_75_42, ↓mq_75_43, ↓mq_75_45, ↓mq_75_48, ↓mq_75_51, ↓mq_75_53, ↓mq_75_55, ↓mq_75_57, ↓mq_75_59, ↓mq_75_62, ↓mq_75_63, ↓mq_75_66, ↓mq_75_69, ↓mq_75_70, ↓mq_75_73, ↓mq_75_76, ↓mq_75_79, ↓mq_75_80, ↓mq_75_82, ↓mq_75_85, ↓mq_75_87, ↓mq_75_88, ↓mq_75_91, ↓mq_75_93, ↓mq_75_94, ↓mq_75_96, ↓mq_75_97, ↓mq_75_100, ↓mq_75_103, ↓mq_75_104, ↓mq_75_107, ↓mq_75_108, ↓mq_75_111, ↓mq_75_112, ↓mj_bs (mh_gf 1 o1k rfl), mh_isC Rok.1, ↓mj_bs (mt_32 wr Rok), Option.toList, List.cons_append, List.nil_append, mf_lt (show i ≤ 2 ^ mr_n (ms_r S) - 1 by omega) (show 2 ^ mr_n (ms_r S) - 1 < 2 ^ 31 by omega), mh_isC o1k, ↓mj_bs (e73), mj_b0, Bool.true_eq_false, ↓mj_bs (e74), mf_m9 (d := ma_p (ms_m S) - ma_p ν) (by omega), ↓mj_bs (mh_gf 4 o11 rfl), ↓mj_bs (mh_gf 5 hop rfl), ↓mj_bs (mh_gf 1 o11 rfl), ↓mj_bs (mh_gf 2 Ro1.1 rfl), mt_eq hog, mm_o1, mm_o2, mf_m9 (d := b.1) (by omega), mt_le (Nat.le_of_not_lt hlt), mn_add]
                    exact r1
              · have e : mm_ch (ms_r S) (ms_m S) (i + 1) = mm_ch (ms_r S) (ms_m S) i := by simp [mm_ch, hk2, hog]
                rw [e] at r1
                simp only [↓reduceIte, ↓mq_75_0, ↓mq_75_1, ↓mq_75_4, ↓mq_75_5, ↓mq_75_6, ↓mq_75_9, ↓mq_75_11, ↓mq_75_12, ↓mq_75_14, ↓mq_75_15, ↓mq_75_17, ↓mq_75_18, ↓mq_75_19, ↓mq_75_23, ↓mq_75_24, ↓mq_75_27, ↓mq_75_30, ↓mq_75_33, ↓mq_75_34, ↓mq_75_36, ↓mq_75_39, ↓mq_75_42, ↓mq_75_43, ↓mq_75_45, ↓mq_75_48, ↓mq_75_51, ↓mq_75_53, ↓mq_75_55, ↓mq_75_57, ↓mq_75_59, ↓mq_75_62, ↓mq_75_63, ↓mq_75_66, ↓mq_75_69, ↓mq_75_70, ↓mq_75_73, ↓mq_75_76, ↓mq_75_79, ↓mq_75_80, ↓mq_75_82, ↓mq_75_85, ↓mq_75_87, ↓mq_75_88, ↓mq_75_91, ↓mq_75_93, ↓mq_75_94, ↓mq_75_96, ↓mq_75_97, ↓mq_75_100, ↓mq_75_103, ↓mq_75_104, ↓mq_75_107, ↓mq_75_108, ↓mq_75_111, ↓mq_75_112, ↓mj_bs (mh_gf 1 o1k rfl), mh_isC Rok.1, ↓mj_bs (mt_32 wr Rok), Option.toList, List.cons_append, List.nil_append, mf_lt (show i ≤ 2 ^ mr_n (ms_r S) - 1 by omega) (show 2 ^ mr_n (ms_r S) - 1 < 2 ^ 31 by omega), mh_isC o1k, ↓mj_bs (e73), mj_b0, Bool.true_eq_false, ↓mj_bs (e74), mf_m9 (d := ma_p (ms_m S) - ma_p ν) (by omega), ↓mj_bs (mh_gf 4 o11 rfl), ↓mj_bs (mh_gf 5 hop rfl), ↓mj_bs (mh_gf 1 o11 rfl), ↓mj_bs (mh_gf 2 Ro1.1 rfl), mf_eq hog, mn_add]
                exact r1
      have loopR : ∀ h0, mh_JR S h0 → ∀ d i hk l5, i + d = 2 ^ mr_n (ms_r S) → mh_JR S hk → mh_F (fun k => k = 74) h0 hk → ∃ h', mj_R 139 (27, [.ref 65, .int (nI t), .int (mm_o2 (mm_ch (ms_r S) (ms_m S) i)), .int (mm_o1 (mm_ch (ms_r S) (ms_m S) i)), .int (nI i), l5], [], hk) = some (some (.int v), h') ∧ mh_JR S h' ∧ mh_F (fun k => k = 74) h0 h' := by
        intro h0 R0 d
        induction d with
        | zero =>
          intro i hk l5 hi Rk F
          obtain rfl : i = 2 ^ mr_n (ms_r S) := by omega
          have hrk := Rk.rr.1
          refine ⟨hk, ?_, Rk, F⟩
          by_cases t0 : t = 0
          · rw [hv.trans (if_pos t0)]
            simp only [↓reduceIte, ↓mq_139_0, ↓mq_139_1, ↓mq_139_2, ↓mq_139_5, ↓mq_139_6, ↓mq_139_7, ↓mq_139_8, ↓mq_139_9, ↓mq_139_12, ↓mq_139_15, ↓mq_139_17, ↓mq_139_18, ↓mq_139_20, ↓mq_139_21, ↓mq_139_23, ↓mq_139_24, ↓mq_139_25, ↓mq_139_27, ↓mq_139_29, ↓mq_139_30, ↓mq_139_31, ↓mq_139_34, ↓mq_139_35, ↓mq_139_38, ↓mq_139_39, ↓mq_139_41, ↓mq_139_44, ↓mq_139_47, ↓mq_139_49, ↓mq_139_52, ↓mq_139_53, ↓mq_139_55, ↓mq_139_58, ↓mq_139_60, ↓mq_139_62, ↓mq_139_64, ↓mq_139_67, ↓mq_139_68, ↓mq_139_71, ↓mq_139_72, ↓mq_139_73, ↓mq_139_74, ↓mq_139_77, ↓mq_139_80, ↓mq_139_81, ↓mq_139_83, ↓mq_139_86, ↓mq_139_88, ↓mq_139_89, ↓mq_139_92, ↓mq_139_94, ↓mq_139_95, ↓mq_139_97, ↓mq_139_98, ↓mq_139_101, ↓mq_139_104, ↓mq_139_105, ↓mq_139_108, ↓mq_139_109, ↓mq_139_112, ↓mq_139_113, ↓mj_bs (mr_bn hrk), hsh, mt_le (Nat.le_refl (2 ^ mr_n (ms_r S))) (show 2 ^ mr_n (ms_r S) < 2 ^ 31 by omega), mt_eq t0]
          · rw [hv.trans (if_neg t0)]
            simp only [↓reduceIte, ↓mq_139_0, ↓mq_139_1, ↓mq_139_2, ↓mq_139_5, ↓mq_139_6, ↓mq_139_7, ↓mq_139_8, ↓mq_139_9, ↓mq_139_12, ↓mq_139_15, ↓mq_139_17, ↓mq_139_18, ↓mq_139_20, ↓mq_139_21, ↓mq_139_23, ↓mq_139_24, ↓mq_139_25, ↓mq_139_27, ↓mq_139_29, ↓mq_139_30, ↓mq_139_31, ↓mq_139_34, ↓mq_139_35, ↓mq_139_38, ↓mq_139_39, ↓mq_139_41, ↓mq_139_44, ↓mq_139_47, ↓mq_139_49, ↓mq_139_52, ↓mq_139_53, ↓mq_139_55, ↓mq_139_58, ↓mq_139_60, ↓mq_139_62, ↓mq_139_64, ↓mq_139_67, ↓mq_139_68, ↓mq_139_71, ↓mq_139_72, ↓mq_139_73, ↓mq_139_74, ↓mq_139_77, ↓mq_139_80, ↓mq_139_81, ↓mq_139_83, ↓mq_139_86, ↓mq_139_88, ↓mq_139_89, ↓mq_139_92, ↓mq_139_94, ↓mq_139_95, ↓mq_139_97, ↓mq_139_98, ↓mq_139_101, ↓mq_139_104, ↓mq_139_105, ↓mq_139_108, ↓mq_139_109, ↓mq_139_112, ↓mq_139_113, ↓mj_bs (mr_bn hrk), hsh, mt_le (Nat.le_refl (2 ^ mr_n (ms_r S))) (show 2 ^ mr_n (ms_r S) < 2 ^ 31 by omega), mf_eq t0]
        | succ d ih =>
          intro i hk l5 hi Rk F
          have hi2 : i < 2 ^ mr_n (ms_r S) := by omega
          have hrk := Rk.rr.1
          obtain ⟨h1, c, e136, a1, a2, hc, F1, R1, q1⟩ := mt_139s w Rk hi2
          have hr1 := R1.rr.1
          rw [mq_139_27]
          cases htc : mm_tc (ms_m S) i
          · rw [htc] at e136
            have e : mm_ch (ms_r S) (ms_m S) (i + 1) = mm_ch (ms_r S) (ms_m S) i := by simp [mm_ch, mm_cs, htc]
            obtain ⟨h', r1, r2⟩ := ih (i + 1) hk (.int (-9)) (by omega) Rk F
            refine ⟨h', ?_, r2⟩
            rw [e] at r1
            simp only [↓reduceIte, ↓mq_139_0, ↓mq_139_1, ↓mq_139_2, ↓mq_139_5, ↓mq_139_6, ↓mq_139_7, ↓mq_139_8, ↓mq_139_9, ↓mq_139_12, ↓mq_139_15, ↓mq_139_17, ↓mq_139_18, ↓mq_139_20, ↓mq_139_21, ↓mq_139_23, ↓mq_139_24, ↓mq_139_25, ↓mq_139_29, ↓mq_139_30, ↓mq_139_31, ↓mq_139_34, ↓mq_139_35, ↓mq_139_38, ↓mq_139_39, ↓mq_139_41, ↓mq_139_44, ↓mq_139_47, ↓mq_139_49, ↓mq_139_52, ↓mq_139_53, ↓mq_139_55, ↓mq_139_58, ↓mq_139_60, ↓mq_139_62, ↓mq_139_64, ↓mq_139_67, ↓mq_139_68, ↓mq_139_71, ↓mq_139_72, ↓mq_139_73, ↓mq_139_74, ↓mq_139_77, ↓mq_139_80, ↓mq_139_81, ↓mq_139_83, ↓mq_139_86, ↓mq_139_88, ↓mq_139_89, ↓mq_139_92, ↓mq_139_94, ↓mq_139_95, ↓mq_139_97, ↓mq_139_98, ↓mq_139_101, ↓mq_139_104, ↓mq_139_105, ↓mq_139_108, ↓mq_139_109, ↓mq_139_112, ↓mq_139_113, ↓mj_bs (mr_bn hrk), hsh, mf_le hi2 (show 2 ^ mr_n (ms_r S) < 2 ^ 31 by omega), mr_is hrk, ↓mj_bs (e136), Option.toList, List.cons_append, List.nil_append, mj_b0, Bool.not_false, Bool.true_eq_false, mn_add]
            exact r1
          · rw [htc] at e136
            have e137 := a1 htc
            cases hk2 : mm_cs (ms_r S) (ms_m S) i with
            | none =>
              rw [hk2] at hc
              have e : mm_ch (ms_r S) (ms_m S) (i + 1) = mm_ch (ms_r S) (ms_m S) i := by simp [mm_ch, hk2]
              rw [show c = -9 from hc] at e137
              obtain ⟨h', r1, r2⟩ := ih (i + 1) h1 (.int (-9)) (by omega) R1 (F.tt F1)
              refine ⟨h', ?_, r2⟩
              rw [e] at r1
              simp only [↓reduceIte, ↓mq_139_0, ↓mq_139_1, ↓mq_139_2, ↓mq_139_5, ↓mq_139_6, ↓mq_139_7, ↓mq_139_8, ↓mq_139_9, ↓mq_139_12, ↓mq_139_15, ↓mq_139_17, ↓mq_139_18, ↓mq_139_20, ↓mq_139_21, ↓mq_139_23, ↓mq_139_24, ↓mq_139_25, ↓mq_139_29, ↓mq_139_30, ↓mq_139_31, ↓mq_139_34, ↓mq_139_35, ↓mq_139_38, ↓mq_139_39, ↓mq_139_41, ↓mq_139_44, ↓mq_139_47, ↓mq_139_49, ↓mq_139_52, ↓mq_139_53, ↓mq_139_55, ↓mq_139_58, ↓mq_139_60, ↓mq_139_62, ↓mq_139_64, ↓mq_139_67, ↓mq_139_68, ↓mq_139_71, ↓mq_139_72, ↓mq_139_73, ↓mq_139_74, ↓mq_139_77, ↓mq_139_80, ↓mq_139_81, ↓mq_139_83, ↓mq_139_86, ↓mq_139_88, ↓mq_139_89, ↓mq_139_92, ↓mq_139_94, ↓mq_139_95, ↓mq_139_97, ↓mq_139_98, ↓mq_139_101, ↓mq_139_104, ↓mq_139_105, ↓mq_139_108, ↓mq_139_109, ↓mq_139_112, ↓mq_139_113, ↓mj_bs (mr_bn hrk), hsh, mf_le hi2 (show 2 ^ mr_n (ms_r S) < 2 ^ 31 by omega), mr_is hrk, ↓mj_bs (e136), Option.toList, List.cons_append, List.nil_append, mj_b0, Bool.not_true, ↓mj_bs (e137), mn_add]
              exact r1
            | some ν =>
              rw [hk2] at hc
              have G1 := q1 ν hk2
              have wν := wcs i ν (by omega) hk2
              have ho9 := wν.2.2.2.1
              rw [show c = nI (ma_p (ms_m S) - ma_p ν) from hc] at e137
              obtain ⟨h', r1, r2⟩ := ih (i + 1) h1 (.int (nI (ma_p (ms_m S) - ma_p ν))) (by omega) R1 (F.tt F1)
              refine ⟨h', ?_, r2⟩
              by_cases hog : ma_o ν = mr_g (ms_r S)
              · cases hch : mm_ch (ms_r S) (ms_m S) i with
                | none =>
                  have e : mm_ch (ms_r S) (ms_m S) (i + 1) = some (i, ma_p (ms_m S) - ma_p ν) := by simp [mm_ch, hk2, hog, hch, mm_bet]
                  rw [e] at r1
                  simp only [↓reduceIte, ↓mq_139_0, ↓mq_139_1, ↓mq_139_2, ↓mq_139_5, ↓mq_139_6, ↓mq_139_7, ↓mq_139_8, ↓mq_139_9, ↓mq_139_12, ↓mq_139_15, ↓mq_139_17, ↓mq_139_18, ↓mq_139_20, ↓mq_139_21, ↓mq_139_23, ↓mq_139_24, ↓mq_139_25, ↓mq_139_29, ↓mq_139_30, ↓mq_139_31, ↓mq_139_34, ↓mq_139_35, ↓mq_139_38, ↓mq_139_39, ↓mq_139_41, ↓mq_139_44, ↓mq_139_47, ↓mq_139_49, ↓mq_139_52, ↓mq_139_53, ↓mq_139_55, ↓mq_139_58, ↓mq_139_60, ↓mq_139_62, ↓mq_139_64, ↓mq_139_67, ↓mq_139_68, ↓mq_139_71, ↓mq_139_72, ↓mq_139_73, ↓mq_139_74, ↓mq_139_77, ↓mq_139_80, ↓mq_139_81, ↓mq_139_83, ↓mq_139_86, ↓mq_139_88, ↓mq_139_89, ↓mq_139_92, ↓mq_139_94, ↓mq_139_95, ↓mq_139_97, ↓mq_139_98, ↓mq_139_101, ↓mq_139_104, ↓mq_139_105, ↓mq_139_108, ↓mq_139_109, ↓mq_139_112, ↓mq_139_113, ↓mj_bs (mr_bn hrk), hsh, mf_le hi2 (show 2 ^ mr_n (ms_r S) < 2 ^ 31 by omega), mr_is hrk, ↓mj_bs (e136), Option.toList, List.cons_append, List.nil_append, mj_b0, Bool.not_true, ↓mj_bs (e137), mf_m9 (d := ma_p (ms_m S) - ma_p ν) (by omega), ↓mj_bs (mr_b16 hr1), ↓mj_bs (mp_4 G1), ↓mj_bs (mr_bg hr1), mt_eq hog, mm_o2, mn_add]
                  exact r1
                | some b =>
                  have hb9 := mm_ch_le hp99 i b hch
                  by_cases hlt : ma_p (ms_m S) - ma_p ν < b.2
                  · have e : mm_ch (ms_r S) (ms_m S) (i + 1) = some (i, ma_p (ms_m S) - ma_p ν) := by simp [mm_ch, hk2, hog, hch, mm_bet, hlt]
                    rw [e] at r1
                    simp only [↓reduceIte, ↓mq_139_0, ↓mq_139_1, ↓mq_139_2, ↓mq_139_5, ↓mq_139_6, ↓mq_139_7, ↓mq_139_8, ↓mq_139_9, ↓mq_139_12, ↓mq_139_15, ↓mq_139_17, ↓mq_139_18, ↓mq_139_20, ↓mq_139_21, ↓mq_139_23, ↓mq_139_24, ↓mq_139_25, ↓mq_139_29, ↓mq_139_30, ↓mq_139_31, ↓mq_139_34, ↓mq_139_35, ↓mq_139_38, ↓mq_139_39, ↓mq_139_41, ↓mq_139_44, ↓mq_139_47, ↓mq_139_49, ↓mq_139_52, ↓mq_139_53, ↓mq_139_55, ↓mq_139_58, ↓mq_139_60, ↓mq_139_62, ↓mq_139_64, ↓mq_139_67, ↓mq_139_68, ↓mq_139_71, ↓mq_139_72, ↓mq_139_73, ↓mq_139_74, ↓mq_139_77, ↓mq_139_80, ↓mq_139_81, ↓mq_139_83, ↓mq_139_86, ↓mq_139_88, ↓mq_139_89, ↓mq_139_92, ↓mq_139_94, ↓mq_139_95, ↓mq_139_97, ↓mq_139_98, ↓mq_139_101, ↓mq_139_104, ↓mq_139_105, ↓mq_139_108, ↓mq_139_109, ↓mq_139_112, ↓mq_139_113, ↓mj_bs (mr_bn hrk), hsh, mf_le hi2 (show 2 ^ mr_n (ms_r S) < 2 ^ 31 by omega), mr_is hrk, ↓mj_bs (e136), Option.toList, List.cons_append, List.nil_append, mj_b0, Bool.not_true, ↓mj_bs (e137), mf_m9 (d := ma_p (ms_m S) - ma_p ν) (by omega), ↓mj_bs (mr_b16 hr1), ↓mj_bs (mp_4 G1), ↓mj_bs (mr_bg hr1), mt_eq hog, mm_o2, mf_m9 (d := b.2) (by omega), mf_le hlt, mn_add]
                    exact r1
                  · have e : mm_ch (ms_r S) (ms_m S) (i + 1) = some b := by simp [mm_ch, hk2, hog, hch, mm_bet, hlt]
                    rw [e] at r1
                    simp only [↓reduceIte, ↓mq_139_0, ↓mq_139_1, ↓mq_139_2, ↓mq_139_5, ↓mq_139_6, ↓mq_139_7, ↓mq_139_8, ↓mq_139_9, ↓mq_139_12, ↓mq_139_15, ↓mq_139_17, ↓mq_139_18, ↓mq_139_20, ↓mq_139_21, ↓mq_139_23, ↓mq_139_24, ↓mq_139_25, ↓mq_139_29, ↓mq_139_30, ↓mq_139_31, ↓mq_139_34, ↓mq_139_35, ↓mq_139_38, ↓mq_139_39, ↓mq_139_41, ↓mq_139_44, ↓mq_139_47, ↓mq_139_49, ↓mq_139_52, ↓mq_139_53, ↓mq_139_55, ↓mq_139_58, ↓mq_139_60, ↓mq_139_62, ↓mq_139_64, ↓mq_139_67, ↓mq_139_68, ↓mq_139_71, ↓mq_139_72, ↓mq_139_73, ↓mq_139_74, ↓mq_139_77, ↓mq_139_80, ↓mq_139_81, ↓mq_139_83, ↓mq_139_86, ↓mq_139_88, ↓mq_139_89, ↓mq_139_92, ↓mq_139_94, ↓mq_139_95, ↓mq_139_97, ↓mq_139_98, ↓mq_139_101, ↓mq_139_104, ↓mq_139_105, ↓mq_139_108, ↓mq_139_109, ↓mq_139_112, ↓mq_139_113, ↓mj_bs (mr_bn hrk), hsh, mf_le hi2 (show 2 ^ mr_n (ms_r S) < 2 ^ 31 by omega), mr_is hrk, ↓mj_bs (e136), Option.toList, List.cons_append, List.nil_append, mj_b0, Bool.not_true, ↓mj_bs (e137), mf_m9 (d := ma_p (ms_m S) - ma_p ν) (by omega), ↓mj_bs (mr_b16 hr1), ↓mj_bs (mp_4 G1), ↓mj_bs (mr_bg hr1), mt_eq hog, mm_o2, mf_m9 (d := b.2) (by omega), mt_le (Nat.le_of_not_lt hlt), mn_add]
                    exact r1
              · have e : mm_ch (ms_r S) (ms_m S) (i + 1) = mm_ch (ms_r S) (ms_m S) i := by simp [mm_ch, hk2, hog]
                rw [e] at r1
                simp only [↓reduceIte, ↓mq_139_0, ↓mq_139_1, ↓mq_139_2, ↓mq_139_5, ↓mq_139_6, ↓mq_139_7, ↓mq_139_8, ↓mq_139_9, ↓mq_139_12, ↓mq_139_15, ↓mq_139_17, ↓mq_139_18, ↓mq_139_20, ↓mq_139_21, ↓mq_139_23, ↓mq_139_24, ↓mq_139_25, ↓mq_139_29, ↓mq_139_30, ↓mq_139_31, ↓mq_139_34, ↓mq_139_35, ↓mq_139_38, ↓mq_139_39, ↓mq_139_41, ↓mq_139_44, ↓mq_139_47, ↓mq_139_49, ↓mq_139_52, ↓mq_139_53, ↓mq_139_55, ↓mq_139_58, ↓mq_139_60, ↓mq_139_62, ↓mq_139_64, ↓mq_139_67, ↓mq_139_68, ↓mq_139_71, ↓mq_139_72, ↓mq_139_73, ↓mq_139_74, ↓mq_139_77, ↓mq_139_80, ↓mq_139_81, ↓mq_139_83, ↓mq_139_86, ↓mq_139_88, ↓mq_139_89, ↓mq_139_92, ↓mq_139_94, ↓mq_139_95, ↓mq_139_97, ↓mq_139_98, ↓mq_139_101, ↓mq_139_104, ↓mq_139_105, ↓mq_139_108, ↓mq_139_109, ↓mq_139_112, ↓mq_139_113, ↓mj_bs (mr_bn hrk), hsh, mf_le hi2 (show 2 ^ mr_n (ms_r S) < 2 ^ 31 by omega), mr_is hrk, ↓mj_bs (e136), Option.toList, List.cons_append, List.nil_append, mj_b0, Bool.not_true, ↓mj_bs (e137), mf_m9 (d := ma_p (ms_m S) - ma_p ν) (by omega), ↓mj_bs (mr_b16 hr1), ↓mj_bs (mp_4 G1), ↓mj_bs (mr_bg hr1), mf_eq hog, mn_add]
                exact r1
      obtain ⟨h1, r1, C1, F1⟩ := loopC (2 ^ mr_n (ms_r S)) 0 h .null (by omega) C mh_F.rf
      refine mh_opI (v := .int v) (S' := S) JJ (h1 := h1) w ?_ (F1.mo (fun k z => ⟨by have := z.1; omega, by have := z.2; omega⟩)) C1 ?_
      · rw [mc_75]
        simp only [↓reduceIte, ↓mq_75_0, ↓mq_75_1, ↓mq_75_4, ↓mq_75_5, ↓mq_75_6, ↓mq_75_9, ↓mq_75_11, ↓mq_75_12, ↓mq_75_14, ↓mq_75_15, ↓mq_75_17, ↓mq_75_18, ↓mq_75_19, ↓mq_75_23, ↓mq_75_24, ↓mq_75_27, ↓mq_75_30, ↓mq_75_33, ↓mq_75_34, ↓mq_75_36, ↓mq_75_39, ↓mq_75_42, ↓mq_75_43, ↓mq_75_45, ↓mq_75_48, ↓mq_75_51, ↓mq_75_53, ↓mq_75_55, ↓mq_75_57, ↓mq_75_59, ↓mq_75_62, ↓mq_75_63, ↓mq_75_66, ↓mq_75_69, ↓mq_75_70, ↓mq_75_73, ↓mq_75_76, ↓mq_75_79, ↓mq_75_80, ↓mq_75_82, ↓mq_75_85, ↓mq_75_87, ↓mq_75_88, ↓mq_75_91, ↓mq_75_93, ↓mq_75_94, ↓mq_75_96, ↓mq_75_97, ↓mq_75_100, ↓mq_75_103, ↓mq_75_104, ↓mq_75_107, ↓mq_75_108, ↓mq_75_111, ↓mq_75_112, mf_lt (Nat.zero_le t), mt_le (show t ≤ 1 by omega)]
        exact r1
      · intro R
        have hrb := R.rr.1
        obtain ⟨h2, r2, R2, F2⟩ := loopR h1 R (2 ^ mr_n (ms_r S)) 0 h1 .null (by omega) R mh_F.rf
        refine ⟨h2, ?_, R2, F2.mo (fun k z => by omega)⟩
        rw [mc_139]
        simp only [↓reduceIte, ↓mq_139_0, ↓mq_139_1, ↓mq_139_2, ↓mq_139_5, ↓mq_139_6, ↓mq_139_7, ↓mq_139_8, ↓mq_139_9, ↓mq_139_12, ↓mq_139_15, ↓mq_139_17, ↓mq_139_18, ↓mq_139_20, ↓mq_139_21, ↓mq_139_23, ↓mq_139_24, ↓mq_139_25, ↓mq_139_29, ↓mq_139_30, ↓mq_139_31, ↓mq_139_34, ↓mq_139_35, ↓mq_139_38, ↓mq_139_39, ↓mq_139_41, ↓mq_139_44, ↓mq_139_47, ↓mq_139_49, ↓mq_139_52, ↓mq_139_53, ↓mq_139_55, ↓mq_139_58, ↓mq_139_60, ↓mq_139_62, ↓mq_139_64, ↓mq_139_67, ↓mq_139_68, ↓mq_139_71, ↓mq_139_72, ↓mq_139_73, ↓mq_139_74, ↓mq_139_77, ↓mq_139_80, ↓mq_139_81, ↓mq_139_83, ↓mq_139_86, ↓mq_139_88, ↓mq_139_89, ↓mq_139_92, ↓mq_139_94, ↓mq_139_95, ↓mq_139_97, ↓mq_139_98, ↓mq_139_101, ↓mq_139_104, ↓mq_139_105, ↓mq_139_108, ↓mq_139_109, ↓mq_139_112, ↓mq_139_113, ↓mj_bs (mr_th hrb), ↓mj_bs (mt_103_0_1), mn_dle (show t < 2 ^ 31 by omega) (show 1 < 2 ^ 31 by omega), show t ≤ 1 by omega, decide_true, Option.toList, List.cons_append, List.nil_append, mj_b0, Bool.true_eq_false]
        exact r2
    exact fin _ rfl
  · refine mh_opQ (v := .int (-2)) JJ ?_ ?_
    · rw [mc_75]
      rcases mn_out hno (by omega) with z | ⟨z1, z2⟩
      · simp only [↓reduceIte, ↓mq_75_0, ↓mq_75_1, ↓mq_75_4, ↓mq_75_5, ↓mq_75_6, ↓mq_75_9, ↓mq_75_11, ↓mq_75_12, ↓mq_75_14, ↓mq_75_15, ↓mq_75_17, ↓mq_75_18, ↓mq_75_19, ↓mq_75_21, ↓mq_75_23, ↓mq_75_24, ↓mq_75_27, ↓mq_75_30, ↓mq_75_33, ↓mq_75_34, ↓mq_75_36, ↓mq_75_39, ↓mq_75_42, ↓mq_75_43, ↓mq_75_45, ↓mq_75_48, ↓mq_75_51, ↓mq_75_53, ↓mq_75_55, ↓mq_75_57, ↓mq_75_59, ↓mq_75_62, ↓mq_75_63, ↓mq_75_66, ↓mq_75_69, ↓mq_75_70, ↓mq_75_73, ↓mq_75_76, ↓mq_75_79, ↓mq_75_80, ↓mq_75_82, ↓mq_75_85, ↓mq_75_87, ↓mq_75_88, ↓mq_75_91, ↓mq_75_93, ↓mq_75_94, ↓mq_75_96, ↓mq_75_97, ↓mq_75_100, ↓mq_75_103, ↓mq_75_104, ↓mq_75_107, ↓mq_75_108, ↓mq_75_111, ↓mq_75_112, z]
      · simp only [↓reduceIte, ↓mq_75_0, ↓mq_75_1, ↓mq_75_4, ↓mq_75_5, ↓mq_75_6, ↓mq_75_9, ↓mq_75_11, ↓mq_75_12, ↓mq_75_14, ↓mq_75_15, ↓mq_75_17, ↓mq_75_18, ↓mq_75_19, ↓mq_75_21, ↓mq_75_23, ↓mq_75_24, ↓mq_75_27, ↓mq_75_30, ↓mq_75_33, ↓mq_75_34, ↓mq_75_36, ↓mq_75_39, ↓mq_75_42, ↓mq_75_43, ↓mq_75_45, ↓mq_75_48, ↓mq_75_51, ↓mq_75_53, ↓mq_75_55, ↓mq_75_57, ↓mq_75_59, ↓mq_75_62, ↓mq_75_63, ↓mq_75_66, ↓mq_75_69, ↓mq_75_70, ↓mq_75_73, ↓mq_75_76, ↓mq_75_79, ↓mq_75_80, ↓mq_75_82, ↓mq_75_85, ↓mq_75_87, ↓mq_75_88, ↓mq_75_91, ↓mq_75_93, ↓mq_75_94, ↓mq_75_96, ↓mq_75_97, ↓mq_75_100, ↓mq_75_103, ↓mq_75_104, ↓mq_75_107, ↓mq_75_108, ↓mq_75_111, ↓mq_75_112, z1, z2]
    · rw [mc_139]
      simp only [↓reduceIte, ↓mq_139_0, ↓mq_139_1, ↓mq_139_2, ↓mq_139_5, ↓mq_139_6, ↓mq_139_7, ↓mq_139_8, ↓mq_139_9, ↓mq_139_12, ↓mq_139_15, ↓mq_139_17, ↓mq_139_18, ↓mq_139_20, ↓mq_139_21, ↓mq_139_23, ↓mq_139_24, ↓mq_139_25, ↓mq_139_27, ↓mq_139_29, ↓mq_139_30, ↓mq_139_31, ↓mq_139_34, ↓mq_139_35, ↓mq_139_38, ↓mq_139_39, ↓mq_139_41, ↓mq_139_44, ↓mq_139_47, ↓mq_139_49, ↓mq_139_52, ↓mq_139_53, ↓mq_139_55, ↓mq_139_58, ↓mq_139_60, ↓mq_139_62, ↓mq_139_64, ↓mq_139_67, ↓mq_139_68, ↓mq_139_71, ↓mq_139_72, ↓mq_139_73, ↓mq_139_74, ↓mq_139_77, ↓mq_139_80, ↓mq_139_81, ↓mq_139_83, ↓mq_139_86, ↓mq_139_88, ↓mq_139_89, ↓mq_139_92, ↓mq_139_94, ↓mq_139_95, ↓mq_139_97, ↓mq_139_98, ↓mq_139_101, ↓mq_139_104, ↓mq_139_105, ↓mq_139_108, ↓mq_139_109, ↓mq_139_112, ↓mq_139_113, ↓mj_bs (mr_th hrb), ↓mj_bs (mt_103_0_1), Option.toList, List.cons_append, List.nil_append, mn_dno' hno (show 1 < 2 by omega) (by omega), mj_b0]

end
