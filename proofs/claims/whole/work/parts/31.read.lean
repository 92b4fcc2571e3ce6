/-! THE CLASS'S SCROLL READS -/
def mm_sf (t : List Nat) (lo hi : Nat) (q : Nat × Bool) : Nat × Nat × Bool := if q.2 = true then (lo, q.1, true) else match mm_fig t q.1 lo hi with
  | some v => (v, q.1 + 1, false)
  | none => (lo, q.1, true)
def mm_so (t : List Nat) (set : Nat) (q : Nat × Bool) : Nat × Nat × Bool := if q.2 = true then (0, q.1, true) else match mm_fof t q.1 set with
  | some v => (v, q.1 + 1, false)
  | none => (0, q.1, true)
section
variable {h : mj_H} {r s pl : Nat} {t : List Nat} {sp : Bool} {ρ : mm_Ro}
theorem mt_53u (H : mh_Sc h s t pl sp) (hp : pl ≤ t.length) {lo hi : Nat} (hh : hi ≤ 9) (hl : lo ≤ hi) : ∃ h', mj_C 53 [.ref s, .int (nI lo), .int (nI hi)] h = some (some (.int (nI (mm_sf t lo hi (pl, sp)).1)), h') ∧ mh_Sc h' s t (mm_sf t lo hi (pl, sp)).2.1 (mm_sf t lo hi (pl, sp)).2.2 ∧ mh_F (fun k => k = s) h h' ∧ (mm_sf t lo hi (pl, sp)).2.1 ≤ t.length ∧ lo ≤ (mm_sf t lo hi (pl, sp)).1 ∧ (mm_sf t lo hi (pl, sp)).1 ≤ hi := by
  have h64 := H.2.2.1
  cases sp with
  | true =>
    obtain ⟨h1, e1, H1, F1⟩ := mt_53s H (by omega) lo hi
    exact ⟨h1, e1, H1, F1, hp, Nat.le_refl lo, hl⟩
  | false =>
    cases hf : mm_fig t pl lo hi with
    | some v =>
      obtain ⟨h1, e1, H1, F1⟩ := mt_53 H (by omega) hf hh
      obtain ⟨v1, v2, v3, v4⟩ := mm_fig_le hf
      have e : mm_sf t lo hi (pl, false) = (v, pl + 1, false) := by simp [mm_sf, hf]
      rw [e]
      exact ⟨h1, e1, H1, F1, v4, v1, v2⟩
    | none =>
      obtain ⟨h1, e1, H1, F1⟩ := mt_53n H (by omega) hf hh hl
      have e : mm_sf t lo hi (pl, false) = (lo, pl, true) := by simp [mm_sf, hf]
      rw [e]
      exact ⟨h1, e1, H1, F1, hp, Nat.le_refl lo, hl⟩
theorem mt_57u (H : mh_Sc h s t pl sp) (hp : pl ≤ t.length) {set : Nat} (hs : set < 64) : ∃ h', mj_C 57 [.ref s, .int (nI set)] h = some (some (.int (nI (mm_so t set (pl, sp)).1)), h') ∧ mh_Sc h' s t (mm_so t set (pl, sp)).2.1 (mm_so t set (pl, sp)).2.2 ∧ mh_F (fun k => k = s) h h' ∧ (mm_so t set (pl, sp)).2.1 ≤ t.length ∧ (mm_so t set (pl, sp)).1 ≤ 5 ∧ ((mm_so t set (pl, sp)).2.2 = false → set.testBit (mm_so t set (pl, sp)).1 = true) := by
  have h64 := H.2.2.1
  cases sp with
  | true =>
    obtain ⟨h1, e1, H1, F1⟩ := mt_57s H (by omega) set
    exact ⟨h1, e1, H1, F1, hp, Nat.zero_le _, fun z => by cases z⟩
  | false =>
    cases hf : mm_fof t pl set with
    | some v =>
      obtain ⟨h1, e1, H1, F1⟩ := mt_57 H (by omega) hs hf
      obtain ⟨v1, v2, v3⟩ := mm_fof_le hf
      have e : mm_so t set (pl, false) = (v, pl + 1, false) := by simp [mm_so, hf]
      rw [e]
      exact ⟨h1, e1, H1, F1, v3, v1, fun _ => v2⟩
    | none =>
      obtain ⟨h1, e1, H1, F1⟩ := mt_57n H (by omega) hs hf
      have e : mm_so t set (pl, false) = (0, pl, true) := by simp [mm_so, hf]
      rw [e]
      exact ⟨h1, e1, H1, F1, hp, Nat.zero_le _, fun z => by cases z⟩
theorem mm_pBs : mm_pB t pl ρ = ((mm_sf t 0 3 (mm_sf t 1 9 (mm_sf t 1 9 (mm_sf t 0 3 (pl, false)).2).2).2).2.1, if (mm_sf t 0 3 (mm_sf t 1 9 (mm_sf t 1 9 (mm_sf t 0 3 (pl, false)).2).2).2).2.2 = true then none else some (mm_roB ρ (mm_sf t 0 3 (pl, false)).1 (mm_sf t 1 9 (mm_sf t 0 3 (pl, false)).2).1 (mm_sf t 1 9 (mm_sf t 1 9 (mm_sf t 0 3 (pl, false)).2).2).1 (mm_sf t 0 3 (mm_sf t 1 9 (mm_sf t 1 9 (mm_sf t 0 3 (pl, false)).2).2).2).1)) := by
  unfold mm_pB
  cases h1 : mm_fig t pl 0 3 with
  | none => simp [mm_sf, h1]
  | some a =>
    cases h2 : mm_fig t (pl + 1) 1 9 with
    | none => simp [mm_sf, h1, h2]
    | some b =>
      cases h3 : mm_fig t (pl + 1 + 1) 1 9 with
      | none => simp [mm_sf, h1, h2, h3]
      | some c =>
        cases h4 : mm_fig t (pl + 1 + 1 + 1) 0 3 with
        | none => simp [mm_sf, h1, h2, h3, h4]
        | some d => simp [mm_sf, h1, h2, h3, h4]
theorem mm_pGs : mm_pG t pl ρ = (let a := mm_sf t 0 3 (pl, false); let b := mm_sf t 0 5 a.2; let c := mm_sf t (if b.1 = 0 then 1 else 0) (if b.1 = 5 then 4 else 9) b.2; (c.2.1, if c.2.2 = true then none else some (mm_roG ρ a.1 (10 * b.1 + c.1)))) := by
  unfold mm_pG
  simp only
  cases h1 : mm_fig t pl 0 3 with
  | none => simp [mm_sf, h1]
  | some a =>
    cases h2 : mm_fig t (pl + 1) 0 5 with
    | none => simp [mm_sf, h1, h2]
    | some b =>
      cases h3 : mm_fig t (pl + 1 + 1) (if b = 0 then 1 else 0) (if b = 5 then 4 else 9) with
      | none => simp [mm_sf, h1, h2, h3]
      | some c => simp [mm_sf, h1, h2, h3]
theorem mm_pEs : mm_pE t pl ρ = (let a := mm_so t (mm_may ρ (mr_n ρ)) (pl, false); let b := mm_so t (mm_open ρ a.1) a.2; (b.2.1, if b.2.2 = true then none else some (mm_roE ρ a.1 b.1))) := by
  unfold mm_pE
  simp only
  cases h1 : mm_fof t pl (mm_may ρ (mr_n ρ)) with
  | none => simp [mm_so, h1]
  | some i =>
    cases h2 : mm_fof t (pl + 1) (mm_open ρ i) with
    | none => simp [mm_so, h1, h2]
    | some j => simp [mm_so, h1, h2]
theorem mh_Ro.kp2 {A : Nat → Prop} {h h' : mj_H} {r : Nat} {ρ : mm_Ro} (H : mh_Ro h r ρ) (F : mh_F A h h') (hA : ∀ k, r ≤ k → k ≤ r + 7 → ¬ A k) : mh_Ro h' r ρ := H.kp F (fun k k1 k2 => hA k k1 k2)
def mh_SR (s r : Nat) : Nat → Prop := fun k => k = s ∨ mh_A r (r + 7) k
/-- what a part does -/
def mh_pt (h h' : mj_H) (s r : Nat) (t : List Nat) (ρ : mm_Ro) (X : Nat × Option mm_Ro) : Prop := ∃ pl' sp' ρ', mh_Sc h' s t pl' sp' ∧ mh_Ro h' r ρ' ∧ mh_F (mh_SR s r) h h' ∧ pl' ≤ t.length ∧ X = (pl', if sp' = true then none else some ρ') ∧ (sp' = true → ρ' = ρ)
theorem mt_55 (w : mw_R ρ) (H : mh_Sc h s t pl false) (R : mh_Ro h r ρ) (hp : pl ≤ t.length) (hn : mr_n ρ < 6) (hc : t[pl]? = some 66) (d1 : ¬ (r ≤ s ∧ s ≤ r + 7)) (d2 : ¬ (r ≤ s + 1 ∧ s + 1 ≤ r + 7)) : ∃ h', mj_C 55 [.ref s, .ref r] h = some (none, h') ∧ mh_pt h h' s r t ρ (mm_pB t (pl + 1) ρ) := by
  have h64 := H.2.2.1
  have hpl : pl < t.length := (List.getElem?_eq_some_iff.mp hc).1
  obtain ⟨h0, e0, H0, F0⟩ := mt_51 H (by omega) hc
  obtain ⟨h1, e1, H1, F1, p1, -⟩ := mt_53u (lo := 0) (hi := 3) H0 hpl (by omega) (by omega)
  obtain ⟨h2, e2, H2, F2, p2, -⟩ := mt_53u (lo := 1) (hi := 9) H1 p1 (by omega) (by omega)
  obtain ⟨h3, e3, H3, F3, p3, -⟩ := mt_53u (lo := 1) (hi := 9) H2 p2 (by omega) (by omega)
  obtain ⟨h4, e4, H4, F4, p4, -⟩ := mt_53u (lo := 0) (hi := 3) H3 p3 (by omega) (by omega)
  have F := (((F0.tt F1).tt F2).tt F3).tt F4
  have R4 : mh_Ro h4 r ρ := R.kp2 F (fun k k1 k2 z => d1 (by rw [← z]; exact ⟨k1, k2⟩))
  have E := mm_pBs (t := t) (pl := pl + 1) (ρ := ρ)
  simp only [Prod.eta] at e1 e2 e3 e4 H1 H2 H3 H4 p4
  generalize hx1 : mm_sf t 0 3 (pl + 1, false) = x1 at e1 H1 e2 H2 e3 H3 e4 H4 E p4
  generalize hx2 : mm_sf t 1 9 x1.2 = x2 at e2 H2 e3 H3 e4 H4 E p4
  generalize hx3 : mm_sf t 1 9 x2.2 = x3 at e3 H3 e4 H4 E p4
  generalize hx4 : mm_sf t 0 3 x3.2 = x4 at e4 H4 E p4
  cases hs : x4.2.2 with
  | true =>
    rw [hs] at H4
    refine ⟨h4, ?_, x4.2.1, true, ρ, H4, R4, F.mo (fun k z => Or.inl z), p4, by rw [E, hs]; rfl, fun _ => rfl⟩
    rw [mc_55]
    simp only [↓reduceIte, ↓mq_55_0, ↓mq_55_1, ↓mq_55_3, ↓mq_55_6, ↓mq_55_7, ↓mq_55_8, ↓mq_55_9, ↓mq_55_12, ↓mq_55_13, ↓mq_55_14, ↓mq_55_15, ↓mq_55_17, ↓mq_55_20, ↓mq_55_21, ↓mq_55_22, ↓mq_55_23, ↓mq_55_25, ↓mq_55_28, ↓mq_55_30, ↓mq_55_31, ↓mq_55_32, ↓mq_55_33, ↓mq_55_36, ↓mq_55_38, ↓mq_55_39, ↓mq_55_42, ↓mq_55_45, ↓mq_55_46, ↓mq_55_47, ↓mq_55_48, ↓mq_55_50, ↓mq_55_52, ↓mq_55_55, mh_isC H.1, ↓mj_bs (e0), mh_isC H0.1, ↓mj_bs (e1), mh_isC H1.1, ↓mj_bs (e2), mh_isC H2.1, ↓mj_bs (e3), mh_isC H3.1, ↓mj_bs (e4), Option.toList, List.cons_append, List.nil_append, ↓mj_bs (mh_gf 3 H4.1 rfl), mj_b0, Bool.true_eq_false]
  | false =>
    rw [hs] at H4
    obtain ⟨h5, e5, R5, F5⟩ := mt_27 R4 hn x1.1 x2.1 x3.1 x4.1
    have H5 := H4.kp F5 (fun z => d1 z) (fun z => d2 z)
    refine ⟨h5, ?_, x4.2.1, false, _, H5, R5, (F.mo (fun k z => Or.inl z)).tt (F5.mo (fun k z => Or.inr z)), p4, by rw [E, hs], fun z => by cases z⟩
    rw [mc_55]
    simp only [↓reduceIte, ↓mq_55_0, ↓mq_55_1, ↓mq_55_3, ↓mq_55_6, ↓mq_55_7, ↓mq_55_8, ↓mq_55_9, ↓mq_55_12, ↓mq_55_13, ↓mq_55_14, ↓mq_55_15, ↓mq_55_17, ↓mq_55_20, ↓mq_55_21, ↓mq_55_22, ↓mq_55_23, ↓mq_55_25, ↓mq_55_28, ↓mq_55_30, ↓mq_55_31, ↓mq_55_32, ↓mq_55_33, ↓mq_55_36, ↓mq_55_38, ↓mq_55_39, ↓mq_55_42, ↓mq_55_45, ↓mq_55_46, ↓mq_55_47, ↓mq_55_48, ↓mq_55_50, ↓mq_55_52, ↓mq_55_55, mh_isC H.1, ↓mj_bs (e0), mh_isC H0.1, ↓mj_bs (e1), mh_isC H1.1, ↓mj_bs (e2), mh_isC H2.1, ↓mj_bs (e3), mh_isC H3.1, ↓mj_bs (e4), Option.toList, List.cons_append, List.nil_append, ↓mj_bs (mh_gf 3 H4.1 rfl), mj_b0, mh_isC R4.1, ↓mj_bs (e5)]
theorem mt_58 (w : mw_R ρ) (H : mh_Sc h s t pl false) (R : mh_Ro h r ρ) (hp : pl ≤ t.length) (hn : mr_g ρ < 3) (hc : t[pl]? = some 71) (d1 : ¬ (r ≤ s ∧ s ≤ r + 7)) (d2 : ¬ (r ≤ s + 1 ∧ s + 1 ≤ r + 7)) : ∃ h', mj_C 58 [.ref s, .ref r] h = some (none, h') ∧ mh_pt h h' s r t ρ (mm_pG t (pl + 1) ρ) := by
  have h64 := H.2.2.1
  have hpl : pl < t.length := (List.getElem?_eq_some_iff.mp hc).1
  obtain ⟨h0, e0, H0, F0⟩ := mt_51 H (by omega) hc
  obtain ⟨h1, e1, H1, F1, p1, -⟩ := mt_53u (lo := 0) (hi := 3) H0 hpl (by omega) (by omega)
  obtain ⟨h2, e2, H2, F2, p2, -, hb5⟩ := mt_53u (lo := 0) (hi := 5) H1 p1 (by omega) (by omega)
  obtain ⟨h3, e3, H3, F3, p3, -⟩ := mt_53u (lo := if (mm_sf t 0 5 (mm_sf t 0 3 (pl + 1, false)).2).1 = 0 then 1 else 0) (hi := if (mm_sf t 0 5 (mm_sf t 0 3 (pl + 1, false)).2).1 = 5 then 4 else 9) H2 p2 (by split <;> omega) (by split <;> split <;> omega)
  have F := ((F0.tt F1).tt F2).tt F3
  have R3 : mh_Ro h3 r ρ := R.kp2 F (fun k k1 k2 z => d1 (by rw [← z]; exact ⟨k1, k2⟩))
  have E := mm_pGs (t := t) (pl := pl + 1) (ρ := ρ)
  simp only [Prod.eta] at e1 e2 e3 H1 H2 H3 p3 hb5
  simp only at E
  generalize hx1 : mm_sf t 0 3 (pl + 1, false) = x1 at e1 H1 e2 H2 e3 H3 E p3 hb5
  generalize hx2 : mm_sf t 0 5 x1.2 = x2 at e2 H2 e3 H3 E p3 hb5
  generalize hx3 : mm_sf t (if x2.1 = 0 then 1 else 0) (if x2.1 = 5 then 4 else 9) x2.2 = x3 at e3 H3 E p3
  have mid : mj_C 58 [.ref s, .ref r] h = mj_R 58 (46, [.ref s, .ref r, .int (nI x1.1), .int (nI x2.1), .int (nI x3.1)], [], h3) := by
    rw [mc_58]
    by_cases z0 : x2.1 = 0
    · simp only [z0] at e3 e2
      simp only [↓reduceIte, ↓mq_58_0, ↓mq_58_1, ↓mq_58_3, ↓mq_58_6, ↓mq_58_7, ↓mq_58_8, ↓mq_58_9, ↓mq_58_12, ↓mq_58_13, ↓mq_58_14, ↓mq_58_15, ↓mq_58_16, ↓mq_58_19, ↓mq_58_20, ↓mq_58_21, ↓mq_58_22, ↓mq_58_25, ↓mq_58_26, ↓mq_58_29, ↓mq_58_30, ↓mq_58_31, ↓mq_58_32, ↓mq_58_35, ↓mq_58_36, ↓mq_58_39, ↓mq_58_41, ↓mq_58_44, ↓mq_58_47, ↓mq_58_50, ↓mq_58_53, ↓mq_58_54, ↓mq_58_55, ↓mq_58_57, ↓mq_58_58, ↓mq_58_59, ↓mq_58_61, ↓mq_58_62, ↓mq_58_65, mh_isC H.1, ↓mj_bs (e0), mh_isC H0.1, ↓mj_bs (e1), mh_isC H1.1, ↓mj_bs (e2), Option.toList, List.cons_append, List.nil_append, mf_eq (show ¬ (0 : Nat) = 5 by omega), mh_isC H2.1]
      have e3' := e3
      simp only [↓reduceIte, show ¬ (0 : Nat) = 5 by omega] at e3'
      simp only [↓mj_bs (e3'), Option.toList, List.cons_append, List.nil_append, ↓reduceIte, ↓mq_58_0, ↓mq_58_1, ↓mq_58_3, ↓mq_58_6, ↓mq_58_7, ↓mq_58_8, ↓mq_58_9, ↓mq_58_12, ↓mq_58_13, ↓mq_58_14, ↓mq_58_15, ↓mq_58_16, ↓mq_58_19, ↓mq_58_20, ↓mq_58_21, ↓mq_58_22, ↓mq_58_25, ↓mq_58_26, ↓mq_58_29, ↓mq_58_30, ↓mq_58_31, ↓mq_58_32, ↓mq_58_35, ↓mq_58_36, ↓mq_58_39, ↓mq_58_41, ↓mq_58_44, ↓mq_58_47, ↓mq_58_50, ↓mq_58_53, ↓mq_58_54, ↓mq_58_55, ↓mq_58_57, ↓mq_58_58, ↓mq_58_59, ↓mq_58_61, ↓mq_58_62, ↓mq_58_65, z0]
    · by_cases z5 : x2.1 = 5
      · simp only [z5] at e3 e2
        simp only [↓reduceIte, ↓mq_58_0, ↓mq_58_1, ↓mq_58_3, ↓mq_58_6, ↓mq_58_7, ↓mq_58_8, ↓mq_58_9, ↓mq_58_12, ↓mq_58_13, ↓mq_58_14, ↓mq_58_15, ↓mq_58_16, ↓mq_58_19, ↓mq_58_20, ↓mq_58_21, ↓mq_58_22, ↓mq_58_25, ↓mq_58_26, ↓mq_58_29, ↓mq_58_30, ↓mq_58_31, ↓mq_58_32, ↓mq_58_35, ↓mq_58_36, ↓mq_58_39, ↓mq_58_41, ↓mq_58_44, ↓mq_58_47, ↓mq_58_50, ↓mq_58_53, ↓mq_58_54, ↓mq_58_55, ↓mq_58_57, ↓mq_58_58, ↓mq_58_59, ↓mq_58_61, ↓mq_58_62, ↓mq_58_65, mh_isC H.1, ↓mj_bs (e0), mh_isC H0.1, ↓mj_bs (e1), mh_isC H1.1, ↓mj_bs (e2), Option.toList, List.cons_append, List.nil_append, mf_eq (show ¬ (5 : Nat) = 0 by omega), mh_isC H2.1]
        have e3' := e3
        simp only [↓reduceIte, show ¬ (5 : Nat) = 0 by omega] at e3'
        simp only [↓mj_bs (e3'), Option.toList, List.cons_append, List.nil_append, ↓reduceIte, ↓mq_58_0, ↓mq_58_1, ↓mq_58_3, ↓mq_58_6, ↓mq_58_7, ↓mq_58_8, ↓mq_58_9, ↓mq_58_12, ↓mq_58_13, ↓mq_58_14, ↓mq_58_15, ↓mq_58_16, ↓mq_58_19, ↓mq_58_20, ↓mq_58_21, ↓mq_58_22, ↓mq_58_25, ↓mq_58_26, ↓mq_58_29, ↓mq_58_30, ↓mq_58_31, ↓mq_58_32, ↓mq_58_35, ↓mq_58_36, ↓mq_58_39, ↓mq_58_41, ↓mq_58_44, ↓mq_58_47, ↓mq_58_50, ↓mq_58_53, ↓mq_58_54, ↓mq_58_55, ↓mq_58_57, ↓mq_58_58, ↓mq_58_59, ↓mq_58_61, ↓mq_58_62, ↓mq_58_65, z5]
      · simp only [if_neg z0, if_neg z5] at e3
        simp only [↓reduceIte, ↓mq_58_0, ↓mq_58_1, ↓mq_58_3, ↓mq_58_6, ↓mq_58_7, ↓mq_58_8, ↓mq_58_9, ↓mq_58_12, ↓mq_58_13, ↓mq_58_14, ↓mq_58_15, ↓mq_58_16, ↓mq_58_19, ↓mq_58_20, ↓mq_58_21, ↓mq_58_22, ↓mq_58_25, ↓mq_58_26, ↓mq_58_29, ↓mq_58_30, ↓mq_58_31, ↓mq_58_32, ↓mq_58_35, ↓mq_58_36, ↓mq_58_39, ↓mq_58_41, ↓mq_58_44, ↓mq_58_47, ↓mq_58_50, ↓mq_58_53, ↓mq_58_54, ↓mq_58_55, ↓mq_58_57, ↓mq_58_58, ↓mq_58_59, ↓mq_58_61, ↓mq_58_62, ↓mq_58_65, mh_isC H.1, ↓mj_bs (e0), mh_isC H0.1, ↓mj_bs (e1), mh_isC H1.1, ↓mj_bs (e2), Option.toList, List.cons_append, List.nil_append, mf_eq z0, mf_eq z5, mh_isC H2.1, ↓mj_bs (e3)]
  cases hs : x3.2.2 with
  | true =>
    rw [hs] at H3
    refine ⟨h3, ?_, x3.2.1, true, ρ, H3, R3, F.mo (fun k z => Or.inl z), p3, by rw [E, hs]; rfl, fun _ => rfl⟩
    rw [mid]
    simp only [↓reduceIte, ↓mq_58_0, ↓mq_58_1, ↓mq_58_3, ↓mq_58_6, ↓mq_58_7, ↓mq_58_8, ↓mq_58_9, ↓mq_58_12, ↓mq_58_13, ↓mq_58_14, ↓mq_58_15, ↓mq_58_16, ↓mq_58_19, ↓mq_58_20, ↓mq_58_21, ↓mq_58_22, ↓mq_58_25, ↓mq_58_26, ↓mq_58_29, ↓mq_58_30, ↓mq_58_31, ↓mq_58_32, ↓mq_58_35, ↓mq_58_36, ↓mq_58_39, ↓mq_58_41, ↓mq_58_44, ↓mq_58_46, ↓mq_58_47, ↓mq_58_50, ↓mq_58_53, ↓mq_58_54, ↓mq_58_55, ↓mq_58_57, ↓mq_58_58, ↓mq_58_59, ↓mq_58_61, ↓mq_58_62, ↓mq_58_65, ↓mj_bs (mh_gf 3 H3.1 rfl), mj_b0, Bool.true_eq_false]
  | false =>
    rw [hs] at H3
    obtain ⟨h5, e5, R5, F5⟩ := mt_34 R3 hn x1.1 (10 * x2.1 + x3.1)
    have H5 := H3.kp F5 (fun z => d1 z) (fun z => d2 z)
    refine ⟨h5, ?_, x3.2.1, false, _, H5, R5, (F.mo (fun k z => Or.inl z)).tt (F5.mo (fun k z => Or.inr z)), p3, by rw [E, hs], fun z => by cases z⟩
    rw [mid]
    simp only [↓reduceIte, ↓mq_58_0, ↓mq_58_1, ↓mq_58_3, ↓mq_58_6, ↓mq_58_7, ↓mq_58_8, ↓mq_58_9, ↓mq_58_12, ↓mq_58_13, ↓mq_58_14, ↓mq_58_15, ↓mq_58_16, ↓mq_58_19, ↓mq_58_20, ↓mq_58_21, ↓mq_58_22, ↓mq_58_25, ↓mq_58_26, ↓mq_58_29, ↓mq_58_30, ↓mq_58_31, ↓mq_58_32, ↓mq_58_35, ↓mq_58_36, ↓mq_58_39, ↓mq_58_41, ↓mq_58_44, ↓mq_58_46, ↓mq_58_47, ↓mq_58_50, ↓mq_58_53, ↓mq_58_54, ↓mq_58_55, ↓mq_58_57, ↓mq_58_58, ↓mq_58_59, ↓mq_58_61, ↓mq_58_62, ↓mq_58_65, ↓mj_bs (mh_gf 3 H3.1 rfl), mj_b0, mh_isC R3.1, mn_mul, mn_add, ↓mj_bs (e5), Option.toList, List.cons_append, List.nil_append]
theorem mt_56 (w : mw_R ρ) (H : mh_Sc h s t pl false) (R : mh_Ro h r ρ) (hp : pl ≤ t.length) (hm : mm_may ρ (mr_n ρ) ≠ 0) (hc : t[pl]? = some 69) (d1 : ¬ (r ≤ s ∧ s ≤ r + 7)) (d2 : ¬ (r ≤ s + 1 ∧ s + 1 ≤ r + 7)) : ∃ h', mj_C 56 [.ref s, .ref r] h = some (none, h') ∧ mh_pt h h' s r t ρ (mm_pE t (pl + 1) ρ) := by
  have h64 := H.2.2.1
  have hn := w.1
  have hpl : pl < t.length := (List.getElem?_eq_some_iff.mp hc).1
  have hmay := mm_64 (mm_may_lt (ρ := ρ) (mr_n ρ) hn) hn
  obtain ⟨h0, e0, H0, F0⟩ := mt_51 H (by omega) hc
  have K : ∀ {q h'}, mh_F (fun k => k = s) q h' → mh_Ro q r ρ → mh_Ro h' r ρ := fun F R => R.kp2 F (fun k k1 k2 z => d1 (by rw [← z]; exact ⟨k1, k2⟩))
  have R0 := K F0 R
  obtain ⟨h1, e1, H1, F1, p1, b1, c1⟩ := mt_57u (set := mm_may ρ (mr_n ρ)) H0 hpl hmay
  have R1 := K F1 R0
  have hx := mt_30 w R1 (b := (mm_so t (mm_may ρ (mr_n ρ)) (pl + 1, false)).1) (by omega)
  have hop : (mm_so t (mm_may ρ (mr_n ρ)) (pl + 1, false)).2.2 = false → (mm_so t (mm_may ρ (mr_n ρ)) (pl + 1, false)).1 < mr_n ρ := fun z => by
    have q := c1 z
    rw [mm_may_at _ hn, Bool.and_eq_true, decide_eq_true_eq] at q
    exact q.1
  have hlt : (if (mm_so t (mm_may ρ (mr_n ρ)) (pl + 1, false)).1 < mr_n ρ then mm_open ρ (mm_so t (mm_may ρ (mr_n ρ)) (pl + 1, false)).1 else 0) < 64 := by
    split
    · rename_i q
      exact mm_open_lt w (by omega) (mm_64 (w.2.2.2.1 _ q).2.2.2.2.2.2.1 hn)
    · omega
  obtain ⟨h2, e2, H2, F2, p2, b2, c2⟩ := mt_57u (set := if (mm_so t (mm_may ρ (mr_n ρ)) (pl + 1, false)).1 < mr_n ρ then mm_open ρ (mm_so t (mm_may ρ (mr_n ρ)) (pl + 1, false)).1 else 0) H1 p1 hlt
  have R2 := K F2 R1
  have F := (F0.tt F1).tt F2
  have E := mm_pEs (t := t) (pl := pl + 1) (ρ := ρ)
  simp only at E
  simp only [Prod.eta] at e1 e2 H1 H2 p1 p2 c1 c2 b1 b2
  generalize hx1 : mm_so t (mm_may ρ (mr_n ρ)) (pl + 1, false) = x1 at e1 H1 hx hop hlt e2 H2 E p1 p2 c1 c2 b1 b2
  have E2 : mm_so t (if x1.1 < mr_n ρ then mm_open ρ x1.1 else 0) x1.2 = mm_so t (mm_open ρ x1.1) x1.2 := by
    cases hz : x1.2.2 with
    | true => simp [mm_so, hz]
    | false => rw [if_pos (hop hz)]
  rw [← E2] at E
  generalize hx2 : mm_so t (if x1.1 < mr_n ρ then mm_open ρ x1.1 else 0) x1.2 = x2 at e2 H2 E p2 c2 b2
  cases hs : x2.2.2 with
  | true =>
    rw [hs] at H2
    refine ⟨h2, ?_, x2.2.1, true, ρ, H2, R2, F.mo (fun k z => Or.inl z), p2, by rw [E, hs]; rfl, fun _ => rfl⟩
    rw [mc_56]
    simp only [↓reduceIte, ↓mq_56_0, ↓mq_56_1, ↓mq_56_3, ↓mq_56_6, ↓mq_56_7, ↓mq_56_8, ↓mq_56_11, ↓mq_56_14, ↓mq_56_15, ↓mq_56_16, ↓mq_56_17, ↓mq_56_18, ↓mq_56_21, ↓mq_56_24, ↓mq_56_25, ↓mq_56_26, ↓mq_56_29, ↓mq_56_32, ↓mq_56_33, ↓mq_56_34, ↓mq_56_35, ↓mq_56_38, mh_isC H.1, ↓mj_bs (e0), mh_isC R0.1, ↓mj_bs (mt_29 w R0), mh_isC H0.1, ↓mj_bs (e1), mh_isC R1.1, ↓mj_bs (hx), mh_isC H1.1, ↓mj_bs (e2), Option.toList, List.cons_append, List.nil_append, ↓mj_bs (mh_gf 3 H2.1 rfl), mj_b0, Bool.true_eq_false]
  | false =>
    rw [hs] at H2
    have hz : x1.2.2 = false := by
      cases hz : x1.2.2 with
      | true =>
        have : x2.2.2 = true := by rw [← hx2]; simp [mm_so, hz]
        rw [this] at hs; cases hs
      | false => rfl
    have hi := hop hz
    have hq := c2 hs
    rw [if_pos hi, mm_open_at w (by omega) (mm_64 (w.2.2.2.1 _ hi).2.2.2.2.2.2.1 hn) (by omega)] at hq
    simp only [Bool.and_eq_true, decide_eq_true_eq] at hq
    obtain ⟨h5, e5, R5, F5⟩ := mt_33 w R2 hi hq.1.1 hq.2
    have H5 := H2.kp F5 (fun z => d1 z) (fun z => d2 z)
    refine ⟨h5, ?_, x2.2.1, false, _, H5, R5, (F.mo (fun k z => Or.inl z)).tt (F5.mo (fun k z => Or.inr z)), p2, by rw [E, hs], fun z => by cases z⟩
    rw [mc_56]
    simp only [↓reduceIte, ↓mq_56_0, ↓mq_56_1, ↓mq_56_3, ↓mq_56_6, ↓mq_56_7, ↓mq_56_8, ↓mq_56_11, ↓mq_56_14, ↓mq_56_15, ↓mq_56_16, ↓mq_56_17, ↓mq_56_18, ↓mq_56_21, ↓mq_56_24, ↓mq_56_25, ↓mq_56_26, ↓mq_56_29, ↓mq_56_32, ↓mq_56_33, ↓mq_56_34, ↓mq_56_35, ↓mq_56_38, mh_isC H.1, ↓mj_bs (e0), mh_isC R0.1, ↓mj_bs (mt_29 w R0), mh_isC H0.1, ↓mj_bs (e1), mh_isC R1.1, ↓mj_bs (hx), mh_isC H1.1, ↓mj_bs (e2), Option.toList, List.cons_append, List.nil_append, ↓mj_bs (mh_gf 3 H2.1 rfl), mj_b0, mh_isC R2.1, ↓mj_bs (e5)]
theorem mm_pk_eq (ht : ∀ c ∈ t, c < 256) {c : Nat} (hc : c < 256) : (mm_pk t pl = nI c) = (t[pl]? = some c) := by
  unfold mm_pk
  cases hd : t[pl]? with
  | some d =>
    have : d < 256 := ht d (List.mem_of_getElem? hd)
    simp only [Option.some.injEq]
    exact propext (mn_eq (by omega) (by omega))
  | none =>
    refine propext ⟨fun z => ?_, fun z => by cases z⟩
    exact absurd z.symm (fun z => (mf_m9 (d := c) (by omega)).mp z)
theorem mt_54 (w : mw_R ρ) (H : mh_Sc h s t pl false) (R : mh_Ro h r ρ) (hp : pl ≤ t.length) (d1 : ¬ (r ≤ s ∧ s ≤ r + 7)) (d2 : ¬ (r ≤ s + 1 ∧ s + 1 ≤ r + 7)) : ∃ h', mj_C 54 [.ref s, .ref r] h = some (none, h') ∧ mh_pt h h' s r t ρ (mm_part t pl ρ) := by
  have h64 := H.2.2.1
  have ht := H.2.2.2
  have hn := w.1
  have hmay := mt_28 w R
  have hg := w.2.1
  rw [mc_54]
  unfold mm_part
  by_cases z66 : t[pl]? = some 66 ∧ mr_n ρ < 6
  · rw [if_pos z66]
    obtain ⟨h', e, P⟩ := mt_55 w H R hp z66.2 z66.1 d1 d2
    refine ⟨h', ?_, P⟩
    have k1 : (mm_pk t pl = nI 66) = True := eq_true ((mm_pk_eq ht (by omega)).mpr z66.1)
    simp only [↓reduceIte, ↓mq_54_0, ↓mq_54_1, ↓mq_54_4, ↓mq_54_5, ↓mq_54_6, ↓mq_54_8, ↓mq_54_11, ↓mq_54_12, ↓mq_54_15, ↓mq_54_17, ↓mq_54_20, ↓mq_54_21, ↓mq_54_22, ↓mq_54_25, ↓mq_54_28, ↓mq_54_29, ↓mq_54_31, ↓mq_54_34, ↓mq_54_35, ↓mq_54_38, ↓mq_54_41, ↓mq_54_42, ↓mq_54_43, ↓mq_54_46, ↓mq_54_49, ↓mq_54_50, ↓mq_54_52, ↓mq_54_55, ↓mq_54_56, ↓mq_54_59, ↓mq_54_60, ↓mq_54_63, ↓mq_54_64, ↓mq_54_65, ↓mq_54_68, ↓mq_54_71, ↓mq_54_72, ↓mq_54_73, ↓mq_54_76, mh_isC H.1, ↓mj_bs (mt_52 H (by omega)), k1, ↓mj_bs (mh_gf 1 R.1 rfl), mf_le z66.2, ↓mj_bs (e), Option.toList, List.cons_append, List.nil_append]
  · rw [if_neg z66]
    have st49 : mj_R 54 (0, [.ref s, .ref r, .null], [], h) = mj_R 54 (28, [.ref s, .ref r, .int (mm_pk t pl)], [], h) := by
      by_cases q : t[pl]? = some 66
      · have k1 : (mm_pk t pl = nI 66) = True := eq_true ((mm_pk_eq ht (by omega)).mpr q)
        have q2 : ¬ mr_n ρ < 6 := fun z => z66 ⟨q, z⟩
        simp only [↓reduceIte, ↓mq_54_0, ↓mq_54_1, ↓mq_54_4, ↓mq_54_5, ↓mq_54_6, ↓mq_54_8, ↓mq_54_11, ↓mq_54_12, ↓mq_54_15, ↓mq_54_17, ↓mq_54_20, ↓mq_54_21, ↓mq_54_22, ↓mq_54_25, ↓mq_54_29, ↓mq_54_31, ↓mq_54_34, ↓mq_54_35, ↓mq_54_38, ↓mq_54_41, ↓mq_54_42, ↓mq_54_43, ↓mq_54_46, ↓mq_54_49, ↓mq_54_50, ↓mq_54_52, ↓mq_54_55, ↓mq_54_56, ↓mq_54_59, ↓mq_54_60, ↓mq_54_63, ↓mq_54_64, ↓mq_54_65, ↓mq_54_68, ↓mq_54_71, ↓mq_54_72, ↓mq_54_73, ↓mq_54_76, mh_isC H.1, ↓mj_bs (mt_52 H (by omega)), k1, ↓mj_bs (mh_gf 1 R.1 rfl), mt_le (Nat.le_of_not_lt q2), Option.toList, List.cons_append, List.nil_append]
      · have k1 : (mm_pk t pl = nI 66) = False := eq_false (fun z => q ((mm_pk_eq ht (by omega)).mp z))
        simp only [↓reduceIte, ↓mq_54_0, ↓mq_54_1, ↓mq_54_4, ↓mq_54_5, ↓mq_54_6, ↓mq_54_8, ↓mq_54_11, ↓mq_54_12, ↓mq_54_15, ↓mq_54_17, ↓mq_54_20, ↓mq_54_21, ↓mq_54_22, ↓mq_54_25, ↓mq_54_29, ↓mq_54_31, ↓mq_54_34, ↓mq_54_35, ↓mq_54_38, ↓mq_54_41, ↓mq_54_42, ↓mq_54_43, ↓mq_54_46, ↓mq_54_49, ↓mq_54_50, ↓mq_54_52, ↓mq_54_55, ↓mq_54_56, ↓mq_54_59, ↓mq_54_60, ↓mq_54_63, ↓mq_54_64, ↓mq_54_65, ↓mq_54_68, ↓mq_54_71, ↓mq_54_72, ↓mq_54_73, ↓mq_54_76, mh_isC H.1, ↓mj_bs (mt_52 H (by omega)), k1, Option.toList, List.cons_append, List.nil_append]
    rw [st49]
    by_cases z69 : t[pl]? = some 69 ∧ mm_may ρ (mr_n ρ) ≠ 0
    · rw [if_pos z69]
      obtain ⟨h', e, P⟩ := mt_56 w H R hp z69.2 z69.1 d1 d2
      refine ⟨h', ?_, P⟩
      have k1 : (mm_pk t pl = nI 69) = True := eq_true ((mm_pk_eq ht (by omega)).mpr z69.1)
      have k2 : decide (mm_may ρ (mr_n ρ) ≠ 0) = true := decide_eq_true z69.2
      simp only [↓reduceIte, ↓mq_54_0, ↓mq_54_1, ↓mq_54_4, ↓mq_54_5, ↓mq_54_6, ↓mq_54_8, ↓mq_54_11, ↓mq_54_12, ↓mq_54_15, ↓mq_54_17, ↓mq_54_20, ↓mq_54_21, ↓mq_54_22, ↓mq_54_25, ↓mq_54_28, ↓mq_54_29, ↓mq_54_31, ↓mq_54_34, ↓mq_54_35, ↓mq_54_38, ↓mq_54_41, ↓mq_54_42, ↓mq_54_43, ↓mq_54_46, ↓mq_54_49, ↓mq_54_50, ↓mq_54_52, ↓mq_54_55, ↓mq_54_56, ↓mq_54_59, ↓mq_54_60, ↓mq_54_63, ↓mq_54_64, ↓mq_54_65, ↓mq_54_68, ↓mq_54_71, ↓mq_54_72, ↓mq_54_73, ↓mq_54_76, k1, mh_isC R.1, ↓mj_bs (hmay), k2, mj_b0, Bool.true_eq_false, mh_isC H.1, ↓mj_bs (e), Option.toList, List.cons_append, List.nil_append]
    · rw [if_neg z69]
      have st71 : mj_R 54 (28, [.ref s, .ref r, .int (mm_pk t pl)], [], h) = mj_R 54 (49, [.ref s, .ref r, .int (mm_pk t pl)], [], h) := by
        by_cases q : t[pl]? = some 69
        · have k1 : (mm_pk t pl = nI 69) = True := eq_true ((mm_pk_eq ht (by omega)).mpr q)
          have k2 : decide (mm_may ρ (mr_n ρ) ≠ 0) = false := decide_eq_false (fun z => z69 ⟨q, z⟩)
          simp only [↓reduceIte, ↓mq_54_0, ↓mq_54_1, ↓mq_54_4, ↓mq_54_5, ↓mq_54_6, ↓mq_54_8, ↓mq_54_11, ↓mq_54_12, ↓mq_54_15, ↓mq_54_17, ↓mq_54_20, ↓mq_54_21, ↓mq_54_22, ↓mq_54_25, ↓mq_54_28, ↓mq_54_29, ↓mq_54_31, ↓mq_54_34, ↓mq_54_35, ↓mq_54_38, ↓mq_54_41, ↓mq_54_42, ↓mq_54_43, ↓mq_54_46, ↓mq_54_50, ↓mq_54_52, ↓mq_54_55, ↓mq_54_56, ↓mq_54_59, ↓mq_54_60, ↓mq_54_63, ↓mq_54_64, ↓mq_54_65, ↓mq_54_68, ↓mq_54_71, ↓mq_54_72, ↓mq_54_73, ↓mq_54_76, k1, mh_isC R.1, ↓mj_bs (hmay), k2, mj_b0, Option.toList, List.cons_append, List.nil_append]
        · have k1 : (mm_pk t pl = nI 69) = False := eq_false (fun z => q ((mm_pk_eq ht (by omega)).mp z))
          simp only [↓reduceIte, ↓mq_54_0, ↓mq_54_1, ↓mq_54_4, ↓mq_54_5, ↓mq_54_6, ↓mq_54_8, ↓mq_54_11, ↓mq_54_12, ↓mq_54_15, ↓mq_54_17, ↓mq_54_20, ↓mq_54_21, ↓mq_54_22, ↓mq_54_25, ↓mq_54_28, ↓mq_54_29, ↓mq_54_31, ↓mq_54_34, ↓mq_54_35, ↓mq_54_38, ↓mq_54_41, ↓mq_54_42, ↓mq_54_43, ↓mq_54_46, ↓mq_54_50, ↓mq_54_52, ↓mq_54_55, ↓mq_54_56, ↓mq_54_59, ↓mq_54_60, ↓mq_54_63, ↓mq_54_64, ↓mq_54_65, ↓mq_54_68, ↓mq_54_71, ↓mq_54_72, ↓mq_54_73, ↓mq_54_76, k1]
      rw [st71]
      by_cases z71 : t[pl]? = some 71 ∧ mr_g ρ < 3
      · rw [if_pos z71]
        obtain ⟨h', e, P⟩ := mt_58 w H R hp z71.2 z71.1 d1 d2
        refine ⟨h', ?_, P⟩
        have k1 : (mm_pk t pl = nI 71) = True := eq_true ((mm_pk_eq ht (by omega)).mpr z71.1)
        simp only [↓reduceIte, ↓mq_54_0, ↓mq_54_1, ↓mq_54_4, ↓mq_54_5, ↓mq_54_6, ↓mq_54_8, ↓mq_54_11, ↓mq_54_12, ↓mq_54_15, ↓mq_54_17, ↓mq_54_20, ↓mq_54_21, ↓mq_54_22, ↓mq_54_25, ↓mq_54_28, ↓mq_54_29, ↓mq_54_31, ↓mq_54_34, ↓mq_54_35, ↓mq_54_38, ↓mq_54_41, ↓mq_54_42, ↓mq_54_43, ↓mq_54_46, ↓mq_54_49, ↓mq_54_50, ↓mq_54_52, ↓mq_54_55, ↓mq_54_56, ↓mq_54_59, ↓mq_54_60, ↓mq_54_63, ↓mq_54_64, ↓mq_54_65, ↓mq_54_68, ↓mq_54_71, ↓mq_54_72, ↓mq_54_73, ↓mq_54_76, k1, ↓mj_bs (mh_gf 2 R.1 rfl), mf_le z71.2, mh_isC H.1, ↓mj_bs (e), Option.toList, List.cons_append, List.nil_append]
      · rw [if_neg z71]
        obtain ⟨h1, e1, H1, F1⟩ := mh_ScS H true
        have e1' : mj_pf h s 5 3 (.int (nI 1)) = some h1 := e1
        refine ⟨h1, ?_, pl, true, ρ, H1, R.kp2 F1 (fun k k1 k2 z => d1 (by rw [← z]; exact ⟨k1, k2⟩)), F1.mo (fun k z => Or.inl z), hp, rfl, fun _ => rfl⟩
        by_cases q : t[pl]? = some 71
        · have k1 : (mm_pk t pl = nI 71) = True := eq_true ((mm_pk_eq ht (by omega)).mpr q)
          simp only [↓reduceIte, ↓mq_54_0, ↓mq_54_1, ↓mq_54_4, ↓mq_54_5, ↓mq_54_6, ↓mq_54_8, ↓mq_54_11, ↓mq_54_12, ↓mq_54_15, ↓mq_54_17, ↓mq_54_20, ↓mq_54_21, ↓mq_54_22, ↓mq_54_25, ↓mq_54_28, ↓mq_54_29, ↓mq_54_31, ↓mq_54_34, ↓mq_54_35, ↓mq_54_38, ↓mq_54_41, ↓mq_54_42, ↓mq_54_43, ↓mq_54_46, ↓mq_54_49, ↓mq_54_50, ↓mq_54_52, ↓mq_54_55, ↓mq_54_56, ↓mq_54_59, ↓mq_54_60, ↓mq_54_63, ↓mq_54_64, ↓mq_54_65, ↓mq_54_68, ↓mq_54_71, ↓mq_54_72, ↓mq_54_73, ↓mq_54_76, k1, ↓mj_bs (mh_gf 2 R.1 rfl), mt_le (Nat.le_of_not_lt (fun z => z71 ⟨q, z⟩)), ↓mj_bs (e1')]
        · have k1 : (mm_pk t pl = nI 71) = False := eq_false (fun z => q ((mm_pk_eq ht (by omega)).mp z))
          simp only [↓reduceIte, ↓mq_54_0, ↓mq_54_1, ↓mq_54_4, ↓mq_54_5, ↓mq_54_6, ↓mq_54_8, ↓mq_54_11, ↓mq_54_12, ↓mq_54_15, ↓mq_54_17, ↓mq_54_20, ↓mq_54_21, ↓mq_54_22, ↓mq_54_25, ↓mq_54_28, ↓mq_54_29, ↓mq_54_31, ↓mq_54_34, ↓mq_54_35, ↓mq_54_38, ↓mq_54_41, ↓mq_54_42, ↓mq_54_43, ↓mq_54_46, ↓mq_54_49, ↓mq_54_50, ↓mq_54_52, ↓mq_54_55, ↓mq_54_56, ↓mq_54_59, ↓mq_54_60, ↓mq_54_63, ↓mq_54_64, ↓mq_54_65, ↓mq_54_68, ↓mq_54_71, ↓mq_54_72, ↓mq_54_73, ↓mq_54_76, k1, ↓mj_bs (e1')]
theorem mm_it_none {ρ0 : mm_Ro} {k : Nat} (e : mm_it t ρ0 k = (pl, none)) : ∀ j, mm_it t ρ0 (k + j) = (pl, none) := by
  intro j
  induction j with
  | zero => exact e
  | succ j ih =>
    show mm_it t ρ0 (k + j + 1) = _
    simp only [mm_it, ih]
theorem mm_it_done {ρ0 : mm_Ro} {k : Nat} (e : mm_it t ρ0 k = (pl, some ρ)) (hl : t.length ≤ pl) : ∀ j, mm_it t ρ0 (k + j) = (pl, some ρ) := by
  intro j
  induction j with
  | zero => exact e
  | succ j ih =>
    show mm_it t ρ0 (k + j + 1) = _
    simp only [mm_it, ih]
    rw [if_neg (by omega)]
theorem mm_readS : mm_read t = (let a := mm_sf t 0 9 (1, false); let b := mm_sf t 0 9 a.2; if t[0]? = some 82 then (if b.2.2 = true then (b.2.1, none) else mm_it t (mm_roD mm_ro0 (10 * a.1 + b.1)) 64) else (0, none)) := by
  unfold mm_read
  simp only
  split
  · cases h1 : mm_fig t 1 0 9 with
    | none => simp [mm_sf, h1]
    | some a =>
      cases h2 : mm_fig t 2 0 9 with
      | none => simp [mm_sf, h1, h2]
      | some b => simp [mm_sf, h1, h2]
  · rfl
def mm_v9 (sp : Bool) (pl : Nat) : Int32 := if sp = true then nI pl else -9
theorem mt_50e (H : mh_Sc h s t pl sp) {x y z : Value} : mj_R 50 (85, [.ref s, .ref r, x, y, z], [], h) = some (some (.int (mm_v9 sp pl)), h) := by
  cases sp with
  | true => simp only [↓reduceIte, ↓mq_50_0, ↓mq_50_1, ↓mq_50_2, ↓mq_50_5, ↓mq_50_6, ↓mq_50_7, ↓mq_50_10, ↓mq_50_11, ↓mq_50_14, ↓mq_50_15, ↓mq_50_17, ↓mq_50_20, ↓mq_50_21, ↓mq_50_22, ↓mq_50_24, ↓mq_50_27, ↓mq_50_28, ↓mq_50_29, ↓mq_50_30, ↓mq_50_32, ↓mq_50_35, ↓mq_50_36, ↓mq_50_37, ↓mq_50_39, ↓mq_50_40, ↓mq_50_41, ↓mq_50_42, ↓mq_50_43, ↓mq_50_46, ↓mq_50_47, ↓mq_50_49, ↓mq_50_51, ↓mq_50_53, ↓mq_50_56, ↓mq_50_57, ↓mq_50_60, ↓mq_50_63, ↓mq_50_64, ↓mq_50_67, ↓mq_50_68, ↓mq_50_71, ↓mq_50_74, ↓mq_50_75, ↓mq_50_76, ↓mq_50_79, ↓mq_50_82, ↓mq_50_85, ↓mq_50_86, ↓mq_50_89, ↓mq_50_92, ↓mq_50_93, ↓mq_50_96, ↓mq_50_99, ↓mq_50_101, ↓mj_bs (mh_gf 3 H.1 rfl), mj_b0, Bool.true_eq_false, ↓mj_bs (mh_gf 2 H.1 rfl), mm_v9]
  | false => simp only [↓reduceIte, ↓mq_50_0, ↓mq_50_1, ↓mq_50_2, ↓mq_50_5, ↓mq_50_6, ↓mq_50_7, ↓mq_50_10, ↓mq_50_11, ↓mq_50_14, ↓mq_50_15, ↓mq_50_17, ↓mq_50_20, ↓mq_50_21, ↓mq_50_22, ↓mq_50_24, ↓mq_50_27, ↓mq_50_28, ↓mq_50_29, ↓mq_50_30, ↓mq_50_32, ↓mq_50_35, ↓mq_50_36, ↓mq_50_37, ↓mq_50_39, ↓mq_50_40, ↓mq_50_41, ↓mq_50_42, ↓mq_50_43, ↓mq_50_46, ↓mq_50_47, ↓mq_50_49, ↓mq_50_51, ↓mq_50_53, ↓mq_50_56, ↓mq_50_57, ↓mq_50_60, ↓mq_50_63, ↓mq_50_64, ↓mq_50_67, ↓mq_50_68, ↓mq_50_71, ↓mq_50_74, ↓mq_50_75, ↓mq_50_76, ↓mq_50_79, ↓mq_50_82, ↓mq_50_85, ↓mq_50_86, ↓mq_50_89, ↓mq_50_92, ↓mq_50_93, ↓mq_50_96, ↓mq_50_99, ↓mq_50_101, ↓mj_bs (mh_gf 3 H.1 rfl), mj_b0, mm_v9, Bool.false_eq_true]
theorem mt_50 (H : mh_Sc h s t pl sp) (R : mh_Ro h r ρ) (d1 : ¬ (r ≤ s ∧ s ≤ r + 7)) (d2 : ¬ (r ≤ s + 1 ∧ s + 1 ≤ r + 7)) : ∃ h' pl' sp' ρ', mj_C 50 [.ref s, .ref r] h = some (some (.int (mm_fault t)), h') ∧ mh_Sc h' s t pl' sp' ∧ mh_Ro h' r ρ' ∧ mw_R ρ' ∧ mh_F (mh_SR s r) h h' ∧ (∀ ρ1, (mm_read t).2 = some ρ1 → ρ' = ρ1) := by
  have h64 := H.2.2.1
  have loop : ∀ {ρ0 : mm_Ro} {x y : Value}, ∀ d k, k + d = 64 → ∀ (h : mj_H) (pl : Nat) (sp : Bool) (ρ : mm_Ro), mh_Sc h s t pl sp → mh_Ro h r ρ → mw_R ρ → pl ≤ t.length → mm_it t ρ0 k = (pl, if sp = true then none else some ρ) → ∃ h' pl' sp' ρ', mj_R 50 (49, [.ref s, .ref r, x, y, .int (nI k)], [], h) = some (some (.int (mm_v9 sp' pl')), h') ∧ mh_Sc h' s t pl' sp' ∧ mh_Ro h' r ρ' ∧ mw_R ρ' ∧ mh_F (mh_SR s r) h h' ∧ mm_it t ρ0 64 = (pl', if sp' = true then none else some ρ') := by
    intro ρ0 x y d
    induction d with
    | zero =>
      intro k hk h pl sp ρ H R w hp E
      obtain rfl : k = 64 := by omega
      refine ⟨h, pl, sp, ρ, ?_, H, R, w, mh_F.rf, E⟩
      rw [mq_50_49]
      simp only [↓reduceIte, ↓mq_50_0, ↓mq_50_1, ↓mq_50_2, ↓mq_50_5, ↓mq_50_6, ↓mq_50_7, ↓mq_50_10, ↓mq_50_11, ↓mq_50_14, ↓mq_50_15, ↓mq_50_17, ↓mq_50_20, ↓mq_50_21, ↓mq_50_22, ↓mq_50_24, ↓mq_50_27, ↓mq_50_28, ↓mq_50_29, ↓mq_50_30, ↓mq_50_32, ↓mq_50_35, ↓mq_50_36, ↓mq_50_37, ↓mq_50_39, ↓mq_50_40, ↓mq_50_41, ↓mq_50_42, ↓mq_50_43, ↓mq_50_46, ↓mq_50_47, ↓mq_50_51, ↓mq_50_53, ↓mq_50_56, ↓mq_50_57, ↓mq_50_60, ↓mq_50_63, ↓mq_50_64, ↓mq_50_67, ↓mq_50_68, ↓mq_50_71, ↓mq_50_74, ↓mq_50_75, ↓mq_50_76, ↓mq_50_79, ↓mq_50_82, ↓mq_50_86, ↓mq_50_89, ↓mq_50_92, ↓mq_50_93, ↓mq_50_96, ↓mq_50_99, ↓mq_50_101, mt_le (Nat.le_refl 64), mt_50e H]
    | succ d ih =>
      intro k hk h pl sp ρ H R w hp E
      have hk64 : k < 64 := by omega
      cases sp with
      | true =>
        have E2 := mm_it_none E (64 - k)
        rw [show k + (64 - k) = 64 by omega] at E2
        refine ⟨h, pl, true, ρ, ?_, H, R, w, mh_F.rf, E2⟩
        rw [mq_50_49]
        simp only [↓reduceIte, ↓mq_50_0, ↓mq_50_1, ↓mq_50_2, ↓mq_50_5, ↓mq_50_6, ↓mq_50_7, ↓mq_50_10, ↓mq_50_11, ↓mq_50_14, ↓mq_50_15, ↓mq_50_17, ↓mq_50_20, ↓mq_50_21, ↓mq_50_22, ↓mq_50_24, ↓mq_50_27, ↓mq_50_28, ↓mq_50_29, ↓mq_50_30, ↓mq_50_32, ↓mq_50_35, ↓mq_50_36, ↓mq_50_37, ↓mq_50_39, ↓mq_50_40, ↓mq_50_41, ↓mq_50_42, ↓mq_50_43, ↓mq_50_46, ↓mq_50_47, ↓mq_50_51, ↓mq_50_53, ↓mq_50_56, ↓mq_50_57, ↓mq_50_60, ↓mq_50_63, ↓mq_50_64, ↓mq_50_67, ↓mq_50_68, ↓mq_50_71, ↓mq_50_74, ↓mq_50_75, ↓mq_50_76, ↓mq_50_79, ↓mq_50_82, ↓mq_50_86, ↓mq_50_89, ↓mq_50_92, ↓mq_50_93, ↓mq_50_96, ↓mq_50_99, ↓mq_50_101, mf_le hk64, ↓mj_bs (mh_gf 3 H.1 rfl), mj_b0, Bool.true_eq_false, mt_50e H]
      | false =>
        by_cases hl : pl < t.length
        · obtain ⟨h1, e1, pl1, sp1, ρ1, H1, R1, F1, p1, X1, Y1⟩ := mt_54 w H R hp d1 d2
          have w1 : mw_R ρ1 := by
            cases sp1 with
            | true => rw [Y1 rfl]; exact w
            | false => exact (mw_part w X1).1
          have E1 : mm_it t ρ0 (k + 1) = (pl1, if sp1 = true then none else some ρ1) := by
            have E' : mm_it t ρ0 k = (pl, some ρ) := E
            simp only [mm_it, E', hl, if_true, X1]
          obtain ⟨h2, pl2, sp2, ρ2, e2, H2, R2, w2, F2, E2⟩ := ih (k + 1) (by omega) h1 pl1 sp1 ρ1 H1 R1 w1 p1 E1
          refine ⟨h2, pl2, sp2, ρ2, ?_, H2, R2, w2, F1.tt F2, E2⟩
          rw [mq_50_49]
          simp only [↓reduceIte, ↓mq_50_0, ↓mq_50_1, ↓mq_50_2, ↓mq_50_5, ↓mq_50_6, ↓mq_50_7, ↓mq_50_10, ↓mq_50_11, ↓mq_50_14, ↓mq_50_15, ↓mq_50_17, ↓mq_50_20, ↓mq_50_21, ↓mq_50_22, ↓mq_50_24, ↓mq_50_27, ↓mq_50_28, ↓mq_50_29, ↓mq_50_30, ↓mq_50_32, ↓mq_50_35, ↓mq_50_36, ↓mq_50_37, ↓mq_50_39, ↓mq_50_40, ↓mq_50_41, ↓mq_50_42, ↓mq_50_43, ↓mq_50_46, ↓mq_50_47, ↓mq_50_51, ↓mq_50_53, ↓mq_50_56, ↓mq_50_57, ↓mq_50_60, ↓mq_50_63, ↓mq_50_64, ↓mq_50_67, ↓mq_50_68, ↓mq_50_71, ↓mq_50_74, ↓mq_50_75, ↓mq_50_76, ↓mq_50_79, ↓mq_50_82, ↓mq_50_86, ↓mq_50_89, ↓mq_50_92, ↓mq_50_93, ↓mq_50_96, ↓mq_50_99, ↓mq_50_101, mf_le hk64, ↓mj_bs (mh_gf 3 H.1 rfl), mj_b0, ↓mj_bs (mh_gf 2 H.1 rfl), ↓mj_bs (mh_gf 1 H.1 rfl), mf_le hl, mh_isC H.1, ↓mj_bs (e1), Option.toList, List.cons_append, List.nil_append, mn_add, e2]
        · have E2 := mm_it_done (ρ := ρ) E (Nat.le_of_not_lt hl) (64 - k)
          rw [show k + (64 - k) = 64 by omega] at E2
          refine ⟨h, pl, false, ρ, ?_, H, R, w, mh_F.rf, E2⟩
          rw [mq_50_49]
          simp only [↓reduceIte, ↓mq_50_0, ↓mq_50_1, ↓mq_50_2, ↓mq_50_5, ↓mq_50_6, ↓mq_50_7, ↓mq_50_10, ↓mq_50_11, ↓mq_50_14, ↓mq_50_15, ↓mq_50_17, ↓mq_50_20, ↓mq_50_21, ↓mq_50_22, ↓mq_50_24, ↓mq_50_27, ↓mq_50_28, ↓mq_50_29, ↓mq_50_30, ↓mq_50_32, ↓mq_50_35, ↓mq_50_36, ↓mq_50_37, ↓mq_50_39, ↓mq_50_40, ↓mq_50_41, ↓mq_50_42, ↓mq_50_43, ↓mq_50_46, ↓mq_50_47, ↓mq_50_51, ↓mq_50_53, ↓mq_50_56, ↓mq_50_57, ↓mq_50_60, ↓mq_50_63, ↓mq_50_64, ↓mq_50_67, ↓mq_50_68, ↓mq_50_71, ↓mq_50_74, ↓mq_50_75, ↓mq_50_76, ↓mq_50_79, ↓mq_50_82, ↓mq_50_86, ↓mq_50_89, ↓mq_50_92, ↓mq_50_93, ↓mq_50_96, ↓mq_50_99, ↓mq_50_101, mf_le hk64, ↓mj_bs (mh_gf 3 H.1 rfl), mj_b0, ↓mj_bs (mh_gf 2 H.1 rfl), ↓mj_bs (mh_gf 1 H.1 rfl), mt_le (Nat.le_of_not_lt hl), mt_50e H]
  obtain ⟨h1, e1, H1, F1⟩ := mh_ScA H 0
  obtain ⟨h2, e2, H2, F2⟩ := mh_ScS H1 false
  have e2' : mj_pf h1 s 5 3 (.int (nI 0)) = some h2 := e2
  have K : ∀ {q h' ρ}, mh_F (fun k => k = s) q h' → mh_Ro q r ρ → mh_Ro h' r ρ := fun F R => R.kp2 F (fun k k1 k2 z => d1 (by rw [← z]; exact ⟨k1, k2⟩))
  obtain ⟨h3, e3, R3, F3⟩ := mt_26 (K F2 (K F1 R))
  have H3 := H2.kp F3 (fun z => d1 z) (fun z => d2 z)
  have S : ∀ {q h'}, mh_F (fun k => k = s) q h' → mh_F (mh_SR s r) q h' := fun F => F.mo (fun k z => Or.inl z)
  have T : ∀ {q h'}, mh_F (mh_A r (r + 7)) q h' → mh_F (mh_SR s r) q h' := fun F => F.mo (fun k z => Or.inr z)
  obtain ⟨h4, pl4, sp4, e4, H4, F4, p4, q4⟩ : ∃ h' pl' sp', mj_C 51 [.ref s, .int (nI 82)] h3 = some (none, h') ∧ mh_Sc h' s t pl' sp' ∧ mh_F (fun k => k = s) h3 h' ∧ pl' ≤ t.length ∧ (if t[0]? = some 82 then (pl', sp') = (1, false) else (pl', sp') = (0, true)) := by
    by_cases hc : t[0]? = some 82
    · obtain ⟨h', e, H', F'⟩ := mt_51 H3 (by omega) hc
      exact ⟨h', _, _, e, H', F', (List.getElem?_eq_some_iff.mp hc).1, by rw [if_pos hc]⟩
    · obtain ⟨h', e, H', F'⟩ := mt_51n H3 (by omega) (show 82 < 256 by omega) hc
      exact ⟨h', _, _, e, H', F', by omega, by rw [if_neg hc]⟩
  obtain ⟨h5, e5, H5, F5, p5, -, b5⟩ := mt_53u (lo := 0) (hi := 9) H4 p4 (by omega) (by omega)
  obtain ⟨h6, e6, H6, F6, p6, -, b6⟩ := mt_53u (lo := 0) (hi := 9) H5 p5 (by omega) (by omega)
  simp only [Prod.eta] at e5 e6 H5 H6 p5 p6 b5 b6
  have E := mm_readS (t := t)
  simp only at E
  have R6 := K F6 (K F5 (K F4 R3))
  obtain ⟨h7, e7, R7, F7⟩ := R6.D (10 * (mm_sf t 0 9 (pl4, sp4)).1 + (mm_sf t 0 9 (mm_sf t 0 9 (pl4, sp4)).2).1)
  have H7 := H6.kp F7 (fun z => d1 z) (fun z => d2 z)
  have F := ((((((S F1).tt (S F2)).tt (T F3)).tt (S F4)).tt (S F5)).tt (S F6)).tt (T F7)
  have st : mj_C 50 [.ref s, .ref r] h = mj_R 50 (49, [.ref s, .ref r, .int (nI (mm_sf t 0 9 (pl4, sp4)).1), .int (nI (mm_sf t 0 9 (mm_sf t 0 9 (pl4, sp4)).2).1), .int (nI 0)], [], h7) := by
    rw [mc_50]
    simp only [↓reduceIte, ↓mq_50_0, ↓mq_50_1, ↓mq_50_2, ↓mq_50_5, ↓mq_50_6, ↓mq_50_7, ↓mq_50_10, ↓mq_50_11, ↓mq_50_14, ↓mq_50_15, ↓mq_50_17, ↓mq_50_20, ↓mq_50_21, ↓mq_50_22, ↓mq_50_24, ↓mq_50_27, ↓mq_50_28, ↓mq_50_29, ↓mq_50_30, ↓mq_50_32, ↓mq_50_35, ↓mq_50_36, ↓mq_50_37, ↓mq_50_39, ↓mq_50_40, ↓mq_50_41, ↓mq_50_42, ↓mq_50_43, ↓mq_50_46, ↓mq_50_47, ↓mq_50_51, ↓mq_50_53, ↓mq_50_56, ↓mq_50_57, ↓mq_50_60, ↓mq_50_63, ↓mq_50_64, ↓mq_50_67, ↓mq_50_68, ↓mq_50_71, ↓mq_50_74, ↓mq_50_75, ↓mq_50_76, ↓mq_50_79, ↓mq_50_82, ↓mq_50_85, ↓mq_50_86, ↓mq_50_89, ↓mq_50_92, ↓mq_50_93, ↓mq_50_96, ↓mq_50_99, ↓mq_50_101, ↓mj_bs (e1), ↓mj_bs (e2'), mh_isC (K F2 (K F1 R)).1, ↓mj_bs (e3), mh_isC H3.1, ↓mj_bs (e4), mh_isC H4.1, ↓mj_bs (e5), mh_isC H5.1, ↓mj_bs (e6), Option.toList, List.cons_append, List.nil_append, mn_mul, mn_add, ↓mj_bs (e7)]
  rw [st]
  have wd : mw_R (mm_roD mm_ro0 (10 * (mm_sf t 0 9 (pl4, sp4)).1 + (mm_sf t 0 9 (mm_sf t 0 9 (pl4, sp4)).2).1)) := mw_D mw_ro0 (by omega)
  by_cases hc : t[0]? = some 82
  · rw [if_pos hc] at q4
    rw [if_pos hc, ← q4] at E
    generalize hx1 : mm_sf t 0 9 (pl4, sp4) = x1 at *
    generalize hx2 : mm_sf t 0 9 x1.2 = x2 at *
    cases hz : x2.2.2 with
    | true =>
      rw [hz] at H7
      rw [hz, if_pos rfl] at E
      refine ⟨h7, x2.2.1, true, _, ?_, H7, R7, wd, F, ?_⟩
      · rw [mq_50_49]
        simp only [↓reduceIte, ↓mq_50_0, ↓mq_50_1, ↓mq_50_2, ↓mq_50_5, ↓mq_50_6, ↓mq_50_7, ↓mq_50_10, ↓mq_50_11, ↓mq_50_14, ↓mq_50_15, ↓mq_50_17, ↓mq_50_20, ↓mq_50_21, ↓mq_50_22, ↓mq_50_24, ↓mq_50_27, ↓mq_50_28, ↓mq_50_29, ↓mq_50_30, ↓mq_50_32, ↓mq_50_35, ↓mq_50_36, ↓mq_50_37, ↓mq_50_39, ↓mq_50_40, ↓mq_50_41, ↓mq_50_42, ↓mq_50_43, ↓mq_50_46, ↓mq_50_47, ↓mq_50_51, ↓mq_50_53, ↓mq_50_56, ↓mq_50_57, ↓mq_50_60, ↓mq_50_63, ↓mq_50_64, ↓mq_50_67, ↓mq_50_68, ↓mq_50_71, ↓mq_50_74, ↓mq_50_75, ↓mq_50_76, ↓mq_50_79, ↓mq_50_82, ↓mq_50_86, ↓mq_50_89, ↓mq_50_92, ↓mq_50_93, ↓mq_50_96, ↓mq_50_99, ↓mq_50_101, mf_le (show 0 < 64 by omega), ↓mj_bs (mh_gf 3 H7.1 rfl), mj_b0, Bool.true_eq_false, mt_50e H7]
        simp [mm_fault, E, mm_v9]
      · rw [E]; intro ρ1 z; cases z
    | false =>
      have hx3 : x2.2.1 = 3 := by
        rw [← hx2] at hz ⊢
        rw [← hx1] at hz ⊢
        rw [q4] at hz ⊢
        cases a1 : mm_fig t 1 0 9 with
        | none => simp [mm_sf, a1] at hz
        | some a =>
          cases a2 : mm_fig t 2 0 9 with
          | none => simp [mm_sf, a1, a2] at hz
          | some b => simp [mm_sf, a1, a2]
      rw [hz] at H7
      rw [hz, if_neg (by simp)] at E
      obtain ⟨h8, pl8, sp8, ρ8, e8, H8, R8, w8, F8, E8⟩ := loop (ρ0 := mm_roD mm_ro0 (10 * x1.1 + x2.1)) 64 0 rfl h7 x2.2.1 false _ H7 R7 wd p6 (by rw [hx3]; rfl)
      refine ⟨h8, pl8, sp8, ρ8, ?_, H8, R8, w8, F.tt F8, ?_⟩
      · rw [e8, mm_fault, E, E8]
        cases sp8 <;> rfl
      · rw [E, E8]
        cases sp8 with
        | true => intro ρ1 z; cases z
        | false => intro ρ1 z; cases z; rfl
  · rw [if_neg hc] at q4
    rw [if_neg hc] at E
    obtain ⟨rfl, rfl⟩ := Prod.mk.inj q4
    have H7' : mh_Sc h7 s t 0 true := H7
    refine ⟨h7, 0, true, _, ?_, H7', R7, wd, F, ?_⟩
    · rw [mq_50_49]
      simp only [↓reduceIte, ↓mq_50_0, ↓mq_50_1, ↓mq_50_2, ↓mq_50_5, ↓mq_50_6, ↓mq_50_7, ↓mq_50_10, ↓mq_50_11, ↓mq_50_14, ↓mq_50_15, ↓mq_50_17, ↓mq_50_20, ↓mq_50_21, ↓mq_50_22, ↓mq_50_24, ↓mq_50_27, ↓mq_50_28, ↓mq_50_29, ↓mq_50_30, ↓mq_50_32, ↓mq_50_35, ↓mq_50_36, ↓mq_50_37, ↓mq_50_39, ↓mq_50_40, ↓mq_50_41, ↓mq_50_42, ↓mq_50_43, ↓mq_50_46, ↓mq_50_47, ↓mq_50_51, ↓mq_50_53, ↓mq_50_56, ↓mq_50_57, ↓mq_50_60, ↓mq_50_63, ↓mq_50_64, ↓mq_50_67, ↓mq_50_68, ↓mq_50_71, ↓mq_50_74, ↓mq_50_75, ↓mq_50_76, ↓mq_50_79, ↓mq_50_82, ↓mq_50_86, ↓mq_50_89, ↓mq_50_92, ↓mq_50_93, ↓mq_50_96, ↓mq_50_99, ↓mq_50_101, mf_le (show 0 < 64 by omega), ↓mj_bs (mh_gf 3 H7'.1 rfl), mj_b0, Bool.true_eq_false, mt_50e H7']
      simp [mm_fault, E, mm_v9]
    · rw [E]; intro ρ1 z; cases z
/-- a letter more -/
theorem mt_49 (H : mh_Sc h s t pl sp) {c : Nat} (hc : c < 256) : if t.length < 64 then ∃ h', mj_C 49 [.ref s, .int (nI c)] h = some (some (.int (nI 1)), h') ∧ mh_Sc h' s (t ++ [c]) pl sp ∧ mh_F (fun k => k = s ∨ k = s + 1) h h' else mj_C 49 [.ref s, .int (nI c)] h = some (some (.int (nI 0)), h) := by
  have h64 := H.2.2.1
  split
  · rename_i hl
    obtain ⟨h1, e1, b2, F1⟩ := H.2.1.pt (P' := fun k => k < (t ++ [c]).length) (X' := fun k => (t ++ [c]).getD k 0) hl c (fun j _ hj => by
      by_cases e : j = t.length
      · subst e; exact Or.inl ⟨rfl, by simp [List.getD]⟩
      · have : j < t.length := by rw [List.length_append] at hj; simp at hj; omega
        exact Or.inr ⟨e, this, by simp [List.getD, List.getElem?_append_left this]⟩)
    have o1 := (F1.2 s (by omega)).trans H.1
    have F6 : mh_F (fun k => k = s) h1 (mj_up h1 s (.inr (5, [.ref (s + 1), .int (nI (t.length + 1)), .int (nI pl), .int (mj_bI sp)]))) := mh_uF
    refine ⟨_, ?_, ⟨?_, b2.kp F6 (by omega), by simp; omega, fun x hx => ?_⟩, (F1.mo (fun k z => Or.inr z)).tt (F6.mo (fun k z => Or.inl z))⟩
    · rw [mc_49]
      simp only [↓reduceIte, ↓mq_49_0, ↓mq_49_1, ↓mq_49_4, ↓mq_49_6, ↓mq_49_9, ↓mq_49_10, ↓mq_49_11, ↓mq_49_12, ↓mq_49_15, ↓mq_49_16, ↓mq_49_19, ↓mq_49_20, ↓mq_49_21, ↓mq_49_22, ↓mq_49_23, ↓mq_49_26, ↓mq_49_27, ↓mq_49_28, ↓mq_49_31, ↓mq_49_32, ↓mj_bs (mh_gf 1 H.1 rfl), mt_lt hl, ↓mj_bs (mh_gf 0 H.1 rfl), ↓mj_bs (e1), ↓mj_bs (mh_gf 1 o1 rfl), mn_add, ↓mj_bs (mh_pf 1 (v := .int (nI (t.length + 1))) o1 (by simp) rfl)]
      rfl
    · rw [List.length_append]; exact mh_ua
    · rcases List.mem_append.mp hx with z | z
      · exact H.2.2.2 x z
      · rw [List.mem_singleton.mp z]; exact hc
  · rename_i hl
    rw [mc_49]
    simp only [↓reduceIte, ↓mq_49_0, ↓mq_49_1, ↓mq_49_4, ↓mq_49_6, ↓mq_49_9, ↓mq_49_10, ↓mq_49_11, ↓mq_49_12, ↓mq_49_15, ↓mq_49_16, ↓mq_49_19, ↓mq_49_20, ↓mq_49_21, ↓mq_49_22, ↓mq_49_23, ↓mq_49_26, ↓mq_49_27, ↓mq_49_28, ↓mq_49_31, ↓mq_49_32, ↓mj_bs (mh_gf 1 H.1 rfl), mf_lt (show 64 ≤ t.length by omega), mj_z0]
end
