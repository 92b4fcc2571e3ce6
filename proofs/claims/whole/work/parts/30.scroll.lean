/-! THE CLASS'S ROAD: what changes it; THE CLASS'S SCROLL -/
section
variable {h : mj_H} {r s : Nat} {ρ : mm_Ro}
theorem mh_ap0 {a n : Nat} {P : Nat → Prop} {X : Nat → Nat} (H : mh_ap h a n P X) {P' : Nat → Prop} {X' : Nat → Nat} (hP : ∀ k, k < n → ¬ P' k) : mh_ap h a n P' X' := H.mo (fun j hj z => absurd z (hP j hj))
theorem mt_26 (H : mh_Ro h r ρ) : ∃ h', mj_C 26 [.ref r] h = some (none, h') ∧ mh_Ro h' r mm_ro0 ∧ mh_F (mh_A r (r + 7)) h h' := by
  have F1 : mh_F (fun k => k = r) h (mj_up h r (.inr (3, [.int (nI 0), .int (nI (mr_n ρ)), .int (nI (mr_g ρ)), .ref (r + 1), .ref (r + 2), .ref (r + 3), .ref (r + 4), .ref (r + 5), .ref (r + 6), .ref (r + 7)]))) := mh_uF
  obtain ⟨h1, hh1⟩ : ∃ h1, h1 = mj_up h r (.inr (3, [.int (nI 0), .int (nI (mr_n ρ)), .int (nI (mr_g ρ)), .ref (r + 1), .ref (r + 2), .ref (r + 3), .ref (r + 4), .ref (r + 5), .ref (r + 6), .ref (r + 7)])) := ⟨_, rfl⟩
  have e1 : mj_pf h r 3 0 (.int (nI 0)) = some h1 := by rw [hh1]; exact mh_pf 0 H.1 (by simp) rfl
  have o1 : h1.1 r = some (.inr (3, [.int (nI 0), .int (nI (mr_n ρ)), .int (nI (mr_g ρ)), .ref (r + 1), .ref (r + 2), .ref (r + 3), .ref (r + 4), .ref (r + 5), .ref (r + 6), .ref (r + 7)])) := by rw [hh1]; exact mh_ua
  rw [← hh1] at F1
  obtain ⟨h2, hh2⟩ : ∃ h2, h2 = mj_up h1 r (.inr (3, [.int (nI 0), .int (nI 0), .int (nI (mr_g ρ)), .ref (r + 1), .ref (r + 2), .ref (r + 3), .ref (r + 4), .ref (r + 5), .ref (r + 6), .ref (r + 7)])) := ⟨_, rfl⟩
  have e2 : mj_pf h1 r 3 1 (.int (nI 0)) = some h2 := by rw [hh2]; exact mh_pf 1 o1 (by simp) rfl
  have o2 : h2.1 r = some (.inr (3, [.int (nI 0), .int (nI 0), .int (nI (mr_g ρ)), .ref (r + 1), .ref (r + 2), .ref (r + 3), .ref (r + 4), .ref (r + 5), .ref (r + 6), .ref (r + 7)])) := by rw [hh2]; exact mh_ua
  have F2 : mh_F (fun k => k = r) h1 h2 := by rw [hh2]; exact mh_uF
  obtain ⟨h3, hh3⟩ : ∃ h3, h3 = mj_up h2 r (.inr (3, [.int (nI 0), .int (nI 0), .int (nI 0), .ref (r + 1), .ref (r + 2), .ref (r + 3), .ref (r + 4), .ref (r + 5), .ref (r + 6), .ref (r + 7)])) := ⟨_, rfl⟩
  have e3 : mj_pf h2 r 3 2 (.int (nI 0)) = some h3 := by rw [hh3]; exact mh_pf 2 o2 (by simp) rfl
  have o3 : h3.1 r = some (.inr (3, [.int (nI 0), .int (nI 0), .int (nI 0), .ref (r + 1), .ref (r + 2), .ref (r + 3), .ref (r + 4), .ref (r + 5), .ref (r + 6), .ref (r + 7)])) := by rw [hh3]; exact mh_ua
  have F3 : mh_F (fun k => k = r) h2 h3 := by rw [hh3]; exact mh_uF
  have F := (F1.tt F2).tt F3
  obtain ⟨a1, a2, a3, a4, a5, a6, a7, a8⟩ := H
  have nn : ∀ k : Nat, ¬ k < 0 := fun k => Nat.not_lt_zero k
  refine ⟨h3, ?_, ⟨o3, mh_ap0 (a2.kp F (by omega)) (fun k _ => nn k), mh_ap0 (a3.kp F (by omega)) (fun k _ => nn k), mh_ap0 (a4.kp F (by omega)) (fun k _ => nn k), mh_ap0 (a5.kp F (by omega)) (fun k _ => nn k), mh_ap0 (a6.kp F (by omega)) (fun k _ => nn k), mh_ap0 (a7.kp F (by omega)) (fun k _ => nn k), mh_ap0 (a8.kp F (by omega)) (fun k _ => nn k)⟩, F.mo (fun k z => by subst z; exact ⟨by omega, by omega⟩)⟩
  rw [mc_26]
  simp only [↓reduceIte, ↓mq_26_0, ↓mq_26_1, ↓mq_26_2, ↓mq_26_5, ↓mq_26_6, ↓mq_26_7, ↓mq_26_10, ↓mq_26_11, ↓mq_26_12, ↓mq_26_15, ↓mj_bs (e1), ↓mj_bs (e2), ↓mj_bs (e3)]
theorem mh_Ro.D (H : mh_Ro h r ρ) (d : Nat) : ∃ h', mj_pf h r 3 0 (.int (nI d)) = some h' ∧ mh_Ro h' r (mm_roD ρ d) ∧ mh_F (mh_A r (r + 7)) h h' := by
  obtain ⟨a1, a2, a3, a4, a5, a6, a7, a8⟩ := H
  have F : mh_F (fun k => k = r) h (mj_up h r (.inr (3, [.int (nI d), .int (nI (mr_n ρ)), .int (nI (mr_g ρ)), .ref (r + 1), .ref (r + 2), .ref (r + 3), .ref (r + 4), .ref (r + 5), .ref (r + 6), .ref (r + 7)]))) := mh_uF
  exact ⟨_, mh_pf 0 a1 (by simp) rfl, ⟨mh_ua, a2.kp F (by omega), a3.kp F (by omega), a4.kp F (by omega), a5.kp F (by omega), a6.kp F (by omega), a7.kp F (by omega), a8.kp F (by omega)⟩, F.mo (fun k z => by subst z; exact ⟨by omega, by omega⟩)⟩
theorem mt_27 (H : mh_Ro h r ρ) (hn : mr_n ρ < 6) (k p q w : Nat) : ∃ h', mj_C 27 [.ref r, .int (nI k), .int (nI p), .int (nI q), .int (nI w)] h = some (none, h') ∧ mh_Ro h' r (mm_roB ρ k p q w) ∧ mh_F (mh_A r (r + 7)) h h' := by
  obtain ⟨a1, a2, a3, a4, a5, a6, a7, a8⟩ := H
  have cnd : ∀ {X : Nat → Nat} {v : Nat}, ∀ j, j < 6 → j < mr_n ρ + 1 → (j = mr_n ρ ∧ mh_u X (mr_n ρ) v j = v) ∨ (j ≠ mr_n ρ ∧ j < mr_n ρ ∧ mh_u X (mr_n ρ) v j = X j) := fun {X v} j _ hj => by
    by_cases e : j = mr_n ρ
    · subst e; exact Or.inl ⟨rfl, mh_u_at⟩
    · exact Or.inr ⟨e, by omega, mh_u_ne e⟩
  obtain ⟨h1, e1, b2, F1⟩ := a2.pt (P' := fun j => j < mr_n ρ + 1) (X' := mh_u (mr_K ρ) (mr_n ρ) k) hn k cnd
  have o1 := (F1.2 r (by omega)).trans a1
  obtain ⟨h2, e2, b3, F2⟩ := (a3.kp F1 (by omega)).pt (P' := fun j => j < mr_n ρ + 1) (X' := mh_u (mr_P ρ) (mr_n ρ) p) hn p cnd
  have o2 := (F2.2 r (by omega)).trans o1
  obtain ⟨h3, e3, b4, F3⟩ := ((a4.kp F1 (by omega)).kp F2 (by omega)).pt (P' := fun j => j < mr_n ρ + 1) (X' := mh_u (mr_S ρ) (mr_n ρ) q) hn q cnd
  have o3 := (F3.2 r (by omega)).trans o2
  obtain ⟨h4, e4, b5, F4⟩ := (((a5.kp F1 (by omega)).kp F2 (by omega)).kp F3 (by omega)).pt (P' := fun j => j < mr_n ρ + 1) (X' := mh_u (mr_W ρ) (mr_n ρ) w) hn w cnd
  have o4 := (F4.2 r (by omega)).trans o3
  obtain ⟨h5, e5, b6, F5⟩ := ((((a6.kp F1 (by omega)).kp F2 (by omega)).kp F3 (by omega)).kp F4 (by omega)).pt (P' := fun j => j < mr_n ρ + 1) (X' := mh_u (mr_E ρ) (mr_n ρ) 0) hn 0 cnd
  have o5 := (F5.2 r (by omega)).trans o4
  have F6 : mh_F (fun k => k = r) h5 (mj_up h5 r (.inr (3, [.int (nI (mr_D ρ)), .int (nI (mr_n ρ + 1)), .int (nI (mr_g ρ)), .ref (r + 1), .ref (r + 2), .ref (r + 3), .ref (r + 4), .ref (r + 5), .ref (r + 6), .ref (r + 7)]))) := mh_uF
  refine ⟨_, ?_, ⟨mh_ua, ((((b2.kp F2 (by omega)).kp F3 (by omega)).kp F4 (by omega)).kp F5 (by omega)).kp F6 (by omega), (((b3.kp F3 (by omega)).kp F4 (by omega)).kp F5 (by omega)).kp F6 (by omega), ((b4.kp F4 (by omega)).kp F5 (by omega)).kp F6 (by omega), (b5.kp F5 (by omega)).kp F6 (by omega), b6.kp F6 (by omega), (((((a7.kp F1 (by omega)).kp F2 (by omega)).kp F3 (by omega)).kp F4 (by omega)).kp F5 (by omega)).kp F6 (by omega), (((((a8.kp F1 (by omega)).kp F2 (by omega)).kp F3 (by omega)).kp F4 (by omega)).kp F5 (by omega)).kp F6 (by omega)⟩, (((((F1.mo (B := mh_A r (r + 7)) ?_).tt (F2.mo ?_)).tt (F3.mo ?_)).tt (F4.mo ?_)).tt (F5.mo ?_)).tt (F6.mo ?_)⟩
  · rw [mc_27]
    simp only [↓reduceIte, ↓mq_27_0, ↓mq_27_1, ↓mq_27_4, ↓mq_27_6, ↓mq_27_9, ↓mq_27_10, ↓mq_27_13, ↓mq_27_14, ↓mq_27_17, ↓mq_27_18, ↓mq_27_19, ↓mq_27_20, ↓mq_27_23, ↓mq_27_24, ↓mq_27_27, ↓mq_27_28, ↓mq_27_29, ↓mq_27_30, ↓mq_27_33, ↓mq_27_34, ↓mq_27_37, ↓mq_27_38, ↓mq_27_39, ↓mq_27_40, ↓mq_27_43, ↓mq_27_44, ↓mq_27_47, ↓mq_27_49, ↓mq_27_50, ↓mq_27_51, ↓mq_27_54, ↓mq_27_55, ↓mq_27_58, ↓mq_27_59, ↓mq_27_60, ↓mq_27_61, ↓mq_27_62, ↓mq_27_65, ↓mq_27_66, ↓mq_27_67, ↓mq_27_70, ↓mj_bs (mh_gf 1 a1 rfl), mf_le hn, ↓mj_bs (mh_gf 3 a1 rfl), ↓mj_bs (e1), ↓mj_bs (mh_gf 1 o1 rfl), ↓mj_bs (mh_gf 4 o1 rfl), ↓mj_bs (e2), ↓mj_bs (mh_gf 1 o2 rfl), ↓mj_bs (mh_gf 5 o2 rfl), ↓mj_bs (e3), ↓mj_bs (mh_gf 1 o3 rfl), ↓mj_bs (mh_gf 6 o3 rfl), ↓mj_bs (e4), ↓mj_bs (mh_gf 1 o4 rfl), ↓mj_bs (mh_gf 7 o4 rfl), ↓mj_bs (e5), ↓mj_bs (mh_gf 1 o5 rfl), mn_add, ↓mj_bs (mh_pf 1 (v := .int (nI (mr_n ρ + 1))) o5 (by simp) rfl)]
    rfl
  all_goals (intro x z; subst z; exact ⟨by omega, by omega⟩)
theorem mt_34 (H : mh_Ro h r ρ) (hg : mr_g ρ < 3) (p q : Nat) : ∃ h', mj_C 34 [.ref r, .int (nI p), .int (nI q)] h = some (none, h') ∧ mh_Ro h' r (mm_roG ρ p q) ∧ mh_F (mh_A r (r + 7)) h h' := by
  obtain ⟨a1, a2, a3, a4, a5, a6, a7, a8⟩ := H
  have cnd : ∀ {X : Nat → Nat} {v : Nat}, ∀ j, j < 3 → j < mr_g ρ + 1 → (j = mr_g ρ ∧ mh_u X (mr_g ρ) v j = v) ∨ (j ≠ mr_g ρ ∧ j < mr_g ρ ∧ mh_u X (mr_g ρ) v j = X j) := fun {X v} j _ hj => by
    by_cases e : j = mr_g ρ
    · subst e; exact Or.inl ⟨rfl, mh_u_at⟩
    · exact Or.inr ⟨e, by omega, mh_u_ne e⟩
  obtain ⟨h1, e1, b7, F1⟩ := a7.pt (P' := fun j => j < mr_g ρ + 1) (X' := mh_u (mr_gS ρ) (mr_g ρ) p) hg p cnd
  have o1 := (F1.2 r (by omega)).trans a1
  obtain ⟨h2, e2, b8, F2⟩ := (a8.kp F1 (by omega)).pt (P' := fun j => j < mr_g ρ + 1) (X' := mh_u (mr_gW ρ) (mr_g ρ) q) hg q cnd
  have o2 := (F2.2 r (by omega)).trans o1
  have F6 : mh_F (fun k => k = r) h2 (mj_up h2 r (.inr (3, [.int (nI (mr_D ρ)), .int (nI (mr_n ρ)), .int (nI (mr_g ρ + 1)), .ref (r + 1), .ref (r + 2), .ref (r + 3), .ref (r + 4), .ref (r + 5), .ref (r + 6), .ref (r + 7)]))) := mh_uF
  refine ⟨_, ?_, ⟨mh_ua, ((a2.kp F1 (by omega)).kp F2 (by omega)).kp F6 (by omega), ((a3.kp F1 (by omega)).kp F2 (by omega)).kp F6 (by omega), ((a4.kp F1 (by omega)).kp F2 (by omega)).kp F6 (by omega), ((a5.kp F1 (by omega)).kp F2 (by omega)).kp F6 (by omega), ((a6.kp F1 (by omega)).kp F2 (by omega)).kp F6 (by omega), (b7.kp F2 (by omega)).kp F6 (by omega), b8.kp F6 (by omega)⟩, ((F1.mo (B := mh_A r (r + 7)) ?_).tt (F2.mo ?_)).tt (F6.mo ?_)⟩
  · rw [mc_34]
    simp only [↓reduceIte, ↓mq_34_0, ↓mq_34_1, ↓mq_34_4, ↓mq_34_5, ↓mq_34_8, ↓mq_34_9, ↓mq_34_12, ↓mq_34_13, ↓mq_34_16, ↓mq_34_17, ↓mq_34_18, ↓mq_34_19, ↓mq_34_22, ↓mq_34_23, ↓mq_34_26, ↓mq_34_27, ↓mq_34_28, ↓mq_34_29, ↓mq_34_30, ↓mq_34_33, ↓mq_34_34, ↓mq_34_35, ↓mq_34_38, ↓mj_bs (mh_gf 2 a1 rfl), mf_le hg, ↓mj_bs (mh_gf 8 a1 rfl), ↓mj_bs (e1), ↓mj_bs (mh_gf 2 o1 rfl), ↓mj_bs (mh_gf 9 o1 rfl), ↓mj_bs (e2), ↓mj_bs (mh_gf 2 o2 rfl), mn_add, ↓mj_bs (mh_pf 2 (v := .int (nI (mr_g ρ + 1))) o2 (by simp) rfl)]
    rfl
  all_goals (intro x z; subst z; exact ⟨by omega, by omega⟩)
theorem mt_33 (w : mw_R ρ) (H : mh_Ro h r ρ) {i j : Nat} (hi : i < mr_n ρ) (hj : j < mr_n ρ) (hij : j ≠ i) : ∃ h', mj_C 33 [.ref r, .int (nI i), .int (nI j)] h = some (none, h') ∧ mh_Ro h' r (mm_roE ρ i j) ∧ mh_F (mh_A r (r + 7)) h h' := by
  have hn := w.1
  have Hr := H
  obtain ⟨a1, a2, a3, a4, a5, a6, a7, a8⟩ := H
  have Ei := mm_64 (w.2.2.2.1 i hi).2.2.2.2.2.2.1 hn
  have Ej := mm_64 (w.2.2.2.1 j hj).2.2.2.2.2.2.1 hn
  have hin : ∀ {b}, b < mr_n ρ → decide (nI 0 ≤ nI b ∧ nI b < nI (mr_n ρ)) = true := fun hb => decide_eq_true ⟨nI_le (Nat.zero_le _) (by omega), nI_lt hb (by omega)⟩
  obtain ⟨h1, e1, b6, F1⟩ := a6.pt (P' := fun j => j < mr_n ρ) (X' := mh_u (mr_E ρ) i (mm_add (mr_E ρ i) j)) (show i < 6 by omega) (mm_add (mr_E ρ i) j) (fun x _ hx => by
    by_cases e : x = i
    · subst e; exact Or.inl ⟨rfl, mh_u_at⟩
    · exact Or.inr ⟨e, hx, mh_u_ne e⟩)
  have o1 := (F1.2 r (by omega)).trans a1
  have gj := b6.gt (show j < 6 by omega) hj
  rw [mh_u_ne hij] at gj
  obtain ⟨h2, e2, b6', F2⟩ := b6.pt (P' := fun j => j < mr_n ρ) (X' := mh_u (mh_u (mr_E ρ) i (mm_add (mr_E ρ i) j)) j (mm_add (mr_E ρ j) i)) (show j < 6 by omega) (mm_add (mr_E ρ j) i) (fun x _ hx => by
    by_cases e : x = j
    · subst e; exact Or.inl ⟨rfl, mh_u_at⟩
    · exact Or.inr ⟨e, hx, mh_u_ne e⟩)
  have o2 := (F2.2 r (by omega)).trans o1
  refine ⟨h2, ?_, ⟨o2, (a2.kp F1 (by omega)).kp F2 (by omega), (a3.kp F1 (by omega)).kp F2 (by omega), (a4.kp F1 (by omega)).kp F2 (by omega), (a5.kp F1 (by omega)).kp F2 (by omega), b6', (a7.kp F1 (by omega)).kp F2 (by omega), (a8.kp F1 (by omega)).kp F2 (by omega)⟩, (F1.mo (B := mh_A r (r + 7)) ?_).tt (F2.mo ?_)⟩
  · rw [mc_33]
    simp only [↓reduceIte, ↓mq_33_0, ↓mq_33_1, ↓mq_33_2, ↓mq_33_5, ↓mq_33_8, ↓mq_33_9, ↓mq_33_10, ↓mq_33_13, ↓mq_33_16, ↓mq_33_17, ↓mq_33_20, ↓mq_33_21, ↓mq_33_22, ↓mq_33_23, ↓mq_33_24, ↓mq_33_25, ↓mq_33_26, ↓mq_33_27, ↓mq_33_28, ↓mq_33_29, ↓mq_33_32, ↓mq_33_33, ↓mq_33_34, ↓mq_33_35, ↓mq_33_36, ↓mq_33_37, ↓mq_33_38, ↓mq_33_39, ↓mq_33_40, mh_isC a1, ↓mj_bs (mt_31 Hr (nI i)), ↓mj_bs (mt_31 Hr (nI j)), Option.toList, List.cons_append, List.nil_append, mj_b0, hin hi, hin hj, Bool.true_eq_false, ↓mj_bs (mh_gf 7 a1 rfl), ↓mj_bs (a6.gt (show i < 6 by omega) hi), mn_shl j (by omega), mn_or, mn_bor _ Ei j (by omega), ↓mj_bs (e1), ↓mj_bs (mh_gf 7 o1 rfl), ↓mj_bs (gj), mn_shl i (by omega), mn_bor _ Ej i (by omega), ↓mj_bs (e2)]
  all_goals (intro x z; subst z; exact ⟨by omega, by omega⟩)
theorem mt_30 (w : mw_R ρ) (H : mh_Ro h r ρ) {b : Nat} (hb : b < 6) : mj_C 30 [.ref r, .int (nI b)] h = some (some (.int (nI (if b < mr_n ρ then mm_open ρ b else 0))), h) := by
  have hn := w.1
  rw [mc_30]
  by_cases hc : b < mr_n ρ
  · have hin : decide (nI 0 ≤ nI b ∧ nI b < nI (mr_n ρ)) = true := decide_eq_true ⟨nI_le (Nat.zero_le _) (by omega), nI_lt hc (by omega)⟩
    have hE := mm_64 (w.2.2.2.1 b hc).2.2.2.2.2.2.1 hn
    have h1 : 2 ^ mr_n ρ - 1 < 64 := by
      have : 2 ^ mr_n ρ ≤ 64 := Nat.pow_le_pow_right (n := 2) (by decide) hn
      have := Nat.two_pow_pos (mr_n ρ)
      omega
    simp only [↓reduceIte, ↓mq_30_0, ↓mq_30_1, ↓mq_30_2, ↓mq_30_5, ↓mq_30_8, ↓mq_30_9, ↓mq_30_12, ↓mq_30_13, ↓mq_30_16, ↓mq_30_17, ↓mq_30_18, ↓mq_30_19, ↓mq_30_20, ↓mq_30_21, ↓mq_30_22, ↓mq_30_23, ↓mq_30_24, ↓mq_30_25, ↓mq_30_26, ↓mq_30_27, ↓mq_30_30, ↓mq_30_31, mh_isC H.1, ↓mj_bs (mt_31 H (nI b)), Option.toList, List.cons_append, List.nil_append, mj_b0, hin, Bool.true_eq_false, ↓mj_bs (mt_32 w H), ↓mj_bs (mh_gf 7 H.1 rfl), ↓mj_bs (H.2.2.2.2.2.1.gt hb hc), mn_dif _ h1 _ hE, mn_shl b (by omega), mn_not _ (mm_dif_lt _ h1 _ hE) b hb, hc]
    rfl
  · have hin : decide (nI 0 ≤ nI b ∧ nI b < nI (mr_n ρ)) = false := decide_eq_false (fun z => hc ((mn_lt (by omega) (by omega)).mp z.2))
    simp only [↓reduceIte, ↓mq_30_0, ↓mq_30_1, ↓mq_30_2, ↓mq_30_5, ↓mq_30_8, ↓mq_30_9, ↓mq_30_12, ↓mq_30_13, ↓mq_30_16, ↓mq_30_17, ↓mq_30_18, ↓mq_30_19, ↓mq_30_20, ↓mq_30_21, ↓mq_30_22, ↓mq_30_23, ↓mq_30_24, ↓mq_30_25, ↓mq_30_26, ↓mq_30_27, ↓mq_30_30, ↓mq_30_31, mh_isC H.1, ↓mj_bs (mt_31 H (nI b)), Option.toList, List.cons_append, List.nil_append, mj_b0, hin, hc]
theorem mt_29 (w : mw_R ρ) (H : mh_Ro h r ρ) : mj_C 29 [.ref r] h = some (some (.int (nI (mm_may ρ (mr_n ρ)))), h) := by
  have hn := w.1
  have loop : ∀ d i, i + d = mr_n ρ → mj_R 29 (4, [.ref r, .int (nI (mm_may ρ i)), .int (nI i)], [], h) = some (some (.int (nI (mm_may ρ (mr_n ρ)))), h) := by
    intro d
    induction d with
    | zero =>
      intro i hi
      obtain rfl : i = mr_n ρ := by omega
      simp only [↓reduceIte, ↓mq_29_0, ↓mq_29_1, ↓mq_29_2, ↓mq_29_3, ↓mq_29_4, ↓mq_29_5, ↓mq_29_6, ↓mq_29_9, ↓mq_29_12, ↓mq_29_13, ↓mq_29_14, ↓mq_29_17, ↓mq_29_20, ↓mq_29_21, ↓mq_29_22, ↓mq_29_23, ↓mq_29_24, ↓mq_29_25, ↓mq_29_26, ↓mq_29_29, ↓mq_29_32, ↓mq_29_33, ↓mj_bs (mh_gf 1 H.1 rfl), mt_le (Nat.le_refl (mr_n ρ))]
    | succ d ih =>
      intro i hi
      have hin : i < mr_n ρ := by omega
      have ih' := ih (i + 1) (by omega)
      have hE := mm_64 (w.2.2.2.1 i hin).2.2.2.2.2.2.1 hn
      have ho := mm_open_lt w (show i < 6 by omega) hE
      have hx := mt_30 w H (show i < 6 by omega)
      rw [if_pos hin] at hx
      rw [mq_29_4]
      by_cases hz : mm_open ρ i = 0
      · simp only [↓reduceIte, ↓mq_29_0, ↓mq_29_1, ↓mq_29_2, ↓mq_29_3, ↓mq_29_5, ↓mq_29_6, ↓mq_29_9, ↓mq_29_12, ↓mq_29_13, ↓mq_29_14, ↓mq_29_17, ↓mq_29_20, ↓mq_29_21, ↓mq_29_22, ↓mq_29_23, ↓mq_29_24, ↓mq_29_25, ↓mq_29_26, ↓mq_29_29, ↓mq_29_32, ↓mq_29_33, ↓mj_bs (mh_gf 1 H.1 rfl), mf_le hin, mh_isC H.1, ↓mj_bs (hx), Option.toList, List.cons_append, List.nil_append, mt_eq hz, mn_add]
        simpa only [mm_may, hz, ne_eq, not_true_eq_false, if_false] using ih'
      · simp only [↓reduceIte, ↓mq_29_0, ↓mq_29_1, ↓mq_29_2, ↓mq_29_3, ↓mq_29_5, ↓mq_29_6, ↓mq_29_9, ↓mq_29_12, ↓mq_29_13, ↓mq_29_14, ↓mq_29_17, ↓mq_29_20, ↓mq_29_21, ↓mq_29_22, ↓mq_29_23, ↓mq_29_24, ↓mq_29_25, ↓mq_29_26, ↓mq_29_29, ↓mq_29_32, ↓mq_29_33, ↓mj_bs (mh_gf 1 H.1 rfl), mf_le hin, mh_isC H.1, ↓mj_bs (hx), Option.toList, List.cons_append, List.nil_append, mf_eq hz, mn_shl i (by omega), mn_or, mn_add]
        simpa only [mm_may, hz, ne_eq, not_false_eq_true, if_true] using ih'
  rw [mc_29]
  simp only [↓reduceIte, ↓mq_29_0, ↓mq_29_1, ↓mq_29_2, ↓mq_29_3, ↓mq_29_5, ↓mq_29_6, ↓mq_29_9, ↓mq_29_12, ↓mq_29_13, ↓mq_29_14, ↓mq_29_17, ↓mq_29_20, ↓mq_29_21, ↓mq_29_22, ↓mq_29_23, ↓mq_29_24, ↓mq_29_25, ↓mq_29_26, ↓mq_29_29, ↓mq_29_32, ↓mq_29_33]
  exact loop (mr_n ρ) 0 (by omega)
theorem mt_28 (w : mw_R ρ) (H : mh_Ro h r ρ) : mj_C 28 [.ref r] h = some (some (.int (mj_bI (decide (mm_may ρ (mr_n ρ) ≠ 0)))), h) := by
  have hn := w.1
  have hlt := mm_64 (mm_may_lt (ρ := ρ) (mr_n ρ) hn) hn
  rw [mc_28]
  by_cases hz : mm_may ρ (mr_n ρ) = 0
  · simp only [↓reduceIte, ↓mq_28_0, ↓mq_28_1, ↓mq_28_4, ↓mq_28_7, ↓mq_28_8, ↓mq_28_11, ↓mq_28_12, mh_isC H.1, ↓mj_bs (mt_29 w H), Option.toList, List.cons_append, List.nil_append, mt_eq hz, mj_z0]
    simp [hz, mj_bI]
  · simp only [↓reduceIte, ↓mq_28_0, ↓mq_28_1, ↓mq_28_4, ↓mq_28_7, ↓mq_28_8, ↓mq_28_11, ↓mq_28_12, mh_isC H.1, ↓mj_bs (mt_29 w H), Option.toList, List.cons_append, List.nil_append, mf_eq hz, mj_z1]
    simp [hz, mj_bI]
end
def mh_Sc (h : mj_H) (s : Nat) (t : List Nat) (pl : Nat) (sp : Bool) : Prop := h.1 s = some (.inr (5, [.ref (s + 1), .int (nI t.length), .int (nI pl), .int (mj_bI sp)])) ∧ mh_ap h (s + 1) 64 (fun k => k < t.length) (fun k => t.getD k 0) ∧ t.length ≤ 64 ∧ ∀ c ∈ t, c < 256
def mm_pk (t : List Nat) (pl : Nat) : Int32 := match t[pl]? with
  | some c => nI c
  | none => -9
theorem mh_Sc.kp {A : Nat → Prop} {h h' : mj_H} {s pl : Nat} {t : List Nat} {sp : Bool} (H : mh_Sc h s t pl sp) (F : mh_F A h h') (h0 : ¬ A s) (h1 : ¬ A (s + 1)) : mh_Sc h' s t pl sp := ⟨(F.2 s h0).trans H.1, H.2.1.kp F h1, H.2.2⟩
theorem mm_m9le {k : Nat} : (nI k ≤ (-9 : Int32) - nI 48) = False ∨ 2 ^ 31 ≤ k := by
  by_cases hk : k < 2 ^ 31
  · left
    refine eq_false (fun z => ?_)
    rw [Int32.le_iff_toInt_le, nI_toInt hk] at z
    have : ((-9 : Int32) - nI 48).toInt = -57 := by decide
    omega
  · right; omega
section
variable {h : mj_H} {s pl : Nat} {t : List Nat} {sp : Bool}
theorem mh_ScS (H : mh_Sc h s t pl sp) (b : Bool) : ∃ h', mj_pf h s 5 3 (.int (mj_bI b)) = some h' ∧ mh_Sc h' s t pl b ∧ mh_F (fun k => k = s) h h' := ⟨_, mh_pf 3 H.1 (by simp) (by cases b <;> rfl), ⟨mh_ua, H.2.1.kp mh_uF (by omega), H.2.2⟩, mh_uF⟩
theorem mh_ScA (H : mh_Sc h s t pl sp) (p : Nat) : ∃ h', mj_pf h s 5 2 (.int (nI p)) = some h' ∧ mh_Sc h' s t p sp ∧ mh_F (fun k => k = s) h h' := ⟨_, mh_pf 2 H.1 (by simp) rfl, ⟨mh_ua, H.2.1.kp mh_uF (by omega), H.2.2⟩, mh_uF⟩
theorem mt_52 (H : mh_Sc h s t pl sp) (hp : pl ≤ 64) : mj_C 52 [.ref s] h = some (some (.int (mm_pk t pl)), h) := by
  have hl := H.2.2.1
  rw [mc_52]
  by_cases hc : pl < t.length
  · have e : t[pl]? = some (t.getD pl 0) := by simp [List.getD, hc]
    simp only [↓reduceIte, ↓mq_52_0, ↓mq_52_1, ↓mq_52_4, ↓mq_52_7, ↓mq_52_8, ↓mq_52_11, ↓mq_52_12, ↓mq_52_15, ↓mq_52_18, ↓mq_52_19, ↓mq_52_22, ↓mq_52_24, ↓mq_52_27, ↓mq_52_28, ↓mq_52_31, ↓mq_52_32, ↓mq_52_35, ↓mq_52_36, ↓mq_52_39, ↓mq_52_41, ↓mj_bs (mh_gf 2 H.1 rfl), mf_lt (Nat.zero_le pl), ↓mj_bs (mh_gf 1 H.1 rfl), mf_le hc, mf_le (show pl < 64 by omega), ↓mj_bs (mh_gf 0 H.1 rfl), ↓mj_bs (H.2.1.gt (show pl < 64 by omega) hc), mm_pk, e]
  · have e : t[pl]? = none := List.getElem?_eq_none (by omega)
    simp only [↓reduceIte, ↓mq_52_0, ↓mq_52_1, ↓mq_52_4, ↓mq_52_7, ↓mq_52_8, ↓mq_52_11, ↓mq_52_12, ↓mq_52_15, ↓mq_52_18, ↓mq_52_19, ↓mq_52_22, ↓mq_52_24, ↓mq_52_27, ↓mq_52_28, ↓mq_52_31, ↓mq_52_32, ↓mq_52_35, ↓mq_52_36, ↓mq_52_39, ↓mq_52_41, ↓mj_bs (mh_gf 2 H.1 rfl), mf_lt (Nat.zero_le pl), ↓mj_bs (mh_gf 1 H.1 rfl), mt_le (Nat.le_of_not_lt hc), mm_pk, e]
theorem mt_51 (H : mh_Sc h s t pl false) (hp : pl ≤ 64) {c : Nat} (hc : t[pl]? = some c) : ∃ h', mj_C 51 [.ref s, .int (nI c)] h = some (none, h') ∧ mh_Sc h' s t (pl + 1) false ∧ mh_F (fun k => k = s) h h' := by
  obtain ⟨h1, e1, H1, F1⟩ := mh_ScA H (pl + 1)
  have hk : mm_pk t pl = nI c := by simp [mm_pk, hc]
  refine ⟨h1, ?_, H1, F1⟩
  rw [mc_51]
  simp only [↓reduceIte, ↓mq_51_0, ↓mq_51_1, ↓mq_51_4, ↓mq_51_7, ↓mq_51_8, ↓mq_51_11, ↓mq_51_12, ↓mq_51_15, ↓mq_51_16, ↓mq_51_17, ↓mq_51_20, ↓mq_51_21, ↓mq_51_22, ↓mq_51_25, ↓mq_51_28, ↓mq_51_29, ↓mq_51_30, ↓mq_51_33, ↓mj_bs (mh_gf 3 H.1 rfl), mj_b0, mh_isC H.1, ↓mj_bs (mt_52 H hp), Option.toList, List.cons_append, List.nil_append, hk, ↓mj_bs (mh_gf 2 H.1 rfl), mn_add, ↓mj_bs (e1)]
theorem mt_51n (H : mh_Sc h s t pl false) (hp : pl ≤ 64) {c : Nat} (hc9 : c < 256) (hc : t[pl]? ≠ some c) : ∃ h', mj_C 51 [.ref s, .int (nI c)] h = some (none, h') ∧ mh_Sc h' s t pl true ∧ mh_F (fun k => k = s) h h' := by
  obtain ⟨h1, e1, H1, F1⟩ := mh_ScS H true
  have hk : (mm_pk t pl = nI c) = False := by
    unfold mm_pk
    split
    · rename_i d hd
      have : d < 256 := H.2.2.2 d (List.mem_of_getElem? hd)
      exact mf_eq (fun z => hc (by rw [hd, z]))
    · refine eq_false (fun z => ?_)
      have := (mf_m9 (d := c) (by omega)).mp z.symm
      exact this
  have e1' : mj_pf h s 5 3 (.int (nI 1)) = some h1 := e1
  refine ⟨h1, ?_, H1, F1⟩
  rw [mc_51]
  simp only [↓reduceIte, ↓mq_51_0, ↓mq_51_1, ↓mq_51_4, ↓mq_51_7, ↓mq_51_8, ↓mq_51_11, ↓mq_51_12, ↓mq_51_15, ↓mq_51_16, ↓mq_51_17, ↓mq_51_20, ↓mq_51_21, ↓mq_51_22, ↓mq_51_25, ↓mq_51_28, ↓mq_51_29, ↓mq_51_30, ↓mq_51_33, ↓mj_bs (mh_gf 3 H.1 rfl), mj_b0, mh_isC H.1, ↓mj_bs (mt_52 H hp), Option.toList, List.cons_append, List.nil_append, hk, ↓mj_bs (e1')]
/-- a figure, by what stands there -/
theorem mt_53 (H : mh_Sc h s t pl false) (hp : pl ≤ 64) {lo hi v : Nat} (hv : mm_fig t pl lo hi = some v) (hh : hi ≤ 9) : ∃ h', mj_C 53 [.ref s, .int (nI lo), .int (nI hi)] h = some (some (.int (nI v)), h') ∧ mh_Sc h' s t (pl + 1) false ∧ mh_F (fun k => k = s) h h' := by
  obtain ⟨h1, e1, H1, F1⟩ := mh_ScA H (pl + 1)
  obtain ⟨v1, v2, v3, -⟩ := mm_fig_le hv
  have hk : mm_pk t pl - nI 48 = nI v := by simp only [mm_pk, v3]; rw [mn_sub (by omega), Nat.add_sub_cancel]
  refine ⟨h1, ?_, H1, F1⟩
  rw [mc_53]
  simp only [↓reduceIte, ↓mq_53_0, ↓mq_53_1, ↓mq_53_4, ↓mq_53_6, ↓mq_53_7, ↓mq_53_8, ↓mq_53_9, ↓mq_53_12, ↓mq_53_15, ↓mq_53_16, ↓mq_53_17, ↓mq_53_20, ↓mq_53_21, ↓mq_53_22, ↓mq_53_25, ↓mq_53_26, ↓mq_53_27, ↓mq_53_30, ↓mq_53_31, ↓mq_53_32, ↓mq_53_33, ↓mq_53_34, ↓mq_53_37, ↓mq_53_38, ↓mq_53_39, ↓mq_53_42, ↓mq_53_43, mh_isC H.1, ↓mj_bs (mt_52 H hp), Option.toList, List.cons_append, List.nil_append, hk, ↓mj_bs (mh_gf 3 H.1 rfl), mj_b0, mf_lt v1, mt_le v2, ↓mj_bs (mh_gf 2 H.1 rfl), mn_add, ↓mj_bs (e1)]
theorem mt_53n (H : mh_Sc h s t pl false) (hp : pl ≤ 64) {lo hi : Nat} (hv : mm_fig t pl lo hi = none) (hh : hi ≤ 9) (hl : lo ≤ hi) : ∃ h', mj_C 53 [.ref s, .int (nI lo), .int (nI hi)] h = some (some (.int (nI lo)), h') ∧ mh_Sc h' s t pl true ∧ mh_F (fun k => k = s) h h' := by
  obtain ⟨h1, e1, H1, F1⟩ := mh_ScS H true
  have e1' : mj_pf h s 5 3 (.int (nI 1)) = some h1 := e1
  have hk : ¬ (nI lo ≤ mm_pk t pl - nI 48 ∧ mm_pk t pl - nI 48 ≤ nI hi) := by
    rintro ⟨z1, z2⟩
    unfold mm_pk at z1 z2
    unfold mm_fig at hv
    cases hc : t[pl]? with
    | some c =>
      simp only [hc] at hv z1 z2
      have hc256 : c < 256 := H.2.2.2 c (List.mem_of_getElem? hc)
      by_cases h48 : 48 ≤ c
      · rw [mn_sub h48] at z1 z2
        have y1 := (mn_le (by omega) (by omega)).mp z1
        have y2 := (mn_le (by omega) (by omega)).mp z2
        rw [if_pos ⟨by omega, by omega⟩] at hv
        cases hv
      · have key : ∀ c, c < 48 → (nI c - nI 48).toInt < 0 := by decide +kernel
        have k1 := key c (by omega)
        rw [Int32.le_iff_toInt_le, nI_toInt (by omega)] at z1
        omega
    | none =>
      simp only [hc] at z1
      rcases mm_m9le (k := lo) with q | q
      · exact q.mp z1
      · omega
  have hk2 : mm_pk t pl - nI 48 < nI lo ∨ ¬ mm_pk t pl - nI 48 ≤ nI hi := by
    by_cases q : nI lo ≤ mm_pk t pl - nI 48
    · exact Or.inr (fun z => hk ⟨q, z⟩)
    · exact Or.inl (mn_nle.mp q)
  refine ⟨h1, ?_, H1, F1⟩
  rw [mc_53]
  by_cases q : mm_pk t pl - nI 48 < nI lo
  · simp only [↓reduceIte, ↓mq_53_0, ↓mq_53_1, ↓mq_53_4, ↓mq_53_6, ↓mq_53_7, ↓mq_53_8, ↓mq_53_9, ↓mq_53_12, ↓mq_53_15, ↓mq_53_16, ↓mq_53_17, ↓mq_53_20, ↓mq_53_21, ↓mq_53_22, ↓mq_53_25, ↓mq_53_26, ↓mq_53_27, ↓mq_53_30, ↓mq_53_31, ↓mq_53_32, ↓mq_53_33, ↓mq_53_34, ↓mq_53_37, ↓mq_53_38, ↓mq_53_39, ↓mq_53_42, ↓mq_53_43, mh_isC H.1, ↓mj_bs (mt_52 H hp), Option.toList, List.cons_append, List.nil_append, ↓mj_bs (mh_gf 3 H.1 rfl), mj_b0, q, ↓mj_bs (e1')]
  · have q2 := hk2.resolve_left q
    simp only [↓reduceIte, ↓mq_53_0, ↓mq_53_1, ↓mq_53_4, ↓mq_53_6, ↓mq_53_7, ↓mq_53_8, ↓mq_53_9, ↓mq_53_12, ↓mq_53_15, ↓mq_53_16, ↓mq_53_17, ↓mq_53_20, ↓mq_53_21, ↓mq_53_22, ↓mq_53_25, ↓mq_53_26, ↓mq_53_27, ↓mq_53_30, ↓mq_53_31, ↓mq_53_32, ↓mq_53_33, ↓mq_53_34, ↓mq_53_37, ↓mq_53_38, ↓mq_53_39, ↓mq_53_42, ↓mq_53_43, mh_isC H.1, ↓mj_bs (mt_52 H hp), Option.toList, List.cons_append, List.nil_append, ↓mj_bs (mh_gf 3 H.1 rfl), mj_b0, q, q2, ↓mj_bs (e1')]
theorem mt_53s (H : mh_Sc h s t pl true) (hp : pl ≤ 64) (lo hi : Nat) : ∃ h', mj_C 53 [.ref s, .int (nI lo), .int (nI hi)] h = some (some (.int (nI lo)), h') ∧ mh_Sc h' s t pl true ∧ mh_F (fun k => k = s) h h' := by
  obtain ⟨h1, e1, H1, F1⟩ := mh_ScS H true
  have e1' : mj_pf h s 5 3 (.int (nI 1)) = some h1 := e1
  refine ⟨h1, ?_, H1, F1⟩
  rw [mc_53]
  simp only [↓reduceIte, ↓mq_53_0, ↓mq_53_1, ↓mq_53_4, ↓mq_53_6, ↓mq_53_7, ↓mq_53_8, ↓mq_53_9, ↓mq_53_12, ↓mq_53_15, ↓mq_53_16, ↓mq_53_17, ↓mq_53_20, ↓mq_53_21, ↓mq_53_22, ↓mq_53_25, ↓mq_53_26, ↓mq_53_27, ↓mq_53_30, ↓mq_53_31, ↓mq_53_32, ↓mq_53_33, ↓mq_53_34, ↓mq_53_37, ↓mq_53_38, ↓mq_53_39, ↓mq_53_42, ↓mq_53_43, mh_isC H.1, ↓mj_bs (mt_52 H hp), Option.toList, List.cons_append, List.nil_append, ↓mj_bs (mh_gf 3 H.1 rfl), mj_b0, Bool.true_eq_false, ↓mj_bs (e1')]
theorem mt_57 (H : mh_Sc h s t pl false) (hp : pl ≤ 64) {set v : Nat} (hs : set < 64) (hv : mm_fof t pl set = some v) : ∃ h', mj_C 57 [.ref s, .int (nI set)] h = some (some (.int (nI v)), h') ∧ mh_Sc h' s t (pl + 1) false ∧ mh_F (fun k => k = s) h h' := by
  obtain ⟨h1, e1, H1, F1⟩ := mh_ScA H (pl + 1)
  unfold mm_fof at hv
  split at hv
  · rename_i x hx
    split at hv
    · rename_i hb
      cases hv
      obtain ⟨v1, v2, v3, -⟩ := mm_fig_le hx
      have hk : mm_pk t pl - nI 48 = nI v := by simp only [mm_pk, v3]; rw [mn_sub (by omega), Nat.add_sub_cancel]
      refine ⟨h1, ?_, H1, F1⟩
      rw [mc_57]
      simp only [↓reduceIte, ↓mq_57_0, ↓mq_57_1, ↓mq_57_4, ↓mq_57_6, ↓mq_57_7, ↓mq_57_8, ↓mq_57_9, ↓mq_57_12, ↓mq_57_15, ↓mq_57_16, ↓mq_57_19, ↓mq_57_20, ↓mq_57_22, ↓mq_57_25, ↓mq_57_26, ↓mq_57_27, ↓mq_57_28, ↓mq_57_29, ↓mq_57_30, ↓mq_57_33, ↓mq_57_34, ↓mq_57_35, ↓mq_57_38, ↓mq_57_39, ↓mq_57_40, ↓mq_57_41, ↓mq_57_42, ↓mq_57_45, ↓mq_57_46, ↓mq_57_47, ↓mq_57_50, ↓mq_57_51, mh_isC H.1, ↓mj_bs (mt_52 H hp), Option.toList, List.cons_append, List.nil_append, hk, ↓mj_bs (mh_gf 3 H.1 rfl), mj_b0, mf_lt (Nat.zero_le v), mf_le (show v < 6 by omega), mn_shl v (by omega), mn_and, mn_bb hs (show v < 6 by omega), hb, Bool.true_eq_false, ↓mj_bs (mh_gf 2 H.1 rfl), mn_add, ↓mj_bs (e1)]
    · cases hv
  · cases hv
theorem mt_57n (H : mh_Sc h s t pl false) (hp : pl ≤ 64) {set : Nat} (hs : set < 64) (hv : mm_fof t pl set = none) : ∃ h', mj_C 57 [.ref s, .int (nI set)] h = some (some (.int (nI 0)), h') ∧ mh_Sc h' s t pl true ∧ mh_F (fun k => k = s) h h' := by
  obtain ⟨h1, e1, H1, F1⟩ := mh_ScS H true
  have e1' : mj_pf h s 5 3 (.int (nI 1)) = some h1 := e1
  refine ⟨h1, ?_, H1, F1⟩
  rw [mc_57]
  unfold mm_fof at hv
  rcases mn_range 6 (by omega) (mm_pk t pl - nI 48) with ⟨v, v1, v2, v3, v4⟩ | ⟨-, hno⟩
  · have hx : mm_fig t pl 0 5 = some v := by
      unfold mm_pk at v2
      unfold mm_fig
      split at v2
      · rename_i c hc
        have hc256 : c < 256 := H.2.2.2 c (List.mem_of_getElem? hc)
        have h48 : c = v + 48 := by
          have e : nI c = nI (v + 48) := by
            rw [← mn_add, ← v2, Int32.sub_add_cancel]
          exact (mn_eq (by omega) (by omega)).mp e
        rw [hc]
        simp only
        rw [if_pos ⟨by omega, by omega⟩]
        congr 1
        omega
      · exfalso
        have h1 : ((-9 : Int32) - nI 48).toInt = -57 := by decide
        rw [v2, nI_toInt (by omega)] at h1
        omega
    rw [hx] at hv
    simp only at hv
    split at hv
    · cases hv
    · rename_i hb
      have hb' : set.testBit v = false := by simpa using hb
      simp only [↓reduceIte, ↓mq_57_0, ↓mq_57_1, ↓mq_57_4, ↓mq_57_6, ↓mq_57_7, ↓mq_57_8, ↓mq_57_9, ↓mq_57_12, ↓mq_57_15, ↓mq_57_16, ↓mq_57_19, ↓mq_57_20, ↓mq_57_22, ↓mq_57_25, ↓mq_57_26, ↓mq_57_27, ↓mq_57_28, ↓mq_57_29, ↓mq_57_30, ↓mq_57_33, ↓mq_57_34, ↓mq_57_35, ↓mq_57_38, ↓mq_57_39, ↓mq_57_40, ↓mq_57_41, ↓mq_57_42, ↓mq_57_45, ↓mq_57_46, ↓mq_57_47, ↓mq_57_50, ↓mq_57_51, mh_isC H.1, ↓mj_bs (mt_52 H hp), Option.toList, List.cons_append, List.nil_append, v2, ↓mj_bs (mh_gf 3 H.1 rfl), mj_b0, mf_lt (Nat.zero_le v), mf_le v1, mn_shl v (by omega), mn_and, mn_bb hs v1, hb', ↓mj_bs (e1')]
  · by_cases q : mm_pk t pl - nI 48 < nI 0
    · simp only [↓reduceIte, ↓mq_57_0, ↓mq_57_1, ↓mq_57_4, ↓mq_57_6, ↓mq_57_7, ↓mq_57_8, ↓mq_57_9, ↓mq_57_12, ↓mq_57_15, ↓mq_57_16, ↓mq_57_19, ↓mq_57_20, ↓mq_57_22, ↓mq_57_25, ↓mq_57_26, ↓mq_57_27, ↓mq_57_28, ↓mq_57_29, ↓mq_57_30, ↓mq_57_33, ↓mq_57_34, ↓mq_57_35, ↓mq_57_38, ↓mq_57_39, ↓mq_57_40, ↓mq_57_41, ↓mq_57_42, ↓mq_57_45, ↓mq_57_46, ↓mq_57_47, ↓mq_57_50, ↓mq_57_51, mh_isC H.1, ↓mj_bs (mt_52 H hp), Option.toList, List.cons_append, List.nil_append, ↓mj_bs (mh_gf 3 H.1 rfl), mj_b0, q, ↓mj_bs (e1')]
    · have q2 : nI 6 ≤ mm_pk t pl - nI 48 := mn_nlt.mp (fun z => hno ⟨mn_nlt.mp q, z⟩)
      simp only [↓reduceIte, ↓mq_57_0, ↓mq_57_1, ↓mq_57_4, ↓mq_57_6, ↓mq_57_7, ↓mq_57_8, ↓mq_57_9, ↓mq_57_12, ↓mq_57_15, ↓mq_57_16, ↓mq_57_19, ↓mq_57_20, ↓mq_57_22, ↓mq_57_25, ↓mq_57_26, ↓mq_57_27, ↓mq_57_28, ↓mq_57_29, ↓mq_57_30, ↓mq_57_33, ↓mq_57_34, ↓mq_57_35, ↓mq_57_38, ↓mq_57_39, ↓mq_57_40, ↓mq_57_41, ↓mq_57_42, ↓mq_57_45, ↓mq_57_46, ↓mq_57_47, ↓mq_57_50, ↓mq_57_51, mh_isC H.1, ↓mj_bs (mt_52 H hp), Option.toList, List.cons_append, List.nil_append, ↓mj_bs (mh_gf 3 H.1 rfl), mj_b0, q, q2, ↓mj_bs (e1')]
theorem mt_57s (H : mh_Sc h s t pl true) (hp : pl ≤ 64) (set : Nat) : ∃ h', mj_C 57 [.ref s, .int (nI set)] h = some (some (.int (nI 0)), h') ∧ mh_Sc h' s t pl true ∧ mh_F (fun k => k = s) h h' := by
  obtain ⟨h1, e1, H1, F1⟩ := mh_ScS H true
  have e1' : mj_pf h s 5 3 (.int (nI 1)) = some h1 := e1
  refine ⟨h1, ?_, H1, F1⟩
  rw [mc_57]
  simp only [↓reduceIte, ↓mq_57_0, ↓mq_57_1, ↓mq_57_4, ↓mq_57_6, ↓mq_57_7, ↓mq_57_8, ↓mq_57_9, ↓mq_57_12, ↓mq_57_15, ↓mq_57_16, ↓mq_57_19, ↓mq_57_20, ↓mq_57_22, ↓mq_57_25, ↓mq_57_26, ↓mq_57_27, ↓mq_57_28, ↓mq_57_29, ↓mq_57_30, ↓mq_57_33, ↓mq_57_34, ↓mq_57_35, ↓mq_57_38, ↓mq_57_39, ↓mq_57_40, ↓mq_57_41, ↓mq_57_42, ↓mq_57_45, ↓mq_57_46, ↓mq_57_47, ↓mq_57_50, ↓mq_57_51, mh_isC H.1, ↓mj_bs (mt_52 H hp), Option.toList, List.cons_append, List.nil_append, ↓mj_bs (mh_gf 3 H.1 rfl), mj_b0, Bool.true_eq_false, ↓mj_bs (e1')]
end
