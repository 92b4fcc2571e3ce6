/-! THE BOAT: a search, nearest first; the class's Ferry -/
abbrev mm_Bf : Type := (Nat → Option Nat) × List Nat
def mm_ent (b : mm_Bf) (s d : Nat) : mm_Bf := if b.1 s = none then (mh_u b.1 s (some d), b.2 ++ [s]) else b
def mm_nn (T : Nat → Option Nat) : Nat → Nat
  | 0 => 0
  | k + 1 => mm_nn T k + (if T k = none then 1 else 0)
theorem mm_nn_u {T : Nat → Option Nat} {s d : Nat} (hs : T s = none) : ∀ n, mm_nn (mh_u T s (some d)) n + (if s < n then 1 else 0) = mm_nn T n := by
  intro n
  induction n with
  | zero => rfl
  | succ n ih =>
    simp only [mm_nn]
    by_cases e : n = s
    · subst e
      rw [mh_u_at, hs, if_pos (show n < n + 1 by omega)]
      rw [if_neg (show ¬ n < n by omega)] at ih
      simp only [if_true, reduceCtorEq, if_false]
      omega
    · rw [mh_u_ne e]
      by_cases h1 : s < n
      · rw [if_pos (show s < n + 1 by omega)]
        rw [if_pos h1] at ih
        omega
      · rw [if_neg (show ¬ s < n + 1 by omega)]
        rw [if_neg h1] at ih
        omega
def mm_BI (b : mm_Bf) : Prop := mm_nn b.1 128 + b.2.length = 128 ∧ ∀ s ∈ b.2, s < 128 ∧ b.1 s ≠ none
theorem mm_BI.room {b : mm_Bf} (H : mm_BI b) {s : Nat} (hs : s < 128) (hn : b.1 s = none) : b.2.length < 128 := by
  have h1 := mm_nn_u (d := 0) hn 128
  rw [if_pos hs] at h1
  have := H.1
  omega
theorem mm_BI.ent {b : mm_Bf} (H : mm_BI b) {s : Nat} (hs : s < 128) (d : Nat) : mm_BI (mm_ent b s d) := by
  unfold mm_ent
  split
  · rename_i hn
    have h1 := mm_nn_u (d := d) hn 128
    rw [if_pos hs] at h1
    have h2 := H.1
    refine ⟨by simp only [List.length_append, List.length_cons, List.length_nil]; omega, fun x hx => ?_⟩
    by_cases e : x = s
    · subst e
      refine ⟨hs, ?_⟩
      show mh_u b.1 x (some d) x ≠ none
      rw [mh_u_at]
      simp
    · rcases List.mem_append.mp hx with hx | hx
      · refine ⟨(H.2 x hx).1, ?_⟩
        show mh_u b.1 s (some d) x ≠ none
        rw [mh_u_ne e]
        exact (H.2 x hx).2
      · exact absurd (List.mem_singleton.mp hx) e
  · exact H
theorem mm_ent_old {b : mm_Bf} {s d x c : Nat} (h : b.1 x = some c) : (mm_ent b s d).1 x = some c := by
  unfold mm_ent
  split
  · rename_i hn
    have e : x ≠ s := fun z => by rw [z, hn] at h; cases h
    show mh_u b.1 s (some d) x = some c
    rw [mh_u_ne e, h]
  · exact h
theorem mm_ent_bd {b : mm_Bf} {s d B : Nat} (hd : d ≤ B) (h : ∀ x c, b.1 x = some c → c ≤ B) : ∀ x c, (mm_ent b s d).1 x = some c → c ≤ B := by
  intro x c hx
  unfold mm_ent at hx
  split at hx
  · by_cases e : x = s
    · subst e
      have : (mh_u b.1 x (some d)) x = some c := hx
      rw [mh_u_at] at this
      cases this
      exact hd
    · have : (mh_u b.1 s (some d)) x = some c := hx
      rw [mh_u_ne e] at this
      exact h x c this
  · exact h x c hx
theorem mm_ent_pre {b : mm_Bf} {s d i x : Nat} (h : b.2[i]? = some x) : (mm_ent b s d).2[i]? = some x := by
  unfold mm_ent
  split
  · show (b.2 ++ [s])[i]? = some x
    rw [List.getElem?_append_left (List.getElem?_eq_some_iff.mp h).1]
    exact h
  · exact h
def mm_hat (ρ : mm_Ro) (s : Nat) : Bool := decide (s &&& mm_or (mr_E ρ) s (mr_n ρ) ≠ 0)
def mm_fit (ρ : mm_Ro) (k bank load : Nat) : Bool := decide (mm_dif load bank = 0) && decide (mm_pop load 6 ≤ k) && !mm_hat ρ (mm_dif bank load)
def mm_go (ρ : mm_Ro) (k near side bank d : Nat) (b : mm_Bf) : Nat → mm_Bf
  | 0 => b
  | l + 1 => if mm_fit ρ k bank l = true then mm_ent (mm_go ρ k near side bank d b l) (2 * (near ^^^ l) + (1 - side)) d else mm_go ρ k near side bank d b l
def mm_bank (band s : Nat) : Nat := if s % 2 = 0 then s / 2 else mm_dif band (s / 2)
def mm_row (ρ : mm_Ro) (k band s : Nat) (b : mm_Bf) : mm_Bf := mm_go ρ k (s / 2) (s % 2) (mm_bank band s) ((b.1 s).getD 0 + 1) b (mm_bank band s + 1)
def mm_bfs (ρ : mm_Ro) (k band : Nat) : Nat → mm_Bf
  | 0 => mm_ent (fun _ => none, []) (2 * band) 0
  | i + 1 => match (mm_bfs ρ k band i).2[i]? with
    | some s => mm_row ρ k band s (mm_bfs ρ k band i)
    | none => mm_bfs ρ k band i
theorem mm_xor_lt : ∀ s, s < 64 → ∀ t, t < 64 → s ^^^ t < 64 := by decide +kernel
theorem mm_bank_lt {band s : Nat} (hb : band < 64) (hs : s < 128) : mm_bank band s < 64 := by
  unfold mm_bank
  split
  · omega
  · exact mm_dif_lt _ hb _ (by omega)
theorem mm_go_ok {ρ : mm_Ro} {k near side bank d B : Nat} {b : mm_Bf} (hb : mm_BI b) (hn : near < 64) (hB : ∀ x c, b.1 x = some c → c ≤ B) (hd : d ≤ B) : ∀ l, l ≤ 64 → mm_BI (mm_go ρ k near side bank d b l) ∧ (∀ x c, (mm_go ρ k near side bank d b l).1 x = some c → c ≤ B) ∧ (∀ x c, b.1 x = some c → (mm_go ρ k near side bank d b l).1 x = some c) ∧ ∀ (i x : Nat), b.2[i]? = some x → (mm_go ρ k near side bank d b l).2[i]? = some x := by
  intro l
  induction l with
  | zero => intro _; exact ⟨hb, hB, fun _ _ h => h, fun _ _ h => h⟩
  | succ l ih =>
    intro hl
    obtain ⟨i1, i2, i3, i4⟩ := ih (by omega)
    simp only [mm_go]
    split
    · have hx := mm_xor_lt near hn l (by omega)
      exact ⟨i1.ent (by omega) d, mm_ent_bd hd i2, fun x c h => mm_ent_old (i3 x c h), fun i x h => mm_ent_pre (i4 i x h)⟩
    · exact ⟨i1, i2, i3, i4⟩
theorem mm_bfs_ok (ρ : mm_Ro) (k : Nat) {band : Nat} (hb : band < 64) : ∀ i, mm_BI (mm_bfs ρ k band i) ∧ ∀ x c, (mm_bfs ρ k band i).1 x = some c → c ≤ i := by
  intro i
  induction i with
  | zero =>
    have h0 : mm_BI ((fun _ => none, []) : mm_Bf) := ⟨by decide +kernel, fun s hs => by cases hs⟩
    refine ⟨h0.ent (by omega) 0, mm_ent_bd (Nat.le_refl 0) (fun x c h => by cases h)⟩
  | succ i ih =>
    simp only [mm_bfs]
    split
    · rename_i s hs
      have hmem := ih.1.2 s (List.mem_of_getElem? hs)
      cases hc : (mm_bfs ρ k band i).1 s with
      | none => exact absurd hc hmem.2
      | some c =>
        have hci := ih.2 s c hc
        have hbk := mm_bank_lt hb hmem.1
        have := mm_go_ok (ρ := ρ) (k := k) (near := s / 2) (side := s % 2) (bank := mm_bank band s) (d := c + 1) (B := i + 1) ih.1 (by omega) (fun x c h => by have := ih.2 x c h; omega) (by omega) (mm_bank band s + 1) (by omega)
        unfold mm_row
        rw [hc]
        exact ⟨this.1, this.2.1⟩
    · exact ⟨ih.1, fun x c h => by have := ih.2 x c h; omega⟩
theorem mm_bfs_end {ρ : mm_Ro} {k band i : Nat} (h : (mm_bfs ρ k band i).2.length ≤ i) : ∀ d, mm_bfs ρ k band (i + d) = mm_bfs ρ k band i := by
  intro d
  induction d with
  | zero => rfl
  | succ d ih =>
    rw [show i + (d + 1) = (i + d) + 1 from rfl, mm_bfs, ih, List.getElem?_eq_none (by omega)]
def mh_tv (T : Nat → Option Nat) (j : Nat) : Int32 := match T j with
  | none => -9
  | some d => nI d
def mh_Fe (h : mj_H) (f : Nat) (b : mm_Bf) : Prop := h.1 f = some (.inr (1, [.ref (f + 1), .ref (f + 2), .int (nI b.2.length)])) ∧ mh_ar h (f + 1) 128 (mh_tv b.1) ∧ ∃ g, mh_ar h (f + 2) 128 g ∧ ∀ i s, b.2[i]? = some s → g i = nI s
def mh_Fe0 (h : mj_H) (f : Nat) : Prop := ∃ (c : Int32) (t q : Nat → Int32), h.1 f = some (.inr (1, [.ref (f + 1), .ref (f + 2), .int c])) ∧ mh_ar h (f + 1) 128 t ∧ mh_ar h (f + 2) 128 q
theorem mf_m9 {d : Nat} (hd : d < 2 ^ 31) : (nI d = -9) = False := by
  refine eq_false (fun z => ?_)
  have h1 := nI_toInt hd
  rw [z] at h1
  have h2 : (-9 : Int32).toInt = -9 := by decide
  rw [h2] at h1
  omega
section
variable {h : mj_H} {f r : Nat} {ρ : mm_Ro} {b : mm_Bf}
theorem mh_Fe.kp {A : Nat → Prop} {h h' : mj_H} {f : Nat} {b : mm_Bf} (H : mh_Fe h f b) (F : mh_F A h h') (h0 : ¬ A f) (h1 : ¬ A (f + 1)) (h2 : ¬ A (f + 2)) : mh_Fe h' f b := by
  obtain ⟨a1, a2, g, a3, a4⟩ := H
  exact ⟨(F.2 f h0).trans a1, a2.kp F h1, g, a3.kp F h2, a4⟩
theorem mt_7 (H : mh_Fe h f b) (hI : mm_BI b) (hB : ∀ x c, b.1 x = some c → c < 2 ^ 31) {s d : Nat} (hs : s < 128) (hd : d < 2 ^ 31) : ∃ h', mj_C 7 [.ref f, .int (nI s), .int (nI d)] h = some (none, h') ∧ mh_Fe h' f (mm_ent b s d) ∧ mh_F (mh_A f (f + 2)) h h' := by
  obtain ⟨a1, a2, g, a3, a4⟩ := H
  have hlen : b.2.length ≤ 128 := by have := hI.1; omega
  cases hc : b.1 s with
  | some c =>
    have he : mm_ent b s d = b := by simp [mm_ent, hc]
    refine ⟨h, ?_, by rw [he]; exact ⟨a1, a2, g, a3, a4⟩, mh_F.rf⟩
    have hv : mh_tv b.1 s = nI c := by simp [mh_tv, hc]
    rw [mc_7]
    by_cases hq : b.2.length < 128
    · simp only [↓reduceIte, ↓mq_7_0, ↓mq_7_1, ↓mq_7_4, ↓mq_7_5, ↓mq_7_8, ↓mq_7_11, ↓mq_7_12, ↓mq_7_15, ↓mq_7_18, ↓mq_7_21, ↓mq_7_22, ↓mq_7_25, ↓mq_7_26, ↓mq_7_27, ↓mq_7_29, ↓mq_7_32, ↓mq_7_33, ↓mq_7_36, ↓mq_7_37, ↓mq_7_38, ↓mq_7_39, ↓mq_7_40, ↓mq_7_43, ↓mq_7_44, ↓mq_7_47, ↓mq_7_48, ↓mq_7_49, ↓mq_7_50, ↓mq_7_51, ↓mq_7_54, ↓mq_7_55, ↓mq_7_56, ↓mq_7_59, mf_lt (Nat.zero_le s), mf_le hs, ↓mj_bs (mh_gf 2 a1 rfl), mf_le hq, ↓mj_bs (mh_gf 0 a1 rfl), ↓mj_bs (a2.gt hs (by omega)), hv, mf_m9 (hB s c hc)]
    · simp only [↓reduceIte, ↓mq_7_0, ↓mq_7_1, ↓mq_7_4, ↓mq_7_5, ↓mq_7_8, ↓mq_7_11, ↓mq_7_12, ↓mq_7_15, ↓mq_7_18, ↓mq_7_21, ↓mq_7_22, ↓mq_7_25, ↓mq_7_26, ↓mq_7_27, ↓mq_7_29, ↓mq_7_32, ↓mq_7_33, ↓mq_7_36, ↓mq_7_37, ↓mq_7_38, ↓mq_7_39, ↓mq_7_40, ↓mq_7_43, ↓mq_7_44, ↓mq_7_47, ↓mq_7_48, ↓mq_7_49, ↓mq_7_50, ↓mq_7_51, ↓mq_7_54, ↓mq_7_55, ↓mq_7_56, ↓mq_7_59, mf_lt (Nat.zero_le s), mf_le hs, ↓mj_bs (mh_gf 2 a1 rfl), mt_le (Nat.le_of_not_lt hq)]
  | none =>
    have hq := hI.room hs hc
    have he : mm_ent b s d = (mh_u b.1 s (some d), b.2 ++ [s]) := by simp [mm_ent, hc]
    have hv : mh_tv b.1 s = -9 := by simp [mh_tv, hc]
    obtain ⟨h1, e1, t1, F1⟩ := a2.pt hs (by omega) (nI d)
    have o1 := (F1.2 f (by omega)).trans a1
    obtain ⟨h2, e2, t2, F2⟩ := (a3.kp F1 (by omega)).pt hq (by omega) (nI s)
    have o2 := (F2.2 f (by omega)).trans o1
    have F3 : mh_F (fun k => k = f) h2 (mj_up h2 f (.inr (1, [.ref (f + 1), .ref (f + 2), .int (nI (b.2.length + 1))]))) := mh_uF
    refine ⟨_, ?_, ?_, ((F1.mo (B := mh_A f (f + 2)) (fun k z => by subst z; exact ⟨by omega, by omega⟩)).tt (F2.mo (fun k z => by subst z; exact ⟨by omega, by omega⟩))).tt (F3.mo (fun k z => by subst z; exact ⟨by omega, by omega⟩))⟩
    · rw [mc_7]
      simp only [↓reduceIte, ↓mq_7_0, ↓mq_7_1, ↓mq_7_4, ↓mq_7_5, ↓mq_7_8, ↓mq_7_11, ↓mq_7_12, ↓mq_7_15, ↓mq_7_18, ↓mq_7_21, ↓mq_7_22, ↓mq_7_25, ↓mq_7_26, ↓mq_7_27, ↓mq_7_29, ↓mq_7_32, ↓mq_7_33, ↓mq_7_36, ↓mq_7_37, ↓mq_7_38, ↓mq_7_39, ↓mq_7_40, ↓mq_7_43, ↓mq_7_44, ↓mq_7_47, ↓mq_7_48, ↓mq_7_49, ↓mq_7_50, ↓mq_7_51, ↓mq_7_54, ↓mq_7_55, ↓mq_7_56, ↓mq_7_59, mf_lt (Nat.zero_le s), mf_le hs, ↓mj_bs (mh_gf 2 a1 rfl), mf_le hq, ↓mj_bs (mh_gf 0 a1 rfl), ↓mj_bs (a2.gt hs (by omega)), hv, ↓mj_bs (e1), ↓mj_bs (mh_gf 1 o1 rfl), ↓mj_bs (mh_gf 2 o1 rfl), ↓mj_bs (e2), ↓mj_bs (mh_gf 2 o2 rfl), mn_add, ↓mj_bs (mh_pf 2 (v := .int (nI (b.2.length + 1))) o2 (by simp) rfl)]
      rfl
    · rw [he]
      refine ⟨by simp only [List.length_append, List.length_cons, List.length_nil]; exact mh_ua, ((t1.kp F2 (by omega)).kp F3 (by omega)).cg (fun k hk => ?_), _, t2.kp F3 (by omega), fun i x hx => ?_⟩
      · by_cases e : k = s
        · subst e; simp [mh_tv, mh_u_at]
        · rw [mh_u_ne e]; simp only [mh_tv, mh_u_ne e]
      · by_cases hi : i < b.2.length
        · rw [mh_u_ne (by omega)]
          have hx' : (b.2 ++ [s])[i]? = some x := hx
          rw [List.getElem?_append_left hi] at hx'
          exact a4 i x hx'
        · have hx' : (b.2 ++ [s])[i]? = some x := hx
          rw [List.getElem?_append_right (by omega)] at hx'
          have hk0 : i - b.2.length < 1 := (List.getElem?_eq_some_iff.mp hx').1
          have : i = b.2.length := by omega
          subst this
          rw [Nat.sub_self] at hx'
          cases hx'
          exact mh_u_at
theorem mn_shr1 : ∀ s, s < 128 → (nI s >>> (nI 1 &&& 31) = nI (s / 2)) ∧ (nI s &&& nI 1 = nI (s % 2)) := by decide +kernel
theorem mn_shl1 : ∀ s, s < 64 → nI s <<< (nI 1 &&& 31) = nI (2 * s) := by decide +kernel
theorem mn_or1 : ∀ s, s < 64 → ∀ e, e < 2 → (2 * s) ||| e = 2 * s + e := by decide +kernel
theorem mn_xor6 : ∀ s, s < 64 → ∀ t, t < 64 → nI s ^^^ nI t = nI (s ^^^ t) := by decide +kernel
theorem mm_dif_gt : ∀ s, s < 64 → ∀ t, t < s → mm_dif s t ≠ 0 := by decide +kernel
theorem mm_pop6 : ∀ s, s < 64 → mm_pop s 6 ≤ 6 := by decide +kernel
theorem mt_8 (w : mw_R ρ) (H : mh_Ro h r ρ) (hd : r + 7 < f) (B : mh_Fe h f b) (hI : mm_BI b) (hBd : ∀ x c, b.1 x = some c → c ≤ 1000) {band s k c : Nat} (hb : band < 64) (hs : s < 128) (hc : b.1 s = some c) (hk : k < 4) : ∃ h', mj_C 8 [.ref f, .ref r, .int (nI band), .int (nI k), .int (nI s)] h = some (none, h') ∧ mh_Fe h' f (mm_row ρ k band s b) ∧ mh_F (mh_A f (f + 2)) h h' := by
  have hn := w.1
  have hnear : s / 2 < 64 := by omega
  have hc1 := hBd s c hc
  have hbk := mm_bank_lt hb hs
  have hrow : mm_row ρ k band s b = mm_go ρ k (s / 2) (s % 2) (mm_bank band s) (c + 1) b (mm_bank band s + 1) := by rw [mm_row, hc]; rfl
  have ok := fun l (hl : l ≤ 64) => mm_go_ok (ρ := ρ) (k := k) (near := s / 2) (side := s % 2) (bank := mm_bank band s) (d := c + 1) (B := 1001) hI hnear (fun x c h => by have := hBd x c h; omega) (by omega) l hl
  have loop : ∀ d l hl l9, l + d = mm_bank band s + 1 → mh_Fe hl f (mm_go ρ k (s / 2) (s % 2) (mm_bank band s) (c + 1) b l) → mh_F (mh_A f (f + 2)) h hl → ∃ h', mj_R 8 (33, [.ref f, .ref r, .int (nI band), .int (nI k), .int (nI s), .int (nI (s / 2)), .int (nI (s % 2)), .int (nI (mm_bank band s)), .int (nI l), l9], [], hl) = some (none, h') ∧ mh_Fe h' f (mm_row ρ k band s b) ∧ mh_F (mh_A f (f + 2)) h h' := by
    intro d
    induction d with
    | zero =>
      intro l hl l9 hld Bl Fl
      obtain rfl : l = mm_bank band s + 1 := by omega
      refine ⟨hl, ?_, by rw [hrow]; exact Bl, Fl⟩
      simp only [↓reduceIte, ↓mq_8_0, ↓mq_8_2, ↓mq_8_3, ↓mq_8_4, ↓mq_8_6, ↓mq_8_8, ↓mq_8_9, ↓mq_8_10, ↓mq_8_12, ↓mq_8_14, ↓mq_8_17, ↓mq_8_19, ↓mq_8_22, ↓mq_8_23, ↓mq_8_25, ↓mq_8_26, ↓mq_8_27, ↓mq_8_28, ↓mq_8_30, ↓mq_8_31, ↓mq_8_33, ↓mq_8_35, ↓mq_8_37, ↓mq_8_40, ↓mq_8_42, ↓mq_8_44, ↓mq_8_45, ↓mq_8_46, ↓mq_8_47, ↓mq_8_50, ↓mq_8_52, ↓mq_8_55, ↓mq_8_56, ↓mq_8_59, ↓mq_8_60, ↓mq_8_63, ↓mq_8_64, ↓mq_8_66, ↓mq_8_68, ↓mq_8_71, ↓mq_8_72, ↓mq_8_74, ↓mq_8_76, ↓mq_8_77, ↓mq_8_78, ↓mq_8_79, ↓mq_8_82, ↓mq_8_85, ↓mq_8_86, ↓mq_8_88, ↓mq_8_90, ↓mq_8_91, ↓mq_8_92, ↓mq_8_93, ↓mq_8_94, ↓mq_8_96, ↓mq_8_97, ↓mq_8_98, ↓mq_8_99, ↓mq_8_102, ↓mq_8_104, ↓mq_8_105, ↓mq_8_106, ↓mq_8_107, ↓mq_8_110, ↓mq_8_113, ↓mq_8_116, mt_lt (show mm_bank band s < mm_bank band s + 1 by omega)]
    | succ d ih =>
      intro l hl l9 hld Bl Fl
      have Hl := H.kp Fl (fun x _ _ z => by have := z.1; omega)
      have hl64 : l < 64 := by omega
      have okl := ok l (by omega)
      have hst : ∀ bb, mm_fit ρ k (mm_bank band s) l = bb → mm_go ρ k (s / 2) (s % 2) (mm_bank band s) (c + 1) b (l + 1) = if bb = true then mm_ent (mm_go ρ k (s / 2) (s % 2) (mm_bank band s) (c + 1) b l) (2 * (s / 2 ^^^ l) + (1 - s % 2)) (c + 1) else mm_go ρ k (s / 2) (s % 2) (mm_bank band s) (c + 1) b l := fun bb e => by rw [mm_go, e]
      have hp6 := mm_pop6 l hl64
      have hlt : ¬ mm_bank band s < l := by omega
      rw [mq_8_33]
      have skip : mm_fit ρ k (mm_bank band s) l = false → ∃ h', mj_R 8 (110, [.ref f, .ref r, .int (nI band), .int (nI k), .int (nI s), .int (nI (s / 2)), .int (nI (s % 2)), .int (nI (mm_bank band s)), .int (nI l), .int (nI 0)], [], hl) = some (none, h') ∧ mh_Fe h' f (mm_row ρ k band s b) ∧ mh_F (mh_A f (f + 2)) h h' := by
        intro hf
        obtain ⟨h', r1, r2, r3⟩ := ih (l + 1) hl (.int (nI 0)) (by omega) (by rw [hst _ hf]; exact Bl) Fl
        refine ⟨h', ?_, r2, r3⟩
        simp only [↓reduceIte, ↓mq_8_0, ↓mq_8_2, ↓mq_8_3, ↓mq_8_4, ↓mq_8_6, ↓mq_8_8, ↓mq_8_9, ↓mq_8_10, ↓mq_8_12, ↓mq_8_14, ↓mq_8_17, ↓mq_8_19, ↓mq_8_22, ↓mq_8_23, ↓mq_8_25, ↓mq_8_26, ↓mq_8_27, ↓mq_8_28, ↓mq_8_30, ↓mq_8_31, ↓mq_8_35, ↓mq_8_37, ↓mq_8_40, ↓mq_8_42, ↓mq_8_44, ↓mq_8_45, ↓mq_8_46, ↓mq_8_47, ↓mq_8_50, ↓mq_8_52, ↓mq_8_55, ↓mq_8_56, ↓mq_8_59, ↓mq_8_60, ↓mq_8_63, ↓mq_8_64, ↓mq_8_66, ↓mq_8_68, ↓mq_8_71, ↓mq_8_72, ↓mq_8_74, ↓mq_8_76, ↓mq_8_77, ↓mq_8_78, ↓mq_8_79, ↓mq_8_82, ↓mq_8_85, ↓mq_8_86, ↓mq_8_88, ↓mq_8_90, ↓mq_8_91, ↓mq_8_92, ↓mq_8_93, ↓mq_8_94, ↓mq_8_96, ↓mq_8_97, ↓mq_8_98, ↓mq_8_99, ↓mq_8_102, ↓mq_8_104, ↓mq_8_105, ↓mq_8_106, ↓mq_8_107, ↓mq_8_110, ↓mq_8_113, ↓mq_8_116, mn_add]
        exact r1
      by_cases h1 : mm_dif l (mm_bank band s) = 0
      · by_cases h2 : mm_pop l 6 ≤ k
        · have hdb := mm_dif_lt _ hbk _ hl64
          have hhat := mt_42 w Hl hdb
          cases h3 : mm_hat ρ (mm_dif (mm_bank band s) l)
          · have hfit : mm_fit ρ k (mm_bank band s) l = true := by simp [mm_fit, h1, h2, h3]
            have hx := mm_xor_lt _ hnear l hl64
            have hcl := okl.2.2.1 s c hc
            obtain ⟨h6, e6, B6, F6⟩ := mt_7 (s := 2 * (s / 2 ^^^ l) + (1 - s % 2)) (d := c + 1) Bl okl.1 (fun x c h => by have := okl.2.1 x c h; omega) (by omega) (by omega)
            obtain ⟨h', r1, r2, r3⟩ := ih (l + 1) h6 (.int (nI 1)) (by omega) (by rw [hst _ hfit]; exact B6) (Fl.tt F6)
            have hv : mh_tv (mm_go ρ k (s / 2) (s % 2) (mm_bank band s) (c + 1) b l).1 s = nI c := by simp [mh_tv, hcl]
            refine ⟨h', ?_, r2, r3⟩
            simp only [↓reduceIte, ↓mq_8_0, ↓mq_8_2, ↓mq_8_3, ↓mq_8_4, ↓mq_8_6, ↓mq_8_8, ↓mq_8_9, ↓mq_8_10, ↓mq_8_12, ↓mq_8_14, ↓mq_8_17, ↓mq_8_19, ↓mq_8_22, ↓mq_8_23, ↓mq_8_25, ↓mq_8_26, ↓mq_8_27, ↓mq_8_28, ↓mq_8_30, ↓mq_8_31, ↓mq_8_35, ↓mq_8_37, ↓mq_8_40, ↓mq_8_42, ↓mq_8_44, ↓mq_8_45, ↓mq_8_46, ↓mq_8_47, ↓mq_8_50, ↓mq_8_52, ↓mq_8_55, ↓mq_8_56, ↓mq_8_59, ↓mq_8_60, ↓mq_8_63, ↓mq_8_64, ↓mq_8_66, ↓mq_8_68, ↓mq_8_71, ↓mq_8_72, ↓mq_8_74, ↓mq_8_76, ↓mq_8_77, ↓mq_8_78, ↓mq_8_79, ↓mq_8_82, ↓mq_8_85, ↓mq_8_86, ↓mq_8_88, ↓mq_8_90, ↓mq_8_91, ↓mq_8_92, ↓mq_8_93, ↓mq_8_94, ↓mq_8_96, ↓mq_8_97, ↓mq_8_98, ↓mq_8_99, ↓mq_8_102, ↓mq_8_104, ↓mq_8_105, ↓mq_8_106, ↓mq_8_107, ↓mq_8_110, ↓mq_8_113, ↓mq_8_116, mf_lt (show l ≤ mm_bank band s by omega), mn_dif _ hl64 _ hbk, mt_eq h1, ↓mj_bs (mt_166 hl64), Option.toList, List.cons_append, List.nil_append, mf_lt h2, mf_eq (show 1 ≠ 0 by omega), mn_dif _ hbk _ hl64, mh_isC Hl.1, ↓mj_bs (hhat), mj_b0, show decide (mm_dif (mm_bank band s) l &&& mm_or (mr_E ρ) (mm_dif (mm_bank band s) l) (mr_n ρ) ≠ 0) = false from h3, mn_xor6 _ hnear _ hl64, mn_shl1 _ hx, mn_sub (show s % 2 ≤ 1 by omega), mn_or, mn_or1 _ hx (1 - s % 2) (by omega), ↓mj_bs (mh_gf 0 Bl.1 rfl), ↓mj_bs (Bl.2.1.gt hs (by omega)), hv, mn_add, mh_isC Bl.1, ↓mj_bs (e6)]
            exact r1
          · have hfit : mm_fit ρ k (mm_bank band s) l = false := by simp [mm_fit, h3]
            obtain ⟨h', r1, r2, r3⟩ := ih (l + 1) hl (.int (nI 1)) (by omega) (by rw [hst _ hfit]; exact Bl) Fl
            refine ⟨h', ?_, r2, r3⟩
            simp only [↓reduceIte, ↓mq_8_0, ↓mq_8_2, ↓mq_8_3, ↓mq_8_4, ↓mq_8_6, ↓mq_8_8, ↓mq_8_9, ↓mq_8_10, ↓mq_8_12, ↓mq_8_14, ↓mq_8_17, ↓mq_8_19, ↓mq_8_22, ↓mq_8_23, ↓mq_8_25, ↓mq_8_26, ↓mq_8_27, ↓mq_8_28, ↓mq_8_30, ↓mq_8_31, ↓mq_8_35, ↓mq_8_37, ↓mq_8_40, ↓mq_8_42, ↓mq_8_44, ↓mq_8_45, ↓mq_8_46, ↓mq_8_47, ↓mq_8_50, ↓mq_8_52, ↓mq_8_55, ↓mq_8_56, ↓mq_8_59, ↓mq_8_60, ↓mq_8_63, ↓mq_8_64, ↓mq_8_66, ↓mq_8_68, ↓mq_8_71, ↓mq_8_72, ↓mq_8_74, ↓mq_8_76, ↓mq_8_77, ↓mq_8_78, ↓mq_8_79, ↓mq_8_82, ↓mq_8_85, ↓mq_8_86, ↓mq_8_88, ↓mq_8_90, ↓mq_8_91, ↓mq_8_92, ↓mq_8_93, ↓mq_8_94, ↓mq_8_96, ↓mq_8_97, ↓mq_8_98, ↓mq_8_99, ↓mq_8_102, ↓mq_8_104, ↓mq_8_105, ↓mq_8_106, ↓mq_8_107, ↓mq_8_110, ↓mq_8_113, ↓mq_8_116, mf_lt (show l ≤ mm_bank band s by omega), mn_dif _ hl64 _ hbk, mt_eq h1, ↓mj_bs (mt_166 hl64), Option.toList, List.cons_append, List.nil_append, mf_lt h2, mf_eq (show 1 ≠ 0 by omega), mn_dif _ hbk _ hl64, mh_isC Hl.1, ↓mj_bs (hhat), mj_b0, show decide (mm_dif (mm_bank band s) l &&& mm_or (mr_E ρ) (mm_dif (mm_bank band s) l) (mr_n ρ) ≠ 0) = true from h3, Bool.true_eq_false, mn_add]
            exact r1
        · obtain ⟨h', r1, r2, r3⟩ := skip (by simp [mm_fit, h2])
          refine ⟨h', ?_, r2, r3⟩
          simp only [↓reduceIte, ↓mq_8_0, ↓mq_8_2, ↓mq_8_3, ↓mq_8_4, ↓mq_8_6, ↓mq_8_8, ↓mq_8_9, ↓mq_8_10, ↓mq_8_12, ↓mq_8_14, ↓mq_8_17, ↓mq_8_19, ↓mq_8_22, ↓mq_8_23, ↓mq_8_25, ↓mq_8_26, ↓mq_8_27, ↓mq_8_28, ↓mq_8_30, ↓mq_8_31, ↓mq_8_35, ↓mq_8_37, ↓mq_8_40, ↓mq_8_42, ↓mq_8_44, ↓mq_8_45, ↓mq_8_46, ↓mq_8_47, ↓mq_8_50, ↓mq_8_52, ↓mq_8_55, ↓mq_8_56, ↓mq_8_59, ↓mq_8_60, ↓mq_8_63, ↓mq_8_64, ↓mq_8_66, ↓mq_8_68, ↓mq_8_71, ↓mq_8_72, ↓mq_8_74, ↓mq_8_76, ↓mq_8_77, ↓mq_8_78, ↓mq_8_79, ↓mq_8_82, ↓mq_8_85, ↓mq_8_86, ↓mq_8_88, ↓mq_8_90, ↓mq_8_91, ↓mq_8_92, ↓mq_8_93, ↓mq_8_94, ↓mq_8_96, ↓mq_8_97, ↓mq_8_98, ↓mq_8_99, ↓mq_8_102, ↓mq_8_104, ↓mq_8_105, ↓mq_8_106, ↓mq_8_107, ↓mq_8_113, ↓mq_8_116, mf_lt (show l ≤ mm_bank band s by omega), mn_dif _ hl64 _ hbk, mt_eq h1, ↓mj_bs (mt_166 hl64), Option.toList, List.cons_append, List.nil_append, mt_lt (Nat.lt_of_not_le h2), mt_eq (show 0 = 0 from rfl)]
          exact r1
      · have hdl := mm_dif_lt _ hl64 _ hbk
        obtain ⟨h', r1, r2, r3⟩ := skip (by simp [mm_fit, h1])
        refine ⟨h', ?_, r2, r3⟩
        simp only [↓reduceIte, ↓mq_8_0, ↓mq_8_2, ↓mq_8_3, ↓mq_8_4, ↓mq_8_6, ↓mq_8_8, ↓mq_8_9, ↓mq_8_10, ↓mq_8_12, ↓mq_8_14, ↓mq_8_17, ↓mq_8_19, ↓mq_8_22, ↓mq_8_23, ↓mq_8_25, ↓mq_8_26, ↓mq_8_27, ↓mq_8_28, ↓mq_8_30, ↓mq_8_31, ↓mq_8_35, ↓mq_8_37, ↓mq_8_40, ↓mq_8_42, ↓mq_8_44, ↓mq_8_45, ↓mq_8_46, ↓mq_8_47, ↓mq_8_50, ↓mq_8_52, ↓mq_8_55, ↓mq_8_56, ↓mq_8_59, ↓mq_8_60, ↓mq_8_63, ↓mq_8_64, ↓mq_8_66, ↓mq_8_68, ↓mq_8_71, ↓mq_8_72, ↓mq_8_74, ↓mq_8_76, ↓mq_8_77, ↓mq_8_78, ↓mq_8_79, ↓mq_8_82, ↓mq_8_85, ↓mq_8_86, ↓mq_8_88, ↓mq_8_90, ↓mq_8_91, ↓mq_8_92, ↓mq_8_93, ↓mq_8_94, ↓mq_8_96, ↓mq_8_97, ↓mq_8_98, ↓mq_8_99, ↓mq_8_102, ↓mq_8_104, ↓mq_8_105, ↓mq_8_106, ↓mq_8_107, ↓mq_8_113, ↓mq_8_116, mf_lt (show l ≤ mm_bank band s by omega), mn_dif _ hl64 _ hbk, mf_eq h1, mt_eq (show 0 = 0 from rfl)]
        exact r1
  obtain ⟨h', r1, r2, r3⟩ := loop (mm_bank band s + 1) 0 h .null (by omega) B mh_F.rf
  refine ⟨h', ?_, r2, r3⟩
  obtain ⟨q1, q2⟩ := mn_shr1 s hs
  rw [mc_8]
  by_cases hsd : s % 2 = 0
  · have hbe : mm_bank band s = s / 2 := by simp [mm_bank, hsd]
    simp only [↓reduceIte, ↓mq_8_0, ↓mq_8_2, ↓mq_8_3, ↓mq_8_4, ↓mq_8_6, ↓mq_8_8, ↓mq_8_9, ↓mq_8_10, ↓mq_8_12, ↓mq_8_14, ↓mq_8_17, ↓mq_8_19, ↓mq_8_22, ↓mq_8_23, ↓mq_8_25, ↓mq_8_26, ↓mq_8_27, ↓mq_8_28, ↓mq_8_30, ↓mq_8_31, ↓mq_8_35, ↓mq_8_37, ↓mq_8_40, ↓mq_8_42, ↓mq_8_44, ↓mq_8_45, ↓mq_8_46, ↓mq_8_47, ↓mq_8_50, ↓mq_8_52, ↓mq_8_55, ↓mq_8_56, ↓mq_8_59, ↓mq_8_60, ↓mq_8_63, ↓mq_8_64, ↓mq_8_66, ↓mq_8_68, ↓mq_8_71, ↓mq_8_72, ↓mq_8_74, ↓mq_8_76, ↓mq_8_77, ↓mq_8_78, ↓mq_8_79, ↓mq_8_82, ↓mq_8_85, ↓mq_8_86, ↓mq_8_88, ↓mq_8_90, ↓mq_8_91, ↓mq_8_92, ↓mq_8_93, ↓mq_8_94, ↓mq_8_96, ↓mq_8_97, ↓mq_8_98, ↓mq_8_99, ↓mq_8_102, ↓mq_8_104, ↓mq_8_105, ↓mq_8_106, ↓mq_8_107, ↓mq_8_110, ↓mq_8_113, ↓mq_8_116, q1, q2, mt_eq hsd]
    rw [hbe] at r1
    exact r1
  · have hbe : mm_bank band s = mm_dif band (s / 2) := by simp [mm_bank, hsd]
    simp only [↓reduceIte, ↓mq_8_0, ↓mq_8_2, ↓mq_8_3, ↓mq_8_4, ↓mq_8_6, ↓mq_8_8, ↓mq_8_9, ↓mq_8_10, ↓mq_8_12, ↓mq_8_14, ↓mq_8_17, ↓mq_8_19, ↓mq_8_22, ↓mq_8_23, ↓mq_8_25, ↓mq_8_26, ↓mq_8_27, ↓mq_8_28, ↓mq_8_30, ↓mq_8_31, ↓mq_8_35, ↓mq_8_37, ↓mq_8_40, ↓mq_8_42, ↓mq_8_44, ↓mq_8_45, ↓mq_8_46, ↓mq_8_47, ↓mq_8_50, ↓mq_8_52, ↓mq_8_55, ↓mq_8_56, ↓mq_8_59, ↓mq_8_60, ↓mq_8_63, ↓mq_8_64, ↓mq_8_66, ↓mq_8_68, ↓mq_8_71, ↓mq_8_72, ↓mq_8_74, ↓mq_8_76, ↓mq_8_77, ↓mq_8_78, ↓mq_8_79, ↓mq_8_82, ↓mq_8_85, ↓mq_8_86, ↓mq_8_88, ↓mq_8_90, ↓mq_8_91, ↓mq_8_92, ↓mq_8_93, ↓mq_8_94, ↓mq_8_96, ↓mq_8_97, ↓mq_8_98, ↓mq_8_99, ↓mq_8_102, ↓mq_8_104, ↓mq_8_105, ↓mq_8_106, ↓mq_8_107, ↓mq_8_110, ↓mq_8_113, ↓mq_8_116, q1, q2, mf_eq hsd, mn_dif _ hb _ hnear]
    rw [hbe] at r1
    exact r1
theorem mt_6 (w : mw_R ρ) (H : mh_Ro h r ρ) (hd : r + 7 < f) (B : mh_Fe0 h f) {band k : Nat} (hb : band < 64) (hk : k < 4) : ∃ h', mj_C 6 [.ref f, .ref r, .int (nI band), .int (nI k)] h = some (some (.int (if band = 0 then nI 0 else mh_tv (mm_bfs ρ k band 128).1 1)), h') ∧ mh_Fe0 h' f ∧ mh_F (mh_A f (f + 2)) h h' := by
  by_cases hb0 : band = 0
  · refine ⟨h, ?_, B, mh_F.rf⟩
    rw [mc_6]
    simp only [↓reduceIte, ↓mq_6_0, ↓mq_6_1, ↓mq_6_4, ↓mq_6_5, ↓mq_6_6, ↓mq_6_7, ↓mq_6_9, ↓mq_6_11, ↓mq_6_14, ↓mq_6_17, ↓mq_6_18, ↓mq_6_21, ↓mq_6_23, ↓mq_6_25, ↓mq_6_26, ↓mq_6_29, ↓mq_6_32, ↓mq_6_33, ↓mq_6_34, ↓mq_6_37, ↓mq_6_38, ↓mq_6_39, ↓mq_6_40, ↓mq_6_41, ↓mq_6_42, ↓mq_6_45, ↓mq_6_46, ↓mq_6_48, ↓mq_6_50, ↓mq_6_51, ↓mq_6_54, ↓mq_6_57, ↓mq_6_59, ↓mq_6_62, ↓mq_6_65, ↓mq_6_66, ↓mq_6_67, ↓mq_6_68, ↓mq_6_69, ↓mq_6_70, ↓mq_6_73, ↓mq_6_75, ↓mq_6_76, ↓mq_6_79, ↓mq_6_82, ↓mq_6_85, ↓mq_6_86, ↓mq_6_89, ↓mq_6_90, ↓mq_6_91, mt_eq hb0, hb0]
  · obtain ⟨cc, t, qq, o0, t0, q0⟩ := B
    have sub : ∀ k, k = f + 1 → mh_A f (f + 2) k := fun k z => by subst z; exact ⟨by omega, by omega⟩
    have loop1 : ∀ d j hj tj, j + d = 128 → mh_ar hj (f + 1) 128 tj → (∀ i, i < j → tj i = -9) → mh_F (fun k => k = f + 1) h hj → ∃ h1, mj_R 6 (9, [.ref f, .ref r, .int (nI band), .int (nI k), .int (nI j)], [], hj) = mj_R 6 (32, [.ref f, .ref r, .int (nI band), .int (nI k), .int (nI 128)], [], h1) ∧ mh_ar h1 (f + 1) 128 (fun _ => -9) ∧ mh_F (fun k => k = f + 1) h h1 := by
      intro d
      induction d with
      | zero =>
        intro j hj tj hjd tt hall Fj
        obtain rfl : j = 128 := by omega
        refine ⟨hj, ?_, tt.cg hall, Fj⟩
        simp only [↓reduceIte, ↓mq_6_0, ↓mq_6_1, ↓mq_6_4, ↓mq_6_5, ↓mq_6_6, ↓mq_6_7, ↓mq_6_9, ↓mq_6_11, ↓mq_6_14, ↓mq_6_17, ↓mq_6_18, ↓mq_6_21, ↓mq_6_23, ↓mq_6_25, ↓mq_6_26, ↓mq_6_29, ↓mq_6_33, ↓mq_6_34, ↓mq_6_37, ↓mq_6_38, ↓mq_6_39, ↓mq_6_40, ↓mq_6_41, ↓mq_6_42, ↓mq_6_45, ↓mq_6_46, ↓mq_6_48, ↓mq_6_50, ↓mq_6_51, ↓mq_6_54, ↓mq_6_57, ↓mq_6_59, ↓mq_6_62, ↓mq_6_65, ↓mq_6_66, ↓mq_6_67, ↓mq_6_68, ↓mq_6_69, ↓mq_6_70, ↓mq_6_73, ↓mq_6_75, ↓mq_6_76, ↓mq_6_79, ↓mq_6_82, ↓mq_6_85, ↓mq_6_86, ↓mq_6_89, ↓mq_6_90, ↓mq_6_91, mt_le (Nat.le_refl 128)]
      | succ d ih =>
        intro j hj tj hjd tt hall Fj
        have oj := (Fj.2 f (by omega)).trans o0
        obtain ⟨h1, e1, t1, F1⟩ := tt.pt (show j < 128 by omega) (by omega) (-9)
        obtain ⟨h2, r1, r2, r3⟩ := ih (j + 1) h1 _ (by omega) t1 (fun i hi => by
          by_cases e : i = j
          · subst e; exact mh_u_at
          · rw [mh_u_ne e]; exact hall i (by omega)) (Fj.tt F1)
        refine ⟨h2, ?_, r2, r3⟩
        rw [mq_6_9]
        simp only [↓reduceIte, ↓mq_6_0, ↓mq_6_1, ↓mq_6_4, ↓mq_6_5, ↓mq_6_6, ↓mq_6_7, ↓mq_6_11, ↓mq_6_14, ↓mq_6_17, ↓mq_6_18, ↓mq_6_21, ↓mq_6_23, ↓mq_6_25, ↓mq_6_26, ↓mq_6_29, ↓mq_6_33, ↓mq_6_34, ↓mq_6_37, ↓mq_6_38, ↓mq_6_39, ↓mq_6_40, ↓mq_6_41, ↓mq_6_42, ↓mq_6_45, ↓mq_6_46, ↓mq_6_48, ↓mq_6_50, ↓mq_6_51, ↓mq_6_54, ↓mq_6_57, ↓mq_6_59, ↓mq_6_62, ↓mq_6_65, ↓mq_6_66, ↓mq_6_67, ↓mq_6_68, ↓mq_6_69, ↓mq_6_70, ↓mq_6_73, ↓mq_6_75, ↓mq_6_76, ↓mq_6_79, ↓mq_6_82, ↓mq_6_85, ↓mq_6_86, ↓mq_6_89, ↓mq_6_90, ↓mq_6_91, mf_le (show j < 128 by omega), ↓mj_bs (mh_gf 0 oj rfl), ↓mj_bs (e1), mn_add]
        exact r1
    obtain ⟨h1, r1, t1, F1⟩ := loop1 128 0 h t (by omega) t0 (fun i hi => by omega) mh_F.rf
    have o1 := (F1.2 f (by omega)).trans o0
    have F2 : mh_F (fun k => k = f) h1 (mj_up h1 f (.inr (1, [.ref (f + 1), .ref (f + 2), .int (nI 0)]))) := mh_uF
    have B2 : mh_Fe (mj_up h1 f (.inr (1, [.ref (f + 1), .ref (f + 2), .int (nI 0)]))) f ((fun _ => none, []) : mm_Bf) := ⟨mh_ua, t1.kp F2 (by omega), qq, (q0.kp F1 (by omega)).kp F2 (by omega), fun i s hs => by simp at hs⟩
    have I0 : mm_BI ((fun _ => none, []) : mm_Bf) := ⟨by decide +kernel, fun s hs => by cases hs⟩
    obtain ⟨h3, e3, B3, F3⟩ := mt_7 (s := 2 * band) (d := 0) B2 I0 (fun x c h => by cases h) (by omega) (by omega)
    have FA : mh_F (mh_A f (f + 2)) h h3 := ((F1.mo sub).tt (F2.mo (fun k z => by subst z; exact ⟨by omega, by omega⟩))).tt F3
    have loop2 : ∀ d i hi, i + d = 128 → mh_Fe hi f (mm_bfs ρ k band i) → mh_F (mh_A f (f + 2)) h hi → ∃ h', mj_R 6 (48, [.ref f, .ref r, .int (nI band), .int (nI k), .int (nI i)], [], hi) = some (some (.int (mh_tv (mm_bfs ρ k band 128).1 1)), h') ∧ mh_Fe0 h' f ∧ mh_F (mh_A f (f + 2)) h h' := by
      intro d
      induction d with
      | zero =>
        intro i hi hid Bi Fi
        obtain rfl : i = 128 := by omega
        have ok := mm_bfs_ok ρ k hb 128
        have hlen : (mm_bfs ρ k band 128).2.length ≤ 128 := by have := ok.1.1; omega
        obtain ⟨g, g1, g2⟩ := Bi.2.2
        refine ⟨hi, ?_, ⟨_, _, _, Bi.1, Bi.2.1, g1⟩, Fi⟩
        simp only [↓reduceIte, ↓mq_6_0, ↓mq_6_1, ↓mq_6_4, ↓mq_6_5, ↓mq_6_6, ↓mq_6_7, ↓mq_6_9, ↓mq_6_11, ↓mq_6_14, ↓mq_6_17, ↓mq_6_18, ↓mq_6_21, ↓mq_6_23, ↓mq_6_25, ↓mq_6_26, ↓mq_6_29, ↓mq_6_32, ↓mq_6_33, ↓mq_6_34, ↓mq_6_37, ↓mq_6_38, ↓mq_6_39, ↓mq_6_40, ↓mq_6_41, ↓mq_6_42, ↓mq_6_45, ↓mq_6_46, ↓mq_6_48, ↓mq_6_50, ↓mq_6_51, ↓mq_6_54, ↓mq_6_57, ↓mq_6_59, ↓mq_6_62, ↓mq_6_65, ↓mq_6_66, ↓mq_6_67, ↓mq_6_68, ↓mq_6_69, ↓mq_6_70, ↓mq_6_73, ↓mq_6_75, ↓mq_6_76, ↓mq_6_79, ↓mq_6_82, ↓mq_6_85, ↓mq_6_86, ↓mq_6_89, ↓mq_6_90, ↓mq_6_91, ↓mj_bs (mh_gf 2 Bi.1 rfl), mt_le hlen, ↓mj_bs (mh_gf 0 Bi.1 rfl), ↓mj_bs (Bi.2.1.gt (show 1 < 128 by omega) (by omega))]
      | succ d ih =>
        intro i hi hid Bi Fi
        have ok := mm_bfs_ok ρ k hb i
        have hlen : (mm_bfs ρ k band i).2.length ≤ 128 := by have := ok.1.1; omega
        obtain ⟨g, g1, g2⟩ := Bi.2.2
        rw [mq_6_48]
        by_cases hil : i < (mm_bfs ρ k band i).2.length
        · have hq : (mm_bfs ρ k band i).2[i]? = some ((mm_bfs ρ k band i).2[i]) := List.getElem?_eq_getElem hil
          generalize (mm_bfs ρ k band i).2[i] = s at hq
          have hmem := ok.1.2 s (List.mem_of_getElem? hq)
          cases hc : (mm_bfs ρ k band i).1 s with
          | none => exact absurd hc hmem.2
          | some c =>
            have Hi := H.kp Fi (fun x _ _ z => by have := z.1; omega)
            obtain ⟨h6, e6, B6, F6⟩ := mt_8 w Hi hd Bi ok.1 (fun x c h => by have := ok.2 x c h; omega) hb hmem.1 hc hk
            have hnx : mm_bfs ρ k band (i + 1) = mm_row ρ k band s (mm_bfs ρ k band i) := by rw [mm_bfs, hq]
            obtain ⟨h', s1, s2, s3⟩ := ih (i + 1) h6 (by omega) (by rw [hnx]; exact B6) (Fi.tt F6)
            refine ⟨h', ?_, s2, s3⟩
            simp only [↓reduceIte, ↓mq_6_0, ↓mq_6_1, ↓mq_6_4, ↓mq_6_5, ↓mq_6_6, ↓mq_6_7, ↓mq_6_9, ↓mq_6_11, ↓mq_6_14, ↓mq_6_17, ↓mq_6_18, ↓mq_6_21, ↓mq_6_23, ↓mq_6_25, ↓mq_6_26, ↓mq_6_29, ↓mq_6_32, ↓mq_6_33, ↓mq_6_34, ↓mq_6_37, ↓mq_6_38, ↓mq_6_39, ↓mq_6_40, ↓mq_6_41, ↓mq_6_42, ↓mq_6_45, ↓mq_6_46, ↓mq_6_50, ↓mq_6_51, ↓mq_6_54, ↓mq_6_57, ↓mq_6_59, ↓mq_6_62, ↓mq_6_65, ↓mq_6_66, ↓mq_6_67, ↓mq_6_68, ↓mq_6_69, ↓mq_6_70, ↓mq_6_73, ↓mq_6_75, ↓mq_6_76, ↓mq_6_79, ↓mq_6_82, ↓mq_6_85, ↓mq_6_86, ↓mq_6_89, ↓mq_6_90, ↓mq_6_91, ↓mj_bs (mh_gf 2 Bi.1 rfl), mf_le hil, mf_le (show i < 128 by omega), ↓mj_bs (mh_gf 1 Bi.1 rfl), ↓mj_bs (g1.gt (show i < 128 by omega) (by omega)), g2 i s hq, mh_isC Bi.1, ↓mj_bs (e6), Option.toList, List.nil_append, mn_add]
            exact s1
        · have hend := mm_bfs_end (ρ := ρ) (k := k) (band := band) (i := i) (by omega) (128 - i)
          rw [show i + (128 - i) = 128 by omega] at hend
          rw [hend]
          refine ⟨hi, ?_, ⟨_, _, _, Bi.1, Bi.2.1, g1⟩, Fi⟩
          simp only [↓reduceIte, ↓mq_6_0, ↓mq_6_1, ↓mq_6_4, ↓mq_6_5, ↓mq_6_6, ↓mq_6_7, ↓mq_6_9, ↓mq_6_11, ↓mq_6_14, ↓mq_6_17, ↓mq_6_18, ↓mq_6_21, ↓mq_6_23, ↓mq_6_25, ↓mq_6_26, ↓mq_6_29, ↓mq_6_32, ↓mq_6_33, ↓mq_6_34, ↓mq_6_37, ↓mq_6_38, ↓mq_6_39, ↓mq_6_40, ↓mq_6_41, ↓mq_6_42, ↓mq_6_45, ↓mq_6_46, ↓mq_6_50, ↓mq_6_51, ↓mq_6_54, ↓mq_6_57, ↓mq_6_59, ↓mq_6_62, ↓mq_6_65, ↓mq_6_66, ↓mq_6_67, ↓mq_6_68, ↓mq_6_69, ↓mq_6_70, ↓mq_6_73, ↓mq_6_75, ↓mq_6_76, ↓mq_6_79, ↓mq_6_82, ↓mq_6_85, ↓mq_6_86, ↓mq_6_89, ↓mq_6_90, ↓mq_6_91, ↓mj_bs (mh_gf 2 Bi.1 rfl), mt_le (Nat.le_of_not_lt hil), ↓mj_bs (mh_gf 0 Bi.1 rfl), ↓mj_bs (Bi.2.1.gt (show 1 < 128 by omega) (by omega))]
    obtain ⟨h', s1, s2, s3⟩ := loop2 128 0 h3 (by omega) B3 FA
    refine ⟨h', ?_, s2, s3⟩
    rw [if_neg hb0, mc_6]
    simp only [↓reduceIte, ↓mq_6_0, ↓mq_6_1, ↓mq_6_4, ↓mq_6_5, ↓mq_6_6, ↓mq_6_7, ↓mq_6_11, ↓mq_6_14, ↓mq_6_17, ↓mq_6_18, ↓mq_6_21, ↓mq_6_23, ↓mq_6_25, ↓mq_6_26, ↓mq_6_29, ↓mq_6_33, ↓mq_6_34, ↓mq_6_37, ↓mq_6_38, ↓mq_6_39, ↓mq_6_40, ↓mq_6_41, ↓mq_6_42, ↓mq_6_45, ↓mq_6_46, ↓mq_6_50, ↓mq_6_51, ↓mq_6_54, ↓mq_6_57, ↓mq_6_59, ↓mq_6_62, ↓mq_6_65, ↓mq_6_66, ↓mq_6_67, ↓mq_6_68, ↓mq_6_69, ↓mq_6_70, ↓mq_6_73, ↓mq_6_75, ↓mq_6_76, ↓mq_6_79, ↓mq_6_82, ↓mq_6_85, ↓mq_6_86, ↓mq_6_89, ↓mq_6_90, ↓mq_6_91, mf_eq hb0]
    rw [r1]
    simp only [↓reduceIte, ↓mq_6_0, ↓mq_6_1, ↓mq_6_4, ↓mq_6_5, ↓mq_6_6, ↓mq_6_7, ↓mq_6_11, ↓mq_6_14, ↓mq_6_17, ↓mq_6_18, ↓mq_6_21, ↓mq_6_23, ↓mq_6_25, ↓mq_6_26, ↓mq_6_29, ↓mq_6_32, ↓mq_6_33, ↓mq_6_34, ↓mq_6_37, ↓mq_6_38, ↓mq_6_39, ↓mq_6_40, ↓mq_6_41, ↓mq_6_42, ↓mq_6_45, ↓mq_6_46, ↓mq_6_50, ↓mq_6_51, ↓mq_6_54, ↓mq_6_57, ↓mq_6_59, ↓mq_6_62, ↓mq_6_65, ↓mq_6_66, ↓mq_6_67, ↓mq_6_68, ↓mq_6_69, ↓mq_6_70, ↓mq_6_73, ↓mq_6_75, ↓mq_6_76, ↓mq_6_79, ↓mq_6_82, ↓mq_6_85, ↓mq_6_86, ↓mq_6_89, ↓mq_6_90, ↓mq_6_91, ↓mj_bs (mh_pf 2 (v := .int (nI 0)) o1 (by simp) rfl)]
    have step : ∀ X, (mj_up h1 f (.inr (1, ([.ref (f + 1), .ref (f + 2), .int cc] : List Value).set 2 (.int (nI 0))))) = X → X = mj_up h1 f (.inr (1, [.ref (f + 1), .ref (f + 2), .int (nI 0)])) := fun X e => e.symm
    generalize hX : mj_up h1 f (.inr (1, ([.ref (f + 1), .ref (f + 2), .int cc] : List Value).set 2 (.int (nI 0)))) = X
    have eX := step X hX
    clear hX step
    subst eX
    simp only [↓reduceIte, ↓mq_6_0, ↓mq_6_1, ↓mq_6_4, ↓mq_6_5, ↓mq_6_6, ↓mq_6_7, ↓mq_6_11, ↓mq_6_14, ↓mq_6_17, ↓mq_6_18, ↓mq_6_21, ↓mq_6_23, ↓mq_6_25, ↓mq_6_26, ↓mq_6_29, ↓mq_6_32, ↓mq_6_33, ↓mq_6_34, ↓mq_6_37, ↓mq_6_38, ↓mq_6_39, ↓mq_6_40, ↓mq_6_41, ↓mq_6_42, ↓mq_6_45, ↓mq_6_46, ↓mq_6_50, ↓mq_6_51, ↓mq_6_54, ↓mq_6_57, ↓mq_6_59, ↓mq_6_62, ↓mq_6_65, ↓mq_6_66, ↓mq_6_67, ↓mq_6_68, ↓mq_6_69, ↓mq_6_70, ↓mq_6_73, ↓mq_6_75, ↓mq_6_76, ↓mq_6_79, ↓mq_6_82, ↓mq_6_85, ↓mq_6_86, ↓mq_6_89, ↓mq_6_90, ↓mq_6_91, mn_shl1 _ hb, mh_isC B2.1, ↓mj_bs (e3), Option.toList, List.nil_append]
    exact s1
end
