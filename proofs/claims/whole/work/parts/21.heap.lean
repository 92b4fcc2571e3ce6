/-! what the store holds: rows, objects; what a run leaves as it was -/
def mj_bI (b : Bool) : Int32 := if b then nI 1 else nI 0
theorem mj_z0 {α : Type} {a b : α} : (if (nI 0 == 0 || nI 0 == 1) = true then a else b) = a := rfl
theorem mj_z1 {α : Type} {a b : α} : (if (nI 1 == 0 || nI 1 == 1) = true then a else b) = a := rfl
theorem mj_zb {α : Type} {a b : α} {c : Bool} : (if (mj_bI c == 0 || mj_bI c == 1) = true then a else b) = a := by cases c <;> rfl
theorem mj_b0 {c : Bool} : (mj_bI c = nI 0) = (c = false) := by
  cases c
  · exact propext ⟨fun _ => rfl, fun _ => rfl⟩
  · exact propext ⟨fun h => absurd h (by decide), fun h => by cases h⟩
theorem mx_lt {x y : Int32} : (x < y) = ¬ (y ≤ x) := propext mn_nle.symm
def mh_F (A : Nat → Prop) (h h' : mj_H) : Prop := h'.2 = h.2 ∧ ∀ k, ¬ A k → h'.1 k = h.1 k
theorem mh_F.rf {A : Nat → Prop} {h : mj_H} : mh_F A h h := ⟨rfl, fun _ _ => rfl⟩
theorem mh_F.tr {A B C : Nat → Prop} {h h1 h2 : mj_H} (a : mh_F A h h1) (b : mh_F B h1 h2) (hA : ∀ k, A k → C k) (hB : ∀ k, B k → C k) : mh_F C h h2 :=
  ⟨b.1.trans a.1, fun k hk => (b.2 k (fun z => hk (hB k z))).trans (a.2 k (fun z => hk (hA k z)))⟩
theorem mh_F.tt {A : Nat → Prop} {h h1 h2 : mj_H} (a : mh_F A h h1) (b : mh_F A h1 h2) : mh_F A h h2 := a.tr b (fun _ z => z) (fun _ z => z)
theorem mh_F.mo {A B : Nat → Prop} {h h' : mj_H} (a : mh_F A h h') (hAB : ∀ k, A k → B k) : mh_F B h h' := ⟨a.1, fun k hk => a.2 k (fun z => hk (hAB k z))⟩
theorem mh_gf {h : mj_H} {x c : Nat} {fs : List Value} (b : Nat) {v : Value} (H : h.1 x = some (.inr (c, fs))) (hv : fs[b]? = some v) : mj_gf h x c b = some v := by
  simp only [mj_gf, H, if_true, hv]
theorem mh_pf {h : mj_H} {x c : Nat} {fs : List Value} (b : Nat) {v : Value} (H : h.1 x = some (.inr (c, fs))) (hl : b < fs.length) (hv : mj_okv (mj_ft c b) v = true) : mj_pf h x c b v = some (mj_up h x (.inr (c, fs.set b v))) := by
  simp only [mj_pf, H]
  rw [if_pos ⟨trivial, hl, hv⟩]
theorem mh_isC {h : mj_H} {x c : Nat} {fs : List Value} (H : h.1 x = some (.inr (c, fs))) : mj_isC h x c = true := by simp [mj_isC, H]
theorem mh_uF {h : mj_H} {x : Nat} {e : mj_E} : mh_F (fun k => k = x) h (mj_up h x e) := ⟨rfl, fun k hk => if_neg hk⟩
theorem mh_ua {h : mj_H} {x : Nat} {e : mj_E} : (mj_up h x e).1 x = some e := if_pos rfl
/-- a row of n ints -/
def mh_ar (h : mj_H) (a n : Nat) (f : Nat → Int32) : Prop := ∃ l : List Int32, h.1 a = some (.inl (0, l)) ∧ l.length = n ∧ ∀ k, k < n → l[k]? = some (f k)
def mh_u {α : Type} (f : Nat → α) (i : Nat) (v : α) : Nat → α := fun k => if k = i then v else f k
theorem mh_u_at {α : Type} {f : Nat → α} {i : Nat} {v : α} : mh_u f i v i = v := if_pos rfl
theorem mh_u_ne {α : Type} {f : Nat → α} {i k : Nat} {v : α} (h : k ≠ i) : mh_u f i v k = f k := if_neg h
theorem mh_ar.kp {A : Nat → Prop} {h h' : mj_H} {a n : Nat} {f : Nat → Int32} (H : mh_ar h a n f) (F : mh_F A h h') (ha : ¬ A a) : mh_ar h' a n f := by
  obtain ⟨l, h1, h2⟩ := H
  exact ⟨l, (F.2 a ha).trans h1, h2⟩
theorem mh_ar.cg {h : mj_H} {a n : Nat} {f g : Nat → Int32} (H : mh_ar h a n f) (hfg : ∀ k, k < n → f k = g k) : mh_ar h a n g := by
  obtain ⟨l, h1, h2, h3⟩ := H
  exact ⟨l, h1, h2, fun k hk => by rw [h3 k hk, hfg k hk]⟩
theorem mh_ar.gt {h : mj_H} {a n k : Nat} {f : Nat → Int32} (H : mh_ar h a n f) (hk : k < n) (hn : n < 2 ^ 31) : mj_gi h a (nI k) = some (f k) := by
  obtain ⟨l, h1, h2, h3⟩ := H
  obtain ⟨i1, i2⟩ := mn_ix (show k < 2 ^ 31 by omega)
  simp only [mj_gi, h1]
  rw [if_pos ⟨by decide, i1⟩, i2]
  exact h3 k hk
theorem mh_ar.pt {h : mj_H} {a n k : Nat} {f : Nat → Int32} (H : mh_ar h a n f) (hk : k < n) (hn : n < 2 ^ 31) (v : Int32) : ∃ h', mj_pi h a (nI k) v = some h' ∧ mh_ar h' a n (mh_u f k v) ∧ mh_F (fun q => q = a) h h' := by
  obtain ⟨l, h1, h2, h3⟩ := H
  obtain ⟨i1, i2⟩ := mn_ix (show k < 2 ^ 31 by omega)
  refine ⟨mj_up h a (.inl (0, l.set k v)), ?_, ⟨l.set k v, mh_ua, by rw [List.length_set]; exact h2, fun j hj => ?_⟩, mh_uF⟩
  · simp only [mj_pi, h1]
    rw [if_pos ⟨trivial, i1, by rw [i2]; omega⟩, i2]
  · by_cases e : j = k
    · subst e
      rw [List.getElem?_set_self (by omega), mh_u_at]
    · rw [List.getElem?_set_ne (fun z => e z.symm), mh_u_ne e]
      exact h3 j hj
theorem mh_ar.ln {h : mj_H} {a n : Nat} {f : Nat → Int32} (H : mh_ar h a n f) : mj_al h a = some (nI n) := by
  obtain ⟨l, h1, h2, h3⟩ := H
  simp only [mj_al, h1, h2]
  rfl
/-- a row of which some places are known -/
def mh_ap (h : mj_H) (a n : Nat) (P : Nat → Prop) (X : Nat → Nat) : Prop := ∃ f, mh_ar h a n f ∧ ∀ k, k < n → P k → f k = nI (X k)
theorem mh_ap.kp {A : Nat → Prop} {h h' : mj_H} {a n : Nat} {P : Nat → Prop} {X : Nat → Nat} (H : mh_ap h a n P X) (F : mh_F A h h') (ha : ¬ A a) : mh_ap h' a n P X := by
  obtain ⟨f, h1, h2⟩ := H
  exact ⟨f, h1.kp F ha, h2⟩
theorem mh_ap.gt {h : mj_H} {a n k : Nat} {P : Nat → Prop} {X : Nat → Nat} (H : mh_ap h a n P X) (hk : k < n) (hP : P k) (hn : n < 2 ^ 31 := by omega) : mj_gi h a (nI k) = some (nI (X k)) := by
  obtain ⟨f, h1, h2⟩ := H
  rw [h1.gt hk hn, h2 k hk hP]
theorem mh_ap.pt {h : mj_H} {a n k : Nat} {P P' : Nat → Prop} {X X' : Nat → Nat} (H : mh_ap h a n P X) (hk : k < n) (v : Nat) (hP : ∀ j, j < n → P' j → (j = k ∧ X' j = v) ∨ (j ≠ k ∧ P j ∧ X' j = X j)) (hn : n < 2 ^ 31 := by omega) : ∃ h', mj_pi h a (nI k) (nI v) = some h' ∧ mh_ap h' a n P' X' ∧ mh_F (fun q => q = a) h h' := by
  obtain ⟨f, h1, h2⟩ := H
  obtain ⟨h', e1, e2, e3⟩ := h1.pt hk hn (nI v)
  refine ⟨h', e1, ⟨_, e2, fun j hj hp => ?_⟩, e3⟩
  rcases hP j hj hp with ⟨rfl, z⟩ | ⟨z1, z2, z3⟩
  · rw [mh_u_at, z]
  · rw [mh_u_ne z1, h2 j hj z2, z3]
theorem mh_ap.mo {h : mj_H} {a n : Nat} {P P' : Nat → Prop} {X X' : Nat → Nat} (H : mh_ap h a n P X) (hP : ∀ j, j < n → P' j → P j ∧ X' j = X j) : mh_ap h a n P' X' := by
  obtain ⟨f, h1, h2⟩ := H
  exact ⟨f, h1, fun k hk hp => by rw [h2 k hk (hP k hk hp).1, (hP k hk hp).2]⟩
theorem mh_ap.of {h : mj_H} {a n : Nat} {f : Nat → Int32} {P : Nat → Prop} {X : Nat → Nat} (H : mh_ar h a n f) (hP : ∀ k, k < n → P k → f k = nI (X k)) : mh_ap h a n P X := ⟨f, H, hP⟩
/-! the road: (dumplings, beasts, gates, kind, price, strength, skill, enemies, a gate's skill, its strength) -/
abbrev mm_Ro : Type := Nat × Nat × Nat × (Nat → Nat) × (Nat → Nat) × (Nat → Nat) × (Nat → Nat) × (Nat → Nat) × (Nat → Nat) × (Nat → Nat)
def mr_D (r : mm_Ro) : Nat := r.1
def mr_n (r : mm_Ro) : Nat := r.2.1
def mr_g (r : mm_Ro) : Nat := r.2.2.1
def mr_K (r : mm_Ro) : Nat → Nat := r.2.2.2.1
def mr_P (r : mm_Ro) : Nat → Nat := r.2.2.2.2.1
def mr_S (r : mm_Ro) : Nat → Nat := r.2.2.2.2.2.1
def mr_W (r : mm_Ro) : Nat → Nat := r.2.2.2.2.2.2.1
def mr_E (r : mm_Ro) : Nat → Nat := r.2.2.2.2.2.2.2.1
def mr_gS (r : mm_Ro) : Nat → Nat := r.2.2.2.2.2.2.2.2.1
def mr_gW (r : mm_Ro) : Nat → Nat := r.2.2.2.2.2.2.2.2.2
def mw_R (ρ : mm_Ro) : Prop := mr_n ρ ≤ 6 ∧ mr_g ρ ≤ 3 ∧ mr_D ρ ≤ 99 ∧ (∀ k, k < mr_n ρ → mr_K ρ k ≤ 3 ∧ 1 ≤ mr_P ρ k ∧ mr_P ρ k ≤ 9 ∧ 1 ≤ mr_S ρ k ∧ mr_S ρ k ≤ 9 ∧ mr_W ρ k ≤ 3 ∧ mr_E ρ k < 2 ^ mr_n ρ ∧ (mr_E ρ k).testBit k = false) ∧ ∀ k, k < mr_g ρ → mr_gS ρ k ≤ 3 ∧ mr_gW ρ k ≤ 54
/-- the march: (pouch, band, day, next, opened, given) -/
abbrev mm_Ma : Type := Nat × Nat × Nat × Nat × Nat × (Nat → Nat)
def ma_p (m : mm_Ma) : Nat := m.1
def ma_b (m : mm_Ma) : Nat := m.2.1
def ma_d (m : mm_Ma) : Nat := m.2.2.1
def ma_n (m : mm_Ma) : Nat := m.2.2.2.1
def ma_o (m : mm_Ma) : Nat := m.2.2.2.2.1
def ma_g (m : mm_Ma) : Nat → Nat := m.2.2.2.2.2
def mw_M (ρ : mm_Ro) (μ : mm_Ma) : Prop := ma_p μ ≤ 99 ∧ ma_b μ < 2 ^ mr_n ρ ∧ ma_n μ ≤ mr_n ρ ∧ ma_o μ ≤ mr_g ρ ∧ ∀ k, k < 6 → (ma_b μ).testBit k = true → ma_g μ k ≤ 99
/-! the class's road and march in the store -/
def mh_Ro (h : mj_H) (r : Nat) (ρ : mm_Ro) : Prop := h.1 r = some (.inr (3, [.int (nI (mr_D ρ)), .int (nI (mr_n ρ)), .int (nI (mr_g ρ)), .ref (r + 1), .ref (r + 2), .ref (r + 3), .ref (r + 4), .ref (r + 5), .ref (r + 6), .ref (r + 7)])) ∧
  mh_ap h (r + 1) 6 (fun k => k < mr_n ρ) (mr_K ρ) ∧ mh_ap h (r + 2) 6 (fun k => k < mr_n ρ) (mr_P ρ) ∧ mh_ap h (r + 3) 6 (fun k => k < mr_n ρ) (mr_S ρ) ∧ mh_ap h (r + 4) 6 (fun k => k < mr_n ρ) (mr_W ρ) ∧ mh_ap h (r + 5) 6 (fun k => k < mr_n ρ) (mr_E ρ) ∧
  mh_ap h (r + 6) 3 (fun k => k < mr_g ρ) (mr_gS ρ) ∧ mh_ap h (r + 7) 3 (fun k => k < mr_g ρ) (mr_gW ρ)
theorem mh_Ro.kp {A : Nat → Prop} {h h' : mj_H} {r : Nat} {ρ : mm_Ro} (H : mh_Ro h r ρ) (F : mh_F A h h') (hA : ∀ k, r ≤ k → k ≤ r + 7 → ¬ A k) : mh_Ro h' r ρ := by
  obtain ⟨h1, h2, h3, h4, h5, h6, h7, h8⟩ := H
  exact ⟨(F.2 r (hA r (by omega) (by omega))).trans h1, h2.kp F (hA _ (by omega) (by omega)), h3.kp F (hA _ (by omega) (by omega)), h4.kp F (hA _ (by omega) (by omega)), h5.kp F (hA _ (by omega) (by omega)), h6.kp F (hA _ (by omega) (by omega)), h7.kp F (hA _ (by omega) (by omega)), h8.kp F (hA _ (by omega) (by omega))⟩
def mh_Ma (h : mj_H) (m r : Nat) (μ : mm_Ma) : Prop := h.1 m = some (.inr (2, [.ref r, .int (nI (ma_p μ)), .int (nI (ma_b μ)), .int (nI (ma_d μ)), .int (nI (ma_n μ)), .int (nI (ma_o μ)), .ref (m + 1)])) ∧ mh_ap h (m + 1) 6 (fun k => (ma_b μ).testBit k = true) (ma_g μ)
theorem mh_Ma.kp {A : Nat → Prop} {h h' : mj_H} {m r : Nat} {μ : mm_Ma} (H : mh_Ma h m r μ) (F : mh_F A h h') (h0 : ¬ A m) (h1 : ¬ A (m + 1)) : mh_Ma h' m r μ := ⟨(F.2 m h0).trans H.1, H.2.kp F h1⟩
theorem mf_le {a b : Nat} (h : b < a) (ha : a < 2 ^ 31 := by omega) : (nI a ≤ nI b) = False := eq_false (nI_ge h ha)
theorem mt_le {a b : Nat} (h : a ≤ b) (hb : b < 2 ^ 31 := by omega) : (nI a ≤ nI b) = True := eq_true (nI_le h hb)
theorem mf_lt {a b : Nat} (h : b ≤ a) (ha : a < 2 ^ 31 := by omega) : (nI a < nI b) = False := eq_false (nI_nlt h ha)
theorem mt_lt {a b : Nat} (h : a < b) (hb : b < 2 ^ 31 := by omega) : (nI a < nI b) = True := eq_true (nI_lt h hb)
theorem mf_eq {a b : Nat} (h : a ≠ b) (ha : a < 2 ^ 31 := by omega) (hb : b < 2 ^ 31 := by omega) : (nI a = nI b) = False := eq_false (fun z => h ((mn_eq ha hb).mp z))
theorem mt_eq {a b : Nat} (h : a = b) : (nI a = nI b) = True := eq_true (by rw [h])
theorem mn_bb {s k : Nat} (hs : s < 64) (hk : k < 6) : (nI (s &&& 2 ^ k) = nI 0) = (s.testBit k = false) := propext (mn_b0 s hs k hk)
/-! sums over a set -/
def mm_sum (X : Nat → Nat) (s : Nat) : Nat → Nat
  | 0 => 0
  | k + 1 => mm_sum X s k + (if s.testBit k = true then X k else 0)
def mm_or (X : Nat → Nat) (s : Nat) : Nat → Nat
  | 0 => 0
  | k + 1 => mm_or X s k ||| (if s.testBit k = true then X k else 0)
theorem mm_sum_le {X : Nat → Nat} {s c : Nat} : ∀ n, (∀ k, k < n → X k ≤ c) → mm_sum X s n ≤ n * c := by
  intro n
  induction n with
  | zero => intro _; exact Nat.zero_le _
  | succ n ih =>
    intro h
    have h1 := ih (fun k hk => h k (by omega))
    have h2 := h n (by omega)
    simp only [mm_sum, Nat.succ_mul]
    split <;> omega
theorem mm_or_lt {X : Nat → Nat} {s j : Nat} : ∀ n, (∀ k, k < n → X k < 2 ^ j) → mm_or X s n < 2 ^ j := by
  intro n
  induction n with
  | zero => intro _; exact Nat.two_pow_pos j
  | succ n ih =>
    intro h
    have h1 := ih (fun k hk => h k (by omega))
    have h2 := h n (by omega)
    simp only [mm_or]
    refine Nat.or_lt_two_pow h1 ?_
    split
    · exact h2
    · exact Nat.two_pow_pos j
