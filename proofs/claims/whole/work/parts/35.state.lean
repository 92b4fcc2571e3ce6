/-! ONE STATE FOR THE CLASS AND FOR THE REFERENCE -/
/-- (text, road, march, acts, kept, tales, seed) -/
abbrev mm_St : Type := List Nat × mm_Ro × mm_Ma × List mm_Ma × (Nat → Option mm_Ma) × List (Nat × Bool) × Int64
def ms_t (S : mm_St) : List Nat := S.1
def ms_r (S : mm_St) : mm_Ro := S.2.1
def ms_m (S : mm_St) : mm_Ma := S.2.2.1
def ms_a (S : mm_St) : List mm_Ma := S.2.2.2.1
def ms_k (S : mm_St) : Nat → Option mm_Ma := S.2.2.2.2.1
def ms_s (S : mm_St) : List (Nat × Bool) := S.2.2.2.2.2.1
def ms_g (S : mm_St) : Int64 := S.2.2.2.2.2.2
def mw_S (S : mm_St) : Prop := (ms_t S).length ≤ 64 ∧ (∀ c ∈ ms_t S, c < 256) ∧ mw_R (ms_r S) ∧ mw_M (ms_r S) (ms_m S) ∧ (∀ μ ∈ ms_a S, mw_M (ms_r S) μ) ∧ (ms_a S).length ≤ 14 ∧ (∀ k μ, ms_k S k = some μ → mw_M (ms_r S) μ) ∧ (ms_s S).length ≤ 6 ∧ ∀ x ∈ ms_s S, x.1 < 6
def mm_mask (l : List (Nat × Bool)) (b : Bool) : Nat := l.foldl (fun m x => if x.2 = b then mm_add m x.1 else m) 0
def mh_kp (h : mj_H) (a : Nat) (o : Option mm_Ma) : Prop := ∃ μ, mh_Ma h a 4 μ ∧ ∀ ν, o = some ν → μ = ν
def mj_bs2 (k : Nat → Option mm_Ma) : List Int32 := [mj_bI (k 0).isSome, mj_bI (k 1).isSome]
def mh_JC (S : mm_St) (h : mj_H) : Prop := h.1 1 = some (.inr (6, [.ref 2, .ref 4, .ref 12, .ref 20, .ref 22, .ref 24, .ref 54, .ref 55, .ref 56, .ref 59, .int (nI (ms_s S).length), .int (nI (mm_mask (ms_s S) true)), .int (nI (mm_mask (ms_s S) false)), .long (ms_g S)])) ∧
  (∃ pl sp, mh_Sc h 2 (ms_t S) pl sp) ∧ mh_Ro h 4 (ms_r S) ∧ (∃ ρ, mh_Ro h 12 ρ) ∧ mh_Ma h 20 4 (ms_m S) ∧ (∃ μ, mh_Ma h 22 4 μ) ∧ mh_Ac h 24 4 (ms_a S) ∧ h.1 54 = some (.inr (99, (List.range 2).map (fun k => .ref (61 + 2 * k)))) ∧ h.1 55 = some (.inl (1, mj_bs2 (ms_k S))) ∧ mh_Fe0 h 56 ∧ (∃ f, mh_Rw h 59 f) ∧ mh_kp h 61 (ms_k S 0) ∧ mh_kp h 63 (ms_k S 1)
def mh_bk (h : mj_H) (l : List mm_Ma) : Prop := ∃ f, mh_ar h 75 154 f ∧ ∀ (k : Nat) (μ : mm_Ma), l[k]? = some μ → ∀ j, j < 11 → mm_pgP μ j → f (11 * k + j) = nI (mm_pgX μ j)
def mh_kt (h : mj_H) (o : Nat → Option mm_Ma) : Prop := ∃ f, mh_ar h 76 22 f ∧ ∀ (k : Nat) (μ : mm_Ma), k < 2 → o k = some μ → ∀ j, j < 11 → mm_pgP μ j → f (11 * k + j) = nI (mm_pgX μ j)
def mh_tw (h : mj_H) (l : List (Nat × Bool)) : Prop := mh_ap h 78 6 (fun k => k < l.length) (fun k => (l.getD k (0, false)).1) ∧ ∃ z : List Int32, h.1 79 = some (.inl (1, z)) ∧ z.length = 6 ∧ ∀ (k : Nat) (x : Nat × Bool), l[k]? = some x → z[k]? = some (mj_bI x.2)
def mh_ro (h : mj_H) (S : mm_St) : Prop := ∃ pl rb rg rp : Int32, h.1 65 = some (.inr (7, mr_fs (nI (ms_t S).length) pl (nI (mr_n (ms_r S))) (nI (mr_g (ms_r S))) rb rg rp (nI (ms_a S).length) (nI (ms_s S).length) (ms_g S)))
def mh_any (h : mj_H) (a n : Nat) : Prop := ∃ f, mh_ar h a n f
def mh_JR (S : mm_St) (h : mj_H) : Prop := mh_ro h S ∧ mh_ap h 66 64 (fun k => k < (ms_t S).length) (fun k => (ms_t S).getD k 0) ∧ (mh_ap h 67 24 (fun k => k < 4 * mr_n (ms_r S)) (mr_told (ms_r S)) ∧ mh_ap h 68 6 (fun k => k < mr_n (ms_r S)) (mr_E (ms_r S)) ∧ mh_ap h 69 6 (fun k => k < 2 * mr_g (ms_r S)) (mr_want (ms_r S))) ∧ (mh_any h 70 24 ∧ mh_any h 71 6 ∧ mh_any h 72 6) ∧ mh_pg h 73 (ms_m S) ∧ mh_any h 74 11 ∧ mh_bk h (ms_a S) ∧ mh_kt h (ms_k S) ∧ h.1 77 = some (.inl (1, mj_bs2 (ms_k S))) ∧ mh_tw h (ms_s S) ∧ mh_any h 80 128 ∧ mh_any h 81 128 ∧ mh_any h 82 6
def mh_J (S : mm_St) (h : mj_H) : Prop := mw_S S ∧ mh_JC S h ∧ mh_JR S h
theorem mh_any.kp {A : Nat → Prop} {h h' : mj_H} {a n : Nat} (H : mh_any h a n) (F : mh_F A h h') (ha : ¬ A a) : mh_any h' a n := by
  obtain ⟨f, H⟩ := H
  exact ⟨f, H.kp F ha⟩
theorem mh_kp.kp {A : Nat → Prop} {h h' : mj_H} {a : Nat} {o : Option mm_Ma} (H : mh_kp h a o) (F : mh_F A h h') (h0 : ¬ A a) (h1 : ¬ A (a + 1)) : mh_kp h' a o := by
  obtain ⟨μ, M, e⟩ := H
  exact ⟨μ, M.kp F h0 h1, e⟩
theorem mh_bk.kp {A : Nat → Prop} {h h' : mj_H} {l : List mm_Ma} (H : mh_bk h l) (F : mh_F A h h') (ha : ¬ A 75) : mh_bk h' l := by
  obtain ⟨f, M, e⟩ := H
  exact ⟨f, M.kp F ha, e⟩
theorem mh_kt.kp {A : Nat → Prop} {h h' : mj_H} {o : Nat → Option mm_Ma} (H : mh_kt h o) (F : mh_F A h h') (ha : ¬ A 76) : mh_kt h' o := by
  obtain ⟨f, M, e⟩ := H
  exact ⟨f, M.kp F ha, e⟩
theorem mh_tw.kp {A : Nat → Prop} {h h' : mj_H} {l : List (Nat × Bool)} (H : mh_tw h l) (F : mh_F A h h') (h0 : ¬ A 78) (h1 : ¬ A 79) : mh_tw h' l := by
  obtain ⟨M, z, e1, e2⟩ := H
  exact ⟨M.kp F h0, z, (F.2 79 h1).trans e1, e2⟩
theorem mh_ro.kp {A : Nat → Prop} {h h' : mj_H} {S : mm_St} (H : mh_ro h S) (F : mh_F A h h') (h0 : ¬ A 65) : mh_ro h' S := by
  obtain ⟨pl, rb, rg, rp, e⟩ := H
  exact ⟨pl, rb, rg, rp, (F.2 65 h0).trans e⟩
theorem mh_Fe0.kp {A : Nat → Prop} {h h' : mj_H} {f : Nat} (H : mh_Fe0 h f) (F : mh_F A h h') (h0 : ¬ A f) (h1 : ¬ A (f + 1)) (h2 : ¬ A (f + 2)) : mh_Fe0 h' f := by
  obtain ⟨c, t, q, e1, e2, e3⟩ := H
  exact ⟨c, t, q, (F.2 f h0).trans e1, e2.kp F h1, e3.kp F h2⟩
theorem mh_Rw.kp {A : Nat → Prop} {h h' : mj_H} {y : Nat} {f : Nat → Int32} (H : mh_Rw h y f) (F : mh_F A h h') (h0 : ¬ A y) (h1 : ¬ A (y + 1)) : mh_Rw h' y f := ⟨(F.2 y h0).trans H.1, H.2.kp F h1⟩
section
variable {S : mm_St} {h h' : mj_H} {A : Nat → Prop}
theorem mh_JC.kp (H : mh_JC S h) (F : mh_F A h h') (hA : ∀ k, 1 ≤ k → k ≤ 64 → ¬ A k) : mh_JC S h' := by
  obtain ⟨h1, ⟨pl, sp, h2⟩, h3, ⟨ρ', h4⟩, h5, ⟨μ', h6⟩, h7, h8, h9, h10, ⟨f, h11⟩, h12, h13⟩ := H
  exact ⟨(F.2 1 (hA 1 (by omega) (by omega))).trans h1, ⟨pl, sp, h2.kp F (hA _ (by omega) (by omega)) (hA _ (by omega) (by omega))⟩, h3.kp F (fun k a b => hA k (by omega) (by omega)), ⟨ρ', h4.kp F (fun k a b => hA k (by omega) (by omega))⟩, h5.kp F (hA _ (by omega) (by omega)) (hA _ (by omega) (by omega)), ⟨μ', h6.kp F (hA _ (by omega) (by omega)) (hA _ (by omega) (by omega))⟩, h7.kp F (fun k a b => hA k (by omega) (by omega)), (F.2 54 (hA _ (by omega) (by omega))).trans h8, (F.2 55 (hA _ (by omega) (by omega))).trans h9, h10.kp F (hA _ (by omega) (by omega)) (hA _ (by omega) (by omega)) (hA _ (by omega) (by omega)), ⟨f, h11.kp F (hA _ (by omega) (by omega)) (hA _ (by omega) (by omega))⟩, h12.kp F (hA _ (by omega) (by omega)) (hA _ (by omega) (by omega)), h13.kp F (hA _ (by omega) (by omega)) (hA _ (by omega) (by omega))⟩
theorem mh_JR.kp (H : mh_JR S h) (F : mh_F A h h') (hA : ∀ k, 65 ≤ k → ¬ A k) : mh_JR S h' := by
  obtain ⟨h1, h2, ⟨h3, h4, h5⟩, ⟨h6, h7, h8⟩, h9, h10, h11, h12, h13, h14, h15, h16, h17⟩ := H
  exact ⟨h1.kp F (hA _ (by omega)), h2.kp F (hA _ (by omega)), ⟨h3.kp F (hA _ (by omega)), h4.kp F (hA _ (by omega)), h5.kp F (hA _ (by omega))⟩, ⟨h6.kp F (hA _ (by omega)), h7.kp F (hA _ (by omega)), h8.kp F (hA _ (by omega))⟩, h9.kp F (hA _ (by omega)), h10.kp F (hA _ (by omega)), h11.kp F (hA _ (by omega)), h12.kp F (hA _ (by omega)), (F.2 77 (hA _ (by omega))).trans h13, h14.kp F (hA _ (by omega)) (hA _ (by omega)), h15.kp F (hA _ (by omega)), h16.kp F (hA _ (by omega)), h17.kp F (hA _ (by omega))⟩
theorem mh_JR.rr (H : mh_JR S h) : mh_RR h (ms_r S) := by
  obtain ⟨⟨pl, rb, rg, rp, e⟩, h2, h3, h4⟩ := H
  exact ⟨⟨_, _, _, _, _, _, _, _, e⟩, h3⟩
theorem mh_JR.pg (H : mh_JR S h) : mh_pg h 73 (ms_m S) := H.2.2.2.2.1
/-- only the trial changed -/
theorem mh_JR.tr (H : mh_JR S h) (F : mh_F (fun k => k = 74) h h') (T : mh_any h' 74 11) : mh_JR S h' := by
  obtain ⟨h1, h2, ⟨h3, h4, h5⟩, ⟨h6, h7, h8⟩, h9, h10, h11, h12, h13, h14, h15, h16, h17⟩ := H
  exact ⟨h1.kp F (by omega), h2.kp F (by omega), ⟨h3.kp F (by omega), h4.kp F (by omega), h5.kp F (by omega)⟩, ⟨h6.kp F (by omega), h7.kp F (by omega), h8.kp F (by omega)⟩, h9.kp F (by omega), T, h11.kp F (by omega), h12.kp F (by omega), (F.2 77 (by omega)).trans h13, h14.kp F (by omega) (by omega), h15.kp F (by omega), h16.kp F (by omega), h17.kp F (by omega)⟩
theorem mh_JC.tr (H : mh_JC S h) (F : mh_F (mh_A 22 23) h h') {μ : mm_Ma} (T : mh_Ma h' 22 4 μ) : mh_JC S h' := by
  have no : ∀ k, ¬ (22 ≤ k ∧ k ≤ 23) → ¬ mh_A 22 23 k := fun k z => z
  obtain ⟨h1, ⟨pl, sp, h2⟩, h3, ⟨ρ', h4⟩, h5, -, h7, h8, h9, h10, ⟨f, h11⟩, h12, h13⟩ := H
  exact ⟨(F.2 1 (no _ (by omega))).trans h1, ⟨pl, sp, h2.kp F (no _ (by omega)) (no _ (by omega))⟩, h3.kp F (fun k a b => no _ (by omega)), ⟨ρ', h4.kp F (fun k a b => no _ (by omega))⟩, h5.kp F (no _ (by omega)) (no _ (by omega)), ⟨μ, T⟩, h7.kp F (fun k a b => no _ (by omega)), (F.2 54 (no _ (by omega))).trans h8, (F.2 55 (no _ (by omega))).trans h9, h10.kp F (no _ (by omega)) (no _ (by omega)) (no _ (by omega)), ⟨f, h11.kp F (no _ (by omega)) (no _ (by omega))⟩, h12.kp F (no _ (by omega)) (no _ (by omega)), h13.kp F (no _ (by omega)) (no _ (by omega))⟩
/-- only march, trial and the acts changed -/
theorem mh_JC.ma (H : mh_JC S h) (F : mh_F (mh_A 20 53) h h') {μ ν : mm_Ma} {l : List mm_Ma} (M : mh_Ma h' 20 4 μ) (T : mh_Ma h' 22 4 ν) (L : mh_Ac h' 24 4 l) : mh_JC (ms_t S, ms_r S, μ, l, ms_k S, ms_s S, ms_g S) h' := by
  have no : ∀ k, ¬ (20 ≤ k ∧ k ≤ 53) → ¬ mh_A 20 53 k := fun k z => z
  obtain ⟨h1, ⟨pl, sp, h2⟩, h3, ⟨ρ', h4⟩, h5, -, h7, h8, h9, h10, ⟨f, h11⟩, h12, h13⟩ := H
  exact ⟨(F.2 1 (no _ (by omega))).trans h1, ⟨pl, sp, h2.kp F (no _ (by omega)) (no _ (by omega))⟩, h3.kp F (fun k a b => no _ (by omega)), ⟨ρ', h4.kp F (fun k a b => no _ (by omega))⟩, M, ⟨ν, T⟩, L, (F.2 54 (no _ (by omega))).trans h8, (F.2 55 (no _ (by omega))).trans h9, h10.kp F (no _ (by omega)) (no _ (by omega)) (no _ (by omega)), ⟨f, h11.kp F (no _ (by omega)) (no _ (by omega))⟩, h12.kp F (no _ (by omega)) (no _ (by omega)), h13.kp F (no _ (by omega)) (no _ (by omega))⟩
/-- one command does for both -/
def mh_op (c r : Nat) (as : List Value) (h : mj_H) : Prop := ∃ v h1 S' h2, mj_C c (.ref 1 :: as) h = some (some v, h1) ∧ mj_C r (.ref 65 :: as) h1 = some (some v, h2) ∧ mh_J S' h2 ∧ mh_F (fun k => 1 ≤ k) h h2 ∧ mh_F (mh_A 1 64) h h1
theorem mh_opI {c r : Nat} {as : List Value} {v : Value} {S' : mm_St} (J : mh_J S h) {h1 : mj_H} (w : mw_S S') (e1 : mj_C c (.ref 1 :: as) h = some (some v, h1)) (F1 : mh_F (mh_A 1 64) h h1) (C1 : mh_JC S' h1) (hr : mh_JR S h1 → ∃ h2, mj_C r (.ref 65 :: as) h1 = some (some v, h2) ∧ mh_JR S' h2 ∧ mh_F (fun k => 65 ≤ k) h1 h2) : mh_op c r as h := by
  obtain ⟨h2, r1, r2, r3⟩ := hr (J.2.2.kp F1 (fun k hk z => by have := z.2; omega))
  exact ⟨v, h1, S', h2, e1, r1, ⟨w, C1.kp r3 (fun k a b z => by omega), r2⟩, (F1.mo (fun k z => z.1)).tt (r3.mo (fun k z => by omega)), F1⟩
/-- a question that changes nothing -/
theorem mh_opQ {c r : Nat} {as : List Value} {v : Value} (J : mh_J S h) (e1 : mj_C c (.ref 1 :: as) h = some (some v, h)) (e2 : mj_C r (.ref 65 :: as) h = some (some v, h)) : mh_op c r as h := ⟨v, h, S, h, e1, e2, J, mh_F.rf, mh_F.rf⟩
theorem mj_bs2_gz {x : Nat} {k : Nat → Option mm_Ma} (H : h.1 x = some (.inl (1, mj_bs2 k))) {j : Nat} (hj : j < 2) : mj_gz h x (nI j) = some (mj_bI (k j).isSome) := by
  obtain ⟨i1, i2⟩ := mn_ix (show j < 2 ^ 31 by omega)
  simp only [mj_gz, H]
  rw [if_pos ⟨trivial, i1⟩, i2]
  rcases (show j = 0 ∨ j = 1 by omega) with e | e <;> subst e <;> rfl
theorem mj_bs2_pz {x : Nat} {k k' : Nat → Option mm_Ma} (H : h.1 x = some (.inl (1, mj_bs2 k))) {j : Nat} (hj : j < 2) {b : Bool} (hb : (k' j).isSome = b) (ho : ∀ i, i ≠ j → (k' i).isSome = (k i).isSome) : ∃ h', mj_pz h x (nI j) (mj_bI b) = some h' ∧ h'.1 x = some (.inl (1, mj_bs2 k')) ∧ mh_F (fun q => q = x) h h' := by
  obtain ⟨i1, i2⟩ := mn_ix (show j < 2 ^ 31 by omega)
  refine ⟨mj_up h x (.inl (1, mj_bs2 k')), ?_, mh_ua, mh_uF⟩
  simp only [mj_pz, H]
  rw [if_pos ⟨trivial, i1, by rw [i2]; exact hj, by cases b <;> rfl⟩, i2]
  congr 4
  rcases (show j = 0 ∨ j = 1 by omega) with e | e
  · subst e
    show [mj_bI b, mj_bI (k 1).isSome] = [mj_bI (k' 0).isSome, mj_bI (k' 1).isSome]
    rw [hb, ho 1 (by omega)]
  · subst e
    show [mj_bI (k 0).isSome, mj_bI b] = [mj_bI (k' 0).isSome, mj_bI (k' 1).isSome]
    rw [hb, ho 0 (by omega)]
end
/-! the reference's book -/
section
variable {S : mm_St} {h : mj_H}
theorem mt_126 (H : mh_JR S h) (hl : (ms_a S).length ≤ 14) : ∃ h', mj_C 126 [.ref 65] h = some (none, h') ∧ mh_JR (ms_t S, ms_r S, ms_m S, mm_rem (ms_a S) (ms_m S), ms_k S, ms_s S, ms_g S) h' ∧ mh_F (fun k => k = 65 ∨ k = 75) h h' := by
  obtain ⟨⟨pl, rb, rg, rp, o⟩, h2, ⟨h3, h4, h5⟩, ⟨h6, h7, h8⟩, G, h10, ⟨fb, B1, B2⟩, h12, h13, h14, h15, h16, h17⟩ := H
  -- from the second loop on
  have two : ∀ (l : List mm_Ma) (hk : mj_H) (f : Nat → Int32) (l1 : Value), l.length < 14 → hk.1 65 = some (.inr (7, mr_fs (nI (ms_t S).length) pl (nI (mr_n (ms_r S))) (nI (mr_g (ms_r S))) rb rg rp (nI l.length) (nI (ms_s S).length) (ms_g S))) → mh_ar hk 75 154 f → (∀ (k : Nat) (μ : mm_Ma), l[k]? = some μ → ∀ j, j < 11 → mm_pgP μ j → f (11 * k + j) = nI (mm_pgX μ j)) → mh_F (fun k => k = 65 ∨ k = 75) h hk → ∃ h', mj_R 126 (49, [.ref 65, l1], [], hk) = some (none, h') ∧ (h'.1 65 = some (.inr (7, mr_fs (nI (ms_t S).length) pl (nI (mr_n (ms_r S))) (nI (mr_g (ms_r S))) rb rg rp (nI (l.length + 1)) (nI (ms_s S).length) (ms_g S)))) ∧ mh_bk h' (l ++ [ms_m S]) ∧ mh_F (fun k => k = 65 ∨ k = 75) h h' := by
    intro l hk f l1 hl14 ok ar hf hF
    obtain ⟨fp, G1, G2⟩ := G
    have loop : ∀ d i hi fi, i + d = 11 → mh_ar hi 75 154 fi → (∀ j, j < 11 * l.length → fi j = f j) → (∀ j, j < i → fi (11 * l.length + j) = fp j) → mh_F (fun x => x = 75) hk hi → ∃ h', mj_R 126 (51, [.ref 65, .int (nI i)], [], hi) = some (none, h') ∧ (h'.1 65 = some (.inr (7, mr_fs (nI (ms_t S).length) pl (nI (mr_n (ms_r S))) (nI (mr_g (ms_r S))) rb rg rp (nI (l.length + 1)) (nI (ms_s S).length) (ms_g S)))) ∧ mh_bk h' (l ++ [ms_m S]) ∧ mh_F (fun k => k = 65 ∨ k = 75) h h' := by
      intro d
      induction d with
      | zero =>
        intro i hi fi hid ai hfi hfp hFi
        obtain rfl : i = 11 := by omega
        have oi := (hFi.2 65 (by omega)).trans ok
        have F9 : mh_F (fun k => k = 65) hi (mj_up hi 65 (.inr (7, mr_fs (nI (ms_t S).length) pl (nI (mr_n (ms_r S))) (nI (mr_g (ms_r S))) rb rg rp (nI (l.length + 1)) (nI (ms_s S).length) (ms_g S)))) := mh_uF
        refine ⟨_, ?_, mh_ua, ⟨fi, ai.kp F9 (by omega), fun k μ hkm j hj hP => ?_⟩, (hF.tt (hFi.mo (fun k z => Or.inr z))).tt (F9.mo (fun k z => Or.inl z))⟩
        · simp only [↓reduceIte, ↓mq_126_0, ↓mq_126_1, ↓mq_126_4, ↓mq_126_6, ↓mq_126_9, ↓mq_126_10, ↓mq_126_11, ↓mq_126_12, ↓mq_126_15, ↓mq_126_18, ↓mq_126_19, ↓mq_126_22, ↓mq_126_23, ↓mq_126_24, ↓mq_126_27, ↓mq_126_28, ↓mq_126_30, ↓mq_126_31, ↓mq_126_32, ↓mq_126_33, ↓mq_126_36, ↓mq_126_39, ↓mq_126_40, ↓mq_126_41, ↓mq_126_44, ↓mq_126_45, ↓mq_126_46, ↓mq_126_49, ↓mq_126_50, ↓mq_126_51, ↓mq_126_52, ↓mq_126_54, ↓mq_126_57, ↓mq_126_58, ↓mq_126_61, ↓mq_126_63, ↓mq_126_64, ↓mq_126_67, ↓mq_126_68, ↓mq_126_69, ↓mq_126_70, ↓mq_126_71, ↓mq_126_74, ↓mq_126_75, ↓mq_126_76, ↓mq_126_77, ↓mq_126_80, ↓mq_126_83, ↓mq_126_84, ↓mq_126_85, ↓mq_126_88, ↓mq_126_89, ↓mq_126_90, ↓mq_126_93, mt_le (Nat.le_refl 11), ↓mj_bs (mh_gf 18 oi rfl), mn_add, ↓mj_bs (mh_pf 18 (v := .int (nI (l.length + 1))) oi (by simp) rfl)]
          rfl
        · by_cases hkl : k < l.length
          · rw [List.getElem?_append_left hkl] at hkm
            rw [hfi _ (by omega), hf k μ hkm j hj hP]
          · rw [List.getElem?_append_right (by omega)] at hkm
            have hk0 : k - l.length < 1 := (List.getElem?_eq_some_iff.mp hkm).1
            have : k = l.length := by omega
            subst this
            rw [Nat.sub_self] at hkm
            cases hkm
            rw [hfp j hj, G2 j hj hP]
      | succ d ih =>
        intro i hi fi hid ai hfi hfp hFi
        have oi := (hFi.2 65 (by omega)).trans ok
        have gi := (G1.kp hF (by omega)).kp hFi (by omega)
        obtain ⟨h6, e6, a6, F6⟩ := ai.pt (show 11 * l.length + i < 154 by omega) (by omega) (fp i)
        obtain ⟨h', r1, r2⟩ := ih (i + 1) h6 _ (by omega) a6 (fun j hj => by rw [mh_u_ne (by omega)]; exact hfi j hj) (fun j hj => by
          by_cases e : j = i
          · subst e; exact mh_u_at
          · rw [mh_u_ne (by omega)]; exact hfp j (by omega)) (hFi.tt F6)
        refine ⟨h', ?_, r2⟩
        rw [mq_126_51]
        simp only [↓reduceIte, ↓mq_126_0, ↓mq_126_1, ↓mq_126_4, ↓mq_126_6, ↓mq_126_9, ↓mq_126_10, ↓mq_126_11, ↓mq_126_12, ↓mq_126_15, ↓mq_126_18, ↓mq_126_19, ↓mq_126_22, ↓mq_126_23, ↓mq_126_24, ↓mq_126_27, ↓mq_126_28, ↓mq_126_30, ↓mq_126_31, ↓mq_126_32, ↓mq_126_33, ↓mq_126_36, ↓mq_126_39, ↓mq_126_40, ↓mq_126_41, ↓mq_126_44, ↓mq_126_45, ↓mq_126_46, ↓mq_126_49, ↓mq_126_50, ↓mq_126_52, ↓mq_126_54, ↓mq_126_57, ↓mq_126_58, ↓mq_126_61, ↓mq_126_63, ↓mq_126_64, ↓mq_126_67, ↓mq_126_68, ↓mq_126_69, ↓mq_126_70, ↓mq_126_71, ↓mq_126_74, ↓mq_126_75, ↓mq_126_76, ↓mq_126_77, ↓mq_126_80, ↓mq_126_83, ↓mq_126_84, ↓mq_126_85, ↓mq_126_88, ↓mq_126_89, ↓mq_126_90, ↓mq_126_93, mf_le (show i < 11 by omega), ↓mj_bs (mh_gf 17 oi rfl), ↓mj_bs (mh_gf 18 oi rfl), mn_mul, mn_add, ↓mj_bs (mh_gf 15 oi rfl), ↓mj_bs (gi.gt (show i < 11 by omega) (by omega)), ↓mj_bs (e6)]
        exact r1
    obtain ⟨h', r1, r2⟩ := loop 11 0 hk f rfl ar (fun j _ => rfl) (fun j hj => by omega) mh_F.rf
    refine ⟨h', ?_, r2⟩
    rw [mq_126_49]
    simp only [↓reduceIte, ↓mq_126_0, ↓mq_126_1, ↓mq_126_4, ↓mq_126_6, ↓mq_126_9, ↓mq_126_10, ↓mq_126_11, ↓mq_126_12, ↓mq_126_15, ↓mq_126_18, ↓mq_126_19, ↓mq_126_22, ↓mq_126_23, ↓mq_126_24, ↓mq_126_27, ↓mq_126_28, ↓mq_126_30, ↓mq_126_31, ↓mq_126_32, ↓mq_126_33, ↓mq_126_36, ↓mq_126_39, ↓mq_126_40, ↓mq_126_41, ↓mq_126_44, ↓mq_126_45, ↓mq_126_46, ↓mq_126_50, ↓mq_126_52, ↓mq_126_54, ↓mq_126_57, ↓mq_126_58, ↓mq_126_61, ↓mq_126_63, ↓mq_126_64, ↓mq_126_67, ↓mq_126_68, ↓mq_126_69, ↓mq_126_70, ↓mq_126_71, ↓mq_126_74, ↓mq_126_75, ↓mq_126_76, ↓mq_126_77, ↓mq_126_80, ↓mq_126_83, ↓mq_126_84, ↓mq_126_85, ↓mq_126_88, ↓mq_126_89, ↓mq_126_90, ↓mq_126_93]
    exact r1
  have key : ∃ h', mj_C 126 [.ref 65] h = some (none, h') ∧ (h'.1 65 = some (.inr (7, mr_fs (nI (ms_t S).length) pl (nI (mr_n (ms_r S))) (nI (mr_g (ms_r S))) rb rg rp (nI (mm_rem (ms_a S) (ms_m S)).length) (nI (ms_s S).length) (ms_g S)))) ∧ mh_bk h' (mm_rem (ms_a S) (ms_m S)) ∧ mh_F (fun k => k = 65 ∨ k = 75) h h' := by
    rw [mc_126]
    by_cases h14 : (ms_a S).length < 14
    · obtain ⟨h', r1, r2, r3, r4⟩ := two (ms_a S) h fb .null h14 o B1 B2 mh_F.rf
      have e : mm_rem (ms_a S) (ms_m S) = ms_a S ++ [ms_m S] := if_pos h14
      refine ⟨h', ?_, by rw [e, List.length_append]; exact r2, by rw [e]; exact r3, r4⟩
      simp only [↓reduceIte, ↓mq_126_0, ↓mq_126_1, ↓mq_126_4, ↓mq_126_6, ↓mq_126_9, ↓mq_126_10, ↓mq_126_11, ↓mq_126_12, ↓mq_126_15, ↓mq_126_18, ↓mq_126_19, ↓mq_126_22, ↓mq_126_23, ↓mq_126_24, ↓mq_126_27, ↓mq_126_28, ↓mq_126_30, ↓mq_126_31, ↓mq_126_32, ↓mq_126_33, ↓mq_126_36, ↓mq_126_39, ↓mq_126_40, ↓mq_126_41, ↓mq_126_44, ↓mq_126_45, ↓mq_126_46, ↓mq_126_50, ↓mq_126_52, ↓mq_126_54, ↓mq_126_57, ↓mq_126_58, ↓mq_126_61, ↓mq_126_63, ↓mq_126_64, ↓mq_126_67, ↓mq_126_68, ↓mq_126_69, ↓mq_126_70, ↓mq_126_71, ↓mq_126_74, ↓mq_126_75, ↓mq_126_76, ↓mq_126_77, ↓mq_126_80, ↓mq_126_83, ↓mq_126_84, ↓mq_126_85, ↓mq_126_88, ↓mq_126_89, ↓mq_126_90, ↓mq_126_93, ↓mj_bs (mh_gf 18 o rfl), mf_eq (show (ms_a S).length ≠ 14 by omega)]
      exact r1
    · have h14' : (ms_a S).length = 14 := by omega
      have e : mm_rem (ms_a S) (ms_m S) = (ms_a S).tail ++ [ms_m S] := if_neg h14
      have htl : (ms_a S).tail.length = 13 := by simp [h14']
      have loop : ∀ d i hi fi, i + d = 143 → mh_ar hi 75 154 fi → (∀ j, j < i → fi j = fb (j + 11)) → (∀ j, i ≤ j → fi j = fb j) → mh_F (fun x => x = 75) h hi → ∃ h', mj_R 126 (11, [.ref 65, .int (nI i)], [], hi) = some (none, h') ∧ (h'.1 65 = some (.inr (7, mr_fs (nI (ms_t S).length) pl (nI (mr_n (ms_r S))) (nI (mr_g (ms_r S))) rb rg rp (nI ((ms_a S).tail.length + 1)) (nI (ms_s S).length) (ms_g S)))) ∧ mh_bk h' ((ms_a S).tail ++ [ms_m S]) ∧ mh_F (fun k => k = 65 ∨ k = 75) h h' := by
        intro d
        induction d with
        | zero =>
          intro i hi fi hid ai hlo hhi hFi
          obtain rfl : i = 143 := by omega
          have oi := (hFi.2 65 (by omega)).trans o
          have F9 : mh_F (fun k => k = 65) hi (mj_up hi 65 (.inr (7, mr_fs (nI (ms_t S).length) pl (nI (mr_n (ms_r S))) (nI (mr_g (ms_r S))) rb rg rp (nI ((ms_a S).tail.length)) (nI (ms_s S).length) (ms_g S)))) := mh_uF
          obtain ⟨h', r1, r2⟩ := two (ms_a S).tail _ fi (.int (nI 143)) (by omega) mh_ua (ai.kp F9 (by omega)) (fun k μ hkm j hj hP => by
            have hkl := (List.getElem?_eq_some_iff.mp hkm).1
            rw [List.getElem?_tail] at hkm
            rw [hlo _ (by omega), show 11 * k + j + 11 = 11 * (k + 1) + j by omega]
            exact B2 (k + 1) μ hkm j hj hP) ((hFi.mo (fun k z => Or.inr z)).tt (F9.mo (fun k z => Or.inl z)))
          refine ⟨h', ?_, r2⟩
          have e14 : (nI (ms_a S).length) - nI 1 = nI (ms_a S).tail.length := by rw [mn_sub (by omega), List.length_tail]
          rw [← r1]
          simp only [↓reduceIte, ↓mq_126_0, ↓mq_126_1, ↓mq_126_4, ↓mq_126_6, ↓mq_126_9, ↓mq_126_10, ↓mq_126_11, ↓mq_126_12, ↓mq_126_15, ↓mq_126_18, ↓mq_126_19, ↓mq_126_22, ↓mq_126_23, ↓mq_126_24, ↓mq_126_27, ↓mq_126_28, ↓mq_126_30, ↓mq_126_31, ↓mq_126_32, ↓mq_126_33, ↓mq_126_36, ↓mq_126_39, ↓mq_126_40, ↓mq_126_41, ↓mq_126_44, ↓mq_126_45, ↓mq_126_46, ↓mq_126_50, ↓mq_126_52, ↓mq_126_54, ↓mq_126_57, ↓mq_126_58, ↓mq_126_61, ↓mq_126_63, ↓mq_126_64, ↓mq_126_67, ↓mq_126_68, ↓mq_126_69, ↓mq_126_70, ↓mq_126_71, ↓mq_126_74, ↓mq_126_75, ↓mq_126_76, ↓mq_126_77, ↓mq_126_80, ↓mq_126_83, ↓mq_126_84, ↓mq_126_85, ↓mq_126_88, ↓mq_126_89, ↓mq_126_90, ↓mq_126_93, mt_le (Nat.le_refl 143), ↓mj_bs (mh_gf 18 oi rfl), e14, ↓mj_bs (mh_pf 18 (v := .int (nI (ms_a S).tail.length)) oi (by simp) rfl)]
          rfl
        | succ d ih =>
          intro i hi fi hid ai hlo hhi hFi
          have oi := (hFi.2 65 (by omega)).trans o
          obtain ⟨h6, e6, a6, F6⟩ := ai.pt (show i < 154 by omega) (by omega) (fi (i + 11))
          obtain ⟨h', r1, r2⟩ := ih (i + 1) h6 _ (by omega) a6 (fun j hj => by
            by_cases e : j = i
            · subst e; rw [mh_u_at]; exact hhi _ (by omega)
            · rw [mh_u_ne e]; exact hlo j (by omega)) (fun j hj => by rw [mh_u_ne (by omega)]; exact hhi j (by omega)) (hFi.tt F6)
          refine ⟨h', ?_, r2⟩
          rw [mq_126_11]
          simp only [↓reduceIte, ↓mq_126_0, ↓mq_126_1, ↓mq_126_4, ↓mq_126_6, ↓mq_126_9, ↓mq_126_10, ↓mq_126_12, ↓mq_126_15, ↓mq_126_18, ↓mq_126_19, ↓mq_126_22, ↓mq_126_23, ↓mq_126_24, ↓mq_126_27, ↓mq_126_28, ↓mq_126_30, ↓mq_126_31, ↓mq_126_32, ↓mq_126_33, ↓mq_126_36, ↓mq_126_39, ↓mq_126_40, ↓mq_126_41, ↓mq_126_44, ↓mq_126_45, ↓mq_126_46, ↓mq_126_50, ↓mq_126_52, ↓mq_126_54, ↓mq_126_57, ↓mq_126_58, ↓mq_126_61, ↓mq_126_63, ↓mq_126_64, ↓mq_126_67, ↓mq_126_68, ↓mq_126_69, ↓mq_126_70, ↓mq_126_71, ↓mq_126_74, ↓mq_126_75, ↓mq_126_76, ↓mq_126_77, ↓mq_126_80, ↓mq_126_83, ↓mq_126_84, ↓mq_126_85, ↓mq_126_88, ↓mq_126_89, ↓mq_126_90, ↓mq_126_93, mf_le (show i < 143 by omega), ↓mj_bs (mh_gf 17 oi rfl), mn_add, ↓mj_bs (ai.gt (show i + 11 < 154 by omega) (by omega)), ↓mj_bs (e6)]
          exact r1
      obtain ⟨h', r1, r2, r3, r4⟩ := loop 143 0 h fb rfl B1 (fun j hj => by omega) (fun j _ => rfl) mh_F.rf
      refine ⟨h', ?_, by rw [e, List.length_append]; exact r2, by rw [e]; exact r3, r4⟩
      simp only [↓reduceIte, ↓mq_126_0, ↓mq_126_1, ↓mq_126_4, ↓mq_126_6, ↓mq_126_9, ↓mq_126_10, ↓mq_126_12, ↓mq_126_15, ↓mq_126_18, ↓mq_126_19, ↓mq_126_22, ↓mq_126_23, ↓mq_126_24, ↓mq_126_27, ↓mq_126_28, ↓mq_126_30, ↓mq_126_31, ↓mq_126_32, ↓mq_126_33, ↓mq_126_36, ↓mq_126_39, ↓mq_126_40, ↓mq_126_41, ↓mq_126_44, ↓mq_126_45, ↓mq_126_46, ↓mq_126_50, ↓mq_126_52, ↓mq_126_54, ↓mq_126_57, ↓mq_126_58, ↓mq_126_61, ↓mq_126_63, ↓mq_126_64, ↓mq_126_67, ↓mq_126_68, ↓mq_126_69, ↓mq_126_70, ↓mq_126_71, ↓mq_126_74, ↓mq_126_75, ↓mq_126_76, ↓mq_126_77, ↓mq_126_80, ↓mq_126_83, ↓mq_126_84, ↓mq_126_85, ↓mq_126_88, ↓mq_126_89, ↓mq_126_90, ↓mq_126_93, ↓mj_bs (mh_gf 18 o rfl), mt_eq h14']
      exact r1
  obtain ⟨h', e, o', b', F⟩ := key
  have no : ∀ k, k ≠ 65 → k ≠ 75 → ¬ (k = 65 ∨ k = 75) := fun k a b z => by omega
  exact ⟨h', e, ⟨⟨pl, rb, rg, rp, o'⟩, h2.kp F (by omega), ⟨h3.kp F (by omega), h4.kp F (by omega), h5.kp F (by omega)⟩, ⟨h6.kp F (by omega), h7.kp F (by omega), h8.kp F (by omega)⟩, G.kp F (by omega), h10.kp F (by omega), b', h12.kp F (by omega), (F.2 77 (by omega)).trans h13, h14.kp F (by omega) (by omega), h15.kp F (by omega), h16.kp F (by omega), h17.kp F (by omega)⟩, F⟩
end
