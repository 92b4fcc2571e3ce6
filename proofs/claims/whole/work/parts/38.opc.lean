/-! COMMANDS: tales, the seed, what is kept, how long it lasts -/
theorem mh_ue {h g : mj_H} {x : Nat} {e : mj_E} (hg : g = mj_up h x e) : g.1 x = some e := by rw [hg]; exact mh_ua
section
variable {S : mm_St} {h h' : mj_H}
theorem mh_JC.ob (H : mh_JC S h) (F : mh_F (fun k => k = 1) h h') {l : List (Nat × Bool)} {g : Int64} (o : h'.1 1 = some (.inr (6, [.ref 2, .ref 4, .ref 12, .ref 20, .ref 22, .ref 24, .ref 54, .ref 55, .ref 56, .ref 59, .int (nI l.length), .int (nI (mm_mask l true)), .int (nI (mm_mask l false)), .long g]))) : mh_JC (ms_t S, ms_r S, ms_m S, ms_a S, ms_k S, l, g) h' := by
  obtain ⟨h1, ⟨pl, sp, h2⟩, h3, ⟨ρ', h4⟩, h5, ⟨μ', h6⟩, h7, h8, h9, h10, ⟨f, h11⟩, h12, h13⟩ := H
  exact ⟨o, ⟨pl, sp, h2.kp F (by omega) (by omega)⟩, h3.kp F (fun k a b => by omega), ⟨ρ', h4.kp F (fun k a b => by omega)⟩, h5.kp F (by omega) (by omega), ⟨μ', h6.kp F (by omega) (by omega)⟩, h7.kp F (fun k a b => by omega), (F.2 54 (by omega)).trans h8, (F.2 55 (by omega)).trans h9, h10.kp F (by omega) (by omega) (by omega), ⟨f, h11.kp F (by omega) (by omega)⟩, h12.kp F (by omega) (by omega), h13.kp F (by omega) (by omega)⟩
theorem mh_JR.ob (H : mh_JR S h) (F : mh_F (fun k => k = 65 ∨ k = 78 ∨ k = 79) h h') {l : List (Nat × Bool)} {g : Int64} (o : mh_ro h' (ms_t S, ms_r S, ms_m S, ms_a S, ms_k S, l, g)) (T : mh_tw h' l) : mh_JR (ms_t S, ms_r S, ms_m S, ms_a S, ms_k S, l, g) h' := by
  obtain ⟨h1, h2, ⟨h3, h4, h5⟩, ⟨h6, h7, h8⟩, h9, h10, h11, h12, h13, h14, h15, h16, h17⟩ := H
  exact ⟨o, h2.kp F (by omega), ⟨h3.kp F (by omega), h4.kp F (by omega), h5.kp F (by omega)⟩, ⟨h6.kp F (by omega), h7.kp F (by omega), h8.kp F (by omega)⟩, h9.kp F (by omega), h10.kp F (by omega), h11.kp F (by omega), h12.kp F (by omega), (F.2 77 (by omega)).trans h13, T, h15.kp F (by omega), h16.kp F (by omega), h17.kp F (by omega)⟩
theorem mm_mask_app {l : List (Nat × Bool)} {x : Nat × Bool} {b : Bool} : mm_mask (l ++ [x]) b = if x.2 = b then mm_add (mm_mask l b) x.1 else mm_mask l b := by
  simp only [mm_mask, List.foldl_append, List.foldl_cons, List.foldl_nil]
theorem mm_mask_go {b : Bool} : ∀ (l : List (Nat × Bool)) (m : Nat), m < 64 → (∀ x ∈ l, x.1 < 6) → l.foldl (fun m x => if x.2 = b then mm_add m x.1 else m) m < 64 := by
  intro l
  induction l with
  | nil => intro m hm _; exact hm
  | cons x l ih =>
    intro m hm hl
    simp only [List.foldl_cons]
    refine ih _ ?_ (fun y hy => hl y (List.mem_cons_of_mem _ hy))
    split
    · exact mm_add_lt m hm x.1 (hl x List.mem_cons_self)
    · exact hm
theorem mm_mask_lt {l : List (Nat × Bool)} {b : Bool} (hl : ∀ x ∈ l, x.1 < 6) : mm_mask l b < 64 := mm_mask_go l 0 (by omega) hl
theorem mo_94 (J : mh_J S h) : mh_op 94 160 [] h := by
  have JJ := J
  obtain ⟨w, C, R⟩ := J
  have o1 := C.1
  obtain ⟨h1, hh1⟩ : ∃ g, g = mj_up h 1 (.inr (6, [.ref 2, .ref 4, .ref 12, .ref 20, .ref 22, .ref 24, .ref 54, .ref 55, .ref 56, .ref 59, .int (nI 0), .int (nI (mm_mask (ms_s S) true)), .int (nI (mm_mask (ms_s S) false)), .long (ms_g S)])) := ⟨_, rfl⟩
  have e1 : mj_pf h 1 6 10 (.int (nI 0)) = some h1 := by rw [hh1]; exact mh_pf 10 o1 (by simp) rfl
  have o2 := mh_ue hh1
  have F1 : mh_F (fun k => k = 1) h h1 := by rw [hh1]; exact mh_uF
  obtain ⟨h2, hh2⟩ : ∃ g, g = mj_up h1 1 (.inr (6, [.ref 2, .ref 4, .ref 12, .ref 20, .ref 22, .ref 24, .ref 54, .ref 55, .ref 56, .ref 59, .int (nI 0), .int (nI 0), .int (nI (mm_mask (ms_s S) false)), .long (ms_g S)])) := ⟨_, rfl⟩
  have e2 : mj_pf h1 1 6 11 (.int (nI 0)) = some h2 := by rw [hh2]; exact mh_pf 11 o2 (by simp) rfl
  have o3 := mh_ue hh2
  have F2 : mh_F (fun k => k = 1) h1 h2 := by rw [hh2]; exact mh_uF
  obtain ⟨h3, hh3⟩ : ∃ g, g = mj_up h2 1 (.inr (6, [.ref 2, .ref 4, .ref 12, .ref 20, .ref 22, .ref 24, .ref 54, .ref 55, .ref 56, .ref 59, .int (nI 0), .int (nI 0), .int (nI 0), .long (ms_g S)])) := ⟨_, rfl⟩
  have e3 : mj_pf h2 1 6 12 (.int (nI 0)) = some h3 := by rw [hh3]; exact mh_pf 12 o3 (by simp) rfl
  have o4 := mh_ue hh3
  have F3 : mh_F (fun k => k = 1) h2 h3 := by rw [hh3]; exact mh_uF
  have F := (F1.tt F2).tt F3
  refine mh_opI (v := .int (nI (ms_s S).length)) (S' := (ms_t S, ms_r S, ms_m S, ms_a S, ms_k S, [], ms_g S)) JJ (h1 := h3) ⟨w.1, w.2.1, w.2.2.1, w.2.2.2.1, w.2.2.2.2.1, w.2.2.2.2.2.1, w.2.2.2.2.2.2.1, by show 0 ≤ 6; omega, fun x hx => by cases hx⟩ ?_ (F.mo (fun k z => by subst z; exact ⟨by omega, by omega⟩)) (C.ob (l := []) F o4) ?_
  · rw [mc_94]
    simp only [↓reduceIte, ↓mq_94_0, ↓mq_94_1, ↓mq_94_4, ↓mq_94_5, ↓mq_94_6, ↓mq_94_7, ↓mq_94_10, ↓mq_94_11, ↓mq_94_12, ↓mq_94_15, ↓mq_94_16, ↓mq_94_17, ↓mq_94_20, ↓mq_94_21, ↓mj_bs (mh_gf 10 o1 rfl), ↓mj_bs (e1), ↓mj_bs (e2), ↓mj_bs (e3)]
  · intro R
    have hrb := R.rr.1
    have R' := R
    obtain ⟨⟨pl, rb, rg, rp, o⟩, -, -, -, -, -, -, -, -, ⟨T1, z, T2, T3, T4⟩, -⟩ := R
    have F9 : mh_F (fun k => k = 65) h3 (mj_up h3 65 (.inr (7, mr_fs (nI (ms_t S).length) pl (nI (mr_n (ms_r S))) (nI (mr_g (ms_r S))) rb rg rp (nI (ms_a S).length) (nI 0) (ms_g S)))) := mh_uF
    refine ⟨_, ?_, R'.ob (l := []) (F9.mo (fun k z => Or.inl z)) ⟨pl, rb, rg, rp, mh_ua⟩ ⟨(T1.kp F9 (by omega)).mo (fun j _ hj => absurd hj (Nat.not_lt_zero j)), z, (F9.2 79 (by omega)).trans T2, T3, fun k x hx => by simp at hx⟩, F9.mo (fun k z => by omega)⟩
    rw [mc_160]
    simp only [↓reduceIte, ↓mq_160_0, ↓mq_160_1, ↓mq_160_2, ↓mq_160_5, ↓mq_160_6, ↓mq_160_9, ↓mq_160_10, ↓mq_160_11, ↓mq_160_12, ↓mq_160_15, ↓mq_160_16, ↓mj_bs (mr_th hrb), ↓mj_bs (mh_gf 21 o rfl), ↓mj_bs (mh_pf 21 (v := .int (nI 0)) o (by simp) rfl)]
    rfl
theorem mo_96 (J : mh_J S h) (g : Int64) : mh_op 96 162 [.long g] h := by
  have JJ := J
  obtain ⟨w, C, R⟩ := J
  have o1 := C.1
  obtain ⟨h1, hh1⟩ : ∃ k, k = mj_up h 1 (.inr (6, [.ref 2, .ref 4, .ref 12, .ref 20, .ref 22, .ref 24, .ref 54, .ref 55, .ref 56, .ref 59, .int (nI (ms_s S).length), .int (nI (mm_mask (ms_s S) true)), .int (nI (mm_mask (ms_s S) false)), .long g])) := ⟨_, rfl⟩
  have e1 : mj_pf h 1 6 13 (.long g) = some h1 := by rw [hh1]; exact mh_pf 13 o1 (by simp) rfl
  have o2 := mh_ue hh1
  have F : mh_F (fun k => k = 1) h h1 := by rw [hh1]; exact mh_uF
  refine mh_opI (v := .long (ms_g S)) (S' := (ms_t S, ms_r S, ms_m S, ms_a S, ms_k S, ms_s S, g)) JJ (h1 := h1) w ?_ (F.mo (fun k z => by subst z; exact ⟨by omega, by omega⟩)) (C.ob F o2) ?_
  · rw [mc_96]
    simp only [↓reduceIte, ↓mq_96_0, ↓mq_96_1, ↓mq_96_4, ↓mq_96_5, ↓mq_96_6, ↓mq_96_7, ↓mq_96_10, ↓mq_96_11, ↓mj_bs (mh_gf 13 o1 rfl), ↓mj_bs (e1)]
  · intro R
    have hrb := R.rr.1
    have R' := R
    obtain ⟨⟨pl, rb, rg, rp, o⟩, -, -, -, -, -, -, -, -, T, -⟩ := R
    have F9 : mh_F (fun k => k = 65) h1 (mj_up h1 65 (.inr (7, mr_fs (nI (ms_t S).length) pl (nI (mr_n (ms_r S))) (nI (mr_g (ms_r S))) rb rg rp (nI (ms_a S).length) (nI (ms_s S).length) g))) := mh_uF
    refine ⟨_, ?_, R'.ob (F9.mo (fun k z => Or.inl z)) ⟨pl, rb, rg, rp, mh_ua⟩ (T.kp F9 (by omega) (by omega)), F9.mo (fun k z => by omega)⟩
    rw [mc_162]
    simp only [↓reduceIte, ↓mq_162_0, ↓mq_162_1, ↓mq_162_2, ↓mq_162_5, ↓mq_162_6, ↓mq_162_9, ↓mq_162_10, ↓mq_162_11, ↓mq_162_12, ↓mq_162_15, ↓mq_162_16, ↓mj_bs (mr_th hrb), ↓mj_bs (mh_gf 24 o rfl), ↓mj_bs (mh_pf 24 (v := .long g) o (by simp) rfl)]
    rfl
theorem mo_93 (J : mh_J S h) (x : Int32) (b : Bool) : mh_op 93 159 [.int x, .int (mj_bI b)] h := by
  have JJ := J
  obtain ⟨w, C, R⟩ := J
  have wr := w.2.2.1
  have hrb := R.rr.1
  have o1 := C.1
  have Ro := C.2.2.1
  have hn9 := wr.1
  have h6 := w.2.2.2.2.2.2.2.1
  have hs6 := w.2.2.2.2.2.2.2.2
  have hmt := mm_mask_lt (b := true) hs6
  have hmf := mm_mask_lt (b := false) hs6
  rcases mn_range (mr_n (ms_r S)) (by omega) x with ⟨c, hcn, rfl, -, -⟩ | ⟨-, hno⟩
  · have e31 := mt_31 Ro (nI c)
    rw [mn_dlt (by omega) (by omega), decide_eq_true hcn] at e31
    have e120 : ∀ {h : mj_H}, mh_Rb h (ms_r S) → mj_C 120 [.ref 65, .int (nI c)] h = some (some (.int (mj_bI false)), h) := fun q => by
      rw [mt_120 wr q (nI c), mn_dlt (by omega) (by omega), decide_eq_true hcn]; rfl
    by_cases hl : (ms_s S).length < 6
    · obtain ⟨h1, hh1⟩ : ∃ g, g = mj_up h 1 (.inr (6, [.ref 2, .ref 4, .ref 12, .ref 20, .ref 22, .ref 24, .ref 54, .ref 55, .ref 56, .ref 59, .int (nI (ms_s S).length), .int (nI (mm_mask (ms_s S ++ [(c, b)]) true)), .int (nI (mm_mask (ms_s S ++ [(c, b)]) false)), .long (ms_g S)])) := ⟨_, rfl⟩
      have o2 := mh_ue hh1
      have F1 : mh_F (fun k => k = 1) h h1 := by rw [hh1]; exact mh_uF
      obtain ⟨h2, hh2⟩ : ∃ g, g = mj_up h1 1 (.inr (6, [.ref 2, .ref 4, .ref 12, .ref 20, .ref 22, .ref 24, .ref 54, .ref 55, .ref 56, .ref 59, .int (nI ((ms_s S).length + 1)), .int (nI (mm_mask (ms_s S ++ [(c, b)]) true)), .int (nI (mm_mask (ms_s S ++ [(c, b)]) false)), .long (ms_g S)])) := ⟨_, rfl⟩
      have e2 : mj_pf h1 1 6 10 (.int (nI ((ms_s S).length + 1))) = some h2 := by rw [hh2]; exact mh_pf 10 o2 (by simp) rfl
      have o3 := mh_ue hh2
      have F2 : mh_F (fun k => k = 1) h1 h2 := by rw [hh2]; exact mh_uF
      have F := F1.tt F2
      have ec : mj_C 93 [.ref 1, .int (nI c), .int (mj_bI b)] h = some (some (.int (nI ((ms_s S).length + 1))), h2) := by
        rw [mc_93]
        cases b
        · have em : mm_mask (ms_s S ++ [(c, false)]) true = mm_mask (ms_s S) true := by rw [mm_mask_app]; simp
          have ef : mm_mask (ms_s S ++ [(c, false)]) false = mm_add (mm_mask (ms_s S) false) c := by rw [mm_mask_app]; simp
          have e1 : mj_pf h 1 6 12 (.int (nI (mm_add (mm_mask (ms_s S) false) c))) = some h1 := by rw [hh1, em, ef]; exact mh_pf 12 o1 (by simp) rfl
          simp only [↓reduceIte, ↓mq_93_0, ↓mq_93_1, ↓mq_93_4, ↓mq_93_5, ↓mq_93_8, ↓mq_93_11, ↓mq_93_12, ↓mq_93_13, ↓mq_93_14, ↓mq_93_17, ↓mq_93_19, ↓mq_93_22, ↓mq_93_24, ↓mq_93_25, ↓mq_93_26, ↓mq_93_29, ↓mq_93_30, ↓mq_93_31, ↓mq_93_34, ↓mq_93_35, ↓mq_93_36, ↓mq_93_37, ↓mq_93_38, ↓mq_93_41, ↓mq_93_44, ↓mq_93_45, ↓mq_93_46, ↓mq_93_49, ↓mq_93_50, ↓mq_93_51, ↓mq_93_52, ↓mq_93_53, ↓mq_93_56, ↓mq_93_57, ↓mq_93_58, ↓mq_93_61, ↓mq_93_62, ↓mq_93_63, ↓mq_93_66, ↓mq_93_67, ↓mq_93_70, ↓mj_bs (mh_gf 1 o1 rfl), mh_isC Ro.1, ↓mj_bs (e31), Option.toList, List.cons_append, List.nil_append, mj_b0, Bool.true_eq_false, ↓mj_bs (mh_gf 10 o1 rfl), mt_lt hl, ↓mj_bs (mh_gf 12 o1 rfl), mn_shl c (show c < 31 by omega), mn_or, mn_bor _ hmf c (by omega), ↓mj_bs (e1), ↓mj_bs (mh_gf 10 o2 rfl), mn_add, ↓mj_bs (e2), ↓mj_bs (mh_gf 10 o3 rfl)]
        · have em : mm_mask (ms_s S ++ [(c, true)]) false = mm_mask (ms_s S) false := by rw [mm_mask_app]; simp
          have ef : mm_mask (ms_s S ++ [(c, true)]) true = mm_add (mm_mask (ms_s S) true) c := by rw [mm_mask_app]; simp
          have e1 : mj_pf h 1 6 11 (.int (nI (mm_add (mm_mask (ms_s S) true) c))) = some h1 := by rw [hh1, em, ef]; exact mh_pf 11 o1 (by simp) rfl
          simp only [↓reduceIte, ↓mq_93_0, ↓mq_93_1, ↓mq_93_4, ↓mq_93_5, ↓mq_93_8, ↓mq_93_11, ↓mq_93_12, ↓mq_93_13, ↓mq_93_14, ↓mq_93_17, ↓mq_93_19, ↓mq_93_22, ↓mq_93_24, ↓mq_93_25, ↓mq_93_26, ↓mq_93_29, ↓mq_93_30, ↓mq_93_31, ↓mq_93_34, ↓mq_93_35, ↓mq_93_36, ↓mq_93_37, ↓mq_93_38, ↓mq_93_41, ↓mq_93_44, ↓mq_93_45, ↓mq_93_46, ↓mq_93_49, ↓mq_93_50, ↓mq_93_51, ↓mq_93_52, ↓mq_93_53, ↓mq_93_56, ↓mq_93_57, ↓mq_93_58, ↓mq_93_61, ↓mq_93_62, ↓mq_93_63, ↓mq_93_66, ↓mq_93_67, ↓mq_93_70, ↓mj_bs (mh_gf 1 o1 rfl), mh_isC Ro.1, ↓mj_bs (e31), Option.toList, List.cons_append, List.nil_append, mj_b0, Bool.true_eq_false, ↓mj_bs (mh_gf 10 o1 rfl), mt_lt hl, ↓mj_bs (mh_gf 11 o1 rfl), mn_shl c (show c < 31 by omega), mn_or, mn_bor _ hmt c (by omega), ↓mj_bs (e1), ↓mj_bs (mh_gf 10 o2 rfl), mn_add, ↓mj_bs (e2), ↓mj_bs (mh_gf 10 o3 rfl)]
      refine mh_opI (v := .int (nI ((ms_s S).length + 1))) (S' := (ms_t S, ms_r S, ms_m S, ms_a S, ms_k S, ms_s S ++ [(c, b)], ms_g S)) JJ (h1 := h2) ⟨w.1, w.2.1, w.2.2.1, w.2.2.2.1, w.2.2.2.2.1, w.2.2.2.2.2.1, w.2.2.2.2.2.2.1, by show (ms_s S ++ [(c, b)]).length ≤ 6; simp; omega, fun x hx => by
        rcases List.mem_append.mp hx with z | z
        · exact hs6 x z
        · rw [List.mem_singleton.mp z]; show c < 6; omega⟩ ec (F.mo (fun k z => by subst z; exact ⟨by omega, by omega⟩)) (C.ob (l := ms_s S ++ [(c, b)]) F (by rw [List.length_append]; exact o3)) ?_
      intro R
      have hrb := R.rr.1
      have R' := R
      obtain ⟨⟨pl, rb, rg, rp, o⟩, -, -, -, -, -, -, -, -, ⟨T1, z, T2, T3, T4⟩, -⟩ := R
      obtain ⟨g1, f1, U1, D1⟩ := T1.pt (P' := fun k => k < (ms_s S ++ [(c, b)]).length) (X' := fun k => ((ms_s S ++ [(c, b)]).getD k (0, false)).1) hl c (fun j _ hj => by
        by_cases e : j = (ms_s S).length
        · subst e; exact Or.inl ⟨rfl, by simp [List.getD]⟩
        · have : j < (ms_s S).length := by rw [List.length_append] at hj; simp at hj; omega
          exact Or.inr ⟨e, this, by simp [List.getD, List.getElem?_append_left this]⟩)
      have z1 := (D1.2 79 (by omega)).trans T2
      obtain ⟨i1, i2⟩ := mn_ix (show (ms_s S).length < 2 ^ 31 by omega)
      obtain ⟨g2, hg2⟩ : ∃ g, g = mj_up g1 79 (.inl (1, z.set (ms_s S).length (mj_bI b))) := ⟨_, rfl⟩
      have f2 : mj_pz g1 79 (nI (ms_s S).length) (mj_bI b) = some g2 := by
        simp only [mj_pz, z1]
        rw [if_pos ⟨trivial, i1, by rw [i2]; omega, by cases b <;> rfl⟩, i2, hg2]
      have z2 := mh_ue hg2
      have D2 : mh_F (fun k => k = 79) g1 g2 := by rw [hg2]; exact mh_uF
      have oo := (D2.2 65 (by omega)).trans ((D1.2 65 (by omega)).trans o)
      obtain ⟨g3, hg3⟩ : ∃ g, g = mj_up g2 65 (.inr (7, mr_fs (nI (ms_t S).length) pl (nI (mr_n (ms_r S))) (nI (mr_g (ms_r S))) rb rg rp (nI (ms_a S).length) (nI ((ms_s S).length + 1)) (ms_g S))) := ⟨_, rfl⟩
      have f3 : mj_pf g2 65 7 21 (.int (nI ((ms_s S).length + 1))) = some g3 := by rw [hg3]; exact mh_pf 21 oo (by simp) rfl
      have o3 := mh_ue hg3
      have D3 : mh_F (fun k => k = 65) g2 g3 := by rw [hg3]; exact mh_uF
      have D : mh_F (fun k => k = 65 ∨ k = 78 ∨ k = 79) h2 g3 := ((D1.mo (fun k z => Or.inr (Or.inl z))).tt (D2.mo (fun k z => Or.inr (Or.inr z)))).tt (D3.mo (fun k z => Or.inl z))
      have oA := (D1.2 65 (by omega)).trans o
      refine ⟨g3, ?_, R'.ob (l := ms_s S ++ [(c, b)]) D ⟨pl, rb, rg, rp, by show g3.1 65 = some (.inr (7, mr_fs _ _ _ _ _ _ _ _ (nI (ms_s S ++ [(c, b)]).length) _)); rw [List.length_append]; exact o3⟩ ⟨(U1.kp D2 (by omega)).kp D3 (by omega), z.set (ms_s S).length (mj_bI b), (D3.2 79 (by omega)).trans z2, by rw [List.length_set]; exact T3, fun k x hx => ?_⟩, D.mo (fun k z => by omega)⟩
      · rw [mc_159]
        simp only [↓reduceIte, ↓mq_159_0, ↓mq_159_1, ↓mq_159_2, ↓mq_159_5, ↓mq_159_6, ↓mq_159_7, ↓mq_159_10, ↓mq_159_13, ↓mq_159_14, ↓mq_159_15, ↓mq_159_16, ↓mq_159_19, ↓mq_159_21, ↓mq_159_24, ↓mq_159_26, ↓mq_159_27, ↓mq_159_28, ↓mq_159_31, ↓mq_159_32, ↓mq_159_35, ↓mq_159_36, ↓mq_159_37, ↓mq_159_38, ↓mq_159_41, ↓mq_159_42, ↓mq_159_45, ↓mq_159_46, ↓mq_159_47, ↓mq_159_48, ↓mq_159_49, ↓mq_159_52, ↓mq_159_53, ↓mq_159_54, ↓mq_159_57, ↓mq_159_58, ↓mq_159_61, ↓mj_bs (mr_th hrb), mr_is hrb, ↓mj_bs (e120 hrb), Option.toList, List.cons_append, List.nil_append, mj_b0, ↓mj_bs (mh_gf 21 o rfl), mf_eq (show (ms_s S).length ≠ 6 by omega), ↓mj_bs (mh_gf 22 o rfl), ↓mj_bs (f1), ↓mj_bs (mh_gf 23 oA rfl), ↓mj_bs (mh_gf 21 oA rfl), ↓mj_bs (f2), ↓mj_bs (mh_gf 21 oo rfl), mn_add, ↓mj_bs (f3), ↓mj_bs (mh_gf 21 o3 rfl)]
      · by_cases hk : k < (ms_s S).length
        · rw [List.getElem?_append_left hk] at hx
          rw [List.getElem?_set_ne (by omega)]
          exact T4 k x hx
        · rw [List.getElem?_append_right (by omega)] at hx
          have hk0 : k - (ms_s S).length < 1 := (List.getElem?_eq_some_iff.mp hx).1
          have : k = (ms_s S).length := by omega
          subst this
          rw [Nat.sub_self] at hx
          cases hx
          rw [List.getElem?_set_self (by omega)]
    · obtain ⟨pl, rb, rg, rp, o⟩ := R.1
      refine mh_opQ (v := .int (-4)) JJ ?_ ?_
      · rw [mc_93]
        simp only [↓reduceIte, ↓mq_93_0, ↓mq_93_1, ↓mq_93_4, ↓mq_93_5, ↓mq_93_8, ↓mq_93_11, ↓mq_93_12, ↓mq_93_13, ↓mq_93_14, ↓mq_93_17, ↓mq_93_19, ↓mq_93_22, ↓mq_93_24, ↓mq_93_25, ↓mq_93_26, ↓mq_93_29, ↓mq_93_30, ↓mq_93_31, ↓mq_93_34, ↓mq_93_35, ↓mq_93_36, ↓mq_93_37, ↓mq_93_38, ↓mq_93_41, ↓mq_93_44, ↓mq_93_45, ↓mq_93_46, ↓mq_93_49, ↓mq_93_50, ↓mq_93_51, ↓mq_93_52, ↓mq_93_53, ↓mq_93_56, ↓mq_93_57, ↓mq_93_58, ↓mq_93_61, ↓mq_93_62, ↓mq_93_63, ↓mq_93_66, ↓mq_93_67, ↓mq_93_70, ↓mj_bs (mh_gf 1 o1 rfl), mh_isC Ro.1, ↓mj_bs (e31), Option.toList, List.cons_append, List.nil_append, mj_b0, Bool.true_eq_false, ↓mj_bs (mh_gf 10 o1 rfl), mf_lt (Nat.le_of_not_lt hl)]
      · rw [mc_159]
        simp only [↓reduceIte, ↓mq_159_0, ↓mq_159_1, ↓mq_159_2, ↓mq_159_5, ↓mq_159_6, ↓mq_159_7, ↓mq_159_10, ↓mq_159_13, ↓mq_159_14, ↓mq_159_15, ↓mq_159_16, ↓mq_159_19, ↓mq_159_21, ↓mq_159_24, ↓mq_159_26, ↓mq_159_27, ↓mq_159_28, ↓mq_159_31, ↓mq_159_32, ↓mq_159_35, ↓mq_159_36, ↓mq_159_37, ↓mq_159_38, ↓mq_159_41, ↓mq_159_42, ↓mq_159_45, ↓mq_159_46, ↓mq_159_47, ↓mq_159_48, ↓mq_159_49, ↓mq_159_52, ↓mq_159_53, ↓mq_159_54, ↓mq_159_57, ↓mq_159_58, ↓mq_159_61, ↓mj_bs (mr_th hrb), mr_is hrb, ↓mj_bs (e120 hrb), Option.toList, List.cons_append, List.nil_append, mj_b0, ↓mj_bs (mh_gf 21 o rfl), mt_eq (show (ms_s S).length = 6 by omega)]
  · have e31 := mt_31 Ro x
    rw [mn_dno hno] at e31
    have e120 := mt_120 wr hrb x
    rw [mn_dno hno] at e120
    refine mh_opQ (v := .int (-1)) JJ ?_ ?_
    · rw [mc_93]
      simp only [↓reduceIte, ↓mq_93_0, ↓mq_93_1, ↓mq_93_4, ↓mq_93_5, ↓mq_93_8, ↓mq_93_11, ↓mq_93_12, ↓mq_93_13, ↓mq_93_14, ↓mq_93_17, ↓mq_93_19, ↓mq_93_22, ↓mq_93_24, ↓mq_93_25, ↓mq_93_26, ↓mq_93_29, ↓mq_93_30, ↓mq_93_31, ↓mq_93_34, ↓mq_93_35, ↓mq_93_36, ↓mq_93_37, ↓mq_93_38, ↓mq_93_41, ↓mq_93_44, ↓mq_93_45, ↓mq_93_46, ↓mq_93_49, ↓mq_93_50, ↓mq_93_51, ↓mq_93_52, ↓mq_93_53, ↓mq_93_56, ↓mq_93_57, ↓mq_93_58, ↓mq_93_61, ↓mq_93_62, ↓mq_93_63, ↓mq_93_66, ↓mq_93_67, ↓mq_93_70, ↓mj_bs (mh_gf 1 o1 rfl), mh_isC Ro.1, ↓mj_bs (e31), Option.toList, List.cons_append, List.nil_append, mj_b0]
    · rw [mc_159]
      simp only [↓reduceIte, ↓mq_159_0, ↓mq_159_1, ↓mq_159_2, ↓mq_159_5, ↓mq_159_6, ↓mq_159_7, ↓mq_159_10, ↓mq_159_13, ↓mq_159_14, ↓mq_159_15, ↓mq_159_16, ↓mq_159_19, ↓mq_159_21, ↓mq_159_24, ↓mq_159_26, ↓mq_159_27, ↓mq_159_28, ↓mq_159_31, ↓mq_159_32, ↓mq_159_35, ↓mq_159_36, ↓mq_159_37, ↓mq_159_38, ↓mq_159_41, ↓mq_159_42, ↓mq_159_45, ↓mq_159_46, ↓mq_159_47, ↓mq_159_48, ↓mq_159_49, ↓mq_159_52, ↓mq_159_53, ↓mq_159_54, ↓mq_159_57, ↓mq_159_58, ↓mq_159_61, ↓mj_bs (mr_th hrb), mr_is hrb, ↓mj_bs (e120), Bool.not_false, Option.toList, List.cons_append, List.nil_append, mj_b0, Bool.true_eq_false]
theorem mo_81 (J : mh_J S h) : mh_op 81 147 [] h := by
  have JJ := J
  obtain ⟨w, C, R⟩ := J
  have wr := w.2.2.1
  have wm := w.2.2.2.1
  have hb := mw_b wr wm
  have hrb := R.rr.1
  have G := R.pg
  obtain ⟨o1, -, Ro, -, M, -⟩ := C
  have hp := mm_pop6 _ hb
  have h99 := wm.1
  by_cases hc : mm_pop (ma_b (ms_m S)) 6 < ma_p (ms_m S)
  · refine mh_opQ (v := .int (nI (mm_pop (ma_b (ms_m S)) 6))) JJ ?_ ?_
    · rw [mc_81]
      simp only [↓reduceIte, ↓mq_81_0, ↓mq_81_1, ↓mq_81_4, ↓mq_81_7, ↓mq_81_10, ↓mq_81_11, ↓mq_81_14, ↓mq_81_17, ↓mq_81_20, ↓mj_bs (mh_gf 3 o1 rfl), ↓mj_bs (mh_gf 2 M.1 rfl), ↓mj_bs (mt_166 hb), Option.toList, List.cons_append, List.nil_append, ↓mj_bs (mh_gf 1 M.1 rfl), mf_lt (Nat.le_of_lt hc)]
    · rw [mc_147]
      simp only [↓reduceIte, ↓mq_147_0, ↓mq_147_1, ↓mq_147_2, ↓mq_147_5, ↓mq_147_6, ↓mq_147_9, ↓mq_147_10, ↓mq_147_11, ↓mq_147_14, ↓mq_147_15, ↓mq_147_16, ↓mq_147_17, ↓mq_147_20, ↓mq_147_21, ↓mq_147_22, ↓mq_147_25, ↓mq_147_26, ↓mq_147_29, ↓mq_147_30, ↓mq_147_33, ↓mq_147_34, ↓mq_147_35, ↓mj_bs (mr_th hrb), ↓mj_bs (mr_b15 hrb), ↓mj_bs (mp_1 G), ↓mj_bs (mt_144 hb), Option.toList, List.cons_append, List.nil_append, ↓mj_bs (mp_0 G), mf_le hc]
  · refine mh_opQ (v := .int (nI (ma_p (ms_m S)))) JJ ?_ ?_
    · rw [mc_81]
      by_cases he : ma_p (ms_m S) < mm_pop (ma_b (ms_m S)) 6
      · simp only [↓reduceIte, ↓mq_81_0, ↓mq_81_1, ↓mq_81_4, ↓mq_81_7, ↓mq_81_10, ↓mq_81_11, ↓mq_81_14, ↓mq_81_17, ↓mq_81_20, ↓mj_bs (mh_gf 3 o1 rfl), ↓mj_bs (mh_gf 2 M.1 rfl), ↓mj_bs (mt_166 hb), Option.toList, List.cons_append, List.nil_append, ↓mj_bs (mh_gf 1 M.1 rfl), mt_lt he]
      · have he2 : ma_p (ms_m S) = mm_pop (ma_b (ms_m S)) 6 := by omega
        simp only [↓reduceIte, ↓mq_81_0, ↓mq_81_1, ↓mq_81_4, ↓mq_81_7, ↓mq_81_10, ↓mq_81_11, ↓mq_81_14, ↓mq_81_17, ↓mq_81_20, ↓mj_bs (mh_gf 3 o1 rfl), ↓mj_bs (mh_gf 2 M.1 rfl), ↓mj_bs (mt_166 hb), Option.toList, List.cons_append, List.nil_append, ↓mj_bs (mh_gf 1 M.1 rfl), mf_lt (Nat.le_of_not_lt he), he2, ite_self]
    · rw [mc_147]
      simp only [↓reduceIte, ↓mq_147_0, ↓mq_147_1, ↓mq_147_2, ↓mq_147_5, ↓mq_147_6, ↓mq_147_9, ↓mq_147_10, ↓mq_147_11, ↓mq_147_14, ↓mq_147_15, ↓mq_147_16, ↓mq_147_17, ↓mq_147_20, ↓mq_147_21, ↓mq_147_22, ↓mq_147_25, ↓mq_147_26, ↓mq_147_29, ↓mq_147_30, ↓mq_147_33, ↓mq_147_34, ↓mq_147_35, ↓mj_bs (mr_th hrb), ↓mj_bs (mr_b15 hrb), ↓mj_bs (mp_1 G), ↓mj_bs (mt_144 hb), Option.toList, List.cons_append, List.nil_append, ↓mj_bs (mp_0 G), mt_le (Nat.le_of_not_lt hc)]
/-- the first dusk at which one leaves -/
def mm_las (ρ : mm_Ro) : Nat → mm_Ma → Nat → Int32
  | 0, _, _ => -9
  | k + 1, μ, d => if mm_slw ρ μ ≠ 0 then nI d else mm_las ρ k (mm_slp ρ μ) (d + 1)
theorem mm_las0 {ρ : mm_Ro} (w : mw_R ρ) : ∀ k (μ : mm_Ma) d, mw_M ρ μ → ma_b μ = 0 → mm_las ρ k μ d = -9 := by
  intro k
  induction k with
  | zero => intro μ d _ _; rfl
  | succ k ih =>
    intro μ d wm hb
    have h1 : mm_slw ρ μ = 0 := by simp [mm_slw, hb, mm_dif]
    simp only [mm_las, h1, ne_eq, not_true_eq_false, if_false]
    refine ih _ _ (mw_slp w wm) ?_
    obtain ⟨h2, h3⟩ := mm_sb_sub w wm
    show mm_sb ρ μ = 0
    refine mm_ext _ h2 0 (by omega) (fun j hj => ?_)
    rw [Nat.zero_testBit]
    cases hq : (mm_sb ρ μ).testBit j
    · rfl
    · have := h3 j hj hq
      rw [hb, Nat.zero_testBit] at this
      exact this.symm
theorem mo_80 (J : mh_J S h) : mh_op 80 146 [] h := by
  have JJ := J
  obtain ⟨w, C, R⟩ := J
  have wr := w.2.2.1
  have wm := w.2.2.2.1
  have hb := mw_b wr wm
  obtain ⟨o1, -, Ro, -, M, ⟨μt, T⟩, -⟩ := C
  have ref : ∀ h, mh_JR S h → ∃ h2, mj_C 146 [.ref 65] h = some (some (.int (mm_las (ms_r S) 99 (ms_m S) 1)), h2) ∧ mh_JR S h2 ∧ mh_F (fun k => 65 ≤ k) h h2 := by
    intro h R
    have hrb := R.rr.1
    obtain ⟨ft, T9⟩ := R.2.2.2.2.2.1
    obtain ⟨h1, e1, G1, F1⟩ := mt_138 hrb R.pg T9
    have loop : ∀ k d hk (μ : mm_Ma), k + d = 100 → mw_M (ms_r S) μ → mh_pg hk 74 μ → mh_F (fun k => k = 74) h hk → ∃ h', mj_R 146 (11, [.ref 65, .int (nI d)], [], hk) = some (some (.int (mm_las (ms_r S) k μ d)), h') ∧ (∃ μ', mh_pg h' 74 μ') ∧ mh_F (fun k => k = 74) h h' := by
      intro k
      induction k with
      | zero =>
        intro d hk μ hd wμ G F
        obtain rfl : d = 100 := by omega
        refine ⟨hk, ?_, ⟨μ, G⟩, F⟩
        simp only [↓reduceIte, ↓mq_146_0, ↓mq_146_1, ↓mq_146_2, ↓mq_146_5, ↓mq_146_6, ↓mq_146_9, ↓mq_146_10, ↓mq_146_11, ↓mq_146_12, ↓mq_146_14, ↓mq_146_17, ↓mq_146_18, ↓mq_146_19, ↓mq_146_22, ↓mq_146_25, ↓mq_146_28, ↓mq_146_29, ↓mq_146_30, ↓mq_146_33, ↓mq_146_36, ↓mq_146_38, mt_lt (show 99 < 100 by omega), mm_las]
      | succ k ih =>
        intro d hk μ hd wμ G F
        have hrk := R.rr.kp F (by omega) (by omega) (by omega) (by omega)
        obtain ⟨g, f, G2, F2⟩ := mt_130 wr wμ hrk G (by omega)
        have hsw : mm_slw (ms_r S) μ < 64 := mm_dif_lt _ (mw_b wr wμ) _ (mm_sb_sub wr wμ).1
        by_cases hz : mm_slw (ms_r S) μ = 0
        · obtain ⟨h', r1, r2⟩ := ih (d + 1) g _ (by omega) (mw_slp wr wμ) G2 (F.tt F2)
          refine ⟨h', ?_, r2⟩
          rw [mq_146_11]
          simp only [↓reduceIte, ↓mq_146_0, ↓mq_146_1, ↓mq_146_2, ↓mq_146_5, ↓mq_146_6, ↓mq_146_9, ↓mq_146_10, ↓mq_146_12, ↓mq_146_14, ↓mq_146_17, ↓mq_146_18, ↓mq_146_19, ↓mq_146_22, ↓mq_146_25, ↓mq_146_28, ↓mq_146_29, ↓mq_146_30, ↓mq_146_33, ↓mq_146_36, ↓mq_146_38, mf_lt (show d ≤ 99 by omega), ↓mj_bs (mr_b16 hrk.1), mr_is hrk.1]
          rw [mj_bs f]
          simp only [↓reduceIte, ↓mq_146_0, ↓mq_146_1, ↓mq_146_2, ↓mq_146_5, ↓mq_146_6, ↓mq_146_9, ↓mq_146_10, ↓mq_146_12, ↓mq_146_14, ↓mq_146_17, ↓mq_146_18, ↓mq_146_19, ↓mq_146_22, ↓mq_146_25, ↓mq_146_28, ↓mq_146_29, ↓mq_146_30, ↓mq_146_33, ↓mq_146_36, ↓mq_146_38, Option.toList, List.cons_append, List.nil_append, mt_eq hz, mn_add, mm_las, hz, ne_eq, not_true_eq_false, if_false]
          exact r1
        · refine ⟨g, ?_, ⟨_, G2⟩, F.tt F2⟩
          rw [mq_146_11]
          simp only [↓reduceIte, ↓mq_146_0, ↓mq_146_1, ↓mq_146_2, ↓mq_146_5, ↓mq_146_6, ↓mq_146_9, ↓mq_146_10, ↓mq_146_12, ↓mq_146_14, ↓mq_146_17, ↓mq_146_18, ↓mq_146_19, ↓mq_146_22, ↓mq_146_25, ↓mq_146_28, ↓mq_146_29, ↓mq_146_30, ↓mq_146_33, ↓mq_146_36, ↓mq_146_38, mf_lt (show d ≤ 99 by omega), ↓mj_bs (mr_b16 hrk.1), mr_is hrk.1]
          rw [mj_bs f]
          simp only [↓reduceIte, ↓mq_146_0, ↓mq_146_1, ↓mq_146_2, ↓mq_146_5, ↓mq_146_6, ↓mq_146_9, ↓mq_146_10, ↓mq_146_12, ↓mq_146_14, ↓mq_146_17, ↓mq_146_18, ↓mq_146_19, ↓mq_146_22, ↓mq_146_25, ↓mq_146_28, ↓mq_146_29, ↓mq_146_30, ↓mq_146_33, ↓mq_146_36, ↓mq_146_38, Option.toList, List.cons_append, List.nil_append, mf_eq hz, mm_las, hz, ne_eq, not_false_eq_true, if_true]
    obtain ⟨h', r1, ⟨μ', ⟨f', G', -⟩⟩, F'⟩ := loop 99 1 h1 (ms_m S) rfl wm G1 F1
    refine ⟨h', ?_, R.tr F' ⟨f', G'⟩, F'.mo (fun k z => by omega)⟩
    rw [mc_146]
    simp only [↓reduceIte, ↓mq_146_0, ↓mq_146_1, ↓mq_146_2, ↓mq_146_5, ↓mq_146_6, ↓mq_146_9, ↓mq_146_10, ↓mq_146_12, ↓mq_146_14, ↓mq_146_17, ↓mq_146_18, ↓mq_146_19, ↓mq_146_22, ↓mq_146_25, ↓mq_146_28, ↓mq_146_29, ↓mq_146_30, ↓mq_146_33, ↓mq_146_36, ↓mq_146_38, ↓mj_bs (mr_th hrb), mr_is hrb, ↓mj_bs (e1), Option.toList, List.nil_append]
    exact r1
  by_cases hz : ma_b (ms_m S) = 0
  · refine mh_opI (v := .int (mm_las (ms_r S) 99 (ms_m S) 1)) (S' := S) JJ (h1 := h) w ?_ mh_F.rf JJ.2.1 (ref h)
    rw [mc_80, mm_las0 wr _ _ _ wm hz]
    simp only [↓reduceIte, ↓mq_80_0, ↓mq_80_1, ↓mq_80_4, ↓mq_80_7, ↓mq_80_10, ↓mq_80_12, ↓mq_80_13, ↓mq_80_14, ↓mq_80_17, ↓mq_80_18, ↓mq_80_21, ↓mq_80_24, ↓mq_80_25, ↓mq_80_26, ↓mq_80_27, ↓mq_80_29, ↓mq_80_32, ↓mq_80_33, ↓mq_80_36, ↓mq_80_39, ↓mq_80_42, ↓mq_80_43, ↓mq_80_44, ↓mq_80_47, ↓mq_80_50, ↓mq_80_52, ↓mj_bs (mh_gf 3 o1 rfl), ↓mj_bs (mh_gf 2 M.1 rfl), mt_eq hz]
  · obtain ⟨h1, e1, T1, F1⟩ := mt_17 T M (by omega) (by omega) (by omega)
    have F1' : mh_F (mh_A 22 23) h h1 := F1
    have no : ∀ k, k < 22 → ¬ mh_A 22 23 k := fun k hk z => by have := z.1; omega
    have loop : ∀ k d hk (μ : mm_Ma), k + d = 100 → mw_M (ms_r S) μ → mh_Ma hk 22 4 μ → mh_F (mh_A 22 23) h hk → ∃ h', mj_R 80 (26, [.ref 1, .int (nI d)], [], hk) = some (some (.int (mm_las (ms_r S) k μ d)), h') ∧ (∃ μ', mh_Ma h' 22 4 μ') ∧ mh_F (mh_A 22 23) h h' := by
      intro k
      induction k with
      | zero =>
        intro d hk μ hd wμ G F
        obtain rfl : d = 100 := by omega
        refine ⟨hk, ?_, ⟨μ, G⟩, F⟩
        simp only [↓reduceIte, ↓mq_80_0, ↓mq_80_1, ↓mq_80_4, ↓mq_80_7, ↓mq_80_10, ↓mq_80_12, ↓mq_80_13, ↓mq_80_14, ↓mq_80_17, ↓mq_80_18, ↓mq_80_21, ↓mq_80_24, ↓mq_80_25, ↓mq_80_26, ↓mq_80_27, ↓mq_80_29, ↓mq_80_32, ↓mq_80_33, ↓mq_80_36, ↓mq_80_39, ↓mq_80_42, ↓mq_80_43, ↓mq_80_44, ↓mq_80_47, ↓mq_80_50, ↓mq_80_52, mt_lt (show 99 < 100 by omega), mm_las]
      | succ k ih =>
        intro d hk μ hd wμ G F
        have ok := (F.2 1 (no _ (by omega))).trans o1
        have Rk := Ro.kp F (fun k a b => no k (by omega))
        obtain ⟨g, f, G2, F2⟩ := mt_21 wr wμ Rk (by omega) G
        have F2' : mh_F (mh_A 22 23) hk g := F2.mo (fun k z => by subst z; exact ⟨by omega, by omega⟩)
        have hsw : mm_slw (ms_r S) μ < 64 := mm_dif_lt _ (mw_b wr wμ) _ (mm_sb_sub wr wμ).1
        by_cases hz : mm_slw (ms_r S) μ = 0
        · obtain ⟨h', r1, r2⟩ := ih (d + 1) g _ (by omega) (mw_slp wr wμ) G2 (F.tt F2')
          refine ⟨h', ?_, r2⟩
          rw [mq_80_26]
          simp only [↓reduceIte, ↓mq_80_0, ↓mq_80_1, ↓mq_80_4, ↓mq_80_7, ↓mq_80_10, ↓mq_80_12, ↓mq_80_13, ↓mq_80_14, ↓mq_80_17, ↓mq_80_18, ↓mq_80_21, ↓mq_80_24, ↓mq_80_25, ↓mq_80_27, ↓mq_80_29, ↓mq_80_32, ↓mq_80_33, ↓mq_80_36, ↓mq_80_39, ↓mq_80_42, ↓mq_80_43, ↓mq_80_44, ↓mq_80_47, ↓mq_80_50, ↓mq_80_52, mf_lt (show d ≤ 99 by omega), ↓mj_bs (mh_gf 4 ok rfl), mh_isC G.1, ↓mj_bs (f), Option.toList, List.cons_append, List.nil_append, mt_eq hz, mn_add, mm_las, hz, ne_eq, not_true_eq_false, if_false]
          exact r1
        · refine ⟨g, ?_, ⟨_, G2⟩, F.tt F2'⟩
          rw [mq_80_26]
          simp only [↓reduceIte, ↓mq_80_0, ↓mq_80_1, ↓mq_80_4, ↓mq_80_7, ↓mq_80_10, ↓mq_80_12, ↓mq_80_13, ↓mq_80_14, ↓mq_80_17, ↓mq_80_18, ↓mq_80_21, ↓mq_80_24, ↓mq_80_25, ↓mq_80_27, ↓mq_80_29, ↓mq_80_32, ↓mq_80_33, ↓mq_80_36, ↓mq_80_39, ↓mq_80_42, ↓mq_80_43, ↓mq_80_44, ↓mq_80_47, ↓mq_80_50, ↓mq_80_52, mf_lt (show d ≤ 99 by omega), ↓mj_bs (mh_gf 4 ok rfl), mh_isC G.1, ↓mj_bs (f), Option.toList, List.cons_append, List.nil_append, mf_eq hz, mm_las, hz, ne_eq, not_false_eq_true, if_true]
    obtain ⟨h', r1, ⟨μ', G'⟩, F'⟩ := loop 99 1 h1 (ms_m S) rfl wm T1 F1'
    refine mh_opI (v := .int (mm_las (ms_r S) 99 (ms_m S) 1)) (S' := S) JJ (h1 := h') w ?_ (F'.mo (fun k z => ⟨by have := z.1; omega, by have := z.2; omega⟩)) (JJ.2.1.tr F' G') (ref h')
    rw [mc_80]
    simp only [↓reduceIte, ↓mq_80_0, ↓mq_80_1, ↓mq_80_4, ↓mq_80_7, ↓mq_80_10, ↓mq_80_12, ↓mq_80_13, ↓mq_80_14, ↓mq_80_17, ↓mq_80_18, ↓mq_80_21, ↓mq_80_24, ↓mq_80_25, ↓mq_80_27, ↓mq_80_29, ↓mq_80_32, ↓mq_80_33, ↓mq_80_36, ↓mq_80_39, ↓mq_80_42, ↓mq_80_43, ↓mq_80_44, ↓mq_80_47, ↓mq_80_50, ↓mq_80_52, ↓mj_bs (mh_gf 3 o1 rfl), ↓mj_bs (mh_gf 2 M.1 rfl), mf_eq hz, ↓mj_bs (mh_gf 4 o1 rfl), mh_isC T.1, ↓mj_bs (e1), Option.toList, List.nil_append]
    exact r1
end
