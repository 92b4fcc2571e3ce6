/-! THE LAW: a call, cases 0 to 11 -/
section
variable {S : mm_St} {h : mj_H} {xs : List Int32} {i : Nat}
theorem ml_g {j : Nat} (X : h.1 0 = some (.inl (3, xs))) (hj : j < xs.length) (hl : xs.length ≤ 2048) : ∃ a, mj_gi h 0 (nI j) = some a := by
  obtain ⟨i1, i2⟩ := mn_ix (show j < 2 ^ 31 by omega)
  refine ⟨xs[j], ?_⟩
  simp only [mj_gi, X]
  rw [if_pos ⟨by decide, i1⟩, i2]
  exact List.getElem?_eq_getElem hj
theorem ml_gg {h' : mj_H} {j : Int32} {a : Int32} (F : h'.1 0 = h.1 0) (e : mj_gi h 0 j = some a) : mj_gi h' 0 j = some a := by
  rw [← e]
  simp only [mj_gi, F]
theorem ml_is {h1 : mj_H} (J : mh_J S h) (F1 : mh_F (mh_A 1 64) h h1) : mj_isC h1 65 7 = true := by
  have e := F1.2 65 (fun z => by have := z.2; omega)
  have := mr_is J.2.2.rr.1
  simpa only [mj_isC, e] using this
theorem ml_cmp (x : Int64) : lg_cmp x x = nI 0 := by
  unfold lg_cmp
  have h1 : ¬ x > x := fun z => by have := Int64.lt_iff_toInt_lt.mp z; omega
  rw [if_neg h1, if_pos rfl]
  rfl
/-- a call of the class and the same of the reference, and on -/
def ml_ok (xs : List Int32) (i k : Nat) (h : mj_H) : Prop := ∃ S' h', mj_R 167 (32, [.ref 0, .ref 1, .ref 65, .int (nI i)], [.int (nI k)], h) = mj_R 167 (981, [.ref 0, .ref 1, .ref 65, .int (nI i)], [], h') ∧ mh_J S' h' ∧ mh_F (fun k => 1 ≤ k) h h'
theorem ml_0 (J : mh_J S h) (X : h.1 0 = some (.inl (3, xs))) (hl : xs.length ≤ 2048) (hi : i + 4 ≤ xs.length) : ml_ok xs i 0 h := by
  obtain ⟨y1, g1⟩ := ml_g X (show i + 1 < xs.length by omega) hl
  obtain ⟨v, h1, S', h2, e1, e2, J2, F, F1⟩ := mo_60 J y1
  obtain ⟨x, rfl⟩ := mj_C_int e1 rfl
  have F0 : h1.1 0 = h.1 0 := F1.2 0 (fun z => by have := z.1; omega)
  refine ⟨S', h2, ?_, J2, F⟩
  rw [mq_167_32_0]
  simp only [↓reduceIte, ↓mq_167_176, ↓mq_167_177, ↓mq_167_178, ↓mq_167_179, ↓mq_167_180, ↓mq_167_181, ↓mq_167_182, ↓mq_167_185, ↓mq_167_186, ↓mq_167_187, ↓mq_167_188, ↓mq_167_189, ↓mq_167_190, ↓mq_167_191, ↓mq_167_194, mn_add, ↓mj_bs (g1), ↓mj_bs (ml_gg F0 g1), mh_isC J.2.1.1, ↓mj_bs (e1), Option.toList, List.cons_append, List.nil_append, ml_is J F1, ↓mj_bs (e2), eq_self]
theorem ml_1 (J : mh_J S h) (X : h.1 0 = some (.inl (3, xs))) (hl : xs.length ≤ 2048) (hi : i + 4 ≤ xs.length) : ml_ok xs i 1 h := by
  obtain ⟨v, h1, S', h2, e1, e2, J2, F, F1⟩ := mo_61 J
  obtain ⟨x, rfl⟩ := mj_C_int e1 rfl
  have F0 : h1.1 0 = h.1 0 := F1.2 0 (fun z => by have := z.1; omega)
  refine ⟨S', h2, ?_, J2, F⟩
  rw [mq_167_32_1]
  simp only [↓reduceIte, ↓mq_167_199, ↓mq_167_200, ↓mq_167_203, ↓mq_167_204, ↓mq_167_207, mn_add, mh_isC J.2.1.1, ↓mj_bs (e1), Option.toList, List.cons_append, List.nil_append, ml_is J F1, ↓mj_bs (e2), eq_self]
theorem ml_2 (J : mh_J S h) (X : h.1 0 = some (.inl (3, xs))) (hl : xs.length ≤ 2048) (hi : i + 4 ≤ xs.length) : ml_ok xs i 2 h := by
  obtain ⟨v, h1, S', h2, e1, e2, J2, F, F1⟩ := mo_62 J
  obtain ⟨x, rfl⟩ := mj_C_int e1 rfl
  have F0 : h1.1 0 = h.1 0 := F1.2 0 (fun z => by have := z.1; omega)
  refine ⟨S', h2, ?_, J2, F⟩
  rw [mq_167_32_2]
  simp only [↓reduceIte, ↓mq_167_212, ↓mq_167_213, ↓mq_167_216, ↓mq_167_217, ↓mq_167_220, mn_add, mh_isC J.2.1.1, ↓mj_bs (e1), Option.toList, List.cons_append, List.nil_append, ml_is J F1, ↓mj_bs (e2), eq_self]
theorem ml_3 (J : mh_J S h) (X : h.1 0 = some (.inl (3, xs))) (hl : xs.length ≤ 2048) (hi : i + 4 ≤ xs.length) : ml_ok xs i 3 h := by
  obtain ⟨v, h1, S', h2, e1, e2, J2, F, F1⟩ := mo_63 J
  obtain ⟨x, rfl⟩ := mj_C_int e1 rfl
  have F0 : h1.1 0 = h.1 0 := F1.2 0 (fun z => by have := z.1; omega)
  refine ⟨S', h2, ?_, J2, F⟩
  rw [mq_167_32_3]
  simp only [↓reduceIte, ↓mq_167_225, ↓mq_167_226, ↓mq_167_229, ↓mq_167_230, ↓mq_167_233, mn_add, mh_isC J.2.1.1, ↓mj_bs (e1), Option.toList, List.cons_append, List.nil_append, ml_is J F1, ↓mj_bs (e2), eq_self]
theorem ml_4 (J : mh_J S h) (X : h.1 0 = some (.inl (3, xs))) (hl : xs.length ≤ 2048) (hi : i + 4 ≤ xs.length) : ml_ok xs i 4 h := by
  obtain ⟨y1, g1⟩ := ml_g X (show i + 1 < xs.length by omega) hl
  obtain ⟨v, h1, S', h2, e1, e2, J2, F, F1⟩ := mo_64 J y1
  obtain ⟨x, rfl⟩ := mj_C_int e1 rfl
  have F0 : h1.1 0 = h.1 0 := F1.2 0 (fun z => by have := z.1; omega)
  refine ⟨S', h2, ?_, J2, F⟩
  rw [mq_167_32_4]
  simp only [↓reduceIte, ↓mq_167_238, ↓mq_167_239, ↓mq_167_240, ↓mq_167_241, ↓mq_167_242, ↓mq_167_243, ↓mq_167_244, ↓mq_167_247, ↓mq_167_248, ↓mq_167_249, ↓mq_167_250, ↓mq_167_251, ↓mq_167_252, ↓mq_167_253, ↓mq_167_256, mn_add, ↓mj_bs (g1), ↓mj_bs (ml_gg F0 g1), mh_isC J.2.1.1, ↓mj_bs (e1), Option.toList, List.cons_append, List.nil_append, ml_is J F1, ↓mj_bs (e2), eq_self]
theorem ml_5 (J : mh_J S h) (X : h.1 0 = some (.inl (3, xs))) (hl : xs.length ≤ 2048) (hi : i + 4 ≤ xs.length) : ml_ok xs i 5 h := by
  obtain ⟨y1, g1⟩ := ml_g X (show i + 1 < xs.length by omega) hl
  obtain ⟨y2, g2⟩ := ml_g X (show i + 2 < xs.length by omega) hl
  obtain ⟨v, h1, S', h2, e1, e2, J2, F, F1⟩ := mo_65 J y1 y2
  obtain ⟨x, rfl⟩ := mj_C_int e1 rfl
  have F0 : h1.1 0 = h.1 0 := F1.2 0 (fun z => by have := z.1; omega)
  refine ⟨S', h2, ?_, J2, F⟩
  rw [mq_167_32_5]
  simp only [↓reduceIte, ↓mq_167_261, ↓mq_167_262, ↓mq_167_263, ↓mq_167_264, ↓mq_167_265, ↓mq_167_266, ↓mq_167_267, ↓mq_167_268, ↓mq_167_269, ↓mq_167_270, ↓mq_167_271, ↓mq_167_272, ↓mq_167_275, ↓mq_167_276, ↓mq_167_277, ↓mq_167_278, ↓mq_167_279, ↓mq_167_280, ↓mq_167_281, ↓mq_167_282, ↓mq_167_283, ↓mq_167_284, ↓mq_167_285, ↓mq_167_286, ↓mq_167_289, mn_add, ↓mj_bs (g1), ↓mj_bs (ml_gg F0 g1), ↓mj_bs (g2), ↓mj_bs (ml_gg F0 g2), mh_isC J.2.1.1, ↓mj_bs (e1), Option.toList, List.cons_append, List.nil_append, ml_is J F1, ↓mj_bs (e2), eq_self]
theorem ml_6 (J : mh_J S h) (X : h.1 0 = some (.inl (3, xs))) (hl : xs.length ≤ 2048) (hi : i + 4 ≤ xs.length) : ml_ok xs i 6 h := by
  obtain ⟨y1, g1⟩ := ml_g X (show i + 1 < xs.length by omega) hl
  obtain ⟨y2, g2⟩ := ml_g X (show i + 2 < xs.length by omega) hl
  obtain ⟨v, h1, S', h2, e1, e2, J2, F, F1⟩ := mo_66 J y1 y2
  obtain ⟨x, rfl⟩ := mj_C_int e1 rfl
  have F0 : h1.1 0 = h.1 0 := F1.2 0 (fun z => by have := z.1; omega)
  refine ⟨S', h2, ?_, J2, F⟩
  rw [mq_167_32_6]
  simp only [↓reduceIte, ↓mq_167_294, ↓mq_167_295, ↓mq_167_296, ↓mq_167_297, ↓mq_167_298, ↓mq_167_299, ↓mq_167_300, ↓mq_167_301, ↓mq_167_302, ↓mq_167_303, ↓mq_167_304, ↓mq_167_305, ↓mq_167_308, ↓mq_167_309, ↓mq_167_310, ↓mq_167_311, ↓mq_167_312, ↓mq_167_313, ↓mq_167_314, ↓mq_167_315, ↓mq_167_316, ↓mq_167_317, ↓mq_167_318, ↓mq_167_319, ↓mq_167_322, mn_add, ↓mj_bs (g1), ↓mj_bs (ml_gg F0 g1), ↓mj_bs (g2), ↓mj_bs (ml_gg F0 g2), mh_isC J.2.1.1, ↓mj_bs (e1), Option.toList, List.cons_append, List.nil_append, ml_is J F1, ↓mj_bs (e2), eq_self]
theorem ml_7 (J : mh_J S h) (X : h.1 0 = some (.inl (3, xs))) (hl : xs.length ≤ 2048) (hi : i + 4 ≤ xs.length) : ml_ok xs i 7 h := by
  obtain ⟨v, h1, S', h2, e1, e2, J2, F, F1⟩ := mo_67 J
  obtain ⟨x, rfl⟩ := mj_C_int e1 rfl
  have F0 : h1.1 0 = h.1 0 := F1.2 0 (fun z => by have := z.1; omega)
  refine ⟨S', h2, ?_, J2, F⟩
  rw [mq_167_32_7]
  simp only [↓reduceIte, ↓mq_167_327, ↓mq_167_328, ↓mq_167_331, ↓mq_167_332, ↓mq_167_335, mn_add, mh_isC J.2.1.1, ↓mj_bs (e1), Option.toList, List.cons_append, List.nil_append, ml_is J F1, ↓mj_bs (e2), eq_self]
theorem ml_8 (J : mh_J S h) (X : h.1 0 = some (.inl (3, xs))) (hl : xs.length ≤ 2048) (hi : i + 4 ≤ xs.length) : ml_ok xs i 8 h := by
  obtain ⟨v, h1, S', h2, e1, e2, J2, F, F1⟩ := mo_68 J
  obtain ⟨x, rfl⟩ := mj_C_int e1 rfl
  have F0 : h1.1 0 = h.1 0 := F1.2 0 (fun z => by have := z.1; omega)
  refine ⟨S', h2, ?_, J2, F⟩
  rw [mq_167_32_8]
  simp only [↓reduceIte, ↓mq_167_340, ↓mq_167_341, ↓mq_167_344, ↓mq_167_345, ↓mq_167_348, mn_add, mh_isC J.2.1.1, ↓mj_bs (e1), Option.toList, List.cons_append, List.nil_append, ml_is J F1, ↓mj_bs (e2), eq_self]
theorem ml_9 (J : mh_J S h) (X : h.1 0 = some (.inl (3, xs))) (hl : xs.length ≤ 2048) (hi : i + 4 ≤ xs.length) : ml_ok xs i 9 h := by
  obtain ⟨v, h1, S', h2, e1, e2, J2, F, F1⟩ := mo_69 J
  obtain ⟨x, rfl⟩ := mj_C_int e1 rfl
  have F0 : h1.1 0 = h.1 0 := F1.2 0 (fun z => by have := z.1; omega)
  refine ⟨S', h2, ?_, J2, F⟩
  rw [mq_167_32_9]
  simp only [↓reduceIte, ↓mq_167_353, ↓mq_167_354, ↓mq_167_357, ↓mq_167_358, ↓mq_167_361, mn_add, mh_isC J.2.1.1, ↓mj_bs (e1), Option.toList, List.cons_append, List.nil_append, ml_is J F1, ↓mj_bs (e2), eq_self]
theorem ml_10 (J : mh_J S h) (X : h.1 0 = some (.inl (3, xs))) (hl : xs.length ≤ 2048) (hi : i + 4 ≤ xs.length) : ml_ok xs i 10 h := by
  obtain ⟨v, h1, S', h2, e1, e2, J2, F, F1⟩ := mo_70 J
  obtain ⟨x, rfl⟩ := mj_C_int e1 rfl
  have F0 : h1.1 0 = h.1 0 := F1.2 0 (fun z => by have := z.1; omega)
  refine ⟨S', h2, ?_, J2, F⟩
  rw [mq_167_32_10]
  simp only [↓reduceIte, ↓mq_167_366, ↓mq_167_367, ↓mq_167_370, ↓mq_167_371, ↓mq_167_374, mn_add, mh_isC J.2.1.1, ↓mj_bs (e1), Option.toList, List.cons_append, List.nil_append, ml_is J F1, ↓mj_bs (e2), eq_self]
theorem ml_11 (J : mh_J S h) (X : h.1 0 = some (.inl (3, xs))) (hl : xs.length ≤ 2048) (hi : i + 4 ≤ xs.length) : ml_ok xs i 11 h := by
  obtain ⟨v, h1, S', h2, e1, e2, J2, F, F1⟩ := mo_71 J
  obtain ⟨x, rfl⟩ := mj_C_int e1 rfl
  have F0 : h1.1 0 = h.1 0 := F1.2 0 (fun z => by have := z.1; omega)
  refine ⟨S', h2, ?_, J2, F⟩
  rw [mq_167_32_11]
  simp only [↓reduceIte, ↓mq_167_379, ↓mq_167_380, ↓mq_167_383, ↓mq_167_384, ↓mq_167_387, mn_add, mh_isC J.2.1.1, ↓mj_bs (e1), Option.toList, List.cons_append, List.nil_append, ml_is J F1, ↓mj_bs (e2), eq_self]
end
