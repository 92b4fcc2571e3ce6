/-! THE LAW: a call, cases 12 to 21 -/
section
variable {S : mm_St} {h : mj_H} {xs : List Int32} {i : Nat}
theorem ml_12 (J : mh_J S h) (X : h.1 0 = some (.inl (3, xs))) (hl : xs.length ≤ 2048) (hi : i + 4 ≤ xs.length) : ml_ok xs i 12 h := by
  obtain ⟨y1, g1⟩ := ml_g X (show i + 1 < xs.length by omega) hl
  obtain ⟨y2, g2⟩ := ml_g X (show i + 2 < xs.length by omega) hl
  obtain ⟨v, h1, S', h2, e1, e2, J2, F, F1⟩ := mo_72 J y1 y2
  obtain ⟨x, rfl⟩ := mj_C_int e1 rfl
  have F0 : h1.1 0 = h.1 0 := F1.2 0 (fun z => by have := z.1; omega)
  refine ⟨S', h2, ?_, J2, F⟩
  rw [mq_167_32_12]
  simp only [↓reduceIte, ↓mq_167_392, ↓mq_167_393, ↓mq_167_394, ↓mq_167_395, ↓mq_167_396, ↓mq_167_397, ↓mq_167_398, ↓mq_167_399, ↓mq_167_400, ↓mq_167_401, ↓mq_167_402, ↓mq_167_403, ↓mq_167_406, ↓mq_167_407, ↓mq_167_408, ↓mq_167_409, ↓mq_167_410, ↓mq_167_411, ↓mq_167_412, ↓mq_167_413, ↓mq_167_414, ↓mq_167_415, ↓mq_167_416, ↓mq_167_417, ↓mq_167_420, mn_add, ↓mj_bs (g1), ↓mj_bs (ml_gg F0 g1), ↓mj_bs (g2), ↓mj_bs (ml_gg F0 g2), mh_isC J.2.1.1, ↓mj_bs (e1), Option.toList, List.cons_append, List.nil_append, ml_is J F1, ↓mj_bs (e2), eq_self]
theorem ml_13 (J : mh_J S h) (X : h.1 0 = some (.inl (3, xs))) (hl : xs.length ≤ 2048) (hi : i + 4 ≤ xs.length) : ml_ok xs i 13 h := by
  obtain ⟨y1, g1⟩ := ml_g X (show i + 1 < xs.length by omega) hl
  obtain ⟨v, h1, S', h2, e1, e2, J2, F, F1⟩ := mo_75 J y1
  obtain ⟨x, rfl⟩ := mj_C_int e1 rfl
  have F0 : h1.1 0 = h.1 0 := F1.2 0 (fun z => by have := z.1; omega)
  refine ⟨S', h2, ?_, J2, F⟩
  rw [mq_167_32_13]
  simp only [↓reduceIte, ↓mq_167_425, ↓mq_167_426, ↓mq_167_427, ↓mq_167_428, ↓mq_167_429, ↓mq_167_430, ↓mq_167_431, ↓mq_167_434, ↓mq_167_435, ↓mq_167_436, ↓mq_167_437, ↓mq_167_438, ↓mq_167_439, ↓mq_167_440, ↓mq_167_443, mn_add, ↓mj_bs (g1), ↓mj_bs (ml_gg F0 g1), mh_isC J.2.1.1, ↓mj_bs (e1), Option.toList, List.cons_append, List.nil_append, ml_is J F1, ↓mj_bs (e2), eq_self]
theorem ml_14 (J : mh_J S h) (X : h.1 0 = some (.inl (3, xs))) (hl : xs.length ≤ 2048) (hi : i + 4 ≤ xs.length) : ml_ok xs i 14 h := by
  obtain ⟨y1, g1⟩ := ml_g X (show i + 1 < xs.length by omega) hl
  obtain ⟨v, h1, S', h2, e1, e2, J2, F, F1⟩ := mo_76 J y1
  obtain ⟨x, rfl⟩ := mj_C_int e1 rfl
  have F0 : h1.1 0 = h.1 0 := F1.2 0 (fun z => by have := z.1; omega)
  refine ⟨S', h2, ?_, J2, F⟩
  rw [mq_167_32_14]
  simp only [↓reduceIte, ↓mq_167_448, ↓mq_167_449, ↓mq_167_450, ↓mq_167_451, ↓mq_167_452, ↓mq_167_453, ↓mq_167_454, ↓mq_167_457, ↓mq_167_458, ↓mq_167_459, ↓mq_167_460, ↓mq_167_461, ↓mq_167_462, ↓mq_167_463, ↓mq_167_466, mn_add, ↓mj_bs (g1), ↓mj_bs (ml_gg F0 g1), mh_isC J.2.1.1, ↓mj_bs (e1), Option.toList, List.cons_append, List.nil_append, ml_is J F1, ↓mj_bs (e2), eq_self]
theorem ml_15 (J : mh_J S h) (X : h.1 0 = some (.inl (3, xs))) (hl : xs.length ≤ 2048) (hi : i + 4 ≤ xs.length) : ml_ok xs i 15 h := by
  obtain ⟨y1, g1⟩ := ml_g X (show i + 1 < xs.length by omega) hl
  obtain ⟨y2, g2⟩ := ml_g X (show i + 2 < xs.length by omega) hl
  obtain ⟨v, h1, S', h2, e1, e2, J2, F, F1⟩ := mo_77 J y1 y2
  obtain ⟨x, rfl⟩ := mj_C_int e1 rfl
  have F0 : h1.1 0 = h.1 0 := F1.2 0 (fun z => by have := z.1; omega)
  refine ⟨S', h2, ?_, J2, F⟩
  rw [mq_167_32_15]
  simp only [↓reduceIte, ↓mq_167_471, ↓mq_167_472, ↓mq_167_473, ↓mq_167_474, ↓mq_167_475, ↓mq_167_476, ↓mq_167_477, ↓mq_167_478, ↓mq_167_479, ↓mq_167_480, ↓mq_167_481, ↓mq_167_482, ↓mq_167_485, ↓mq_167_486, ↓mq_167_487, ↓mq_167_488, ↓mq_167_489, ↓mq_167_490, ↓mq_167_491, ↓mq_167_492, ↓mq_167_493, ↓mq_167_494, ↓mq_167_495, ↓mq_167_496, ↓mq_167_499, mn_add, ↓mj_bs (g1), ↓mj_bs (ml_gg F0 g1), ↓mj_bs (g2), ↓mj_bs (ml_gg F0 g2), mh_isC J.2.1.1, ↓mj_bs (e1), Option.toList, List.cons_append, List.nil_append, ml_is J F1, ↓mj_bs (e2), eq_self]
theorem ml_16 (J : mh_J S h) (X : h.1 0 = some (.inl (3, xs))) (hl : xs.length ≤ 2048) (hi : i + 4 ≤ xs.length) : ml_ok xs i 16 h := by
  obtain ⟨y1, g1⟩ := ml_g X (show i + 1 < xs.length by omega) hl
  obtain ⟨v, h1, S', h2, e1, e2, J2, F, F1⟩ := mo_79 J y1
  obtain ⟨x, rfl⟩ := mj_C_int e1 rfl
  have F0 : h1.1 0 = h.1 0 := F1.2 0 (fun z => by have := z.1; omega)
  refine ⟨S', h2, ?_, J2, F⟩
  rw [mq_167_32_16]
  simp only [↓reduceIte, ↓mq_167_504, ↓mq_167_505, ↓mq_167_506, ↓mq_167_507, ↓mq_167_508, ↓mq_167_509, ↓mq_167_510, ↓mq_167_513, ↓mq_167_514, ↓mq_167_515, ↓mq_167_516, ↓mq_167_517, ↓mq_167_518, ↓mq_167_519, ↓mq_167_522, mn_add, ↓mj_bs (g1), ↓mj_bs (ml_gg F0 g1), mh_isC J.2.1.1, ↓mj_bs (e1), Option.toList, List.cons_append, List.nil_append, ml_is J F1, ↓mj_bs (e2), eq_self]
theorem ml_17 (J : mh_J S h) (X : h.1 0 = some (.inl (3, xs))) (hl : xs.length ≤ 2048) (hi : i + 4 ≤ xs.length) : ml_ok xs i 17 h := by
  obtain ⟨v, h1, S', h2, e1, e2, J2, F, F1⟩ := mo_80 J
  obtain ⟨x, rfl⟩ := mj_C_int e1 rfl
  have F0 : h1.1 0 = h.1 0 := F1.2 0 (fun z => by have := z.1; omega)
  refine ⟨S', h2, ?_, J2, F⟩
  rw [mq_167_32_17]
  simp only [↓reduceIte, ↓mq_167_527, ↓mq_167_528, ↓mq_167_531, ↓mq_167_532, ↓mq_167_535, mn_add, mh_isC J.2.1.1, ↓mj_bs (e1), Option.toList, List.cons_append, List.nil_append, ml_is J F1, ↓mj_bs (e2), eq_self]
theorem ml_18 (J : mh_J S h) (X : h.1 0 = some (.inl (3, xs))) (hl : xs.length ≤ 2048) (hi : i + 4 ≤ xs.length) : ml_ok xs i 18 h := by
  obtain ⟨v, h1, S', h2, e1, e2, J2, F, F1⟩ := mo_81 J
  obtain ⟨x, rfl⟩ := mj_C_int e1 rfl
  have F0 : h1.1 0 = h.1 0 := F1.2 0 (fun z => by have := z.1; omega)
  refine ⟨S', h2, ?_, J2, F⟩
  rw [mq_167_32_18]
  simp only [↓reduceIte, ↓mq_167_540, ↓mq_167_541, ↓mq_167_544, ↓mq_167_545, ↓mq_167_548, mn_add, mh_isC J.2.1.1, ↓mj_bs (e1), Option.toList, List.cons_append, List.nil_append, ml_is J F1, ↓mj_bs (e2), eq_self]
theorem ml_19 (J : mh_J S h) (X : h.1 0 = some (.inl (3, xs))) (hl : xs.length ≤ 2048) (hi : i + 4 ≤ xs.length) : ml_ok xs i 19 h := by
  obtain ⟨y1, g1⟩ := ml_g X (show i + 1 < xs.length by omega) hl
  obtain ⟨y2, g2⟩ := ml_g X (show i + 2 < xs.length by omega) hl
  by_cases hy : y2 = nI 0
  · subst hy
    obtain ⟨v, h1, S', h2, e1, e2, J2, F, F1⟩ := mo_82 J y1 false
    obtain ⟨x, rfl⟩ := mj_C_int e1 rfl
    have F0 : h1.1 0 = h.1 0 := F1.2 0 (fun z => by have := z.1; omega)
    refine ⟨S', h2, ?_, J2, F⟩
    have e1' : mj_C 82 [.ref 1, .int y1, .int (nI 0)] h = some (some (.int x), h1) := e1
    have e2' : mj_C 148 [.ref 65, .int y1, .int (nI 0)] h1 = some (some (.int x), h2) := e2
    rw [mq_167_32_19]
    simp only [↓reduceIte, ↓mq_167_553, ↓mq_167_554, ↓mq_167_555, ↓mq_167_556, ↓mq_167_557, ↓mq_167_558, ↓mq_167_559, ↓mq_167_560, ↓mq_167_561, ↓mq_167_562, ↓mq_167_563, ↓mq_167_564, ↓mq_167_567, ↓mq_167_568, ↓mq_167_571, ↓mq_167_572, ↓mq_167_575, ↓mq_167_576, ↓mq_167_577, ↓mq_167_578, ↓mq_167_579, ↓mq_167_580, ↓mq_167_581, ↓mq_167_582, ↓mq_167_583, ↓mq_167_584, ↓mq_167_585, ↓mq_167_586, ↓mq_167_589, ↓mq_167_590, ↓mq_167_593, ↓mq_167_594, ↓mq_167_597, mn_add, ↓mj_bs (g1), ↓mj_bs (ml_gg F0 g1), ↓mj_bs (g2), ↓mj_bs (ml_gg F0 g2), mh_isC J.2.1.1, ↓mj_bs (e1'), Option.toList, List.cons_append, List.nil_append, ml_is J F1, ↓mj_bs (e2'), eq_self]
  · have hy' : (y2 = nI 0) = False := eq_false hy
    obtain ⟨v, h1, S', h2, e1, e2, J2, F, F1⟩ := mo_82 J y1 true
    obtain ⟨x, rfl⟩ := mj_C_int e1 rfl
    have F0 : h1.1 0 = h.1 0 := F1.2 0 (fun z => by have := z.1; omega)
    refine ⟨S', h2, ?_, J2, F⟩
    have e1' : mj_C 82 [.ref 1, .int y1, .int (nI 1)] h = some (some (.int x), h1) := e1
    have e2' : mj_C 148 [.ref 65, .int y1, .int (nI 1)] h1 = some (some (.int x), h2) := e2
    rw [mq_167_32_19]
    simp only [↓reduceIte, ↓mq_167_553, ↓mq_167_554, ↓mq_167_555, ↓mq_167_556, ↓mq_167_557, ↓mq_167_558, ↓mq_167_559, ↓mq_167_560, ↓mq_167_561, ↓mq_167_562, ↓mq_167_563, ↓mq_167_564, ↓mq_167_567, ↓mq_167_568, ↓mq_167_571, ↓mq_167_572, ↓mq_167_575, ↓mq_167_576, ↓mq_167_577, ↓mq_167_578, ↓mq_167_579, ↓mq_167_580, ↓mq_167_581, ↓mq_167_582, ↓mq_167_583, ↓mq_167_584, ↓mq_167_585, ↓mq_167_586, ↓mq_167_589, ↓mq_167_590, ↓mq_167_593, ↓mq_167_594, ↓mq_167_597, mn_add, ↓mj_bs (g1), ↓mj_bs (ml_gg F0 g1), ↓mj_bs (g2), ↓mj_bs (ml_gg F0 g2), mh_isC J.2.1.1, ↓mj_bs (e1'), Option.toList, List.cons_append, List.nil_append, ml_is J F1, ↓mj_bs (e2'), hy', eq_self]
theorem ml_20 (J : mh_J S h) (X : h.1 0 = some (.inl (3, xs))) (hl : xs.length ≤ 2048) (hi : i + 4 ≤ xs.length) : ml_ok xs i 20 h := by
  obtain ⟨y1, g1⟩ := ml_g X (show i + 1 < xs.length by omega) hl
  obtain ⟨v, h1, S', h2, e1, e2, J2, F, F1⟩ := mo_85 J y1
  obtain ⟨x, rfl⟩ := mj_C_int e1 rfl
  have F0 : h1.1 0 = h.1 0 := F1.2 0 (fun z => by have := z.1; omega)
  refine ⟨S', h2, ?_, J2, F⟩
  rw [mq_167_32_20]
  simp only [↓reduceIte, ↓mq_167_602, ↓mq_167_603, ↓mq_167_604, ↓mq_167_605, ↓mq_167_606, ↓mq_167_607, ↓mq_167_608, ↓mq_167_611, ↓mq_167_612, ↓mq_167_613, ↓mq_167_614, ↓mq_167_615, ↓mq_167_616, ↓mq_167_617, ↓mq_167_620, mn_add, ↓mj_bs (g1), ↓mj_bs (ml_gg F0 g1), mh_isC J.2.1.1, ↓mj_bs (e1), Option.toList, List.cons_append, List.nil_append, ml_is J F1, ↓mj_bs (e2), eq_self]
theorem ml_21 (J : mh_J S h) (X : h.1 0 = some (.inl (3, xs))) (hl : xs.length ≤ 2048) (hi : i + 4 ≤ xs.length) : ml_ok xs i 21 h := by
  obtain ⟨y1, g1⟩ := ml_g X (show i + 1 < xs.length by omega) hl
  obtain ⟨v, h1, S', h2, e1, e2, J2, F, F1⟩ := mo_86 J y1
  obtain ⟨x, rfl⟩ := mj_C_int e1 rfl
  have F0 : h1.1 0 = h.1 0 := F1.2 0 (fun z => by have := z.1; omega)
  refine ⟨S', h2, ?_, J2, F⟩
  rw [mq_167_32_21]
  simp only [↓reduceIte, ↓mq_167_625, ↓mq_167_626, ↓mq_167_627, ↓mq_167_628, ↓mq_167_629, ↓mq_167_630, ↓mq_167_631, ↓mq_167_634, ↓mq_167_635, ↓mq_167_636, ↓mq_167_637, ↓mq_167_638, ↓mq_167_639, ↓mq_167_640, ↓mq_167_643, mn_add, ↓mj_bs (g1), ↓mj_bs (ml_gg F0 g1), mh_isC J.2.1.1, ↓mj_bs (e1), Option.toList, List.cons_append, List.nil_append, ml_is J F1, ↓mj_bs (e2), eq_self]
end
