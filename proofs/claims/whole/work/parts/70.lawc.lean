/-! THE LAW: a call, cases 22 to 31 -/
section
variable {S : mm_St} {h : mj_H} {xs : List Int32} {i : Nat}
theorem ml_22 (J : mh_J S h) (X : h.1 0 = some (.inl (3, xs))) (hl : xs.length ≤ 2048) (hi : i + 4 ≤ xs.length) : ml_ok xs i 22 h := by
  obtain ⟨y1, g1⟩ := ml_g X (show i + 1 < xs.length by omega) hl
  obtain ⟨y2, g2⟩ := ml_g X (show i + 2 < xs.length by omega) hl
  obtain ⟨v, h1, S', h2, e1, e2, J2, F, F1⟩ := mo_87 J y1 y2
  obtain ⟨x, rfl⟩ := mj_C_int e1 rfl
  have F0 : h1.1 0 = h.1 0 := F1.2 0 (fun z => by have := z.1; omega)
  refine ⟨S', h2, ?_, J2, F⟩
  rw [mq_167_32_22]
  simp only [↓reduceIte, ↓mq_167_648, ↓mq_167_649, ↓mq_167_650, ↓mq_167_651, ↓mq_167_652, ↓mq_167_653, ↓mq_167_654, ↓mq_167_655, ↓mq_167_656, ↓mq_167_657, ↓mq_167_658, ↓mq_167_659, ↓mq_167_662, ↓mq_167_663, ↓mq_167_664, ↓mq_167_665, ↓mq_167_666, ↓mq_167_667, ↓mq_167_668, ↓mq_167_669, ↓mq_167_670, ↓mq_167_671, ↓mq_167_672, ↓mq_167_673, ↓mq_167_676, mn_add, ↓mj_bs (g1), ↓mj_bs (ml_gg F0 g1), ↓mj_bs (g2), ↓mj_bs (ml_gg F0 g2), mh_isC J.2.1.1, ↓mj_bs (e1), Option.toList, List.cons_append, List.nil_append, ml_is J F1, ↓mj_bs (e2), eq_self]
theorem ml_23 (J : mh_J S h) (X : h.1 0 = some (.inl (3, xs))) (hl : xs.length ≤ 2048) (hi : i + 4 ≤ xs.length) : ml_ok xs i 23 h := by
  obtain ⟨y1, g1⟩ := ml_g X (show i + 1 < xs.length by omega) hl
  obtain ⟨v, h1, S', h2, e1, e2, J2, F, F1⟩ := mo_90 J y1
  obtain ⟨x, rfl⟩ := mj_C_int e1 rfl
  have F0 : h1.1 0 = h.1 0 := F1.2 0 (fun z => by have := z.1; omega)
  refine ⟨S', h2, ?_, J2, F⟩
  rw [mq_167_32_23]
  simp only [↓reduceIte, ↓mq_167_681, ↓mq_167_682, ↓mq_167_683, ↓mq_167_684, ↓mq_167_685, ↓mq_167_686, ↓mq_167_687, ↓mq_167_690, ↓mq_167_691, ↓mq_167_692, ↓mq_167_693, ↓mq_167_694, ↓mq_167_695, ↓mq_167_696, ↓mq_167_699, mn_add, ↓mj_bs (g1), ↓mj_bs (ml_gg F0 g1), mh_isC J.2.1.1, ↓mj_bs (e1), Option.toList, List.cons_append, List.nil_append, ml_is J F1, ↓mj_bs (e2), eq_self]
theorem ml_24 (J : mh_J S h) (X : h.1 0 = some (.inl (3, xs))) (hl : xs.length ≤ 2048) (hi : i + 4 ≤ xs.length) : ml_ok xs i 24 h := by
  obtain ⟨y1, g1⟩ := ml_g X (show i + 1 < xs.length by omega) hl
  obtain ⟨y2, g2⟩ := ml_g X (show i + 2 < xs.length by omega) hl
  obtain ⟨v, h1, S', h2, e1, e2, J2, F, F1⟩ := mo_91 J y1 y2
  obtain ⟨x, rfl⟩ := mj_C_int e1 rfl
  have F0 : h1.1 0 = h.1 0 := F1.2 0 (fun z => by have := z.1; omega)
  refine ⟨S', h2, ?_, J2, F⟩
  rw [mq_167_32_24]
  simp only [↓reduceIte, ↓mq_167_704, ↓mq_167_705, ↓mq_167_706, ↓mq_167_707, ↓mq_167_708, ↓mq_167_709, ↓mq_167_710, ↓mq_167_711, ↓mq_167_712, ↓mq_167_713, ↓mq_167_714, ↓mq_167_715, ↓mq_167_718, ↓mq_167_719, ↓mq_167_720, ↓mq_167_721, ↓mq_167_722, ↓mq_167_723, ↓mq_167_724, ↓mq_167_725, ↓mq_167_726, ↓mq_167_727, ↓mq_167_728, ↓mq_167_729, ↓mq_167_732, mn_add, ↓mj_bs (g1), ↓mj_bs (ml_gg F0 g1), ↓mj_bs (g2), ↓mj_bs (ml_gg F0 g2), mh_isC J.2.1.1, ↓mj_bs (e1), Option.toList, List.cons_append, List.nil_append, ml_is J F1, ↓mj_bs (e2), eq_self]
theorem ml_25 (J : mh_J S h) (X : h.1 0 = some (.inl (3, xs))) (hl : xs.length ≤ 2048) (hi : i + 4 ≤ xs.length) : ml_ok xs i 25 h := by
  obtain ⟨y1, g1⟩ := ml_g X (show i + 1 < xs.length by omega) hl
  obtain ⟨y2, g2⟩ := ml_g X (show i + 2 < xs.length by omega) hl
  by_cases hy : y2 = nI 0
  · subst hy
    obtain ⟨v, h1, S', h2, e1, e2, J2, F, F1⟩ := mo_93 J y1 false
    obtain ⟨x, rfl⟩ := mj_C_int e1 rfl
    have F0 : h1.1 0 = h.1 0 := F1.2 0 (fun z => by have := z.1; omega)
    refine ⟨S', h2, ?_, J2, F⟩
    have e1' : mj_C 93 [.ref 1, .int y1, .int (nI 0)] h = some (some (.int x), h1) := e1
    have e2' : mj_C 159 [.ref 65, .int y1, .int (nI 0)] h1 = some (some (.int x), h2) := e2
    rw [mq_167_32_25]
    simp only [↓reduceIte, ↓mq_167_737, ↓mq_167_738, ↓mq_167_739, ↓mq_167_740, ↓mq_167_741, ↓mq_167_742, ↓mq_167_743, ↓mq_167_744, ↓mq_167_745, ↓mq_167_746, ↓mq_167_747, ↓mq_167_748, ↓mq_167_751, ↓mq_167_752, ↓mq_167_755, ↓mq_167_756, ↓mq_167_759, ↓mq_167_760, ↓mq_167_761, ↓mq_167_762, ↓mq_167_763, ↓mq_167_764, ↓mq_167_765, ↓mq_167_766, ↓mq_167_767, ↓mq_167_768, ↓mq_167_769, ↓mq_167_770, ↓mq_167_773, ↓mq_167_774, ↓mq_167_777, ↓mq_167_778, ↓mq_167_781, mn_add, ↓mj_bs (g1), ↓mj_bs (ml_gg F0 g1), ↓mj_bs (g2), ↓mj_bs (ml_gg F0 g2), mh_isC J.2.1.1, ↓mj_bs (e1'), Option.toList, List.cons_append, List.nil_append, ml_is J F1, ↓mj_bs (e2'), eq_self]
  · have hy' : (y2 = nI 0) = False := eq_false hy
    obtain ⟨v, h1, S', h2, e1, e2, J2, F, F1⟩ := mo_93 J y1 true
    obtain ⟨x, rfl⟩ := mj_C_int e1 rfl
    have F0 : h1.1 0 = h.1 0 := F1.2 0 (fun z => by have := z.1; omega)
    refine ⟨S', h2, ?_, J2, F⟩
    have e1' : mj_C 93 [.ref 1, .int y1, .int (nI 1)] h = some (some (.int x), h1) := e1
    have e2' : mj_C 159 [.ref 65, .int y1, .int (nI 1)] h1 = some (some (.int x), h2) := e2
    rw [mq_167_32_25]
    simp only [↓reduceIte, ↓mq_167_737, ↓mq_167_738, ↓mq_167_739, ↓mq_167_740, ↓mq_167_741, ↓mq_167_742, ↓mq_167_743, ↓mq_167_744, ↓mq_167_745, ↓mq_167_746, ↓mq_167_747, ↓mq_167_748, ↓mq_167_751, ↓mq_167_752, ↓mq_167_755, ↓mq_167_756, ↓mq_167_759, ↓mq_167_760, ↓mq_167_761, ↓mq_167_762, ↓mq_167_763, ↓mq_167_764, ↓mq_167_765, ↓mq_167_766, ↓mq_167_767, ↓mq_167_768, ↓mq_167_769, ↓mq_167_770, ↓mq_167_773, ↓mq_167_774, ↓mq_167_777, ↓mq_167_778, ↓mq_167_781, mn_add, ↓mj_bs (g1), ↓mj_bs (ml_gg F0 g1), ↓mj_bs (g2), ↓mj_bs (ml_gg F0 g2), mh_isC J.2.1.1, ↓mj_bs (e1'), Option.toList, List.cons_append, List.nil_append, ml_is J F1, ↓mj_bs (e2'), hy', eq_self]
theorem ml_26 (J : mh_J S h) (X : h.1 0 = some (.inl (3, xs))) (hl : xs.length ≤ 2048) (hi : i + 4 ≤ xs.length) : ml_ok xs i 26 h := by
  obtain ⟨v, h1, S', h2, e1, e2, J2, F, F1⟩ := mo_94 J
  obtain ⟨x, rfl⟩ := mj_C_int e1 rfl
  have F0 : h1.1 0 = h.1 0 := F1.2 0 (fun z => by have := z.1; omega)
  refine ⟨S', h2, ?_, J2, F⟩
  rw [mq_167_32_26]
  simp only [↓reduceIte, ↓mq_167_786, ↓mq_167_787, ↓mq_167_790, ↓mq_167_791, ↓mq_167_794, mn_add, mh_isC J.2.1.1, ↓mj_bs (e1), Option.toList, List.cons_append, List.nil_append, ml_is J F1, ↓mj_bs (e2), eq_self]
theorem ml_27 (J : mh_J S h) (X : h.1 0 = some (.inl (3, xs))) (hl : xs.length ≤ 2048) (hi : i + 4 ≤ xs.length) : ml_ok xs i 27 h := by
  obtain ⟨y1, g1⟩ := ml_g X (show i + 1 < xs.length by omega) hl
  obtain ⟨y2, g2⟩ := ml_g X (show i + 2 < xs.length by omega) hl
  obtain ⟨y3, g3⟩ := ml_g X (show i + 3 < xs.length by omega) hl
  by_cases hy : y3 = nI 0
  · subst hy
    obtain ⟨v, h1, S', h2, e1, e2, J2, F, F1⟩ := mo_95 J y1 y2 false
    obtain ⟨x, rfl⟩ := mj_C_int e1 rfl
    have F0 : h1.1 0 = h.1 0 := F1.2 0 (fun z => by have := z.1; omega)
    refine ⟨S', h2, ?_, J2, F⟩
    have e1' : mj_C 95 [.ref 1, .int y1, .int y2, .int (nI 0)] h = some (some (.int x), h1) := e1
    have e2' : mj_C 161 [.ref 65, .int y1, .int y2, .int (nI 0)] h1 = some (some (.int x), h2) := e2
    rw [mq_167_32_27]
    simp only [↓reduceIte, ↓mq_167_799, ↓mq_167_800, ↓mq_167_801, ↓mq_167_802, ↓mq_167_803, ↓mq_167_804, ↓mq_167_805, ↓mq_167_806, ↓mq_167_807, ↓mq_167_808, ↓mq_167_809, ↓mq_167_810, ↓mq_167_811, ↓mq_167_812, ↓mq_167_813, ↓mq_167_814, ↓mq_167_815, ↓mq_167_818, ↓mq_167_819, ↓mq_167_822, ↓mq_167_823, ↓mq_167_826, ↓mq_167_827, ↓mq_167_828, ↓mq_167_829, ↓mq_167_830, ↓mq_167_831, ↓mq_167_832, ↓mq_167_833, ↓mq_167_834, ↓mq_167_835, ↓mq_167_836, ↓mq_167_837, ↓mq_167_838, ↓mq_167_839, ↓mq_167_840, ↓mq_167_841, ↓mq_167_842, ↓mq_167_845, ↓mq_167_846, ↓mq_167_849, ↓mq_167_850, ↓mq_167_853, mn_add, ↓mj_bs (g1), ↓mj_bs (ml_gg F0 g1), ↓mj_bs (g2), ↓mj_bs (ml_gg F0 g2), ↓mj_bs (g3), ↓mj_bs (ml_gg F0 g3), mh_isC J.2.1.1, ↓mj_bs (e1'), Option.toList, List.cons_append, List.nil_append, ml_is J F1, ↓mj_bs (e2'), eq_self]
  · have hy' : (y3 = nI 0) = False := eq_false hy
    obtain ⟨v, h1, S', h2, e1, e2, J2, F, F1⟩ := mo_95 J y1 y2 true
    obtain ⟨x, rfl⟩ := mj_C_int e1 rfl
    have F0 : h1.1 0 = h.1 0 := F1.2 0 (fun z => by have := z.1; omega)
    refine ⟨S', h2, ?_, J2, F⟩
    have e1' : mj_C 95 [.ref 1, .int y1, .int y2, .int (nI 1)] h = some (some (.int x), h1) := e1
    have e2' : mj_C 161 [.ref 65, .int y1, .int y2, .int (nI 1)] h1 = some (some (.int x), h2) := e2
    rw [mq_167_32_27]
    simp only [↓reduceIte, ↓mq_167_799, ↓mq_167_800, ↓mq_167_801, ↓mq_167_802, ↓mq_167_803, ↓mq_167_804, ↓mq_167_805, ↓mq_167_806, ↓mq_167_807, ↓mq_167_808, ↓mq_167_809, ↓mq_167_810, ↓mq_167_811, ↓mq_167_812, ↓mq_167_813, ↓mq_167_814, ↓mq_167_815, ↓mq_167_818, ↓mq_167_819, ↓mq_167_822, ↓mq_167_823, ↓mq_167_826, ↓mq_167_827, ↓mq_167_828, ↓mq_167_829, ↓mq_167_830, ↓mq_167_831, ↓mq_167_832, ↓mq_167_833, ↓mq_167_834, ↓mq_167_835, ↓mq_167_836, ↓mq_167_837, ↓mq_167_838, ↓mq_167_839, ↓mq_167_840, ↓mq_167_841, ↓mq_167_842, ↓mq_167_845, ↓mq_167_846, ↓mq_167_849, ↓mq_167_850, ↓mq_167_853, mn_add, ↓mj_bs (g1), ↓mj_bs (ml_gg F0 g1), ↓mj_bs (g2), ↓mj_bs (ml_gg F0 g2), ↓mj_bs (g3), ↓mj_bs (ml_gg F0 g3), mh_isC J.2.1.1, ↓mj_bs (e1'), Option.toList, List.cons_append, List.nil_append, ml_is J F1, ↓mj_bs (e2'), hy', eq_self]
theorem ml_28 (J : mh_J S h) (X : h.1 0 = some (.inl (3, xs))) (hl : xs.length ≤ 2048) (hi : i + 4 ≤ xs.length) : ml_ok xs i 28 h := by
  obtain ⟨y1, g1⟩ := ml_g X (show i + 1 < xs.length by omega) hl
  obtain ⟨y2, g2⟩ := ml_g X (show i + 2 < xs.length by omega) hl
  obtain ⟨v, h1, S', h2, e1, e2, J2, F, F1⟩ := mo_96 J (y1.toInt64 <<< ((nI 32).toInt64 &&& 63) ||| y2.toInt64 &&& 4294967295)
  obtain ⟨x, rfl⟩ := mj_C_long e1 rfl
  have F0 : h1.1 0 = h.1 0 := F1.2 0 (fun z => by have := z.1; omega)
  refine ⟨S', h2, ?_, J2, F⟩
  rw [mq_167_32_28]
  simp only [↓reduceIte, ↓mq_167_858, ↓mq_167_859, ↓mq_167_860, ↓mq_167_861, ↓mq_167_862, ↓mq_167_863, ↓mq_167_864, ↓mq_167_865, ↓mq_167_867, ↓mq_167_868, ↓mq_167_869, ↓mq_167_870, ↓mq_167_871, ↓mq_167_872, ↓mq_167_873, ↓mq_167_874, ↓mq_167_877, ↓mq_167_878, ↓mq_167_879, ↓mq_167_882, ↓mq_167_883, ↓mq_167_884, ↓mq_167_885, ↓mq_167_886, ↓mq_167_887, ↓mq_167_888, ↓mq_167_889, ↓mq_167_891, ↓mq_167_892, ↓mq_167_893, ↓mq_167_894, ↓mq_167_895, ↓mq_167_896, ↓mq_167_897, ↓mq_167_898, ↓mq_167_901, ↓mq_167_902, ↓mq_167_903, ↓mq_167_906, ↓mq_167_907, mn_add, ↓mj_bs (g1), ↓mj_bs (ml_gg F0 g1), ↓mj_bs (g2), ↓mj_bs (ml_gg F0 g2), mh_isC J.2.1.1, ↓mj_bs (e1), Option.toList, List.cons_append, List.nil_append, ml_is J F1, ↓mj_bs (e2), ml_cmp]
theorem ml_29 (J : mh_J S h) (X : h.1 0 = some (.inl (3, xs))) (hl : xs.length ≤ 2048) (hi : i + 4 ≤ xs.length) : ml_ok xs i 29 h := by
  obtain ⟨y1, g1⟩ := ml_g X (show i + 1 < xs.length by omega) hl
  obtain ⟨v, h1, S', h2, e1, e2, J2, F, F1⟩ := mo_97 J y1
  obtain ⟨x, rfl⟩ := mj_C_int e1 rfl
  have F0 : h1.1 0 = h.1 0 := F1.2 0 (fun z => by have := z.1; omega)
  refine ⟨S', h2, ?_, J2, F⟩
  rw [mq_167_32_29]
  simp only [↓reduceIte, ↓mq_167_912, ↓mq_167_913, ↓mq_167_914, ↓mq_167_915, ↓mq_167_916, ↓mq_167_917, ↓mq_167_918, ↓mq_167_921, ↓mq_167_922, ↓mq_167_923, ↓mq_167_924, ↓mq_167_925, ↓mq_167_926, ↓mq_167_927, ↓mq_167_930, mn_add, ↓mj_bs (g1), ↓mj_bs (ml_gg F0 g1), mh_isC J.2.1.1, ↓mj_bs (e1), Option.toList, List.cons_append, List.nil_append, ml_is J F1, ↓mj_bs (e2), eq_self]
theorem ml_30 (J : mh_J S h) (X : h.1 0 = some (.inl (3, xs))) (hl : xs.length ≤ 2048) (hi : i + 4 ≤ xs.length) : ml_ok xs i 30 h := by
  obtain ⟨y1, g1⟩ := ml_g X (show i + 1 < xs.length by omega) hl
  obtain ⟨v, h1, S', h2, e1, e2, J2, F, F1⟩ := mo_98 J y1
  obtain ⟨x, rfl⟩ := mj_C_int e1 rfl
  have F0 : h1.1 0 = h.1 0 := F1.2 0 (fun z => by have := z.1; omega)
  refine ⟨S', h2, ?_, J2, F⟩
  rw [mq_167_32_30]
  simp only [↓reduceIte, ↓mq_167_935, ↓mq_167_936, ↓mq_167_937, ↓mq_167_938, ↓mq_167_939, ↓mq_167_940, ↓mq_167_941, ↓mq_167_944, ↓mq_167_945, ↓mq_167_946, ↓mq_167_947, ↓mq_167_948, ↓mq_167_949, ↓mq_167_950, ↓mq_167_953, mn_add, ↓mj_bs (g1), ↓mj_bs (ml_gg F0 g1), mh_isC J.2.1.1, ↓mj_bs (e1), Option.toList, List.cons_append, List.nil_append, ml_is J F1, ↓mj_bs (e2), eq_self]
theorem ml_31 (J : mh_J S h) (X : h.1 0 = some (.inl (3, xs))) (hl : xs.length ≤ 2048) (hi : i + 4 ≤ xs.length) : ml_ok xs i 31 h := by
  obtain ⟨y1, g1⟩ := ml_g X (show i + 1 < xs.length by omega) hl
  obtain ⟨v, h1, S', h2, e1, e2, J2, F, F1⟩ := mo_100 J y1
  obtain ⟨x, rfl⟩ := mj_C_int e1 rfl
  have F0 : h1.1 0 = h.1 0 := F1.2 0 (fun z => by have := z.1; omega)
  refine ⟨S', h2, ?_, J2, F⟩
  rw [mq_167_32_31]
  simp only [↓reduceIte, ↓mq_167_958, ↓mq_167_959, ↓mq_167_960, ↓mq_167_961, ↓mq_167_962, ↓mq_167_963, ↓mq_167_964, ↓mq_167_967, ↓mq_167_968, ↓mq_167_969, ↓mq_167_970, ↓mq_167_971, ↓mq_167_972, ↓mq_167_973, ↓mq_167_976, mn_add, ↓mj_bs (g1), ↓mj_bs (ml_gg F0 g1), mh_isC J.2.1.1, ↓mj_bs (e1), Option.toList, List.cons_append, List.nil_append, ml_is J F1, ↓mj_bs (e2), eq_self]
end
