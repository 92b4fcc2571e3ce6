theorem mc_101 {a0 : Nat} {h : mj_H} : mj_C 101 [.ref a0] h = mj_R 101 (0, [.ref a0], [], h) := rfl
theorem mq_101_0 {x : Nat} {st : List Value} {h : mj_H} : mj_R 101 (0, [.ref x], st, h) = mj_R 101 (1, [.ref x], .ref x :: st, h) := mj_R_next rfl rfl
theorem mq_101_1 {l0 : Value} {a0 : Nat} {h : mj_H} : mj_R 101 (1, [l0], [.ref a0], h) = mj_R 101 (4, [l0], [], h) := mj_R_next rfl rfl
theorem mq_101_4 {x : Nat} {st : List Value} {h : mj_H} : mj_R 101 (4, [.ref x], st, h) = mj_R 101 (5, [.ref x], .ref x :: st, h) := mj_R_next rfl rfl
theorem mq_101_5 {l0 : Value} {st : List Value} {h : mj_H} : mj_R 101 (5, [l0], st, h) = mj_R 101 (7, [l0], .int (nI 64) :: st, h) := mj_R_next rfl rfl
-- mq_101_7: .newarray .int
theorem mq_101_7 {l0 : Value} {st : List Value} {h : mj_H} : mj_R 101 (7, [l0], .int (nI 64) :: st, h) = mj_R 101 (9, [l0], .ref h.2.1 :: st, mj_new h (.inl (0, List.replicate 64 0))) := mj_R_next rfl rfl
theorem mq_101_9 {l0 : Value} {x : Nat} {v : Value} {st : List Value} {h : mj_H} : mj_R 101 (9, [l0], v :: .ref x :: st, h) = mj_bd (mj_pf h x 7 1 v) (fun h' => mj_R 101 (12, [l0], st, h')) := mj_R_pf rfl
theorem mq_101_12 {x : Nat} {st : List Value} {h : mj_H} : mj_R 101 (12, [.ref x], st, h) = mj_R 101 (13, [.ref x], .ref x :: st, h) := mj_R_next rfl rfl
theorem mq_101_13 {l0 : Value} {st : List Value} {h : mj_H} : mj_R 101 (13, [l0], st, h) = mj_R 101 (15, [l0], .int (nI 24) :: st, h) := mj_R_next rfl rfl
-- mq_101_15: .newarray .int
theorem mq_101_15 {l0 : Value} {st : List Value} {h : mj_H} : mj_R 101 (15, [l0], .int (nI 24) :: st, h) = mj_R 101 (17, [l0], .ref h.2.1 :: st, mj_new h (.inl (0, List.replicate 24 0))) := mj_R_next rfl rfl
theorem mq_101_17 {l0 : Value} {x : Nat} {v : Value} {st : List Value} {h : mj_H} : mj_R 101 (17, [l0], v :: .ref x :: st, h) = mj_bd (mj_pf h x 7 6 v) (fun h' => mj_R 101 (20, [l0], st, h')) := mj_R_pf rfl
theorem mq_101_20 {x : Nat} {st : List Value} {h : mj_H} : mj_R 101 (20, [.ref x], st, h) = mj_R 101 (21, [.ref x], .ref x :: st, h) := mj_R_next rfl rfl
theorem mq_101_21 {l0 : Value} {st : List Value} {h : mj_H} : mj_R 101 (21, [l0], st, h) = mj_R 101 (23, [l0], .int (nI 6) :: st, h) := mj_R_next rfl rfl
-- mq_101_23: .newarray .int
theorem mq_101_23 {l0 : Value} {st : List Value} {h : mj_H} : mj_R 101 (23, [l0], .int (nI 6) :: st, h) = mj_R 101 (25, [l0], .ref h.2.1 :: st, mj_new h (.inl (0, List.replicate 6 0))) := mj_R_next rfl rfl
theorem mq_101_25 {l0 : Value} {x : Nat} {v : Value} {st : List Value} {h : mj_H} : mj_R 101 (25, [l0], v :: .ref x :: st, h) = mj_bd (mj_pf h x 7 7 v) (fun h' => mj_R 101 (28, [l0], st, h')) := mj_R_pf rfl
theorem mq_101_28 {x : Nat} {st : List Value} {h : mj_H} : mj_R 101 (28, [.ref x], st, h) = mj_R 101 (29, [.ref x], .ref x :: st, h) := mj_R_next rfl rfl
theorem mq_101_29 {l0 : Value} {st : List Value} {h : mj_H} : mj_R 101 (29, [l0], st, h) = mj_R 101 (31, [l0], .int (nI 6) :: st, h) := mj_R_next rfl rfl
-- mq_101_31: .newarray .int
theorem mq_101_31 {l0 : Value} {st : List Value} {h : mj_H} : mj_R 101 (31, [l0], .int (nI 6) :: st, h) = mj_R 101 (33, [l0], .ref h.2.1 :: st, mj_new h (.inl (0, List.replicate 6 0))) := mj_R_next rfl rfl
theorem mq_101_33 {l0 : Value} {x : Nat} {v : Value} {st : List Value} {h : mj_H} : mj_R 101 (33, [l0], v :: .ref x :: st, h) = mj_bd (mj_pf h x 7 8 v) (fun h' => mj_R 101 (36, [l0], st, h')) := mj_R_pf rfl
theorem mq_101_36 {x : Nat} {st : List Value} {h : mj_H} : mj_R 101 (36, [.ref x], st, h) = mj_R 101 (37, [.ref x], .ref x :: st, h) := mj_R_next rfl rfl
theorem mq_101_37 {l0 : Value} {st : List Value} {h : mj_H} : mj_R 101 (37, [l0], st, h) = mj_R 101 (39, [l0], .int (nI 24) :: st, h) := mj_R_next rfl rfl
-- mq_101_39: .newarray .int
theorem mq_101_39 {l0 : Value} {st : List Value} {h : mj_H} : mj_R 101 (39, [l0], .int (nI 24) :: st, h) = mj_R 101 (41, [l0], .ref h.2.1 :: st, mj_new h (.inl (0, List.replicate 24 0))) := mj_R_next rfl rfl
theorem mq_101_41 {l0 : Value} {x : Nat} {v : Value} {st : List Value} {h : mj_H} : mj_R 101 (41, [l0], v :: .ref x :: st, h) = mj_bd (mj_pf h x 7 12 v) (fun h' => mj_R 101 (44, [l0], st, h')) := mj_R_pf rfl
theorem mq_101_44 {x : Nat} {st : List Value} {h : mj_H} : mj_R 101 (44, [.ref x], st, h) = mj_R 101 (45, [.ref x], .ref x :: st, h) := mj_R_next rfl rfl
theorem mq_101_45 {l0 : Value} {st : List Value} {h : mj_H} : mj_R 101 (45, [l0], st, h) = mj_R 101 (47, [l0], .int (nI 6) :: st, h) := mj_R_next rfl rfl
-- mq_101_47: .newarray .int
theorem mq_101_47 {l0 : Value} {st : List Value} {h : mj_H} : mj_R 101 (47, [l0], .int (nI 6) :: st, h) = mj_R 101 (49, [l0], .ref h.2.1 :: st, mj_new h (.inl (0, List.replicate 6 0))) := mj_R_next rfl rfl
theorem mq_101_49 {l0 : Value} {x : Nat} {v : Value} {st : List Value} {h : mj_H} : mj_R 101 (49, [l0], v :: .ref x :: st, h) = mj_bd (mj_pf h x 7 13 v) (fun h' => mj_R 101 (52, [l0], st, h')) := mj_R_pf rfl
theorem mq_101_52 {x : Nat} {st : List Value} {h : mj_H} : mj_R 101 (52, [.ref x], st, h) = mj_R 101 (53, [.ref x], .ref x :: st, h) := mj_R_next rfl rfl
theorem mq_101_53 {l0 : Value} {st : List Value} {h : mj_H} : mj_R 101 (53, [l0], st, h) = mj_R 101 (55, [l0], .int (nI 6) :: st, h) := mj_R_next rfl rfl
-- mq_101_55: .newarray .int
theorem mq_101_55 {l0 : Value} {st : List Value} {h : mj_H} : mj_R 101 (55, [l0], .int (nI 6) :: st, h) = mj_R 101 (57, [l0], .ref h.2.1 :: st, mj_new h (.inl (0, List.replicate 6 0))) := mj_R_next rfl rfl
theorem mq_101_57 {l0 : Value} {x : Nat} {v : Value} {st : List Value} {h : mj_H} : mj_R 101 (57, [l0], v :: .ref x :: st, h) = mj_bd (mj_pf h x 7 14 v) (fun h' => mj_R 101 (60, [l0], st, h')) := mj_R_pf rfl
theorem mq_101_60 {x : Nat} {st : List Value} {h : mj_H} : mj_R 101 (60, [.ref x], st, h) = mj_R 101 (61, [.ref x], .ref x :: st, h) := mj_R_next rfl rfl
theorem mq_101_61 {l0 : Value} {st : List Value} {h : mj_H} : mj_R 101 (61, [l0], st, h) = mj_R 101 (63, [l0], .int (nI 11) :: st, h) := mj_R_next rfl rfl
-- mq_101_63: .newarray .int
theorem mq_101_63 {l0 : Value} {st : List Value} {h : mj_H} : mj_R 101 (63, [l0], .int (nI 11) :: st, h) = mj_R 101 (65, [l0], .ref h.2.1 :: st, mj_new h (.inl (0, List.replicate 11 0))) := mj_R_next rfl rfl
theorem mq_101_65 {l0 : Value} {x : Nat} {v : Value} {st : List Value} {h : mj_H} : mj_R 101 (65, [l0], v :: .ref x :: st, h) = mj_bd (mj_pf h x 7 15 v) (fun h' => mj_R 101 (68, [l0], st, h')) := mj_R_pf rfl
theorem mq_101_68 {x : Nat} {st : List Value} {h : mj_H} : mj_R 101 (68, [.ref x], st, h) = mj_R 101 (69, [.ref x], .ref x :: st, h) := mj_R_next rfl rfl
theorem mq_101_69 {l0 : Value} {st : List Value} {h : mj_H} : mj_R 101 (69, [l0], st, h) = mj_R 101 (71, [l0], .int (nI 11) :: st, h) := mj_R_next rfl rfl
-- mq_101_71: .newarray .int
theorem mq_101_71 {l0 : Value} {st : List Value} {h : mj_H} : mj_R 101 (71, [l0], .int (nI 11) :: st, h) = mj_R 101 (73, [l0], .ref h.2.1 :: st, mj_new h (.inl (0, List.replicate 11 0))) := mj_R_next rfl rfl
theorem mq_101_73 {l0 : Value} {x : Nat} {v : Value} {st : List Value} {h : mj_H} : mj_R 101 (73, [l0], v :: .ref x :: st, h) = mj_bd (mj_pf h x 7 16 v) (fun h' => mj_R 101 (76, [l0], st, h')) := mj_R_pf rfl
theorem mq_101_76 {x : Nat} {st : List Value} {h : mj_H} : mj_R 101 (76, [.ref x], st, h) = mj_R 101 (77, [.ref x], .ref x :: st, h) := mj_R_next rfl rfl
theorem mq_101_77 {l0 : Value} {st : List Value} {h : mj_H} : mj_R 101 (77, [l0], st, h) = mj_R 101 (80, [l0], .int (nI 154) :: st, h) := mj_R_next rfl rfl
-- mq_101_80: .newarray .int
theorem mq_101_80 {l0 : Value} {st : List Value} {h : mj_H} : mj_R 101 (80, [l0], .int (nI 154) :: st, h) = mj_R 101 (82, [l0], .ref h.2.1 :: st, mj_new h (.inl (0, List.replicate 154 0))) := mj_R_next rfl rfl
theorem mq_101_82 {l0 : Value} {x : Nat} {v : Value} {st : List Value} {h : mj_H} : mj_R 101 (82, [l0], v :: .ref x :: st, h) = mj_bd (mj_pf h x 7 17 v) (fun h' => mj_R 101 (85, [l0], st, h')) := mj_R_pf rfl
theorem mq_101_85 {x : Nat} {st : List Value} {h : mj_H} : mj_R 101 (85, [.ref x], st, h) = mj_R 101 (86, [.ref x], .ref x :: st, h) := mj_R_next rfl rfl
theorem mq_101_86 {l0 : Value} {st : List Value} {h : mj_H} : mj_R 101 (86, [l0], st, h) = mj_R 101 (88, [l0], .int (nI 22) :: st, h) := mj_R_next rfl rfl
-- mq_101_88: .newarray .int
theorem mq_101_88 {l0 : Value} {st : List Value} {h : mj_H} : mj_R 101 (88, [l0], .int (nI 22) :: st, h) = mj_R 101 (90, [l0], .ref h.2.1 :: st, mj_new h (.inl (0, List.replicate 22 0))) := mj_R_next rfl rfl
theorem mq_101_90 {l0 : Value} {x : Nat} {v : Value} {st : List Value} {h : mj_H} : mj_R 101 (90, [l0], v :: .ref x :: st, h) = mj_bd (mj_pf h x 7 19 v) (fun h' => mj_R 101 (93, [l0], st, h')) := mj_R_pf rfl
theorem mq_101_93 {x : Nat} {st : List Value} {h : mj_H} : mj_R 101 (93, [.ref x], st, h) = mj_R 101 (94, [.ref x], .ref x :: st, h) := mj_R_next rfl rfl
theorem mq_101_94 {l0 : Value} {st : List Value} {h : mj_H} : mj_R 101 (94, [l0], st, h) = mj_R 101 (95, [l0], .int (nI 2) :: st, h) := mj_R_next rfl rfl
-- mq_101_95: .newarray .boolean
theorem mq_101_95 {l0 : Value} {st : List Value} {h : mj_H} : mj_R 101 (95, [l0], .int (nI 2) :: st, h) = mj_R 101 (97, [l0], .ref h.2.1 :: st, mj_new h (.inl (1, List.replicate 2 0))) := mj_R_next rfl rfl
theorem mq_101_97 {l0 : Value} {x : Nat} {v : Value} {st : List Value} {h : mj_H} : mj_R 101 (97, [l0], v :: .ref x :: st, h) = mj_bd (mj_pf h x 7 20 v) (fun h' => mj_R 101 (100, [l0], st, h')) := mj_R_pf rfl
theorem mq_101_100 {x : Nat} {st : List Value} {h : mj_H} : mj_R 101 (100, [.ref x], st, h) = mj_R 101 (101, [.ref x], .ref x :: st, h) := mj_R_next rfl rfl
theorem mq_101_101 {l0 : Value} {st : List Value} {h : mj_H} : mj_R 101 (101, [l0], st, h) = mj_R 101 (103, [l0], .int (nI 6) :: st, h) := mj_R_next rfl rfl
-- mq_101_103: .newarray .int
theorem mq_101_103 {l0 : Value} {st : List Value} {h : mj_H} : mj_R 101 (103, [l0], .int (nI 6) :: st, h) = mj_R 101 (105, [l0], .ref h.2.1 :: st, mj_new h (.inl (0, List.replicate 6 0))) := mj_R_next rfl rfl
theorem mq_101_105 {l0 : Value} {x : Nat} {v : Value} {st : List Value} {h : mj_H} : mj_R 101 (105, [l0], v :: .ref x :: st, h) = mj_bd (mj_pf h x 7 22 v) (fun h' => mj_R 101 (108, [l0], st, h')) := mj_R_pf rfl
theorem mq_101_108 {x : Nat} {st : List Value} {h : mj_H} : mj_R 101 (108, [.ref x], st, h) = mj_R 101 (109, [.ref x], .ref x :: st, h) := mj_R_next rfl rfl
theorem mq_101_109 {l0 : Value} {st : List Value} {h : mj_H} : mj_R 101 (109, [l0], st, h) = mj_R 101 (111, [l0], .int (nI 6) :: st, h) := mj_R_next rfl rfl
-- mq_101_111: .newarray .boolean
theorem mq_101_111 {l0 : Value} {st : List Value} {h : mj_H} : mj_R 101 (111, [l0], .int (nI 6) :: st, h) = mj_R 101 (113, [l0], .ref h.2.1 :: st, mj_new h (.inl (1, List.replicate 6 0))) := mj_R_next rfl rfl
theorem mq_101_113 {l0 : Value} {x : Nat} {v : Value} {st : List Value} {h : mj_H} : mj_R 101 (113, [l0], v :: .ref x :: st, h) = mj_bd (mj_pf h x 7 23 v) (fun h' => mj_R 101 (116, [l0], st, h')) := mj_R_pf rfl
theorem mq_101_116 {x : Nat} {st : List Value} {h : mj_H} : mj_R 101 (116, [.ref x], st, h) = mj_R 101 (117, [.ref x], .ref x :: st, h) := mj_R_next rfl rfl
theorem mq_101_117 {l0 : Value} {st : List Value} {h : mj_H} : mj_R 101 (117, [l0], st, h) = mj_R 101 (120, [l0], .int (nI 128) :: st, h) := mj_R_next rfl rfl
-- mq_101_120: .newarray .int
theorem mq_101_120 {l0 : Value} {st : List Value} {h : mj_H} : mj_R 101 (120, [l0], .int (nI 128) :: st, h) = mj_R 101 (122, [l0], .ref h.2.1 :: st, mj_new h (.inl (0, List.replicate 128 0))) := mj_R_next rfl rfl
theorem mq_101_122 {l0 : Value} {x : Nat} {v : Value} {st : List Value} {h : mj_H} : mj_R 101 (122, [l0], v :: .ref x :: st, h) = mj_bd (mj_pf h x 7 25 v) (fun h' => mj_R 101 (125, [l0], st, h')) := mj_R_pf rfl
theorem mq_101_125 {x : Nat} {st : List Value} {h : mj_H} : mj_R 101 (125, [.ref x], st, h) = mj_R 101 (126, [.ref x], .ref x :: st, h) := mj_R_next rfl rfl
theorem mq_101_126 {l0 : Value} {st : List Value} {h : mj_H} : mj_R 101 (126, [l0], st, h) = mj_R 101 (129, [l0], .int (nI 128) :: st, h) := mj_R_next rfl rfl
-- mq_101_129: .newarray .int
theorem mq_101_129 {l0 : Value} {st : List Value} {h : mj_H} : mj_R 101 (129, [l0], .int (nI 128) :: st, h) = mj_R 101 (131, [l0], .ref h.2.1 :: st, mj_new h (.inl (0, List.replicate 128 0))) := mj_R_next rfl rfl
theorem mq_101_131 {l0 : Value} {x : Nat} {v : Value} {st : List Value} {h : mj_H} : mj_R 101 (131, [l0], v :: .ref x :: st, h) = mj_bd (mj_pf h x 7 26 v) (fun h' => mj_R 101 (134, [l0], st, h')) := mj_R_pf rfl
theorem mq_101_134 {x : Nat} {st : List Value} {h : mj_H} : mj_R 101 (134, [.ref x], st, h) = mj_R 101 (135, [.ref x], .ref x :: st, h) := mj_R_next rfl rfl
theorem mq_101_135 {l0 : Value} {st : List Value} {h : mj_H} : mj_R 101 (135, [l0], st, h) = mj_R 101 (137, [l0], .int (nI 6) :: st, h) := mj_R_next rfl rfl
-- mq_101_137: .newarray .int
theorem mq_101_137 {l0 : Value} {st : List Value} {h : mj_H} : mj_R 101 (137, [l0], .int (nI 6) :: st, h) = mj_R 101 (139, [l0], .ref h.2.1 :: st, mj_new h (.inl (0, List.replicate 6 0))) := mj_R_next rfl rfl
theorem mq_101_139 {l0 : Value} {x : Nat} {v : Value} {st : List Value} {h : mj_H} : mj_R 101 (139, [l0], v :: .ref x :: st, h) = mj_bd (mj_pf h x 7 27 v) (fun h' => mj_R 101 (142, [l0], st, h')) := mj_R_pf rfl
theorem mq_101_142 {l0 : Value} {h : mj_H} : mj_R 101 (142, [l0], [], h) = some (none, h) := mj_R_ret rfl rfl
theorem mc_102 {a0 : Nat} {a1 : Int32} {h : mj_H} : mj_C 102 [.ref a0, .int a1] h = mj_R 102 (0, [.ref a0, .int a1], [], h) := rfl
theorem mq_102_0 {l1 : Value} {x : Nat} {st : List Value} {h : mj_H} : mj_R 102 (0, [.ref x, l1], st, h) = mj_R 102 (1, [.ref x, l1], .ref x :: st, h) := mj_R_next rfl rfl
theorem mq_102_1 {l0 l1 : Value} {st : List Value} {h : mj_H} : mj_R 102 (1, [l0, l1], st, h) = mj_R 102 (2, [l0, l1], .int (nI 0) :: st, h) := mj_R_next rfl rfl
theorem mq_102_2 {l0 l1 : Value} {x : Nat} {v : Value} {st : List Value} {h : mj_H} : mj_R 102 (2, [l0, l1], v :: .ref x :: st, h) = mj_bd (mj_pf h x 7 0 v) (fun h' => mj_R 102 (5, [l0, l1], st, h')) := mj_R_pf rfl
theorem mq_102_5 {l0 : Value} {x : Int32} {st : List Value} {h : mj_H} : mj_R 102 (5, [l0, .int x], st, h) = mj_R 102 (6, [l0, .int x], .int x :: st, h) := mj_R_next rfl rfl
theorem mq_102_6 {l0 l1 : Value} {x : Int32} {st : List Value} {h : mj_H} : mj_R 102 (6, [l0, l1], .int x :: st, h) = mj_R 102 (7, [l0, l1], .long x.toInt64 :: st, h) := mj_R_next rfl rfl
theorem mq_102_7 {l0 l1 : Value} {st : List Value} {h : mj_H} : mj_R 102 (7, [l0, l1], st, h) = mj_R 102 (8, [l0, l1], .long 0 :: st, h) := mj_R_next rfl rfl
theorem mq_102_8 {l0 l1 : Value} {st : List Value} {h : mj_H} : mj_R 102 (8, [l0, l1], st, h) = mj_R 102 (11, [l0, l1], .long 255 :: st, h) := mj_R_next rfl rfl
theorem mq_102_11 {l0 l1 : Value} {a0 : Int64} {a1 : Int64} {a2 : Int64} {h : mj_H} : mj_R 102 (11, [l0, l1], [.long a2, .long a1, .long a0], h) = mj_bd (mj_C 103 [.long a0, .long a1, .long a2] h) (fun r => mj_R 102 (14, [l0, l1], r.1.toList ++ [], r.2)) := mj_R_cs rfl rfl
theorem mq_102_14 {l0 l1 : Value} {x : Int32} {st : List Value} {h : mj_H} : mj_R 102 (14, [l0, l1], .int x :: st, h) = if x = nI 0 then mj_R 102 (17, [l0, l1], st, h) else mj_R 102 (20, [l0, l1], st, h) := mj_R_ine rfl
theorem mq_102_17 {l0 l1 : Value} {st : List Value} {h : mj_H} : mj_R 102 (17, [l0, l1], st, h) = mj_R 102 (19, [l0, l1], .int (-2) :: st, h) := mj_R_next rfl rfl
theorem mq_102_19 {l0 l1 : Value} {x : Int32} {h : mj_H} : mj_R 102 (19, [l0, l1], [.int x], h) = some (some (.int x), h) := mj_R_ret rfl rfl
theorem mq_102_20 {l1 : Value} {x : Nat} {st : List Value} {h : mj_H} : mj_R 102 (20, [.ref x, l1], st, h) = mj_R 102 (21, [.ref x, l1], .ref x :: st, h) := mj_R_next rfl rfl
theorem mq_102_21 {l0 l1 : Value} {x : Nat} {st : List Value} {h : mj_H} : mj_R 102 (21, [l0, l1], .ref x :: st, h) = mj_bd (mj_gf h x 7 2) (fun v => mj_R 102 (24, [l0, l1], v :: st, h)) := mj_R_gf rfl
theorem mq_102_24 {l0 l1 : Value} {st : List Value} {h : mj_H} : mj_R 102 (24, [l0, l1], st, h) = mj_R 102 (26, [l0, l1], .int (nI 64) :: st, h) := mj_R_next rfl rfl
theorem mq_102_26 {l0 l1 : Value} {x y : Int32} {st : List Value} {h : mj_H} : mj_R 102 (26, [l0, l1], .int y :: .int x :: st, h) = if x = y then mj_R 102 (29, [l0, l1], st, h) else mj_R 102 (32, [l0, l1], st, h) := mj_R_jne rfl
theorem mq_102_29 {l0 l1 : Value} {st : List Value} {h : mj_H} : mj_R 102 (29, [l0, l1], st, h) = mj_R 102 (31, [l0, l1], .int (-4) :: st, h) := mj_R_next rfl rfl
theorem mq_102_31 {l0 l1 : Value} {x : Int32} {h : mj_H} : mj_R 102 (31, [l0, l1], [.int x], h) = some (some (.int x), h) := mj_R_ret rfl rfl
theorem mq_102_32 {l1 : Value} {x : Nat} {st : List Value} {h : mj_H} : mj_R 102 (32, [.ref x, l1], st, h) = mj_R 102 (33, [.ref x, l1], .ref x :: st, h) := mj_R_next rfl rfl
theorem mq_102_33 {l0 l1 : Value} {x : Nat} {st : List Value} {h : mj_H} : mj_R 102 (33, [l0, l1], .ref x :: st, h) = mj_bd (mj_gf h x 7 1) (fun v => mj_R 102 (36, [l0, l1], v :: st, h)) := mj_R_gf rfl
theorem mq_102_36 {l1 : Value} {x : Nat} {st : List Value} {h : mj_H} : mj_R 102 (36, [.ref x, l1], st, h) = mj_R 102 (37, [.ref x, l1], .ref x :: st, h) := mj_R_next rfl rfl
theorem mq_102_37 {l0 l1 : Value} {x : Nat} {st : List Value} {h : mj_H} : mj_R 102 (37, [l0, l1], .ref x :: st, h) = mj_bd (mj_gf h x 7 2) (fun v => mj_R 102 (40, [l0, l1], v :: st, h)) := mj_R_gf rfl
theorem mq_102_40 {l0 : Value} {x : Int32} {st : List Value} {h : mj_H} : mj_R 102 (40, [l0, .int x], st, h) = mj_R 102 (41, [l0, .int x], .int x :: st, h) := mj_R_next rfl rfl
theorem mq_102_41 {l0 l1 : Value} {x : Nat} {j v : Int32} {st : List Value} {h : mj_H} : mj_R 102 (41, [l0, l1], .int v :: .int j :: .ref x :: st, h) = mj_bd (mj_pi h x j v) (fun h' => mj_R 102 (42, [l0, l1], st, h')) := mj_R_pi rfl
theorem mq_102_42 {l1 : Value} {x : Nat} {st : List Value} {h : mj_H} : mj_R 102 (42, [.ref x, l1], st, h) = mj_R 102 (43, [.ref x, l1], .ref x :: st, h) := mj_R_next rfl rfl
theorem mq_102_43 {l0 l1 : Value} {x : Nat} {st : List Value} {h : mj_H} : mj_R 102 (43, [l0, l1], .ref x :: st, h) = mj_R 102 (44, [l0, l1], .ref x :: .ref x :: st, h) := mj_R_next rfl rfl
theorem mq_102_44 {l0 l1 : Value} {x : Nat} {st : List Value} {h : mj_H} : mj_R 102 (44, [l0, l1], .ref x :: st, h) = mj_bd (mj_gf h x 7 2) (fun v => mj_R 102 (47, [l0, l1], v :: st, h)) := mj_R_gf rfl
theorem mq_102_47 {l0 l1 : Value} {st : List Value} {h : mj_H} : mj_R 102 (47, [l0, l1], st, h) = mj_R 102 (48, [l0, l1], .int (nI 1) :: st, h) := mj_R_next rfl rfl
theorem mq_102_48 {l0 l1 : Value} {x y : Int32} {st : List Value} {h : mj_H} : mj_R 102 (48, [l0, l1], .int y :: .int x :: st, h) = mj_R 102 (49, [l0, l1], .int (x + y) :: st, h) := mj_R_next rfl rfl
theorem mq_102_49 {l0 l1 : Value} {x : Nat} {v : Value} {st : List Value} {h : mj_H} : mj_R 102 (49, [l0, l1], v :: .ref x :: st, h) = mj_bd (mj_pf h x 7 2 v) (fun h' => mj_R 102 (52, [l0, l1], st, h')) := mj_R_pf rfl
theorem mq_102_52 {l1 : Value} {x : Nat} {st : List Value} {h : mj_H} : mj_R 102 (52, [.ref x, l1], st, h) = mj_R 102 (53, [.ref x, l1], .ref x :: st, h) := mj_R_next rfl rfl
theorem mq_102_53 {l0 l1 : Value} {x : Nat} {st : List Value} {h : mj_H} : mj_R 102 (53, [l0, l1], .ref x :: st, h) = mj_bd (mj_gf h x 7 2) (fun v => mj_R 102 (56, [l0, l1], v :: st, h)) := mj_R_gf rfl
theorem mq_102_56 {l0 l1 : Value} {x : Int32} {h : mj_H} : mj_R 102 (56, [l0, l1], [.int x], h) = some (some (.int x), h) := mj_R_ret rfl rfl
theorem mc_103 {a0 : Int64} {a1 : Int64} {a2 : Int64} {h : mj_H} : mj_C 103 [.long a0, .long a1, .long a2] h = mj_R 103 (0, [.long a0, .null, .long a1, .null, .long a2, .null], [], h) := rfl
theorem mq_103_0 {l1 l2 l3 l4 l5 : Value} {x : Int64} {st : List Value} {h : mj_H} : mj_R 103 (0, [.long x, l1, l2, l3, l4, l5], st, h) = mj_R 103 (1, [.long x, l1, l2, l3, l4, l5], .long x :: st, h) := mj_R_next rfl rfl
theorem mq_103_1 {l0 l1 l3 l4 l5 : Value} {x : Int64} {st : List Value} {h : mj_H} : mj_R 103 (1, [l0, l1, .long x, l3, l4, l5], st, h) = mj_R 103 (2, [l0, l1, .long x, l3, l4, l5], .long x :: st, h) := mj_R_next rfl rfl
theorem mq_103_2 {l0 l1 l2 l3 l4 l5 : Value} {x y : Int64} {st : List Value} {h : mj_H} : mj_R 103 (2, [l0, l1, l2, l3, l4, l5], .long y :: .long x :: st, h) = mj_R 103 (3, [l0, l1, l2, l3, l4, l5], .int (lg_cmp x y) :: st, h) := mj_R_next rfl rfl
theorem mq_103_3 {l0 l1 l2 l3 l4 l5 : Value} {x : Int32} {st : List Value} {h : mj_H} : mj_R 103 (3, [l0, l1, l2, l3, l4, l5], .int x :: st, h) = if x < nI 0 then mj_R 103 (17, [l0, l1, l2, l3, l4, l5], st, h) else mj_R 103 (6, [l0, l1, l2, l3, l4, l5], st, h) := mj_R_ilt rfl
theorem mq_103_6 {l1 l2 l3 l4 l5 : Value} {x : Int64} {st : List Value} {h : mj_H} : mj_R 103 (6, [.long x, l1, l2, l3, l4, l5], st, h) = mj_R 103 (7, [.long x, l1, l2, l3, l4, l5], .long x :: st, h) := mj_R_next rfl rfl
theorem mq_103_7 {l0 l1 l2 l3 l5 : Value} {x : Int64} {st : List Value} {h : mj_H} : mj_R 103 (7, [l0, l1, l2, l3, .long x, l5], st, h) = mj_R 103 (9, [l0, l1, l2, l3, .long x, l5], .long x :: st, h) := mj_R_next rfl rfl
theorem mq_103_9 {l0 l1 l2 l3 l4 l5 : Value} {x y : Int64} {st : List Value} {h : mj_H} : mj_R 103 (9, [l0, l1, l2, l3, l4, l5], .long y :: .long x :: st, h) = mj_R 103 (10, [l0, l1, l2, l3, l4, l5], .int (lg_cmp x y) :: st, h) := mj_R_next rfl rfl
theorem mq_103_10 {l0 l1 l2 l3 l4 l5 : Value} {x : Int32} {st : List Value} {h : mj_H} : mj_R 103 (10, [l0, l1, l2, l3, l4, l5], .int x :: st, h) = if nI 0 < x then mj_R 103 (17, [l0, l1, l2, l3, l4, l5], st, h) else mj_R 103 (13, [l0, l1, l2, l3, l4, l5], st, h) := mj_R_igt rfl
theorem mq_103_13 {l0 l1 l2 l3 l4 l5 : Value} {st : List Value} {h : mj_H} : mj_R 103 (13, [l0, l1, l2, l3, l4, l5], st, h) = mj_R 103 (14, [l0, l1, l2, l3, l4, l5], .int (nI 1) :: st, h) := mj_R_next rfl rfl
theorem mq_103_14 {l0 l1 l2 l3 l4 l5 : Value} {st : List Value} {h : mj_H} : mj_R 103 (14, [l0, l1, l2, l3, l4, l5], st, h) = mj_R 103 (18, [l0, l1, l2, l3, l4, l5], st, h) := mj_R_next rfl rfl
theorem mq_103_17 {l0 l1 l2 l3 l4 l5 : Value} {st : List Value} {h : mj_H} : mj_R 103 (17, [l0, l1, l2, l3, l4, l5], st, h) = mj_R 103 (18, [l0, l1, l2, l3, l4, l5], .int (nI 0) :: st, h) := mj_R_next rfl rfl
theorem mq_103_18 {l0 l1 l2 l3 l4 l5 : Value} {x : Int32} {h : mj_H} : mj_R 103 (18, [l0, l1, l2, l3, l4, l5], [.int x], h) = if (x == 0 || x == 1) = true then some (some (.int x), h) else none := mj_R_rz rfl rfl
theorem mc_104 {a0 : Nat} {h : mj_H} : mj_C 104 [.ref a0] h = mj_R 104 (0, [.ref a0, .null], [], h) := rfl
theorem mq_104_0 {l1 : Value} {x : Nat} {st : List Value} {h : mj_H} : mj_R 104 (0, [.ref x, l1], st, h) = mj_R 104 (1, [.ref x, l1], .ref x :: st, h) := mj_R_next rfl rfl
theorem mq_104_1 {l0 l1 : Value} {st : List Value} {h : mj_H} : mj_R 104 (1, [l0, l1], st, h) = mj_R 104 (2, [l0, l1], .int (nI 0) :: st, h) := mj_R_next rfl rfl
theorem mq_104_2 {l0 l1 : Value} {x : Nat} {v : Value} {st : List Value} {h : mj_H} : mj_R 104 (2, [l0, l1], v :: .ref x :: st, h) = mj_bd (mj_pf h x 7 0 v) (fun h' => mj_R 104 (5, [l0, l1], st, h')) := mj_R_pf rfl
theorem mq_104_5 {l1 : Value} {x : Nat} {st : List Value} {h : mj_H} : mj_R 104 (5, [.ref x, l1], st, h) = mj_R 104 (6, [.ref x, l1], .ref x :: st, h) := mj_R_next rfl rfl
theorem mq_104_6 {l0 l1 : Value} {x : Nat} {st : List Value} {h : mj_H} : mj_R 104 (6, [l0, l1], .ref x :: st, h) = mj_bd (mj_gf h x 7 2) (fun v => mj_R 104 (9, [l0, l1], v :: st, h)) := mj_R_gf rfl
theorem mq_104_9 {l0 l1 : Value} {x : Int32} {st : List Value} {h : mj_H} : mj_R 104 (9, [l0, l1], .int x :: st, h) = mj_R 104 (10, [l0, .int x], st, h) := mj_R_next rfl rfl
theorem mq_104_10 {l1 : Value} {x : Nat} {st : List Value} {h : mj_H} : mj_R 104 (10, [.ref x, l1], st, h) = mj_R 104 (11, [.ref x, l1], .ref x :: st, h) := mj_R_next rfl rfl
theorem mq_104_11 {l0 l1 : Value} {st : List Value} {h : mj_H} : mj_R 104 (11, [l0, l1], st, h) = mj_R 104 (12, [l0, l1], .int (nI 0) :: st, h) := mj_R_next rfl rfl
theorem mq_104_12 {l0 l1 : Value} {x : Nat} {v : Value} {st : List Value} {h : mj_H} : mj_R 104 (12, [l0, l1], v :: .ref x :: st, h) = mj_bd (mj_pf h x 7 2 v) (fun h' => mj_R 104 (15, [l0, l1], st, h')) := mj_R_pf rfl
theorem mq_104_15 {l0 : Value} {x : Int32} {st : List Value} {h : mj_H} : mj_R 104 (15, [l0, .int x], st, h) = mj_R 104 (16, [l0, .int x], .int x :: st, h) := mj_R_next rfl rfl
theorem mq_104_16 {l0 l1 : Value} {x : Int32} {h : mj_H} : mj_R 104 (16, [l0, l1], [.int x], h) = some (some (.int x), h) := mj_R_ret rfl rfl
theorem mc_105 {a0 : Nat} {h : mj_H} : mj_C 105 [.ref a0] h = mj_R 105 (0, [.ref a0], [], h) := rfl
theorem mq_105_0 {x : Nat} {st : List Value} {h : mj_H} : mj_R 105 (0, [.ref x], st, h) = mj_R 105 (1, [.ref x], .ref x :: st, h) := mj_R_next rfl rfl
theorem mq_105_1 {l0 : Value} {st : List Value} {h : mj_H} : mj_R 105 (1, [l0], st, h) = mj_R 105 (2, [l0], .int (nI 0) :: st, h) := mj_R_next rfl rfl
theorem mq_105_2 {l0 : Value} {x : Nat} {v : Value} {st : List Value} {h : mj_H} : mj_R 105 (2, [l0], v :: .ref x :: st, h) = mj_bd (mj_pf h x 7 0 v) (fun h' => mj_R 105 (5, [l0], st, h')) := mj_R_pf rfl
theorem mq_105_5 {x : Nat} {st : List Value} {h : mj_H} : mj_R 105 (5, [.ref x], st, h) = mj_R 105 (6, [.ref x], .ref x :: st, h) := mj_R_next rfl rfl
theorem mq_105_6 {l0 : Value} {a0 : Nat} {h : mj_H} : mj_R 105 (6, [l0], [.ref a0], h) = if mj_isC h a0 7 = true then mj_bd (mj_C 106 [.ref a0] h) (fun r => mj_R 105 (9, [l0], r.1.toList ++ [], r.2)) else none := mj_R_cv rfl rfl
theorem mq_105_9 {l0 : Value} {x : Int32} {h : mj_H} : mj_R 105 (9, [l0], [.int x], h) = some (some (.int x), h) := mj_R_ret rfl rfl
theorem mc_106 {a0 : Nat} {h : mj_H} : mj_C 106 [.ref a0] h = mj_R 106 (0, [.ref a0, .null, .null], [], h) := rfl
theorem mq_106_0 {l1 l2 : Value} {x : Nat} {st : List Value} {h : mj_H} : mj_R 106 (0, [.ref x, l1, l2], st, h) = mj_R 106 (1, [.ref x, l1, l2], .ref x :: st, h) := mj_R_next rfl rfl
theorem mq_106_1 {l0 l1 l2 : Value} {st : List Value} {h : mj_H} : mj_R 106 (1, [l0, l1, l2], st, h) = mj_R 106 (2, [l0, l1, l2], .int (nI 0) :: st, h) := mj_R_next rfl rfl
theorem mq_106_2 {l0 l1 l2 : Value} {x : Nat} {v : Value} {st : List Value} {h : mj_H} : mj_R 106 (2, [l0, l1, l2], v :: .ref x :: st, h) = mj_bd (mj_pf h x 7 3 v) (fun h' => mj_R 106 (5, [l0, l1, l2], st, h')) := mj_R_pf rfl
theorem mq_106_5 {l1 l2 : Value} {x : Nat} {st : List Value} {h : mj_H} : mj_R 106 (5, [.ref x, l1, l2], st, h) = mj_R 106 (6, [.ref x, l1, l2], .ref x :: st, h) := mj_R_next rfl rfl
theorem mq_106_6 {l0 l1 l2 : Value} {st : List Value} {h : mj_H} : mj_R 106 (6, [l0, l1, l2], st, h) = mj_R 106 (7, [l0, l1, l2], .int (nI 0) :: st, h) := mj_R_next rfl rfl
theorem mq_106_7 {l0 l1 l2 : Value} {x : Nat} {v : Value} {st : List Value} {h : mj_H} : mj_R 106 (7, [l0, l1, l2], v :: .ref x :: st, h) = mj_bd (mj_pf h x 7 9 v) (fun h' => mj_R 106 (10, [l0, l1, l2], st, h')) := mj_R_pf rfl
theorem mq_106_10 {l1 l2 : Value} {x : Nat} {st : List Value} {h : mj_H} : mj_R 106 (10, [.ref x, l1, l2], st, h) = mj_R 106 (11, [.ref x, l1, l2], .ref x :: st, h) := mj_R_next rfl rfl
theorem mq_106_11 {l0 l1 l2 : Value} {st : List Value} {h : mj_H} : mj_R 106 (11, [l0, l1, l2], st, h) = mj_R 106 (12, [l0, l1, l2], .int (nI 0) :: st, h) := mj_R_next rfl rfl
theorem mq_106_12 {l0 l1 l2 : Value} {x : Nat} {v : Value} {st : List Value} {h : mj_H} : mj_R 106 (12, [l0, l1, l2], v :: .ref x :: st, h) = mj_bd (mj_pf h x 7 10 v) (fun h' => mj_R 106 (15, [l0, l1, l2], st, h')) := mj_R_pf rfl
theorem mq_106_15 {l1 l2 : Value} {x : Nat} {st : List Value} {h : mj_H} : mj_R 106 (15, [.ref x, l1, l2], st, h) = mj_R 106 (16, [.ref x, l1, l2], .ref x :: st, h) := mj_R_next rfl rfl
theorem mq_106_16 {l0 l1 l2 : Value} {x : Nat} {st : List Value} {h : mj_H} : mj_R 106 (16, [l0, l1, l2], .ref x :: st, h) = mj_bd (mj_gf h x 7 2) (fun v => mj_R 106 (19, [l0, l1, l2], v :: st, h)) := mj_R_gf rfl
theorem mq_106_19 {l0 l1 l2 : Value} {x : Int32} {st : List Value} {h : mj_H} : mj_R 106 (19, [l0, l1, l2], .int x :: st, h) = if x = nI 0 then mj_R 106 (33, [l0, l1, l2], st, h) else mj_R 106 (22, [l0, l1, l2], st, h) := mj_R_ieq rfl
theorem mq_106_22 {l1 l2 : Value} {x : Nat} {st : List Value} {h : mj_H} : mj_R 106 (22, [.ref x, l1, l2], st, h) = mj_R 106 (23, [.ref x, l1, l2], .ref x :: st, h) := mj_R_next rfl rfl
theorem mq_106_23 {l0 l1 l2 : Value} {x : Nat} {st : List Value} {h : mj_H} : mj_R 106 (23, [l0, l1, l2], .ref x :: st, h) = mj_bd (mj_gf h x 7 1) (fun v => mj_R 106 (26, [l0, l1, l2], v :: st, h)) := mj_R_gf rfl
theorem mq_106_26 {l0 l1 l2 : Value} {st : List Value} {h : mj_H} : mj_R 106 (26, [l0, l1, l2], st, h) = mj_R 106 (27, [l0, l1, l2], .int (nI 0) :: st, h) := mj_R_next rfl rfl
theorem mq_106_27 {l0 l1 l2 : Value} {x : Nat} {j : Int32} {st : List Value} {h : mj_H} : mj_R 106 (27, [l0, l1, l2], .int j :: .ref x :: st, h) = mj_bd (mj_gi h x j) (fun v => mj_R 106 (28, [l0, l1, l2], .int v :: st, h)) := mj_R_gi rfl
theorem mq_106_28 {l0 l1 l2 : Value} {st : List Value} {h : mj_H} : mj_R 106 (28, [l0, l1, l2], st, h) = mj_R 106 (30, [l0, l1, l2], .int (nI 82) :: st, h) := mj_R_next rfl rfl
theorem mq_106_30 {l0 l1 l2 : Value} {x y : Int32} {st : List Value} {h : mj_H} : mj_R 106 (30, [l0, l1, l2], .int y :: .int x :: st, h) = if x = y then mj_R 106 (35, [l0, l1, l2], st, h) else mj_R 106 (33, [l0, l1, l2], st, h) := mj_R_jeq rfl
theorem mq_106_33 {l0 l1 l2 : Value} {st : List Value} {h : mj_H} : mj_R 106 (33, [l0, l1, l2], st, h) = mj_R 106 (34, [l0, l1, l2], .int (nI 0) :: st, h) := mj_R_next rfl rfl
theorem mq_106_34 {l0 l1 l2 : Value} {x : Int32} {h : mj_H} : mj_R 106 (34, [l0, l1, l2], [.int x], h) = some (some (.int x), h) := mj_R_ret rfl rfl
theorem mq_106_35 {l1 l2 : Value} {x : Nat} {st : List Value} {h : mj_H} : mj_R 106 (35, [.ref x, l1, l2], st, h) = mj_R 106 (36, [.ref x, l1, l2], .ref x :: st, h) := mj_R_next rfl rfl
theorem mq_106_36 {l0 l1 l2 : Value} {st : List Value} {h : mj_H} : mj_R 106 (36, [l0, l1, l2], st, h) = mj_R 106 (37, [l0, l1, l2], .int (nI 1) :: st, h) := mj_R_next rfl rfl
theorem mq_106_37 {l0 l1 l2 : Value} {x : Nat} {v : Value} {st : List Value} {h : mj_H} : mj_R 106 (37, [l0, l1, l2], v :: .ref x :: st, h) = mj_bd (mj_pf h x 7 3 v) (fun h' => mj_R 106 (40, [l0, l1, l2], st, h')) := mj_R_pf rfl
theorem mq_106_40 {l1 l2 : Value} {x : Nat} {st : List Value} {h : mj_H} : mj_R 106 (40, [.ref x, l1, l2], st, h) = mj_R 106 (41, [.ref x, l1, l2], .ref x :: st, h) := mj_R_next rfl rfl
theorem mq_106_41 {l0 l1 l2 : Value} {st : List Value} {h : mj_H} : mj_R 106 (41, [l0, l1, l2], st, h) = mj_R 106 (42, [l0, l1, l2], .int (nI 0) :: st, h) := mj_R_next rfl rfl
theorem mq_106_42 {l0 l1 l2 : Value} {st : List Value} {h : mj_H} : mj_R 106 (42, [l0, l1, l2], st, h) = mj_R 106 (44, [l0, l1, l2], .int (nI 9) :: st, h) := mj_R_next rfl rfl
theorem mq_106_44 {l0 l1 l2 : Value} {a0 : Nat} {a1 : Int32} {a2 : Int32} {h : mj_H} : mj_R 106 (44, [l0, l1, l2], [.int a2, .int a1, .ref a0], h) = if mj_isC h a0 7 = true then mj_bd (mj_C 107 [.ref a0, .int a1, .int a2] h) (fun r => mj_R 106 (47, [l0, l1, l2], r.1.toList ++ [], r.2)) else none := mj_R_cv rfl rfl
theorem mq_106_47 {l0 l1 l2 : Value} {x : Int32} {st : List Value} {h : mj_H} : mj_R 106 (47, [l0, l1, l2], .int x :: st, h) = mj_R 106 (48, [l0, .int x, l2], st, h) := mj_R_next rfl rfl
theorem mq_106_48 {l0 l2 : Value} {x : Int32} {st : List Value} {h : mj_H} : mj_R 106 (48, [l0, .int x, l2], st, h) = mj_R 106 (49, [l0, .int x, l2], .int x :: st, h) := mj_R_next rfl rfl
theorem mq_106_49 {l0 l1 l2 : Value} {st : List Value} {h : mj_H} : mj_R 106 (49, [l0, l1, l2], st, h) = mj_R 106 (51, [l0, l1, l2], .int (-9) :: st, h) := mj_R_next rfl rfl
theorem mq_106_51 {l0 l1 l2 : Value} {x y : Int32} {st : List Value} {h : mj_H} : mj_R 106 (51, [l0, l1, l2], .int y :: .int x :: st, h) = if x = y then mj_R 106 (54, [l0, l1, l2], st, h) else mj_R 106 (59, [l0, l1, l2], st, h) := mj_R_jne rfl
theorem mq_106_54 {l0 l1 l2 : Value} {st : List Value} {h : mj_H} : mj_R 106 (54, [l0, l1, l2], st, h) = mj_R 106 (56, [l0, l1, l2], .int (-9) :: st, h) := mj_R_next rfl rfl
theorem mq_106_56 {l0 l1 l2 : Value} {st : List Value} {h : mj_H} : mj_R 106 (56, [l0, l1, l2], st, h) = mj_R 106 (66, [l0, l1, l2], st, h) := mj_R_next rfl rfl
theorem mq_106_59 {l1 l2 : Value} {x : Nat} {st : List Value} {h : mj_H} : mj_R 106 (59, [.ref x, l1, l2], st, h) = mj_R 106 (60, [.ref x, l1, l2], .ref x :: st, h) := mj_R_next rfl rfl
theorem mq_106_60 {l0 l1 l2 : Value} {st : List Value} {h : mj_H} : mj_R 106 (60, [l0, l1, l2], st, h) = mj_R 106 (61, [l0, l1, l2], .int (nI 0) :: st, h) := mj_R_next rfl rfl
theorem mq_106_61 {l0 l1 l2 : Value} {st : List Value} {h : mj_H} : mj_R 106 (61, [l0, l1, l2], st, h) = mj_R 106 (63, [l0, l1, l2], .int (nI 9) :: st, h) := mj_R_next rfl rfl
theorem mq_106_63 {l0 l1 l2 : Value} {a0 : Nat} {a1 : Int32} {a2 : Int32} {h : mj_H} : mj_R 106 (63, [l0, l1, l2], [.int a2, .int a1, .ref a0], h) = if mj_isC h a0 7 = true then mj_bd (mj_C 107 [.ref a0, .int a1, .int a2] h) (fun r => mj_R 106 (66, [l0, l1, l2], r.1.toList ++ [], r.2)) else none := mj_R_cv rfl rfl
theorem mq_106_66 {l0 l1 l2 : Value} {x : Int32} {st : List Value} {h : mj_H} : mj_R 106 (66, [l0, l1, l2], .int x :: st, h) = mj_R 106 (67, [l0, l1, .int x], st, h) := mj_R_next rfl rfl
theorem mq_106_67 {l0 l1 : Value} {x : Int32} {st : List Value} {h : mj_H} : mj_R 106 (67, [l0, l1, .int x], st, h) = mj_R 106 (68, [l0, l1, .int x], .int x :: st, h) := mj_R_next rfl rfl
theorem mq_106_68 {l0 l1 l2 : Value} {st : List Value} {h : mj_H} : mj_R 106 (68, [l0, l1, l2], st, h) = mj_R 106 (70, [l0, l1, l2], .int (-9) :: st, h) := mj_R_next rfl rfl
theorem mq_106_70 {l0 l1 l2 : Value} {x y : Int32} {st : List Value} {h : mj_H} : mj_R 106 (70, [l0, l1, l2], .int y :: .int x :: st, h) = if x = y then mj_R 106 (73, [l0, l1, l2], st, h) else mj_R 106 (78, [l0, l1, l2], st, h) := mj_R_jne rfl
theorem mq_106_73 {l1 l2 : Value} {x : Nat} {st : List Value} {h : mj_H} : mj_R 106 (73, [.ref x, l1, l2], st, h) = mj_R 106 (74, [.ref x, l1, l2], .ref x :: st, h) := mj_R_next rfl rfl
theorem mq_106_74 {l0 l1 l2 : Value} {x : Nat} {st : List Value} {h : mj_H} : mj_R 106 (74, [l0, l1, l2], .ref x :: st, h) = mj_bd (mj_gf h x 7 3) (fun v => mj_R 106 (77, [l0, l1, l2], v :: st, h)) := mj_R_gf rfl
theorem mq_106_77 {l0 l1 l2 : Value} {x : Int32} {h : mj_H} : mj_R 106 (77, [l0, l1, l2], [.int x], h) = some (some (.int x), h) := mj_R_ret rfl rfl
theorem mq_106_78 {l1 l2 : Value} {x : Nat} {st : List Value} {h : mj_H} : mj_R 106 (78, [.ref x, l1, l2], st, h) = mj_R 106 (79, [.ref x, l1, l2], .ref x :: st, h) := mj_R_next rfl rfl
theorem mq_106_79 {l0 l1 l2 : Value} {st : List Value} {h : mj_H} : mj_R 106 (79, [l0, l1, l2], st, h) = mj_R 106 (81, [l0, l1, l2], .int (nI 10) :: st, h) := mj_R_next rfl rfl
theorem mq_106_81 {l0 l2 : Value} {x : Int32} {st : List Value} {h : mj_H} : mj_R 106 (81, [l0, .int x, l2], st, h) = mj_R 106 (82, [l0, .int x, l2], .int x :: st, h) := mj_R_next rfl rfl
theorem mq_106_82 {l0 l1 l2 : Value} {x y : Int32} {st : List Value} {h : mj_H} : mj_R 106 (82, [l0, l1, l2], .int y :: .int x :: st, h) = mj_R 106 (83, [l0, l1, l2], .int (x * y) :: st, h) := mj_R_next rfl rfl
theorem mq_106_83 {l0 l1 : Value} {x : Int32} {st : List Value} {h : mj_H} : mj_R 106 (83, [l0, l1, .int x], st, h) = mj_R 106 (84, [l0, l1, .int x], .int x :: st, h) := mj_R_next rfl rfl
theorem mq_106_84 {l0 l1 l2 : Value} {x y : Int32} {st : List Value} {h : mj_H} : mj_R 106 (84, [l0, l1, l2], .int y :: .int x :: st, h) = mj_R 106 (85, [l0, l1, l2], .int (x + y) :: st, h) := mj_R_next rfl rfl
theorem mq_106_85 {l0 l1 l2 : Value} {x : Nat} {v : Value} {st : List Value} {h : mj_H} : mj_R 106 (85, [l0, l1, l2], v :: .ref x :: st, h) = mj_bd (mj_pf h x 7 11 v) (fun h' => mj_R 106 (88, [l0, l1, l2], st, h')) := mj_R_pf rfl
theorem mq_106_88 {l1 l2 : Value} {x : Nat} {st : List Value} {h : mj_H} : mj_R 106 (88, [.ref x, l1, l2], st, h) = mj_R 106 (89, [.ref x, l1, l2], .ref x :: st, h) := mj_R_next rfl rfl
theorem mq_106_89 {l0 l1 l2 : Value} {x : Nat} {st : List Value} {h : mj_H} : mj_R 106 (89, [l0, l1, l2], .ref x :: st, h) = mj_bd (mj_gf h x 7 3) (fun v => mj_R 106 (92, [l0, l1, l2], v :: st, h)) := mj_R_gf rfl
theorem mq_106_92 {l1 l2 : Value} {x : Nat} {st : List Value} {h : mj_H} : mj_R 106 (92, [.ref x, l1, l2], st, h) = mj_R 106 (93, [.ref x, l1, l2], .ref x :: st, h) := mj_R_next rfl rfl
theorem mq_106_93 {l0 l1 l2 : Value} {x : Nat} {st : List Value} {h : mj_H} : mj_R 106 (93, [l0, l1, l2], .ref x :: st, h) = mj_bd (mj_gf h x 7 2) (fun v => mj_R 106 (96, [l0, l1, l2], v :: st, h)) := mj_R_gf rfl
theorem mq_106_96 {l0 l1 l2 : Value} {x y : Int32} {st : List Value} {h : mj_H} : mj_R 106 (96, [l0, l1, l2], .int y :: .int x :: st, h) = if y ≤ x then mj_R 106 (111, [l0, l1, l2], st, h) else mj_R 106 (99, [l0, l1, l2], st, h) := mj_R_jge rfl
theorem mq_106_99 {l1 l2 : Value} {x : Nat} {st : List Value} {h : mj_H} : mj_R 106 (99, [.ref x, l1, l2], st, h) = mj_R 106 (100, [.ref x, l1, l2], .ref x :: st, h) := mj_R_next rfl rfl
theorem mq_106_100 {l0 l1 l2 : Value} {a0 : Nat} {h : mj_H} : mj_R 106 (100, [l0, l1, l2], [.ref a0], h) = if mj_isC h a0 7 = true then mj_bd (mj_C 108 [.ref a0] h) (fun r => mj_R 106 (103, [l0, l1, l2], r.1.toList ++ [], r.2)) else none := mj_R_cv rfl rfl
theorem mq_106_103 {l0 l1 l2 : Value} {x : Int32} {st : List Value} {h : mj_H} : mj_R 106 (103, [l0, l1, l2], .int x :: st, h) = if x = nI 0 then mj_R 106 (106, [l0, l1, l2], st, h) else mj_R 106 (88, [l0, l1, l2], st, h) := mj_R_ine rfl
theorem mq_106_106 {l1 l2 : Value} {x : Nat} {st : List Value} {h : mj_H} : mj_R 106 (106, [.ref x, l1, l2], st, h) = mj_R 106 (107, [.ref x, l1, l2], .ref x :: st, h) := mj_R_next rfl rfl
theorem mq_106_107 {l0 l1 l2 : Value} {x : Nat} {st : List Value} {h : mj_H} : mj_R 106 (107, [l0, l1, l2], .ref x :: st, h) = mj_bd (mj_gf h x 7 3) (fun v => mj_R 106 (110, [l0, l1, l2], v :: st, h)) := mj_R_gf rfl
theorem mq_106_110 {l0 l1 l2 : Value} {x : Int32} {h : mj_H} : mj_R 106 (110, [l0, l1, l2], [.int x], h) = some (some (.int x), h) := mj_R_ret rfl rfl
theorem mq_106_111 {l0 l1 l2 : Value} {st : List Value} {h : mj_H} : mj_R 106 (111, [l0, l1, l2], st, h) = mj_R 106 (113, [l0, l1, l2], .int (-9) :: st, h) := mj_R_next rfl rfl
theorem mq_106_113 {l0 l1 l2 : Value} {x : Int32} {h : mj_H} : mj_R 106 (113, [l0, l1, l2], [.int x], h) = some (some (.int x), h) := mj_R_ret rfl rfl
theorem mc_107 {a0 : Nat} {a1 : Int32} {a2 : Int32} {h : mj_H} : mj_C 107 [.ref a0, .int a1, .int a2] h = mj_R 107 (0, [.ref a0, .int a1, .int a2], [], h) := rfl
theorem mq_107_0 {l1 l2 : Value} {x : Nat} {st : List Value} {h : mj_H} : mj_R 107 (0, [.ref x, l1, l2], st, h) = mj_R 107 (1, [.ref x, l1, l2], .ref x :: st, h) := mj_R_next rfl rfl
theorem mq_107_1 {l0 l1 l2 : Value} {x : Nat} {st : List Value} {h : mj_H} : mj_R 107 (1, [l0, l1, l2], .ref x :: st, h) = mj_bd (mj_gf h x 7 3) (fun v => mj_R 107 (4, [l0, l1, l2], v :: st, h)) := mj_R_gf rfl
theorem mq_107_4 {l1 l2 : Value} {x : Nat} {st : List Value} {h : mj_H} : mj_R 107 (4, [.ref x, l1, l2], st, h) = mj_R 107 (5, [.ref x, l1, l2], .ref x :: st, h) := mj_R_next rfl rfl
theorem mq_107_5 {l0 l1 l2 : Value} {x : Nat} {st : List Value} {h : mj_H} : mj_R 107 (5, [l0, l1, l2], .ref x :: st, h) = mj_bd (mj_gf h x 7 2) (fun v => mj_R 107 (8, [l0, l1, l2], v :: st, h)) := mj_R_gf rfl
theorem mq_107_8 {l0 l1 l2 : Value} {x y : Int32} {st : List Value} {h : mj_H} : mj_R 107 (8, [l0, l1, l2], .int y :: .int x :: st, h) = if x = y then mj_R 107 (34, [l0, l1, l2], st, h) else mj_R 107 (11, [l0, l1, l2], st, h) := mj_R_jeq rfl
theorem mq_107_11 {l1 l2 : Value} {x : Nat} {st : List Value} {h : mj_H} : mj_R 107 (11, [.ref x, l1, l2], st, h) = mj_R 107 (12, [.ref x, l1, l2], .ref x :: st, h) := mj_R_next rfl rfl
theorem mq_107_12 {l0 l1 l2 : Value} {x : Nat} {st : List Value} {h : mj_H} : mj_R 107 (12, [l0, l1, l2], .ref x :: st, h) = mj_bd (mj_gf h x 7 1) (fun v => mj_R 107 (15, [l0, l1, l2], v :: st, h)) := mj_R_gf rfl
theorem mq_107_15 {l1 l2 : Value} {x : Nat} {st : List Value} {h : mj_H} : mj_R 107 (15, [.ref x, l1, l2], st, h) = mj_R 107 (16, [.ref x, l1, l2], .ref x :: st, h) := mj_R_next rfl rfl
theorem mq_107_16 {l0 l1 l2 : Value} {x : Nat} {st : List Value} {h : mj_H} : mj_R 107 (16, [l0, l1, l2], .ref x :: st, h) = mj_bd (mj_gf h x 7 3) (fun v => mj_R 107 (19, [l0, l1, l2], v :: st, h)) := mj_R_gf rfl
theorem mq_107_19 {l0 l1 l2 : Value} {x : Nat} {j : Int32} {st : List Value} {h : mj_H} : mj_R 107 (19, [l0, l1, l2], .int j :: .ref x :: st, h) = mj_bd (mj_gi h x j) (fun v => mj_R 107 (20, [l0, l1, l2], .int v :: st, h)) := mj_R_gi rfl
theorem mq_107_20 {l0 l1 l2 : Value} {st : List Value} {h : mj_H} : mj_R 107 (20, [l0, l1, l2], st, h) = mj_R 107 (22, [l0, l1, l2], .int (nI 48) :: st, h) := mj_R_next rfl rfl
theorem mq_107_22 {l0 l1 l2 : Value} {x y : Int32} {st : List Value} {h : mj_H} : mj_R 107 (22, [l0, l1, l2], .int y :: .int x :: st, h) = mj_R 107 (23, [l0, l1, l2], .int (x - y) :: st, h) := mj_R_next rfl rfl
theorem mq_107_23 {l0 l1 l2 : Value} {x : Int32} {st : List Value} {h : mj_H} : mj_R 107 (23, [l0, l1, l2], .int x :: st, h) = mj_R 107 (24, [l0, l1, l2], .long x.toInt64 :: st, h) := mj_R_next rfl rfl
theorem mq_107_24 {l0 l2 : Value} {x : Int32} {st : List Value} {h : mj_H} : mj_R 107 (24, [l0, .int x, l2], st, h) = mj_R 107 (25, [l0, .int x, l2], .int x :: st, h) := mj_R_next rfl rfl
theorem mq_107_25 {l0 l1 l2 : Value} {x : Int32} {st : List Value} {h : mj_H} : mj_R 107 (25, [l0, l1, l2], .int x :: st, h) = mj_R 107 (26, [l0, l1, l2], .long x.toInt64 :: st, h) := mj_R_next rfl rfl
theorem mq_107_26 {l0 l1 : Value} {x : Int32} {st : List Value} {h : mj_H} : mj_R 107 (26, [l0, l1, .int x], st, h) = mj_R 107 (27, [l0, l1, .int x], .int x :: st, h) := mj_R_next rfl rfl
theorem mq_107_27 {l0 l1 l2 : Value} {x : Int32} {st : List Value} {h : mj_H} : mj_R 107 (27, [l0, l1, l2], .int x :: st, h) = mj_R 107 (28, [l0, l1, l2], .long x.toInt64 :: st, h) := mj_R_next rfl rfl
theorem mq_107_28 {l0 l1 l2 : Value} {a0 : Int64} {a1 : Int64} {a2 : Int64} {h : mj_H} : mj_R 107 (28, [l0, l1, l2], [.long a2, .long a1, .long a0], h) = mj_bd (mj_C 103 [.long a0, .long a1, .long a2] h) (fun r => mj_R 107 (31, [l0, l1, l2], r.1.toList ++ [], r.2)) := mj_R_cs rfl rfl
theorem mq_107_31 {l0 l1 l2 : Value} {x : Int32} {st : List Value} {h : mj_H} : mj_R 107 (31, [l0, l1, l2], .int x :: st, h) = if x = nI 0 then mj_R 107 (34, [l0, l1, l2], st, h) else mj_R 107 (37, [l0, l1, l2], st, h) := mj_R_ine rfl
theorem mq_107_34 {l0 l1 l2 : Value} {st : List Value} {h : mj_H} : mj_R 107 (34, [l0, l1, l2], st, h) = mj_R 107 (36, [l0, l1, l2], .int (-9) :: st, h) := mj_R_next rfl rfl
theorem mq_107_36 {l0 l1 l2 : Value} {x : Int32} {h : mj_H} : mj_R 107 (36, [l0, l1, l2], [.int x], h) = some (some (.int x), h) := mj_R_ret rfl rfl
theorem mq_107_37 {l1 l2 : Value} {x : Nat} {st : List Value} {h : mj_H} : mj_R 107 (37, [.ref x, l1, l2], st, h) = mj_R 107 (38, [.ref x, l1, l2], .ref x :: st, h) := mj_R_next rfl rfl
theorem mq_107_38 {l0 l1 l2 : Value} {x : Nat} {st : List Value} {h : mj_H} : mj_R 107 (38, [l0, l1, l2], .ref x :: st, h) = mj_R 107 (39, [l0, l1, l2], .ref x :: .ref x :: st, h) := mj_R_next rfl rfl
theorem mq_107_39 {l0 l1 l2 : Value} {x : Nat} {st : List Value} {h : mj_H} : mj_R 107 (39, [l0, l1, l2], .ref x :: st, h) = mj_bd (mj_gf h x 7 3) (fun v => mj_R 107 (42, [l0, l1, l2], v :: st, h)) := mj_R_gf rfl
theorem mq_107_42 {l0 l1 l2 : Value} {st : List Value} {h : mj_H} : mj_R 107 (42, [l0, l1, l2], st, h) = mj_R 107 (43, [l0, l1, l2], .int (nI 1) :: st, h) := mj_R_next rfl rfl
theorem mq_107_43 {l0 l1 l2 : Value} {x y : Int32} {st : List Value} {h : mj_H} : mj_R 107 (43, [l0, l1, l2], .int y :: .int x :: st, h) = mj_R 107 (44, [l0, l1, l2], .int (x + y) :: st, h) := mj_R_next rfl rfl
theorem mq_107_44 {l0 l1 l2 : Value} {x : Nat} {v : Value} {st : List Value} {h : mj_H} : mj_R 107 (44, [l0, l1, l2], v :: .ref x :: st, h) = mj_bd (mj_pf h x 7 3 v) (fun h' => mj_R 107 (47, [l0, l1, l2], st, h')) := mj_R_pf rfl
theorem mq_107_47 {l1 l2 : Value} {x : Nat} {st : List Value} {h : mj_H} : mj_R 107 (47, [.ref x, l1, l2], st, h) = mj_R 107 (48, [.ref x, l1, l2], .ref x :: st, h) := mj_R_next rfl rfl
theorem mq_107_48 {l0 l1 l2 : Value} {x : Nat} {st : List Value} {h : mj_H} : mj_R 107 (48, [l0, l1, l2], .ref x :: st, h) = mj_bd (mj_gf h x 7 1) (fun v => mj_R 107 (51, [l0, l1, l2], v :: st, h)) := mj_R_gf rfl
theorem mq_107_51 {l1 l2 : Value} {x : Nat} {st : List Value} {h : mj_H} : mj_R 107 (51, [.ref x, l1, l2], st, h) = mj_R 107 (52, [.ref x, l1, l2], .ref x :: st, h) := mj_R_next rfl rfl
theorem mq_107_52 {l0 l1 l2 : Value} {x : Nat} {st : List Value} {h : mj_H} : mj_R 107 (52, [l0, l1, l2], .ref x :: st, h) = mj_bd (mj_gf h x 7 3) (fun v => mj_R 107 (55, [l0, l1, l2], v :: st, h)) := mj_R_gf rfl
theorem mq_107_55 {l0 l1 l2 : Value} {st : List Value} {h : mj_H} : mj_R 107 (55, [l0, l1, l2], st, h) = mj_R 107 (56, [l0, l1, l2], .int (nI 1) :: st, h) := mj_R_next rfl rfl
theorem mq_107_56 {l0 l1 l2 : Value} {x y : Int32} {st : List Value} {h : mj_H} : mj_R 107 (56, [l0, l1, l2], .int y :: .int x :: st, h) = mj_R 107 (57, [l0, l1, l2], .int (x - y) :: st, h) := mj_R_next rfl rfl
theorem mq_107_57 {l0 l1 l2 : Value} {x : Nat} {j : Int32} {st : List Value} {h : mj_H} : mj_R 107 (57, [l0, l1, l2], .int j :: .ref x :: st, h) = mj_bd (mj_gi h x j) (fun v => mj_R 107 (58, [l0, l1, l2], .int v :: st, h)) := mj_R_gi rfl
theorem mq_107_58 {l0 l1 l2 : Value} {st : List Value} {h : mj_H} : mj_R 107 (58, [l0, l1, l2], st, h) = mj_R 107 (60, [l0, l1, l2], .int (nI 48) :: st, h) := mj_R_next rfl rfl
theorem mq_107_60 {l0 l1 l2 : Value} {x y : Int32} {st : List Value} {h : mj_H} : mj_R 107 (60, [l0, l1, l2], .int y :: .int x :: st, h) = mj_R 107 (61, [l0, l1, l2], .int (x - y) :: st, h) := mj_R_next rfl rfl
theorem mq_107_61 {l0 l1 l2 : Value} {x : Int32} {h : mj_H} : mj_R 107 (61, [l0, l1, l2], [.int x], h) = some (some (.int x), h) := mj_R_ret rfl rfl
theorem mc_108 {a0 : Nat} {h : mj_H} : mj_C 108 [.ref a0] h = mj_R 108 (0, [.ref a0, .null, .null, .null, .null], [], h) := rfl
theorem mq_108_0 {l1 l2 l3 l4 : Value} {x : Nat} {st : List Value} {h : mj_H} : mj_R 108 (0, [.ref x, l1, l2, l3, l4], st, h) = mj_R 108 (1, [.ref x, l1, l2, l3, l4], .ref x :: st, h) := mj_R_next rfl rfl
theorem mq_108_1 {l0 l1 l2 l3 l4 : Value} {x : Nat} {st : List Value} {h : mj_H} : mj_R 108 (1, [l0, l1, l2, l3, l4], .ref x :: st, h) = mj_bd (mj_gf h x 7 1) (fun v => mj_R 108 (4, [l0, l1, l2, l3, l4], v :: st, h)) := mj_R_gf rfl
theorem mq_108_4 {l1 l2 l3 l4 : Value} {x : Nat} {st : List Value} {h : mj_H} : mj_R 108 (4, [.ref x, l1, l2, l3, l4], st, h) = mj_R 108 (5, [.ref x, l1, l2, l3, l4], .ref x :: st, h) := mj_R_next rfl rfl
theorem mq_108_5 {l0 l1 l2 l3 l4 : Value} {x : Nat} {st : List Value} {h : mj_H} : mj_R 108 (5, [l0, l1, l2, l3, l4], .ref x :: st, h) = mj_bd (mj_gf h x 7 3) (fun v => mj_R 108 (8, [l0, l1, l2, l3, l4], v :: st, h)) := mj_R_gf rfl
theorem mq_108_8 {l0 l1 l2 l3 l4 : Value} {x : Nat} {j : Int32} {st : List Value} {h : mj_H} : mj_R 108 (8, [l0, l1, l2, l3, l4], .int j :: .ref x :: st, h) = mj_bd (mj_gi h x j) (fun v => mj_R 108 (9, [l0, l1, l2, l3, l4], .int v :: st, h)) := mj_R_gi rfl
theorem mq_108_9 {l0 l1 l2 l3 l4 : Value} {x : Int32} {st : List Value} {h : mj_H} : mj_R 108 (9, [l0, l1, l2, l3, l4], .int x :: st, h) = mj_R 108 (10, [l0, .int x, l2, l3, l4], st, h) := mj_R_next rfl rfl
theorem mq_108_10 {l0 l2 l3 l4 : Value} {x : Int32} {st : List Value} {h : mj_H} : mj_R 108 (10, [l0, .int x, l2, l3, l4], st, h) = mj_R 108 (11, [l0, .int x, l2, l3, l4], .int x :: st, h) := mj_R_next rfl rfl
theorem mq_108_11 {l0 l1 l2 l3 l4 : Value} {st : List Value} {h : mj_H} : mj_R 108 (11, [l0, l1, l2, l3, l4], st, h) = mj_R 108 (13, [l0, l1, l2, l3, l4], .int (nI 66) :: st, h) := mj_R_next rfl rfl
theorem mq_108_13 {l0 l1 l2 l3 l4 : Value} {x y : Int32} {st : List Value} {h : mj_H} : mj_R 108 (13, [l0, l1, l2, l3, l4], .int y :: .int x :: st, h) = if x = y then mj_R 108 (16, [l0, l1, l2, l3, l4], st, h) else mj_R 108 (29, [l0, l1, l2, l3, l4], st, h) := mj_R_jne rfl
theorem mq_108_16 {l1 l2 l3 l4 : Value} {x : Nat} {st : List Value} {h : mj_H} : mj_R 108 (16, [.ref x, l1, l2, l3, l4], st, h) = mj_R 108 (17, [.ref x, l1, l2, l3, l4], .ref x :: st, h) := mj_R_next rfl rfl
theorem mq_108_17 {l0 l1 l2 l3 l4 : Value} {x : Nat} {st : List Value} {h : mj_H} : mj_R 108 (17, [l0, l1, l2, l3, l4], .ref x :: st, h) = mj_bd (mj_gf h x 7 9) (fun v => mj_R 108 (20, [l0, l1, l2, l3, l4], v :: st, h)) := mj_R_gf rfl
theorem mq_108_20 {l0 l1 l2 l3 l4 : Value} {st : List Value} {h : mj_H} : mj_R 108 (20, [l0, l1, l2, l3, l4], st, h) = mj_R 108 (22, [l0, l1, l2, l3, l4], .int (nI 6) :: st, h) := mj_R_next rfl rfl
theorem mq_108_22 {l0 l1 l2 l3 l4 : Value} {x y : Int32} {st : List Value} {h : mj_H} : mj_R 108 (22, [l0, l1, l2, l3, l4], .int y :: .int x :: st, h) = if y ≤ x then mj_R 108 (29, [l0, l1, l2, l3, l4], st, h) else mj_R 108 (25, [l0, l1, l2, l3, l4], st, h) := mj_R_jge rfl
theorem mq_108_25 {l0 l1 l2 l3 l4 : Value} {st : List Value} {h : mj_H} : mj_R 108 (25, [l0, l1, l2, l3, l4], st, h) = mj_R 108 (26, [l0, l1, l2, l3, l4], .int (nI 1) :: st, h) := mj_R_next rfl rfl
theorem mq_108_26 {l0 l1 l2 l3 l4 : Value} {st : List Value} {h : mj_H} : mj_R 108 (26, [l0, l1, l2, l3, l4], st, h) = mj_R 108 (30, [l0, l1, l2, l3, l4], st, h) := mj_R_next rfl rfl
theorem mq_108_29 {l0 l1 l2 l3 l4 : Value} {st : List Value} {h : mj_H} : mj_R 108 (29, [l0, l1, l2, l3, l4], st, h) = mj_R 108 (30, [l0, l1, l2, l3, l4], .int (nI 0) :: st, h) := mj_R_next rfl rfl
theorem mq_108_30 {l0 l1 l2 l3 l4 : Value} {x : Int32} {st : List Value} {h : mj_H} : mj_R 108 (30, [l0, l1, l2, l3, l4], .int x :: st, h) = mj_R 108 (31, [l0, l1, .int x, l3, l4], st, h) := mj_R_next rfl rfl
theorem mq_108_31 {l0 l2 l3 l4 : Value} {x : Int32} {st : List Value} {h : mj_H} : mj_R 108 (31, [l0, .int x, l2, l3, l4], st, h) = mj_R 108 (32, [l0, .int x, l2, l3, l4], .int x :: st, h) := mj_R_next rfl rfl
theorem mq_108_32 {l0 l1 l2 l3 l4 : Value} {st : List Value} {h : mj_H} : mj_R 108 (32, [l0, l1, l2, l3, l4], st, h) = mj_R 108 (34, [l0, l1, l2, l3, l4], .int (nI 69) :: st, h) := mj_R_next rfl rfl
theorem mq_108_34 {l0 l1 l2 l3 l4 : Value} {x y : Int32} {st : List Value} {h : mj_H} : mj_R 108 (34, [l0, l1, l2, l3, l4], .int y :: .int x :: st, h) = if x = y then mj_R 108 (37, [l0, l1, l2, l3, l4], st, h) else mj_R 108 (48, [l0, l1, l2, l3, l4], st, h) := mj_R_jne rfl
theorem mq_108_37 {l1 l2 l3 l4 : Value} {x : Nat} {st : List Value} {h : mj_H} : mj_R 108 (37, [.ref x, l1, l2, l3, l4], st, h) = mj_R 108 (38, [.ref x, l1, l2, l3, l4], .ref x :: st, h) := mj_R_next rfl rfl
theorem mq_108_38 {l0 l1 l2 l3 l4 : Value} {a0 : Nat} {h : mj_H} : mj_R 108 (38, [l0, l1, l2, l3, l4], [.ref a0], h) = if mj_isC h a0 7 = true then mj_bd (mj_C 109 [.ref a0] h) (fun r => mj_R 108 (41, [l0, l1, l2, l3, l4], r.1.toList ++ [], r.2)) else none := mj_R_cv rfl rfl
theorem mq_108_41 {l0 l1 l2 l3 l4 : Value} {x : Int32} {st : List Value} {h : mj_H} : mj_R 108 (41, [l0, l1, l2, l3, l4], .int x :: st, h) = if x = nI 0 then mj_R 108 (48, [l0, l1, l2, l3, l4], st, h) else mj_R 108 (44, [l0, l1, l2, l3, l4], st, h) := mj_R_ieq rfl
theorem mq_108_44 {l0 l1 l2 l3 l4 : Value} {st : List Value} {h : mj_H} : mj_R 108 (44, [l0, l1, l2, l3, l4], st, h) = mj_R 108 (45, [l0, l1, l2, l3, l4], .int (nI 1) :: st, h) := mj_R_next rfl rfl
theorem mq_108_45 {l0 l1 l2 l3 l4 : Value} {st : List Value} {h : mj_H} : mj_R 108 (45, [l0, l1, l2, l3, l4], st, h) = mj_R 108 (49, [l0, l1, l2, l3, l4], st, h) := mj_R_next rfl rfl
theorem mq_108_48 {l0 l1 l2 l3 l4 : Value} {st : List Value} {h : mj_H} : mj_R 108 (48, [l0, l1, l2, l3, l4], st, h) = mj_R 108 (49, [l0, l1, l2, l3, l4], .int (nI 0) :: st, h) := mj_R_next rfl rfl
theorem mq_108_49 {l0 l1 l2 l3 l4 : Value} {x : Int32} {st : List Value} {h : mj_H} : mj_R 108 (49, [l0, l1, l2, l3, l4], .int x :: st, h) = mj_R 108 (50, [l0, l1, l2, .int x, l4], st, h) := mj_R_next rfl rfl
theorem mq_108_50 {l0 l2 l3 l4 : Value} {x : Int32} {st : List Value} {h : mj_H} : mj_R 108 (50, [l0, .int x, l2, l3, l4], st, h) = mj_R 108 (51, [l0, .int x, l2, l3, l4], .int x :: st, h) := mj_R_next rfl rfl
theorem mq_108_51 {l0 l1 l2 l3 l4 : Value} {st : List Value} {h : mj_H} : mj_R 108 (51, [l0, l1, l2, l3, l4], st, h) = mj_R 108 (53, [l0, l1, l2, l3, l4], .int (nI 71) :: st, h) := mj_R_next rfl rfl
theorem mq_108_53 {l0 l1 l2 l3 l4 : Value} {x y : Int32} {st : List Value} {h : mj_H} : mj_R 108 (53, [l0, l1, l2, l3, l4], .int y :: .int x :: st, h) = if x = y then mj_R 108 (56, [l0, l1, l2, l3, l4], st, h) else mj_R 108 (68, [l0, l1, l2, l3, l4], st, h) := mj_R_jne rfl
theorem mq_108_56 {l1 l2 l3 l4 : Value} {x : Nat} {st : List Value} {h : mj_H} : mj_R 108 (56, [.ref x, l1, l2, l3, l4], st, h) = mj_R 108 (57, [.ref x, l1, l2, l3, l4], .ref x :: st, h) := mj_R_next rfl rfl
theorem mq_108_57 {l0 l1 l2 l3 l4 : Value} {x : Nat} {st : List Value} {h : mj_H} : mj_R 108 (57, [l0, l1, l2, l3, l4], .ref x :: st, h) = mj_bd (mj_gf h x 7 10) (fun v => mj_R 108 (60, [l0, l1, l2, l3, l4], v :: st, h)) := mj_R_gf rfl
theorem mq_108_60 {l0 l1 l2 l3 l4 : Value} {st : List Value} {h : mj_H} : mj_R 108 (60, [l0, l1, l2, l3, l4], st, h) = mj_R 108 (61, [l0, l1, l2, l3, l4], .int (nI 3) :: st, h) := mj_R_next rfl rfl
theorem mq_108_61 {l0 l1 l2 l3 l4 : Value} {x y : Int32} {st : List Value} {h : mj_H} : mj_R 108 (61, [l0, l1, l2, l3, l4], .int y :: .int x :: st, h) = if y ≤ x then mj_R 108 (68, [l0, l1, l2, l3, l4], st, h) else mj_R 108 (64, [l0, l1, l2, l3, l4], st, h) := mj_R_jge rfl
theorem mq_108_64 {l0 l1 l2 l3 l4 : Value} {st : List Value} {h : mj_H} : mj_R 108 (64, [l0, l1, l2, l3, l4], st, h) = mj_R 108 (65, [l0, l1, l2, l3, l4], .int (nI 1) :: st, h) := mj_R_next rfl rfl
theorem mq_108_65 {l0 l1 l2 l3 l4 : Value} {st : List Value} {h : mj_H} : mj_R 108 (65, [l0, l1, l2, l3, l4], st, h) = mj_R 108 (69, [l0, l1, l2, l3, l4], st, h) := mj_R_next rfl rfl
theorem mq_108_68 {l0 l1 l2 l3 l4 : Value} {st : List Value} {h : mj_H} : mj_R 108 (68, [l0, l1, l2, l3, l4], st, h) = mj_R 108 (69, [l0, l1, l2, l3, l4], .int (nI 0) :: st, h) := mj_R_next rfl rfl
theorem mq_108_69 {l0 l1 l2 l3 l4 : Value} {x : Int32} {st : List Value} {h : mj_H} : mj_R 108 (69, [l0, l1, l2, l3, l4], .int x :: st, h) = mj_R 108 (71, [l0, l1, l2, l3, .int x], st, h) := mj_R_next rfl rfl
theorem mq_108_71 {l0 l1 l3 l4 : Value} {x : Int32} {st : List Value} {h : mj_H} : mj_R 108 (71, [l0, l1, .int x, l3, l4], st, h) = mj_R 108 (72, [l0, l1, .int x, l3, l4], .int x :: st, h) := mj_R_next rfl rfl
theorem mq_108_72 {l0 l1 l2 l3 l4 : Value} {x : Int32} {st : List Value} {h : mj_H} : mj_R 108 (72, [l0, l1, l2, l3, l4], .int x :: st, h) = if x = nI 0 then mj_R 108 (75, [l0, l1, l2, l3, l4], st, h) else mj_R 108 (86, [l0, l1, l2, l3, l4], st, h) := mj_R_ine rfl
theorem mq_108_75 {l0 l1 l2 l4 : Value} {x : Int32} {st : List Value} {h : mj_H} : mj_R 108 (75, [l0, l1, l2, .int x, l4], st, h) = mj_R 108 (76, [l0, l1, l2, .int x, l4], .int x :: st, h) := mj_R_next rfl rfl
theorem mq_108_76 {l0 l1 l2 l3 l4 : Value} {x : Int32} {st : List Value} {h : mj_H} : mj_R 108 (76, [l0, l1, l2, l3, l4], .int x :: st, h) = if x = nI 0 then mj_R 108 (79, [l0, l1, l2, l3, l4], st, h) else mj_R 108 (86, [l0, l1, l2, l3, l4], st, h) := mj_R_ine rfl
theorem mq_108_79 {l0 l1 l2 l3 : Value} {x : Int32} {st : List Value} {h : mj_H} : mj_R 108 (79, [l0, l1, l2, l3, .int x], st, h) = mj_R 108 (81, [l0, l1, l2, l3, .int x], .int x :: st, h) := mj_R_next rfl rfl
theorem mq_108_81 {l0 l1 l2 l3 l4 : Value} {x : Int32} {st : List Value} {h : mj_H} : mj_R 108 (81, [l0, l1, l2, l3, l4], .int x :: st, h) = if x = nI 0 then mj_R 108 (84, [l0, l1, l2, l3, l4], st, h) else mj_R 108 (86, [l0, l1, l2, l3, l4], st, h) := mj_R_ine rfl
theorem mq_108_84 {l0 l1 l2 l3 l4 : Value} {st : List Value} {h : mj_H} : mj_R 108 (84, [l0, l1, l2, l3, l4], st, h) = mj_R 108 (85, [l0, l1, l2, l3, l4], .int (nI 0) :: st, h) := mj_R_next rfl rfl
theorem mq_108_85 {l0 l1 l2 l3 l4 : Value} {x : Int32} {h : mj_H} : mj_R 108 (85, [l0, l1, l2, l3, l4], [.int x], h) = if (x == 0 || x == 1) = true then some (some (.int x), h) else none := mj_R_rz rfl rfl
theorem mq_108_86 {l1 l2 l3 l4 : Value} {x : Nat} {st : List Value} {h : mj_H} : mj_R 108 (86, [.ref x, l1, l2, l3, l4], st, h) = mj_R 108 (87, [.ref x, l1, l2, l3, l4], .ref x :: st, h) := mj_R_next rfl rfl
theorem mq_108_87 {l0 l1 l2 l3 l4 : Value} {x : Nat} {st : List Value} {h : mj_H} : mj_R 108 (87, [l0, l1, l2, l3, l4], .ref x :: st, h) = mj_R 108 (88, [l0, l1, l2, l3, l4], .ref x :: .ref x :: st, h) := mj_R_next rfl rfl
theorem mq_108_88 {l0 l1 l2 l3 l4 : Value} {x : Nat} {st : List Value} {h : mj_H} : mj_R 108 (88, [l0, l1, l2, l3, l4], .ref x :: st, h) = mj_bd (mj_gf h x 7 3) (fun v => mj_R 108 (91, [l0, l1, l2, l3, l4], v :: st, h)) := mj_R_gf rfl
theorem mq_108_91 {l0 l1 l2 l3 l4 : Value} {st : List Value} {h : mj_H} : mj_R 108 (91, [l0, l1, l2, l3, l4], st, h) = mj_R 108 (92, [l0, l1, l2, l3, l4], .int (nI 1) :: st, h) := mj_R_next rfl rfl
theorem mq_108_92 {l0 l1 l2 l3 l4 : Value} {x y : Int32} {st : List Value} {h : mj_H} : mj_R 108 (92, [l0, l1, l2, l3, l4], .int y :: .int x :: st, h) = mj_R 108 (93, [l0, l1, l2, l3, l4], .int (x + y) :: st, h) := mj_R_next rfl rfl
theorem mq_108_93 {l0 l1 l2 l3 l4 : Value} {x : Nat} {v : Value} {st : List Value} {h : mj_H} : mj_R 108 (93, [l0, l1, l2, l3, l4], v :: .ref x :: st, h) = mj_bd (mj_pf h x 7 3 v) (fun h' => mj_R 108 (96, [l0, l1, l2, l3, l4], st, h')) := mj_R_pf rfl
theorem mq_108_96 {l0 l1 l3 l4 : Value} {x : Int32} {st : List Value} {h : mj_H} : mj_R 108 (96, [l0, l1, .int x, l3, l4], st, h) = mj_R 108 (97, [l0, l1, .int x, l3, l4], .int x :: st, h) := mj_R_next rfl rfl
theorem mq_108_97 {l0 l1 l2 l3 l4 : Value} {x : Int32} {st : List Value} {h : mj_H} : mj_R 108 (97, [l0, l1, l2, l3, l4], .int x :: st, h) = if x = nI 0 then mj_R 108 (107, [l0, l1, l2, l3, l4], st, h) else mj_R 108 (100, [l0, l1, l2, l3, l4], st, h) := mj_R_ieq rfl
theorem mq_108_100 {l1 l2 l3 l4 : Value} {x : Nat} {st : List Value} {h : mj_H} : mj_R 108 (100, [.ref x, l1, l2, l3, l4], st, h) = mj_R 108 (101, [.ref x, l1, l2, l3, l4], .ref x :: st, h) := mj_R_next rfl rfl
theorem mq_108_101 {l0 l1 l2 l3 l4 : Value} {a0 : Nat} {h : mj_H} : mj_R 108 (101, [l0, l1, l2, l3, l4], [.ref a0], h) = if mj_isC h a0 7 = true then mj_bd (mj_C 111 [.ref a0] h) (fun r => mj_R 108 (104, [l0, l1, l2, l3, l4], r.1.toList ++ [], r.2)) else none := mj_R_cv rfl rfl
theorem mq_108_104 {l0 l1 l2 l3 l4 : Value} {st : List Value} {h : mj_H} : mj_R 108 (104, [l0, l1, l2, l3, l4], st, h) = mj_R 108 (122, [l0, l1, l2, l3, l4], st, h) := mj_R_next rfl rfl
theorem mq_108_107 {l0 l1 l2 l4 : Value} {x : Int32} {st : List Value} {h : mj_H} : mj_R 108 (107, [l0, l1, l2, .int x, l4], st, h) = mj_R 108 (108, [l0, l1, l2, .int x, l4], .int x :: st, h) := mj_R_next rfl rfl
theorem mq_108_108 {l0 l1 l2 l3 l4 : Value} {x : Int32} {st : List Value} {h : mj_H} : mj_R 108 (108, [l0, l1, l2, l3, l4], .int x :: st, h) = if x = nI 0 then mj_R 108 (118, [l0, l1, l2, l3, l4], st, h) else mj_R 108 (111, [l0, l1, l2, l3, l4], st, h) := mj_R_ieq rfl
theorem mq_108_111 {l1 l2 l3 l4 : Value} {x : Nat} {st : List Value} {h : mj_H} : mj_R 108 (111, [.ref x, l1, l2, l3, l4], st, h) = mj_R 108 (112, [.ref x, l1, l2, l3, l4], .ref x :: st, h) := mj_R_next rfl rfl
theorem mq_108_112 {l0 l1 l2 l3 l4 : Value} {a0 : Nat} {h : mj_H} : mj_R 108 (112, [l0, l1, l2, l3, l4], [.ref a0], h) = if mj_isC h a0 7 = true then mj_bd (mj_C 112 [.ref a0] h) (fun r => mj_R 108 (115, [l0, l1, l2, l3, l4], r.1.toList ++ [], r.2)) else none := mj_R_cv rfl rfl
theorem mq_108_115 {l0 l1 l2 l3 l4 : Value} {st : List Value} {h : mj_H} : mj_R 108 (115, [l0, l1, l2, l3, l4], st, h) = mj_R 108 (122, [l0, l1, l2, l3, l4], st, h) := mj_R_next rfl rfl
theorem mq_108_118 {l1 l2 l3 l4 : Value} {x : Nat} {st : List Value} {h : mj_H} : mj_R 108 (118, [.ref x, l1, l2, l3, l4], st, h) = mj_R 108 (119, [.ref x, l1, l2, l3, l4], .ref x :: st, h) := mj_R_next rfl rfl
theorem mq_108_119 {l0 l1 l2 l3 l4 : Value} {a0 : Nat} {h : mj_H} : mj_R 108 (119, [l0, l1, l2, l3, l4], [.ref a0], h) = if mj_isC h a0 7 = true then mj_bd (mj_C 114 [.ref a0] h) (fun r => mj_R 108 (122, [l0, l1, l2, l3, l4], r.1.toList ++ [], r.2)) else none := mj_R_cv rfl rfl
theorem mq_108_122 {l0 l1 l2 l3 l4 : Value} {x : Int32} {h : mj_H} : mj_R 108 (122, [l0, l1, l2, l3, l4], [.int x], h) = if (x == 0 || x == 1) = true then some (some (.int x), h) else none := mj_R_rz rfl rfl
theorem mc_109 {a0 : Nat} {h : mj_H} : mj_C 109 [.ref a0] h = mj_R 109 (0, [.ref a0, .null, .null], [], h) := rfl
theorem mq_109_0 {l0 l1 l2 : Value} {st : List Value} {h : mj_H} : mj_R 109 (0, [l0, l1, l2], st, h) = mj_R 109 (1, [l0, l1, l2], .int (nI 0) :: st, h) := mj_R_next rfl rfl
theorem mq_109_1 {l0 l1 l2 : Value} {x : Int32} {st : List Value} {h : mj_H} : mj_R 109 (1, [l0, l1, l2], .int x :: st, h) = mj_R 109 (2, [l0, .int x, l2], st, h) := mj_R_next rfl rfl
theorem mq_109_2 {l0 l1 l2 : Value} {st : List Value} {h : mj_H} : mj_R 109 (2, [l0, l1, l2], st, h) = mj_R 109 (3, [l0, l1, l2], .int (nI 0) :: st, h) := mj_R_next rfl rfl
theorem mq_109_3 {l0 l1 l2 : Value} {x : Int32} {st : List Value} {h : mj_H} : mj_R 109 (3, [l0, l1, l2], .int x :: st, h) = mj_R 109 (4, [l0, l1, .int x], st, h) := mj_R_next rfl rfl
theorem mq_109_4 {l0 l1 : Value} {x : Int32} {st : List Value} {h : mj_H} : mj_R 109 (4, [l0, l1, .int x], st, h) = mj_R 109 (5, [l0, l1, .int x], .int x :: st, h) := mj_R_next rfl rfl
theorem mq_109_5 {l1 l2 : Value} {x : Nat} {st : List Value} {h : mj_H} : mj_R 109 (5, [.ref x, l1, l2], st, h) = mj_R 109 (6, [.ref x, l1, l2], .ref x :: st, h) := mj_R_next rfl rfl
theorem mq_109_6 {l0 l1 l2 : Value} {x : Nat} {st : List Value} {h : mj_H} : mj_R 109 (6, [l0, l1, l2], .ref x :: st, h) = mj_bd (mj_gf h x 7 9) (fun v => mj_R 109 (9, [l0, l1, l2], v :: st, h)) := mj_R_gf rfl
theorem mq_109_9 {l0 l1 l2 : Value} {x y : Int32} {st : List Value} {h : mj_H} : mj_R 109 (9, [l0, l1, l2], .int y :: .int x :: st, h) = if y ≤ x then mj_R 109 (36, [l0, l1, l2], st, h) else mj_R 109 (12, [l0, l1, l2], st, h) := mj_R_jge rfl
theorem mq_109_12 {l0 l2 : Value} {x : Int32} {st : List Value} {h : mj_H} : mj_R 109 (12, [l0, .int x, l2], st, h) = mj_R 109 (13, [l0, .int x, l2], .int x :: st, h) := mj_R_next rfl rfl
theorem mq_109_13 {l0 l1 l2 : Value} {x : Int32} {st : List Value} {h : mj_H} : mj_R 109 (13, [l0, l1, l2], .int x :: st, h) = if x = nI 0 then mj_R 109 (16, [l0, l1, l2], st, h) else mj_R 109 (24, [l0, l1, l2], st, h) := mj_R_ine rfl
theorem mq_109_16 {l1 l2 : Value} {x : Nat} {st : List Value} {h : mj_H} : mj_R 109 (16, [.ref x, l1, l2], st, h) = mj_R 109 (17, [.ref x, l1, l2], .ref x :: st, h) := mj_R_next rfl rfl
theorem mq_109_17 {l0 l1 : Value} {x : Int32} {st : List Value} {h : mj_H} : mj_R 109 (17, [l0, l1, .int x], st, h) = mj_R 109 (18, [l0, l1, .int x], .int x :: st, h) := mj_R_next rfl rfl
theorem mq_109_18 {l0 l1 l2 : Value} {a0 : Nat} {a1 : Int32} {h : mj_H} : mj_R 109 (18, [l0, l1, l2], [.int a1, .ref a0], h) = if mj_isC h a0 7 = true then mj_bd (mj_C 110 [.ref a0, .int a1] h) (fun r => mj_R 109 (21, [l0, l1, l2], r.1.toList ++ [], r.2)) else none := mj_R_cv rfl rfl
theorem mq_109_21 {l0 l1 l2 : Value} {x : Int32} {st : List Value} {h : mj_H} : mj_R 109 (21, [l0, l1, l2], .int x :: st, h) = if x = nI 0 then mj_R 109 (28, [l0, l1, l2], st, h) else mj_R 109 (24, [l0, l1, l2], st, h) := mj_R_ieq rfl
theorem mq_109_24 {l0 l1 l2 : Value} {st : List Value} {h : mj_H} : mj_R 109 (24, [l0, l1, l2], st, h) = mj_R 109 (25, [l0, l1, l2], .int (nI 1) :: st, h) := mj_R_next rfl rfl
theorem mq_109_25 {l0 l1 l2 : Value} {st : List Value} {h : mj_H} : mj_R 109 (25, [l0, l1, l2], st, h) = mj_R 109 (29, [l0, l1, l2], st, h) := mj_R_next rfl rfl
theorem mq_109_28 {l0 l1 l2 : Value} {st : List Value} {h : mj_H} : mj_R 109 (28, [l0, l1, l2], st, h) = mj_R 109 (29, [l0, l1, l2], .int (nI 0) :: st, h) := mj_R_next rfl rfl
theorem mq_109_29 {l0 l1 l2 : Value} {x : Int32} {st : List Value} {h : mj_H} : mj_R 109 (29, [l0, l1, l2], .int x :: st, h) = mj_R 109 (30, [l0, .int x, l2], st, h) := mj_R_next rfl rfl
theorem mq_109_30 {l0 l1 : Value} {x : Int32} {st : List Value} {h : mj_H} : mj_R 109 (30, [l0, l1, .int x], st, h) = mj_R 109 (33, [l0, l1, .int (x + (nI 1))], st, h) := mj_R_next rfl rfl
theorem mq_109_33 {l0 l1 l2 : Value} {st : List Value} {h : mj_H} : mj_R 109 (33, [l0, l1, l2], st, h) = mj_R 109 (4, [l0, l1, l2], st, h) := mj_R_next rfl rfl
theorem mq_109_36 {l0 l2 : Value} {x : Int32} {st : List Value} {h : mj_H} : mj_R 109 (36, [l0, .int x, l2], st, h) = mj_R 109 (37, [l0, .int x, l2], .int x :: st, h) := mj_R_next rfl rfl
theorem mq_109_37 {l0 l1 l2 : Value} {x : Int32} {h : mj_H} : mj_R 109 (37, [l0, l1, l2], [.int x], h) = if (x == 0 || x == 1) = true then some (some (.int x), h) else none := mj_R_rz rfl rfl
theorem mc_110 {a0 : Nat} {a1 : Int32} {h : mj_H} : mj_C 110 [.ref a0, .int a1] h = mj_R 110 (0, [.ref a0, .int a1], [], h) := rfl
theorem mq_110_0 {l0 l1 : Value} {st : List Value} {h : mj_H} : mj_R 110 (0, [l0, l1], st, h) = mj_R 110 (1, [l0, l1], .int (nI 1) :: st, h) := mj_R_next rfl rfl
theorem mq_110_1 {l1 : Value} {x : Nat} {st : List Value} {h : mj_H} : mj_R 110 (1, [.ref x, l1], st, h) = mj_R 110 (2, [.ref x, l1], .ref x :: st, h) := mj_R_next rfl rfl
theorem mq_110_2 {l0 l1 : Value} {x : Nat} {st : List Value} {h : mj_H} : mj_R 110 (2, [l0, l1], .ref x :: st, h) = mj_bd (mj_gf h x 7 9) (fun v => mj_R 110 (5, [l0, l1], v :: st, h)) := mj_R_gf rfl
theorem mq_110_5 {l0 l1 : Value} {x y : Int32} {st : List Value} {h : mj_H} : mj_R 110 (5, [l0, l1], .int y :: .int x :: st, h) = mj_R 110 (6, [l0, l1], .int (x <<< (y &&& 31)) :: st, h) := mj_R_next rfl rfl
theorem mq_110_6 {l0 l1 : Value} {st : List Value} {h : mj_H} : mj_R 110 (6, [l0, l1], st, h) = mj_R 110 (7, [l0, l1], .int (nI 1) :: st, h) := mj_R_next rfl rfl
theorem mq_110_7 {l0 l1 : Value} {x y : Int32} {st : List Value} {h : mj_H} : mj_R 110 (7, [l0, l1], .int y :: .int x :: st, h) = mj_R 110 (8, [l0, l1], .int (x - y) :: st, h) := mj_R_next rfl rfl
theorem mq_110_8 {l0 l1 : Value} {st : List Value} {h : mj_H} : mj_R 110 (8, [l0, l1], st, h) = mj_R 110 (9, [l0, l1], .int (nI 1) :: st, h) := mj_R_next rfl rfl
theorem mq_110_9 {l0 : Value} {x : Int32} {st : List Value} {h : mj_H} : mj_R 110 (9, [l0, .int x], st, h) = mj_R 110 (10, [l0, .int x], .int x :: st, h) := mj_R_next rfl rfl
theorem mq_110_10 {l0 l1 : Value} {x y : Int32} {st : List Value} {h : mj_H} : mj_R 110 (10, [l0, l1], .int y :: .int x :: st, h) = mj_R 110 (11, [l0, l1], .int (x <<< (y &&& 31)) :: st, h) := mj_R_next rfl rfl
theorem mq_110_11 {l0 l1 : Value} {st : List Value} {h : mj_H} : mj_R 110 (11, [l0, l1], st, h) = mj_R 110 (12, [l0, l1], .int (-1) :: st, h) := mj_R_next rfl rfl
theorem mq_110_12 {l0 l1 : Value} {x y : Int32} {st : List Value} {h : mj_H} : mj_R 110 (12, [l0, l1], .int y :: .int x :: st, h) = mj_R 110 (13, [l0, l1], .int (x ^^^ y) :: st, h) := mj_R_next rfl rfl
theorem mq_110_13 {l0 l1 : Value} {x y : Int32} {st : List Value} {h : mj_H} : mj_R 110 (13, [l0, l1], .int y :: .int x :: st, h) = mj_R 110 (14, [l0, l1], .int (x &&& y) :: st, h) := mj_R_next rfl rfl
theorem mq_110_14 {l1 : Value} {x : Nat} {st : List Value} {h : mj_H} : mj_R 110 (14, [.ref x, l1], st, h) = mj_R 110 (15, [.ref x, l1], .ref x :: st, h) := mj_R_next rfl rfl
theorem mq_110_15 {l0 l1 : Value} {x : Nat} {st : List Value} {h : mj_H} : mj_R 110 (15, [l0, l1], .ref x :: st, h) = mj_bd (mj_gf h x 7 13) (fun v => mj_R 110 (18, [l0, l1], v :: st, h)) := mj_R_gf rfl
theorem mq_110_18 {l0 : Value} {x : Int32} {st : List Value} {h : mj_H} : mj_R 110 (18, [l0, .int x], st, h) = mj_R 110 (19, [l0, .int x], .int x :: st, h) := mj_R_next rfl rfl
theorem mq_110_19 {l0 l1 : Value} {x : Nat} {j : Int32} {st : List Value} {h : mj_H} : mj_R 110 (19, [l0, l1], .int j :: .ref x :: st, h) = mj_bd (mj_gi h x j) (fun v => mj_R 110 (20, [l0, l1], .int v :: st, h)) := mj_R_gi rfl
theorem mq_110_20 {l0 l1 : Value} {st : List Value} {h : mj_H} : mj_R 110 (20, [l0, l1], st, h) = mj_R 110 (21, [l0, l1], .int (-1) :: st, h) := mj_R_next rfl rfl
theorem mq_110_21 {l0 l1 : Value} {x y : Int32} {st : List Value} {h : mj_H} : mj_R 110 (21, [l0, l1], .int y :: .int x :: st, h) = mj_R 110 (22, [l0, l1], .int (x ^^^ y) :: st, h) := mj_R_next rfl rfl
theorem mq_110_22 {l0 l1 : Value} {x y : Int32} {st : List Value} {h : mj_H} : mj_R 110 (22, [l0, l1], .int y :: .int x :: st, h) = mj_R 110 (23, [l0, l1], .int (x &&& y) :: st, h) := mj_R_next rfl rfl
theorem mq_110_23 {l0 l1 : Value} {x : Int32} {h : mj_H} : mj_R 110 (23, [l0, l1], [.int x], h) = some (some (.int x), h) := mj_R_ret rfl rfl
theorem mc_111 {a0 : Nat} {h : mj_H} : mj_C 111 [.ref a0] h = mj_R 111 (0, [.ref a0, .null, .null], [], h) := rfl
theorem mq_111_0 {l0 l1 l2 : Value} {st : List Value} {h : mj_H} : mj_R 111 (0, [l0, l1, l2], st, h) = mj_R 111 (1, [l0, l1, l2], .int (nI 0) :: st, h) := mj_R_next rfl rfl
theorem mq_111_1 {l0 l1 l2 : Value} {x : Int32} {st : List Value} {h : mj_H} : mj_R 111 (1, [l0, l1, l2], .int x :: st, h) = mj_R 111 (2, [l0, .int x, l2], st, h) := mj_R_next rfl rfl
theorem mq_111_2 {l0 l2 : Value} {x : Int32} {st : List Value} {h : mj_H} : mj_R 111 (2, [l0, .int x, l2], st, h) = mj_R 111 (3, [l0, .int x, l2], .int x :: st, h) := mj_R_next rfl rfl
theorem mq_111_3 {l0 l1 l2 : Value} {st : List Value} {h : mj_H} : mj_R 111 (3, [l0, l1, l2], st, h) = mj_R 111 (4, [l0, l1, l2], .int (nI 4) :: st, h) := mj_R_next rfl rfl
theorem mq_111_4 {l0 l1 l2 : Value} {x y : Int32} {st : List Value} {h : mj_H} : mj_R 111 (4, [l0, l1, l2], .int y :: .int x :: st, h) = if y ≤ x then mj_R 111 (61, [l0, l1, l2], st, h) else mj_R 111 (7, [l0, l1, l2], st, h) := mj_R_jge rfl
theorem mq_111_7 {l0 l2 : Value} {x : Int32} {st : List Value} {h : mj_H} : mj_R 111 (7, [l0, .int x, l2], st, h) = mj_R 111 (8, [l0, .int x, l2], .int x :: st, h) := mj_R_next rfl rfl
theorem mq_111_8 {l0 l1 l2 : Value} {x : Int32} {st : List Value} {h : mj_H} : mj_R 111 (8, [l0, l1, l2], .int x :: st, h) = if x = nI 0 then mj_R 111 (16, [l0, l1, l2], st, h) else mj_R 111 (11, [l0, l1, l2], st, h) := mj_R_ieq rfl
theorem mq_111_11 {l0 l2 : Value} {x : Int32} {st : List Value} {h : mj_H} : mj_R 111 (11, [l0, .int x, l2], st, h) = mj_R 111 (12, [l0, .int x, l2], .int x :: st, h) := mj_R_next rfl rfl
theorem mq_111_12 {l0 l1 l2 : Value} {st : List Value} {h : mj_H} : mj_R 111 (12, [l0, l1, l2], st, h) = mj_R 111 (13, [l0, l1, l2], .int (nI 3) :: st, h) := mj_R_next rfl rfl
theorem mq_111_13 {l0 l1 l2 : Value} {x y : Int32} {st : List Value} {h : mj_H} : mj_R 111 (13, [l0, l1, l2], .int y :: .int x :: st, h) = if x = y then mj_R 111 (16, [l0, l1, l2], st, h) else mj_R 111 (25, [l0, l1, l2], st, h) := mj_R_jne rfl
theorem mq_111_16 {l1 l2 : Value} {x : Nat} {st : List Value} {h : mj_H} : mj_R 111 (16, [.ref x, l1, l2], st, h) = mj_R 111 (17, [.ref x, l1, l2], .ref x :: st, h) := mj_R_next rfl rfl
theorem mq_111_17 {l0 l1 l2 : Value} {st : List Value} {h : mj_H} : mj_R 111 (17, [l0, l1, l2], st, h) = mj_R 111 (18, [l0, l1, l2], .int (nI 0) :: st, h) := mj_R_next rfl rfl
theorem mq_111_18 {l0 l1 l2 : Value} {st : List Value} {h : mj_H} : mj_R 111 (18, [l0, l1, l2], st, h) = mj_R 111 (19, [l0, l1, l2], .int (nI 3) :: st, h) := mj_R_next rfl rfl
theorem mq_111_19 {l0 l1 l2 : Value} {a0 : Nat} {a1 : Int32} {a2 : Int32} {h : mj_H} : mj_R 111 (19, [l0, l1, l2], [.int a2, .int a1, .ref a0], h) = if mj_isC h a0 7 = true then mj_bd (mj_C 107 [.ref a0, .int a1, .int a2] h) (fun r => mj_R 111 (22, [l0, l1, l2], r.1.toList ++ [], r.2)) else none := mj_R_cv rfl rfl
theorem mq_111_22 {l0 l1 l2 : Value} {st : List Value} {h : mj_H} : mj_R 111 (22, [l0, l1, l2], st, h) = mj_R 111 (32, [l0, l1, l2], st, h) := mj_R_next rfl rfl
theorem mq_111_25 {l1 l2 : Value} {x : Nat} {st : List Value} {h : mj_H} : mj_R 111 (25, [.ref x, l1, l2], st, h) = mj_R 111 (26, [.ref x, l1, l2], .ref x :: st, h) := mj_R_next rfl rfl
theorem mq_111_26 {l0 l1 l2 : Value} {st : List Value} {h : mj_H} : mj_R 111 (26, [l0, l1, l2], st, h) = mj_R 111 (27, [l0, l1, l2], .int (nI 1) :: st, h) := mj_R_next rfl rfl
theorem mq_111_27 {l0 l1 l2 : Value} {st : List Value} {h : mj_H} : mj_R 111 (27, [l0, l1, l2], st, h) = mj_R 111 (29, [l0, l1, l2], .int (nI 9) :: st, h) := mj_R_next rfl rfl
theorem mq_111_29 {l0 l1 l2 : Value} {a0 : Nat} {a1 : Int32} {a2 : Int32} {h : mj_H} : mj_R 111 (29, [l0, l1, l2], [.int a2, .int a1, .ref a0], h) = if mj_isC h a0 7 = true then mj_bd (mj_C 107 [.ref a0, .int a1, .int a2] h) (fun r => mj_R 111 (32, [l0, l1, l2], r.1.toList ++ [], r.2)) else none := mj_R_cv rfl rfl
theorem mq_111_32 {l0 l1 l2 : Value} {x : Int32} {st : List Value} {h : mj_H} : mj_R 111 (32, [l0, l1, l2], .int x :: st, h) = mj_R 111 (33, [l0, l1, .int x], st, h) := mj_R_next rfl rfl
theorem mq_111_33 {l0 l1 : Value} {x : Int32} {st : List Value} {h : mj_H} : mj_R 111 (33, [l0, l1, .int x], st, h) = mj_R 111 (34, [l0, l1, .int x], .int x :: st, h) := mj_R_next rfl rfl
theorem mq_111_34 {l0 l1 l2 : Value} {st : List Value} {h : mj_H} : mj_R 111 (34, [l0, l1, l2], st, h) = mj_R 111 (36, [l0, l1, l2], .int (-9) :: st, h) := mj_R_next rfl rfl
theorem mq_111_36 {l0 l1 l2 : Value} {x y : Int32} {st : List Value} {h : mj_H} : mj_R 111 (36, [l0, l1, l2], .int y :: .int x :: st, h) = if x = y then mj_R 111 (39, [l0, l1, l2], st, h) else mj_R 111 (41, [l0, l1, l2], st, h) := mj_R_jne rfl
theorem mq_111_39 {l0 l1 l2 : Value} {st : List Value} {h : mj_H} : mj_R 111 (39, [l0, l1, l2], st, h) = mj_R 111 (40, [l0, l1, l2], .int (nI 0) :: st, h) := mj_R_next rfl rfl
theorem mq_111_40 {l0 l1 l2 : Value} {x : Int32} {h : mj_H} : mj_R 111 (40, [l0, l1, l2], [.int x], h) = if (x == 0 || x == 1) = true then some (some (.int x), h) else none := mj_R_rz rfl rfl
theorem mq_111_41 {l1 l2 : Value} {x : Nat} {st : List Value} {h : mj_H} : mj_R 111 (41, [.ref x, l1, l2], st, h) = mj_R 111 (42, [.ref x, l1, l2], .ref x :: st, h) := mj_R_next rfl rfl
theorem mq_111_42 {l0 l1 l2 : Value} {x : Nat} {st : List Value} {h : mj_H} : mj_R 111 (42, [l0, l1, l2], .ref x :: st, h) = mj_bd (mj_gf h x 7 12) (fun v => mj_R 111 (45, [l0, l1, l2], v :: st, h)) := mj_R_gf rfl
theorem mq_111_45 {l0 l1 l2 : Value} {st : List Value} {h : mj_H} : mj_R 111 (45, [l0, l1, l2], st, h) = mj_R 111 (46, [l0, l1, l2], .int (nI 4) :: st, h) := mj_R_next rfl rfl
theorem mq_111_46 {l1 l2 : Value} {x : Nat} {st : List Value} {h : mj_H} : mj_R 111 (46, [.ref x, l1, l2], st, h) = mj_R 111 (47, [.ref x, l1, l2], .ref x :: st, h) := mj_R_next rfl rfl
theorem mq_111_47 {l0 l1 l2 : Value} {x : Nat} {st : List Value} {h : mj_H} : mj_R 111 (47, [l0, l1, l2], .ref x :: st, h) = mj_bd (mj_gf h x 7 9) (fun v => mj_R 111 (50, [l0, l1, l2], v :: st, h)) := mj_R_gf rfl
theorem mq_111_50 {l0 l1 l2 : Value} {x y : Int32} {st : List Value} {h : mj_H} : mj_R 111 (50, [l0, l1, l2], .int y :: .int x :: st, h) = mj_R 111 (51, [l0, l1, l2], .int (x * y) :: st, h) := mj_R_next rfl rfl
theorem mq_111_51 {l0 l2 : Value} {x : Int32} {st : List Value} {h : mj_H} : mj_R 111 (51, [l0, .int x, l2], st, h) = mj_R 111 (52, [l0, .int x, l2], .int x :: st, h) := mj_R_next rfl rfl
theorem mq_111_52 {l0 l1 l2 : Value} {x y : Int32} {st : List Value} {h : mj_H} : mj_R 111 (52, [l0, l1, l2], .int y :: .int x :: st, h) = mj_R 111 (53, [l0, l1, l2], .int (x + y) :: st, h) := mj_R_next rfl rfl
theorem mq_111_53 {l0 l1 : Value} {x : Int32} {st : List Value} {h : mj_H} : mj_R 111 (53, [l0, l1, .int x], st, h) = mj_R 111 (54, [l0, l1, .int x], .int x :: st, h) := mj_R_next rfl rfl
theorem mq_111_54 {l0 l1 l2 : Value} {x : Nat} {j v : Int32} {st : List Value} {h : mj_H} : mj_R 111 (54, [l0, l1, l2], .int v :: .int j :: .ref x :: st, h) = mj_bd (mj_pi h x j v) (fun h' => mj_R 111 (55, [l0, l1, l2], st, h')) := mj_R_pi rfl
theorem mq_111_55 {l0 l2 : Value} {x : Int32} {st : List Value} {h : mj_H} : mj_R 111 (55, [l0, .int x, l2], st, h) = mj_R 111 (58, [l0, .int (x + (nI 1)), l2], st, h) := mj_R_next rfl rfl
theorem mq_111_58 {l0 l1 l2 : Value} {st : List Value} {h : mj_H} : mj_R 111 (58, [l0, l1, l2], st, h) = mj_R 111 (2, [l0, l1, l2], st, h) := mj_R_next rfl rfl
theorem mq_111_61 {l1 l2 : Value} {x : Nat} {st : List Value} {h : mj_H} : mj_R 111 (61, [.ref x, l1, l2], st, h) = mj_R 111 (62, [.ref x, l1, l2], .ref x :: st, h) := mj_R_next rfl rfl
theorem mq_111_62 {l0 l1 l2 : Value} {x : Nat} {st : List Value} {h : mj_H} : mj_R 111 (62, [l0, l1, l2], .ref x :: st, h) = mj_bd (mj_gf h x 7 13) (fun v => mj_R 111 (65, [l0, l1, l2], v :: st, h)) := mj_R_gf rfl
theorem mq_111_65 {l1 l2 : Value} {x : Nat} {st : List Value} {h : mj_H} : mj_R 111 (65, [.ref x, l1, l2], st, h) = mj_R 111 (66, [.ref x, l1, l2], .ref x :: st, h) := mj_R_next rfl rfl
theorem mq_111_66 {l0 l1 l2 : Value} {x : Nat} {st : List Value} {h : mj_H} : mj_R 111 (66, [l0, l1, l2], .ref x :: st, h) = mj_bd (mj_gf h x 7 9) (fun v => mj_R 111 (69, [l0, l1, l2], v :: st, h)) := mj_R_gf rfl
theorem mq_111_69 {l0 l1 l2 : Value} {st : List Value} {h : mj_H} : mj_R 111 (69, [l0, l1, l2], st, h) = mj_R 111 (70, [l0, l1, l2], .int (nI 0) :: st, h) := mj_R_next rfl rfl
theorem mq_111_70 {l0 l1 l2 : Value} {x : Nat} {j v : Int32} {st : List Value} {h : mj_H} : mj_R 111 (70, [l0, l1, l2], .int v :: .int j :: .ref x :: st, h) = mj_bd (mj_pi h x j v) (fun h' => mj_R 111 (71, [l0, l1, l2], st, h')) := mj_R_pi rfl
theorem mq_111_71 {l1 l2 : Value} {x : Nat} {st : List Value} {h : mj_H} : mj_R 111 (71, [.ref x, l1, l2], st, h) = mj_R 111 (72, [.ref x, l1, l2], .ref x :: st, h) := mj_R_next rfl rfl
theorem mq_111_72 {l0 l1 l2 : Value} {x : Nat} {st : List Value} {h : mj_H} : mj_R 111 (72, [l0, l1, l2], .ref x :: st, h) = mj_R 111 (73, [l0, l1, l2], .ref x :: .ref x :: st, h) := mj_R_next rfl rfl
theorem mq_111_73 {l0 l1 l2 : Value} {x : Nat} {st : List Value} {h : mj_H} : mj_R 111 (73, [l0, l1, l2], .ref x :: st, h) = mj_bd (mj_gf h x 7 9) (fun v => mj_R 111 (76, [l0, l1, l2], v :: st, h)) := mj_R_gf rfl
theorem mq_111_76 {l0 l1 l2 : Value} {st : List Value} {h : mj_H} : mj_R 111 (76, [l0, l1, l2], st, h) = mj_R 111 (77, [l0, l1, l2], .int (nI 1) :: st, h) := mj_R_next rfl rfl
theorem mq_111_77 {l0 l1 l2 : Value} {x y : Int32} {st : List Value} {h : mj_H} : mj_R 111 (77, [l0, l1, l2], .int y :: .int x :: st, h) = mj_R 111 (78, [l0, l1, l2], .int (x + y) :: st, h) := mj_R_next rfl rfl
theorem mq_111_78 {l0 l1 l2 : Value} {x : Nat} {v : Value} {st : List Value} {h : mj_H} : mj_R 111 (78, [l0, l1, l2], v :: .ref x :: st, h) = mj_bd (mj_pf h x 7 9 v) (fun h' => mj_R 111 (81, [l0, l1, l2], st, h')) := mj_R_pf rfl
theorem mq_111_81 {l0 l1 l2 : Value} {st : List Value} {h : mj_H} : mj_R 111 (81, [l0, l1, l2], st, h) = mj_R 111 (82, [l0, l1, l2], .int (nI 1) :: st, h) := mj_R_next rfl rfl
theorem mq_111_82 {l0 l1 l2 : Value} {x : Int32} {h : mj_H} : mj_R 111 (82, [l0, l1, l2], [.int x], h) = if (x == 0 || x == 1) = true then some (some (.int x), h) else none := mj_R_rz rfl rfl
theorem mc_112 {a0 : Nat} {h : mj_H} : mj_C 112 [.ref a0] h = mj_R 112 (0, [.ref a0, .null, .null], [], h) := rfl
theorem mq_112_0 {l1 l2 : Value} {x : Nat} {st : List Value} {h : mj_H} : mj_R 112 (0, [.ref x, l1, l2], st, h) = mj_R 112 (1, [.ref x, l1, l2], .ref x :: st, h) := mj_R_next rfl rfl
theorem mq_112_1 {l0 l1 l2 : Value} {x : Nat} {st : List Value} {h : mj_H} : mj_R 112 (1, [l0, l1, l2], .ref x :: st, h) = mj_bd (mj_gf h x 7 3) (fun v => mj_R 112 (4, [l0, l1, l2], v :: st, h)) := mj_R_gf rfl
theorem mq_112_4 {l1 l2 : Value} {x : Nat} {st : List Value} {h : mj_H} : mj_R 112 (4, [.ref x, l1, l2], st, h) = mj_R 112 (5, [.ref x, l1, l2], .ref x :: st, h) := mj_R_next rfl rfl
theorem mq_112_5 {l0 l1 l2 : Value} {x : Nat} {st : List Value} {h : mj_H} : mj_R 112 (5, [l0, l1, l2], .ref x :: st, h) = mj_bd (mj_gf h x 7 2) (fun v => mj_R 112 (8, [l0, l1, l2], v :: st, h)) := mj_R_gf rfl
theorem mq_112_8 {l0 l1 l2 : Value} {x y : Int32} {st : List Value} {h : mj_H} : mj_R 112 (8, [l0, l1, l2], .int y :: .int x :: st, h) = if y ≤ x then mj_R 112 (26, [l0, l1, l2], st, h) else mj_R 112 (11, [l0, l1, l2], st, h) := mj_R_jge rfl
theorem mq_112_11 {l1 l2 : Value} {x : Nat} {st : List Value} {h : mj_H} : mj_R 112 (11, [.ref x, l1, l2], st, h) = mj_R 112 (12, [.ref x, l1, l2], .ref x :: st, h) := mj_R_next rfl rfl
theorem mq_112_12 {l0 l1 l2 : Value} {x : Nat} {st : List Value} {h : mj_H} : mj_R 112 (12, [l0, l1, l2], .ref x :: st, h) = mj_bd (mj_gf h x 7 1) (fun v => mj_R 112 (15, [l0, l1, l2], v :: st, h)) := mj_R_gf rfl
theorem mq_112_15 {l1 l2 : Value} {x : Nat} {st : List Value} {h : mj_H} : mj_R 112 (15, [.ref x, l1, l2], st, h) = mj_R 112 (16, [.ref x, l1, l2], .ref x :: st, h) := mj_R_next rfl rfl
theorem mq_112_16 {l0 l1 l2 : Value} {x : Nat} {st : List Value} {h : mj_H} : mj_R 112 (16, [l0, l1, l2], .ref x :: st, h) = mj_bd (mj_gf h x 7 3) (fun v => mj_R 112 (19, [l0, l1, l2], v :: st, h)) := mj_R_gf rfl
theorem mq_112_19 {l0 l1 l2 : Value} {x : Nat} {j : Int32} {st : List Value} {h : mj_H} : mj_R 112 (19, [l0, l1, l2], .int j :: .ref x :: st, h) = mj_bd (mj_gi h x j) (fun v => mj_R 112 (20, [l0, l1, l2], .int v :: st, h)) := mj_R_gi rfl
theorem mq_112_20 {l0 l1 l2 : Value} {st : List Value} {h : mj_H} : mj_R 112 (20, [l0, l1, l2], st, h) = mj_R 112 (22, [l0, l1, l2], .int (nI 48) :: st, h) := mj_R_next rfl rfl
theorem mq_112_22 {l0 l1 l2 : Value} {x y : Int32} {st : List Value} {h : mj_H} : mj_R 112 (22, [l0, l1, l2], .int y :: .int x :: st, h) = mj_R 112 (23, [l0, l1, l2], .int (x - y) :: st, h) := mj_R_next rfl rfl
theorem mq_112_23 {l0 l1 l2 : Value} {st : List Value} {h : mj_H} : mj_R 112 (23, [l0, l1, l2], st, h) = mj_R 112 (28, [l0, l1, l2], st, h) := mj_R_next rfl rfl
theorem mq_112_26 {l0 l1 l2 : Value} {st : List Value} {h : mj_H} : mj_R 112 (26, [l0, l1, l2], st, h) = mj_R 112 (28, [l0, l1, l2], .int (-9) :: st, h) := mj_R_next rfl rfl
theorem mq_112_28 {l0 l1 l2 : Value} {x : Int32} {st : List Value} {h : mj_H} : mj_R 112 (28, [l0, l1, l2], .int x :: st, h) = mj_R 112 (29, [l0, .int x, l2], st, h) := mj_R_next rfl rfl
theorem mq_112_29 {l0 l2 : Value} {x : Int32} {st : List Value} {h : mj_H} : mj_R 112 (29, [l0, .int x, l2], st, h) = mj_R 112 (30, [l0, .int x, l2], .int x :: st, h) := mj_R_next rfl rfl
theorem mq_112_30 {l0 l1 l2 : Value} {x : Int32} {st : List Value} {h : mj_H} : mj_R 112 (30, [l0, l1, l2], .int x :: st, h) = mj_R 112 (31, [l0, l1, l2], .long x.toInt64 :: st, h) := mj_R_next rfl rfl
theorem mq_112_31 {l0 l1 l2 : Value} {st : List Value} {h : mj_H} : mj_R 112 (31, [l0, l1, l2], st, h) = mj_R 112 (32, [l0, l1, l2], .long 0 :: st, h) := mj_R_next rfl rfl
theorem mq_112_32 {l1 l2 : Value} {x : Nat} {st : List Value} {h : mj_H} : mj_R 112 (32, [.ref x, l1, l2], st, h) = mj_R 112 (33, [.ref x, l1, l2], .ref x :: st, h) := mj_R_next rfl rfl
theorem mq_112_33 {l0 l1 l2 : Value} {x : Nat} {st : List Value} {h : mj_H} : mj_R 112 (33, [l0, l1, l2], .ref x :: st, h) = mj_bd (mj_gf h x 7 9) (fun v => mj_R 112 (36, [l0, l1, l2], v :: st, h)) := mj_R_gf rfl
theorem mq_112_36 {l0 l1 l2 : Value} {st : List Value} {h : mj_H} : mj_R 112 (36, [l0, l1, l2], st, h) = mj_R 112 (37, [l0, l1, l2], .int (nI 1) :: st, h) := mj_R_next rfl rfl
theorem mq_112_37 {l0 l1 l2 : Value} {x y : Int32} {st : List Value} {h : mj_H} : mj_R 112 (37, [l0, l1, l2], .int y :: .int x :: st, h) = mj_R 112 (38, [l0, l1, l2], .int (x - y) :: st, h) := mj_R_next rfl rfl
theorem mq_112_38 {l0 l1 l2 : Value} {x : Int32} {st : List Value} {h : mj_H} : mj_R 112 (38, [l0, l1, l2], .int x :: st, h) = mj_R 112 (39, [l0, l1, l2], .long x.toInt64 :: st, h) := mj_R_next rfl rfl
theorem mq_112_39 {l0 l1 l2 : Value} {a0 : Int64} {a1 : Int64} {a2 : Int64} {h : mj_H} : mj_R 112 (39, [l0, l1, l2], [.long a2, .long a1, .long a0], h) = mj_bd (mj_C 103 [.long a0, .long a1, .long a2] h) (fun r => mj_R 112 (42, [l0, l1, l2], r.1.toList ++ [], r.2)) := mj_R_cs rfl rfl
theorem mq_112_42 {l0 l1 l2 : Value} {x : Int32} {st : List Value} {h : mj_H} : mj_R 112 (42, [l0, l1, l2], .int x :: st, h) = if x = nI 0 then mj_R 112 (53, [l0, l1, l2], st, h) else mj_R 112 (45, [l0, l1, l2], st, h) := mj_R_ieq rfl
theorem mq_112_45 {l1 l2 : Value} {x : Nat} {st : List Value} {h : mj_H} : mj_R 112 (45, [.ref x, l1, l2], st, h) = mj_R 112 (46, [.ref x, l1, l2], .ref x :: st, h) := mj_R_next rfl rfl
theorem mq_112_46 {l0 l2 : Value} {x : Int32} {st : List Value} {h : mj_H} : mj_R 112 (46, [l0, .int x, l2], st, h) = mj_R 112 (47, [l0, .int x, l2], .int x :: st, h) := mj_R_next rfl rfl
theorem mq_112_47 {l0 l1 l2 : Value} {a0 : Nat} {a1 : Int32} {h : mj_H} : mj_R 112 (47, [l0, l1, l2], [.int a1, .ref a0], h) = if mj_isC h a0 7 = true then mj_bd (mj_C 110 [.ref a0, .int a1] h) (fun r => mj_R 112 (50, [l0, l1, l2], r.1.toList ++ [], r.2)) else none := mj_R_cv rfl rfl
theorem mq_112_50 {l0 l1 l2 : Value} {x : Int32} {st : List Value} {h : mj_H} : mj_R 112 (50, [l0, l1, l2], .int x :: st, h) = if x = nI 0 then mj_R 112 (53, [l0, l1, l2], st, h) else mj_R 112 (55, [l0, l1, l2], st, h) := mj_R_ine rfl
theorem mq_112_53 {l0 l1 l2 : Value} {st : List Value} {h : mj_H} : mj_R 112 (53, [l0, l1, l2], st, h) = mj_R 112 (54, [l0, l1, l2], .int (nI 0) :: st, h) := mj_R_next rfl rfl
theorem mq_112_54 {l0 l1 l2 : Value} {x : Int32} {h : mj_H} : mj_R 112 (54, [l0, l1, l2], [.int x], h) = if (x == 0 || x == 1) = true then some (some (.int x), h) else none := mj_R_rz rfl rfl
theorem mq_112_55 {l1 l2 : Value} {x : Nat} {st : List Value} {h : mj_H} : mj_R 112 (55, [.ref x, l1, l2], st, h) = mj_R 112 (56, [.ref x, l1, l2], .ref x :: st, h) := mj_R_next rfl rfl
theorem mq_112_56 {l0 l1 l2 : Value} {x : Nat} {st : List Value} {h : mj_H} : mj_R 112 (56, [l0, l1, l2], .ref x :: st, h) = mj_R 112 (57, [l0, l1, l2], .ref x :: .ref x :: st, h) := mj_R_next rfl rfl
theorem mq_112_57 {l0 l1 l2 : Value} {x : Nat} {st : List Value} {h : mj_H} : mj_R 112 (57, [l0, l1, l2], .ref x :: st, h) = mj_bd (mj_gf h x 7 3) (fun v => mj_R 112 (60, [l0, l1, l2], v :: st, h)) := mj_R_gf rfl
theorem mq_112_60 {l0 l1 l2 : Value} {st : List Value} {h : mj_H} : mj_R 112 (60, [l0, l1, l2], st, h) = mj_R 112 (61, [l0, l1, l2], .int (nI 1) :: st, h) := mj_R_next rfl rfl
theorem mq_112_61 {l0 l1 l2 : Value} {x y : Int32} {st : List Value} {h : mj_H} : mj_R 112 (61, [l0, l1, l2], .int y :: .int x :: st, h) = mj_R 112 (62, [l0, l1, l2], .int (x + y) :: st, h) := mj_R_next rfl rfl
theorem mq_112_62 {l0 l1 l2 : Value} {x : Nat} {v : Value} {st : List Value} {h : mj_H} : mj_R 112 (62, [l0, l1, l2], v :: .ref x :: st, h) = mj_bd (mj_pf h x 7 3 v) (fun h' => mj_R 112 (65, [l0, l1, l2], st, h')) := mj_R_pf rfl
theorem mq_112_65 {l1 l2 : Value} {x : Nat} {st : List Value} {h : mj_H} : mj_R 112 (65, [.ref x, l1, l2], st, h) = mj_R 112 (66, [.ref x, l1, l2], .ref x :: st, h) := mj_R_next rfl rfl
theorem mq_112_66 {l0 l1 l2 : Value} {x : Nat} {st : List Value} {h : mj_H} : mj_R 112 (66, [l0, l1, l2], .ref x :: st, h) = mj_bd (mj_gf h x 7 3) (fun v => mj_R 112 (69, [l0, l1, l2], v :: st, h)) := mj_R_gf rfl
theorem mq_112_69 {l1 l2 : Value} {x : Nat} {st : List Value} {h : mj_H} : mj_R 112 (69, [.ref x, l1, l2], st, h) = mj_R 112 (70, [.ref x, l1, l2], .ref x :: st, h) := mj_R_next rfl rfl
theorem mq_112_70 {l0 l1 l2 : Value} {x : Nat} {st : List Value} {h : mj_H} : mj_R 112 (70, [l0, l1, l2], .ref x :: st, h) = mj_bd (mj_gf h x 7 2) (fun v => mj_R 112 (73, [l0, l1, l2], v :: st, h)) := mj_R_gf rfl
theorem mq_112_73 {l0 l1 l2 : Value} {x y : Int32} {st : List Value} {h : mj_H} : mj_R 112 (73, [l0, l1, l2], .int y :: .int x :: st, h) = if y ≤ x then mj_R 112 (91, [l0, l1, l2], st, h) else mj_R 112 (76, [l0, l1, l2], st, h) := mj_R_jge rfl
theorem mq_112_76 {l1 l2 : Value} {x : Nat} {st : List Value} {h : mj_H} : mj_R 112 (76, [.ref x, l1, l2], st, h) = mj_R 112 (77, [.ref x, l1, l2], .ref x :: st, h) := mj_R_next rfl rfl
theorem mq_112_77 {l0 l1 l2 : Value} {x : Nat} {st : List Value} {h : mj_H} : mj_R 112 (77, [l0, l1, l2], .ref x :: st, h) = mj_bd (mj_gf h x 7 1) (fun v => mj_R 112 (80, [l0, l1, l2], v :: st, h)) := mj_R_gf rfl
theorem mq_112_80 {l1 l2 : Value} {x : Nat} {st : List Value} {h : mj_H} : mj_R 112 (80, [.ref x, l1, l2], st, h) = mj_R 112 (81, [.ref x, l1, l2], .ref x :: st, h) := mj_R_next rfl rfl
theorem mq_112_81 {l0 l1 l2 : Value} {x : Nat} {st : List Value} {h : mj_H} : mj_R 112 (81, [l0, l1, l2], .ref x :: st, h) = mj_bd (mj_gf h x 7 3) (fun v => mj_R 112 (84, [l0, l1, l2], v :: st, h)) := mj_R_gf rfl
theorem mq_112_84 {l0 l1 l2 : Value} {x : Nat} {j : Int32} {st : List Value} {h : mj_H} : mj_R 112 (84, [l0, l1, l2], .int j :: .ref x :: st, h) = mj_bd (mj_gi h x j) (fun v => mj_R 112 (85, [l0, l1, l2], .int v :: st, h)) := mj_R_gi rfl
theorem mq_112_85 {l0 l1 l2 : Value} {st : List Value} {h : mj_H} : mj_R 112 (85, [l0, l1, l2], st, h) = mj_R 112 (87, [l0, l1, l2], .int (nI 48) :: st, h) := mj_R_next rfl rfl
theorem mq_112_87 {l0 l1 l2 : Value} {x y : Int32} {st : List Value} {h : mj_H} : mj_R 112 (87, [l0, l1, l2], .int y :: .int x :: st, h) = mj_R 112 (88, [l0, l1, l2], .int (x - y) :: st, h) := mj_R_next rfl rfl
theorem mq_112_88 {l0 l1 l2 : Value} {st : List Value} {h : mj_H} : mj_R 112 (88, [l0, l1, l2], st, h) = mj_R 112 (93, [l0, l1, l2], st, h) := mj_R_next rfl rfl
theorem mq_112_91 {l0 l1 l2 : Value} {st : List Value} {h : mj_H} : mj_R 112 (91, [l0, l1, l2], st, h) = mj_R 112 (93, [l0, l1, l2], .int (-9) :: st, h) := mj_R_next rfl rfl
theorem mq_112_93 {l0 l1 l2 : Value} {x : Int32} {st : List Value} {h : mj_H} : mj_R 112 (93, [l0, l1, l2], .int x :: st, h) = mj_R 112 (94, [l0, l1, .int x], st, h) := mj_R_next rfl rfl
theorem mq_112_94 {l0 l1 : Value} {x : Int32} {st : List Value} {h : mj_H} : mj_R 112 (94, [l0, l1, .int x], st, h) = mj_R 112 (95, [l0, l1, .int x], .int x :: st, h) := mj_R_next rfl rfl
theorem mq_112_95 {l0 l1 l2 : Value} {x : Int32} {st : List Value} {h : mj_H} : mj_R 112 (95, [l0, l1, l2], .int x :: st, h) = mj_R 112 (96, [l0, l1, l2], .long x.toInt64 :: st, h) := mj_R_next rfl rfl
theorem mq_112_96 {l0 l1 l2 : Value} {st : List Value} {h : mj_H} : mj_R 112 (96, [l0, l1, l2], st, h) = mj_R 112 (97, [l0, l1, l2], .long 0 :: st, h) := mj_R_next rfl rfl
theorem mq_112_97 {l1 l2 : Value} {x : Nat} {st : List Value} {h : mj_H} : mj_R 112 (97, [.ref x, l1, l2], st, h) = mj_R 112 (98, [.ref x, l1, l2], .ref x :: st, h) := mj_R_next rfl rfl
theorem mq_112_98 {l0 l1 l2 : Value} {x : Nat} {st : List Value} {h : mj_H} : mj_R 112 (98, [l0, l1, l2], .ref x :: st, h) = mj_bd (mj_gf h x 7 9) (fun v => mj_R 112 (101, [l0, l1, l2], v :: st, h)) := mj_R_gf rfl
theorem mq_112_101 {l0 l1 l2 : Value} {st : List Value} {h : mj_H} : mj_R 112 (101, [l0, l1, l2], st, h) = mj_R 112 (102, [l0, l1, l2], .int (nI 1) :: st, h) := mj_R_next rfl rfl
theorem mq_112_102 {l0 l1 l2 : Value} {x y : Int32} {st : List Value} {h : mj_H} : mj_R 112 (102, [l0, l1, l2], .int y :: .int x :: st, h) = mj_R 112 (103, [l0, l1, l2], .int (x - y) :: st, h) := mj_R_next rfl rfl
theorem mq_112_103 {l0 l1 l2 : Value} {x : Int32} {st : List Value} {h : mj_H} : mj_R 112 (103, [l0, l1, l2], .int x :: st, h) = mj_R 112 (104, [l0, l1, l2], .long x.toInt64 :: st, h) := mj_R_next rfl rfl
theorem mq_112_104 {l0 l1 l2 : Value} {a0 : Int64} {a1 : Int64} {a2 : Int64} {h : mj_H} : mj_R 112 (104, [l0, l1, l2], [.long a2, .long a1, .long a0], h) = mj_bd (mj_C 103 [.long a0, .long a1, .long a2] h) (fun r => mj_R 112 (107, [l0, l1, l2], r.1.toList ++ [], r.2)) := mj_R_cs rfl rfl
theorem mq_112_107 {l0 l1 l2 : Value} {x : Int32} {st : List Value} {h : mj_H} : mj_R 112 (107, [l0, l1, l2], .int x :: st, h) = if x = nI 0 then mj_R 112 (122, [l0, l1, l2], st, h) else mj_R 112 (110, [l0, l1, l2], st, h) := mj_R_ieq rfl
theorem mq_112_110 {l1 l2 : Value} {x : Nat} {st : List Value} {h : mj_H} : mj_R 112 (110, [.ref x, l1, l2], st, h) = mj_R 112 (111, [.ref x, l1, l2], .ref x :: st, h) := mj_R_next rfl rfl
theorem mq_112_111 {l0 l2 : Value} {x : Int32} {st : List Value} {h : mj_H} : mj_R 112 (111, [l0, .int x, l2], st, h) = mj_R 112 (112, [l0, .int x, l2], .int x :: st, h) := mj_R_next rfl rfl
theorem mq_112_112 {l0 l1 l2 : Value} {a0 : Nat} {a1 : Int32} {h : mj_H} : mj_R 112 (112, [l0, l1, l2], [.int a1, .ref a0], h) = if mj_isC h a0 7 = true then mj_bd (mj_C 110 [.ref a0, .int a1] h) (fun r => mj_R 112 (115, [l0, l1, l2], r.1.toList ++ [], r.2)) else none := mj_R_cv rfl rfl
theorem mq_112_115 {l0 l1 : Value} {x : Int32} {st : List Value} {h : mj_H} : mj_R 112 (115, [l0, l1, .int x], st, h) = mj_R 112 (116, [l0, l1, .int x], .int x :: st, h) := mj_R_next rfl rfl
theorem mq_112_116 {l0 l1 l2 : Value} {a0 : Int32} {a1 : Int32} {h : mj_H} : mj_R 112 (116, [l0, l1, l2], [.int a1, .int a0], h) = mj_bd (mj_C 113 [.int a0, .int a1] h) (fun r => mj_R 112 (119, [l0, l1, l2], r.1.toList ++ [], r.2)) := mj_R_cs rfl rfl
theorem mq_112_119 {l0 l1 l2 : Value} {x : Int32} {st : List Value} {h : mj_H} : mj_R 112 (119, [l0, l1, l2], .int x :: st, h) = if x = nI 0 then mj_R 112 (122, [l0, l1, l2], st, h) else mj_R 112 (124, [l0, l1, l2], st, h) := mj_R_ine rfl
theorem mq_112_122 {l0 l1 l2 : Value} {st : List Value} {h : mj_H} : mj_R 112 (122, [l0, l1, l2], st, h) = mj_R 112 (123, [l0, l1, l2], .int (nI 0) :: st, h) := mj_R_next rfl rfl
theorem mq_112_123 {l0 l1 l2 : Value} {x : Int32} {h : mj_H} : mj_R 112 (123, [l0, l1, l2], [.int x], h) = if (x == 0 || x == 1) = true then some (some (.int x), h) else none := mj_R_rz rfl rfl
theorem mq_112_124 {l1 l2 : Value} {x : Nat} {st : List Value} {h : mj_H} : mj_R 112 (124, [.ref x, l1, l2], st, h) = mj_R 112 (125, [.ref x, l1, l2], .ref x :: st, h) := mj_R_next rfl rfl
theorem mq_112_125 {l0 l1 l2 : Value} {x : Nat} {st : List Value} {h : mj_H} : mj_R 112 (125, [l0, l1, l2], .ref x :: st, h) = mj_R 112 (126, [l0, l1, l2], .ref x :: .ref x :: st, h) := mj_R_next rfl rfl
theorem mq_112_126 {l0 l1 l2 : Value} {x : Nat} {st : List Value} {h : mj_H} : mj_R 112 (126, [l0, l1, l2], .ref x :: st, h) = mj_bd (mj_gf h x 7 3) (fun v => mj_R 112 (129, [l0, l1, l2], v :: st, h)) := mj_R_gf rfl
theorem mq_112_129 {l0 l1 l2 : Value} {st : List Value} {h : mj_H} : mj_R 112 (129, [l0, l1, l2], st, h) = mj_R 112 (130, [l0, l1, l2], .int (nI 1) :: st, h) := mj_R_next rfl rfl
theorem mq_112_130 {l0 l1 l2 : Value} {x y : Int32} {st : List Value} {h : mj_H} : mj_R 112 (130, [l0, l1, l2], .int y :: .int x :: st, h) = mj_R 112 (131, [l0, l1, l2], .int (x + y) :: st, h) := mj_R_next rfl rfl
theorem mq_112_131 {l0 l1 l2 : Value} {x : Nat} {v : Value} {st : List Value} {h : mj_H} : mj_R 112 (131, [l0, l1, l2], v :: .ref x :: st, h) = mj_bd (mj_pf h x 7 3 v) (fun h' => mj_R 112 (134, [l0, l1, l2], st, h')) := mj_R_pf rfl
theorem mq_112_134 {l1 l2 : Value} {x : Nat} {st : List Value} {h : mj_H} : mj_R 112 (134, [.ref x, l1, l2], st, h) = mj_R 112 (135, [.ref x, l1, l2], .ref x :: st, h) := mj_R_next rfl rfl
theorem mq_112_135 {l0 l1 l2 : Value} {x : Nat} {st : List Value} {h : mj_H} : mj_R 112 (135, [l0, l1, l2], .ref x :: st, h) = mj_bd (mj_gf h x 7 13) (fun v => mj_R 112 (138, [l0, l1, l2], v :: st, h)) := mj_R_gf rfl
theorem mq_112_138 {l0 l2 : Value} {x : Int32} {st : List Value} {h : mj_H} : mj_R 112 (138, [l0, .int x, l2], st, h) = mj_R 112 (139, [l0, .int x, l2], .int x :: st, h) := mj_R_next rfl rfl
theorem mq_112_139 {l0 l1 l2 : Value} {x : Int32} {y : Nat} {st : List Value} {h : mj_H} : mj_R 112 (139, [l0, l1, l2], .int x :: .ref y :: st, h) = mj_R 112 (140, [l0, l1, l2], .int x :: .ref y :: .int x :: .ref y :: st, h) := mj_R_next rfl rfl
theorem mq_112_140 {l0 l1 l2 : Value} {x : Nat} {j : Int32} {st : List Value} {h : mj_H} : mj_R 112 (140, [l0, l1, l2], .int j :: .ref x :: st, h) = mj_bd (mj_gi h x j) (fun v => mj_R 112 (141, [l0, l1, l2], .int v :: st, h)) := mj_R_gi rfl
theorem mq_112_141 {l0 l1 l2 : Value} {st : List Value} {h : mj_H} : mj_R 112 (141, [l0, l1, l2], st, h) = mj_R 112 (142, [l0, l1, l2], .int (nI 1) :: st, h) := mj_R_next rfl rfl
theorem mq_112_142 {l0 l1 : Value} {x : Int32} {st : List Value} {h : mj_H} : mj_R 112 (142, [l0, l1, .int x], st, h) = mj_R 112 (143, [l0, l1, .int x], .int x :: st, h) := mj_R_next rfl rfl
theorem mq_112_143 {l0 l1 l2 : Value} {x y : Int32} {st : List Value} {h : mj_H} : mj_R 112 (143, [l0, l1, l2], .int y :: .int x :: st, h) = mj_R 112 (144, [l0, l1, l2], .int (x <<< (y &&& 31)) :: st, h) := mj_R_next rfl rfl
theorem mq_112_144 {l0 l1 l2 : Value} {x y : Int32} {st : List Value} {h : mj_H} : mj_R 112 (144, [l0, l1, l2], .int y :: .int x :: st, h) = mj_R 112 (145, [l0, l1, l2], .int (x ||| y) :: st, h) := mj_R_next rfl rfl
theorem mq_112_145 {l0 l1 l2 : Value} {x : Nat} {j v : Int32} {st : List Value} {h : mj_H} : mj_R 112 (145, [l0, l1, l2], .int v :: .int j :: .ref x :: st, h) = mj_bd (mj_pi h x j v) (fun h' => mj_R 112 (146, [l0, l1, l2], st, h')) := mj_R_pi rfl
theorem mq_112_146 {l1 l2 : Value} {x : Nat} {st : List Value} {h : mj_H} : mj_R 112 (146, [.ref x, l1, l2], st, h) = mj_R 112 (147, [.ref x, l1, l2], .ref x :: st, h) := mj_R_next rfl rfl
theorem mq_112_147 {l0 l1 l2 : Value} {x : Nat} {st : List Value} {h : mj_H} : mj_R 112 (147, [l0, l1, l2], .ref x :: st, h) = mj_bd (mj_gf h x 7 13) (fun v => mj_R 112 (150, [l0, l1, l2], v :: st, h)) := mj_R_gf rfl
theorem mq_112_150 {l0 l1 : Value} {x : Int32} {st : List Value} {h : mj_H} : mj_R 112 (150, [l0, l1, .int x], st, h) = mj_R 112 (151, [l0, l1, .int x], .int x :: st, h) := mj_R_next rfl rfl
theorem mq_112_151 {l0 l1 l2 : Value} {x : Int32} {y : Nat} {st : List Value} {h : mj_H} : mj_R 112 (151, [l0, l1, l2], .int x :: .ref y :: st, h) = mj_R 112 (152, [l0, l1, l2], .int x :: .ref y :: .int x :: .ref y :: st, h) := mj_R_next rfl rfl
theorem mq_112_152 {l0 l1 l2 : Value} {x : Nat} {j : Int32} {st : List Value} {h : mj_H} : mj_R 112 (152, [l0, l1, l2], .int j :: .ref x :: st, h) = mj_bd (mj_gi h x j) (fun v => mj_R 112 (153, [l0, l1, l2], .int v :: st, h)) := mj_R_gi rfl
theorem mq_112_153 {l0 l1 l2 : Value} {st : List Value} {h : mj_H} : mj_R 112 (153, [l0, l1, l2], st, h) = mj_R 112 (154, [l0, l1, l2], .int (nI 1) :: st, h) := mj_R_next rfl rfl
theorem mq_112_154 {l0 l2 : Value} {x : Int32} {st : List Value} {h : mj_H} : mj_R 112 (154, [l0, .int x, l2], st, h) = mj_R 112 (155, [l0, .int x, l2], .int x :: st, h) := mj_R_next rfl rfl
theorem mq_112_155 {l0 l1 l2 : Value} {x y : Int32} {st : List Value} {h : mj_H} : mj_R 112 (155, [l0, l1, l2], .int y :: .int x :: st, h) = mj_R 112 (156, [l0, l1, l2], .int (x <<< (y &&& 31)) :: st, h) := mj_R_next rfl rfl
theorem mq_112_156 {l0 l1 l2 : Value} {x y : Int32} {st : List Value} {h : mj_H} : mj_R 112 (156, [l0, l1, l2], .int y :: .int x :: st, h) = mj_R 112 (157, [l0, l1, l2], .int (x ||| y) :: st, h) := mj_R_next rfl rfl
theorem mq_112_157 {l0 l1 l2 : Value} {x : Nat} {j v : Int32} {st : List Value} {h : mj_H} : mj_R 112 (157, [l0, l1, l2], .int v :: .int j :: .ref x :: st, h) = mj_bd (mj_pi h x j v) (fun h' => mj_R 112 (158, [l0, l1, l2], st, h')) := mj_R_pi rfl
theorem mq_112_158 {l0 l1 l2 : Value} {st : List Value} {h : mj_H} : mj_R 112 (158, [l0, l1, l2], st, h) = mj_R 112 (159, [l0, l1, l2], .int (nI 1) :: st, h) := mj_R_next rfl rfl
theorem mq_112_159 {l0 l1 l2 : Value} {x : Int32} {h : mj_H} : mj_R 112 (159, [l0, l1, l2], [.int x], h) = if (x == 0 || x == 1) = true then some (some (.int x), h) else none := mj_R_rz rfl rfl
theorem mc_113 {a0 : Int32} {a1 : Int32} {h : mj_H} : mj_C 113 [.int a0, .int a1] h = mj_R 113 (0, [.int a0, .int a1], [], h) := rfl
theorem mq_113_0 {l1 : Value} {x : Int32} {st : List Value} {h : mj_H} : mj_R 113 (0, [.int x, l1], st, h) = mj_R 113 (1, [.int x, l1], .int x :: st, h) := mj_R_next rfl rfl
theorem mq_113_1 {l0 : Value} {x : Int32} {st : List Value} {h : mj_H} : mj_R 113 (1, [l0, .int x], st, h) = mj_R 113 (2, [l0, .int x], .int x :: st, h) := mj_R_next rfl rfl
theorem mq_113_2 {l0 l1 : Value} {x y : Int32} {st : List Value} {h : mj_H} : mj_R 113 (2, [l0, l1], .int y :: .int x :: st, h) = mj_R 113 (3, [l0, l1], .int (x >>> (y &&& 31)) :: st, h) := mj_R_next rfl rfl
theorem mq_113_3 {l0 l1 : Value} {st : List Value} {h : mj_H} : mj_R 113 (3, [l0, l1], st, h) = mj_R 113 (4, [l0, l1], .int (nI 1) :: st, h) := mj_R_next rfl rfl
theorem mq_113_4 {l0 l1 : Value} {x y : Int32} {st : List Value} {h : mj_H} : mj_R 113 (4, [l0, l1], .int y :: .int x :: st, h) = mj_R 113 (5, [l0, l1], .int (x &&& y) :: st, h) := mj_R_next rfl rfl
theorem mq_113_5 {l0 l1 : Value} {st : List Value} {h : mj_H} : mj_R 113 (5, [l0, l1], st, h) = mj_R 113 (6, [l0, l1], .int (nI 1) :: st, h) := mj_R_next rfl rfl
theorem mq_113_6 {l0 l1 : Value} {x y : Int32} {st : List Value} {h : mj_H} : mj_R 113 (6, [l0, l1], .int y :: .int x :: st, h) = if x = y then mj_R 113 (9, [l0, l1], st, h) else mj_R 113 (13, [l0, l1], st, h) := mj_R_jne rfl
theorem mq_113_9 {l0 l1 : Value} {st : List Value} {h : mj_H} : mj_R 113 (9, [l0, l1], st, h) = mj_R 113 (10, [l0, l1], .int (nI 1) :: st, h) := mj_R_next rfl rfl
theorem mq_113_10 {l0 l1 : Value} {st : List Value} {h : mj_H} : mj_R 113 (10, [l0, l1], st, h) = mj_R 113 (14, [l0, l1], st, h) := mj_R_next rfl rfl
theorem mq_113_13 {l0 l1 : Value} {st : List Value} {h : mj_H} : mj_R 113 (13, [l0, l1], st, h) = mj_R 113 (14, [l0, l1], .int (nI 0) :: st, h) := mj_R_next rfl rfl
theorem mq_113_14 {l0 l1 : Value} {x : Int32} {h : mj_H} : mj_R 113 (14, [l0, l1], [.int x], h) = if (x == 0 || x == 1) = true then some (some (.int x), h) else none := mj_R_rz rfl rfl
theorem mc_114 {a0 : Nat} {h : mj_H} : mj_C 114 [.ref a0] h = mj_R 114 (0, [.ref a0, .null, .null, .null], [], h) := rfl
theorem mq_114_0 {l1 l2 l3 : Value} {x : Nat} {st : List Value} {h : mj_H} : mj_R 114 (0, [.ref x, l1, l2, l3], st, h) = mj_R 114 (1, [.ref x, l1, l2, l3], .ref x :: st, h) := mj_R_next rfl rfl
theorem mq_114_1 {l0 l1 l2 l3 : Value} {st : List Value} {h : mj_H} : mj_R 114 (1, [l0, l1, l2, l3], st, h) = mj_R 114 (2, [l0, l1, l2, l3], .int (nI 0) :: st, h) := mj_R_next rfl rfl
theorem mq_114_2 {l0 l1 l2 l3 : Value} {st : List Value} {h : mj_H} : mj_R 114 (2, [l0, l1, l2, l3], st, h) = mj_R 114 (3, [l0, l1, l2, l3], .int (nI 3) :: st, h) := mj_R_next rfl rfl
theorem mq_114_3 {l0 l1 l2 l3 : Value} {a0 : Nat} {a1 : Int32} {a2 : Int32} {h : mj_H} : mj_R 114 (3, [l0, l1, l2, l3], [.int a2, .int a1, .ref a0], h) = if mj_isC h a0 7 = true then mj_bd (mj_C 107 [.ref a0, .int a1, .int a2] h) (fun r => mj_R 114 (6, [l0, l1, l2, l3], r.1.toList ++ [], r.2)) else none := mj_R_cv rfl rfl
theorem mq_114_6 {l0 l1 l2 l3 : Value} {x : Int32} {st : List Value} {h : mj_H} : mj_R 114 (6, [l0, l1, l2, l3], .int x :: st, h) = mj_R 114 (7, [l0, .int x, l2, l3], st, h) := mj_R_next rfl rfl
theorem mq_114_7 {l0 l2 l3 : Value} {x : Int32} {st : List Value} {h : mj_H} : mj_R 114 (7, [l0, .int x, l2, l3], st, h) = mj_R 114 (8, [l0, .int x, l2, l3], .int x :: st, h) := mj_R_next rfl rfl
theorem mq_114_8 {l0 l1 l2 l3 : Value} {st : List Value} {h : mj_H} : mj_R 114 (8, [l0, l1, l2, l3], st, h) = mj_R 114 (10, [l0, l1, l2, l3], .int (-9) :: st, h) := mj_R_next rfl rfl
theorem mq_114_10 {l0 l1 l2 l3 : Value} {x y : Int32} {st : List Value} {h : mj_H} : mj_R 114 (10, [l0, l1, l2, l3], .int y :: .int x :: st, h) = if x = y then mj_R 114 (13, [l0, l1, l2, l3], st, h) else mj_R 114 (18, [l0, l1, l2, l3], st, h) := mj_R_jne rfl
theorem mq_114_13 {l0 l1 l2 l3 : Value} {st : List Value} {h : mj_H} : mj_R 114 (13, [l0, l1, l2, l3], st, h) = mj_R 114 (15, [l0, l1, l2, l3], .int (-9) :: st, h) := mj_R_next rfl rfl
theorem mq_114_15 {l0 l1 l2 l3 : Value} {st : List Value} {h : mj_H} : mj_R 114 (15, [l0, l1, l2, l3], st, h) = mj_R 114 (24, [l0, l1, l2, l3], st, h) := mj_R_next rfl rfl
theorem mq_114_18 {l1 l2 l3 : Value} {x : Nat} {st : List Value} {h : mj_H} : mj_R 114 (18, [.ref x, l1, l2, l3], st, h) = mj_R 114 (19, [.ref x, l1, l2, l3], .ref x :: st, h) := mj_R_next rfl rfl
theorem mq_114_19 {l0 l1 l2 l3 : Value} {st : List Value} {h : mj_H} : mj_R 114 (19, [l0, l1, l2, l3], st, h) = mj_R 114 (20, [l0, l1, l2, l3], .int (nI 0) :: st, h) := mj_R_next rfl rfl
theorem mq_114_20 {l0 l1 l2 l3 : Value} {st : List Value} {h : mj_H} : mj_R 114 (20, [l0, l1, l2, l3], st, h) = mj_R 114 (21, [l0, l1, l2, l3], .int (nI 5) :: st, h) := mj_R_next rfl rfl
theorem mq_114_21 {l0 l1 l2 l3 : Value} {a0 : Nat} {a1 : Int32} {a2 : Int32} {h : mj_H} : mj_R 114 (21, [l0, l1, l2, l3], [.int a2, .int a1, .ref a0], h) = if mj_isC h a0 7 = true then mj_bd (mj_C 107 [.ref a0, .int a1, .int a2] h) (fun r => mj_R 114 (24, [l0, l1, l2, l3], r.1.toList ++ [], r.2)) else none := mj_R_cv rfl rfl
theorem mq_114_24 {l0 l1 l2 l3 : Value} {x : Int32} {st : List Value} {h : mj_H} : mj_R 114 (24, [l0, l1, l2, l3], .int x :: st, h) = mj_R 114 (25, [l0, l1, .int x, l3], st, h) := mj_R_next rfl rfl
theorem mq_114_25 {l0 l1 l3 : Value} {x : Int32} {st : List Value} {h : mj_H} : mj_R 114 (25, [l0, l1, .int x, l3], st, h) = mj_R 114 (26, [l0, l1, .int x, l3], .int x :: st, h) := mj_R_next rfl rfl
theorem mq_114_26 {l0 l1 l2 l3 : Value} {st : List Value} {h : mj_H} : mj_R 114 (26, [l0, l1, l2, l3], st, h) = mj_R 114 (28, [l0, l1, l2, l3], .int (-9) :: st, h) := mj_R_next rfl rfl
theorem mq_114_28 {l0 l1 l2 l3 : Value} {x y : Int32} {st : List Value} {h : mj_H} : mj_R 114 (28, [l0, l1, l2, l3], .int y :: .int x :: st, h) = if x = y then mj_R 114 (31, [l0, l1, l2, l3], st, h) else mj_R 114 (36, [l0, l1, l2, l3], st, h) := mj_R_jne rfl
theorem mq_114_31 {l0 l1 l2 l3 : Value} {st : List Value} {h : mj_H} : mj_R 114 (31, [l0, l1, l2, l3], st, h) = mj_R 114 (33, [l0, l1, l2, l3], .int (-9) :: st, h) := mj_R_next rfl rfl
theorem mq_114_33 {l0 l1 l2 l3 : Value} {st : List Value} {h : mj_H} : mj_R 114 (33, [l0, l1, l2, l3], st, h) = mj_R 114 (60, [l0, l1, l2, l3], st, h) := mj_R_next rfl rfl
theorem mq_114_36 {l1 l2 l3 : Value} {x : Nat} {st : List Value} {h : mj_H} : mj_R 114 (36, [.ref x, l1, l2, l3], st, h) = mj_R 114 (37, [.ref x, l1, l2, l3], .ref x :: st, h) := mj_R_next rfl rfl
theorem mq_114_37 {l0 l1 l3 : Value} {x : Int32} {st : List Value} {h : mj_H} : mj_R 114 (37, [l0, l1, .int x, l3], st, h) = mj_R 114 (38, [l0, l1, .int x, l3], .int x :: st, h) := mj_R_next rfl rfl
theorem mq_114_38 {l0 l1 l2 l3 : Value} {x : Int32} {st : List Value} {h : mj_H} : mj_R 114 (38, [l0, l1, l2, l3], .int x :: st, h) = if x = nI 0 then mj_R 114 (41, [l0, l1, l2, l3], st, h) else mj_R 114 (45, [l0, l1, l2, l3], st, h) := mj_R_ine rfl
theorem mq_114_41 {l0 l1 l2 l3 : Value} {st : List Value} {h : mj_H} : mj_R 114 (41, [l0, l1, l2, l3], st, h) = mj_R 114 (42, [l0, l1, l2, l3], .int (nI 1) :: st, h) := mj_R_next rfl rfl
theorem mq_114_42 {l0 l1 l2 l3 : Value} {st : List Value} {h : mj_H} : mj_R 114 (42, [l0, l1, l2, l3], st, h) = mj_R 114 (46, [l0, l1, l2, l3], st, h) := mj_R_next rfl rfl
theorem mq_114_45 {l0 l1 l2 l3 : Value} {st : List Value} {h : mj_H} : mj_R 114 (45, [l0, l1, l2, l3], st, h) = mj_R 114 (46, [l0, l1, l2, l3], .int (nI 0) :: st, h) := mj_R_next rfl rfl
theorem mq_114_46 {l0 l1 l3 : Value} {x : Int32} {st : List Value} {h : mj_H} : mj_R 114 (46, [l0, l1, .int x, l3], st, h) = mj_R 114 (47, [l0, l1, .int x, l3], .int x :: st, h) := mj_R_next rfl rfl
theorem mq_114_47 {l0 l1 l2 l3 : Value} {st : List Value} {h : mj_H} : mj_R 114 (47, [l0, l1, l2, l3], st, h) = mj_R 114 (48, [l0, l1, l2, l3], .int (nI 5) :: st, h) := mj_R_next rfl rfl
theorem mq_114_48 {l0 l1 l2 l3 : Value} {x y : Int32} {st : List Value} {h : mj_H} : mj_R 114 (48, [l0, l1, l2, l3], .int y :: .int x :: st, h) = if x = y then mj_R 114 (51, [l0, l1, l2, l3], st, h) else mj_R 114 (55, [l0, l1, l2, l3], st, h) := mj_R_jne rfl
theorem mq_114_51 {l0 l1 l2 l3 : Value} {st : List Value} {h : mj_H} : mj_R 114 (51, [l0, l1, l2, l3], st, h) = mj_R 114 (52, [l0, l1, l2, l3], .int (nI 4) :: st, h) := mj_R_next rfl rfl
theorem mq_114_52 {l0 l1 l2 l3 : Value} {st : List Value} {h : mj_H} : mj_R 114 (52, [l0, l1, l2, l3], st, h) = mj_R 114 (57, [l0, l1, l2, l3], st, h) := mj_R_next rfl rfl
theorem mq_114_55 {l0 l1 l2 l3 : Value} {st : List Value} {h : mj_H} : mj_R 114 (55, [l0, l1, l2, l3], st, h) = mj_R 114 (57, [l0, l1, l2, l3], .int (nI 9) :: st, h) := mj_R_next rfl rfl
theorem mq_114_57 {l0 l1 l2 l3 : Value} {a0 : Nat} {a1 : Int32} {a2 : Int32} {h : mj_H} : mj_R 114 (57, [l0, l1, l2, l3], [.int a2, .int a1, .ref a0], h) = if mj_isC h a0 7 = true then mj_bd (mj_C 107 [.ref a0, .int a1, .int a2] h) (fun r => mj_R 114 (60, [l0, l1, l2, l3], r.1.toList ++ [], r.2)) else none := mj_R_cv rfl rfl
theorem mq_114_60 {l0 l1 l2 l3 : Value} {x : Int32} {st : List Value} {h : mj_H} : mj_R 114 (60, [l0, l1, l2, l3], .int x :: st, h) = mj_R 114 (61, [l0, l1, l2, .int x], st, h) := mj_R_next rfl rfl
theorem mq_114_61 {l0 l1 l2 : Value} {x : Int32} {st : List Value} {h : mj_H} : mj_R 114 (61, [l0, l1, l2, .int x], st, h) = mj_R 114 (62, [l0, l1, l2, .int x], .int x :: st, h) := mj_R_next rfl rfl
theorem mq_114_62 {l0 l1 l2 l3 : Value} {st : List Value} {h : mj_H} : mj_R 114 (62, [l0, l1, l2, l3], st, h) = mj_R 114 (64, [l0, l1, l2, l3], .int (-9) :: st, h) := mj_R_next rfl rfl
theorem mq_114_64 {l0 l1 l2 l3 : Value} {x y : Int32} {st : List Value} {h : mj_H} : mj_R 114 (64, [l0, l1, l2, l3], .int y :: .int x :: st, h) = if x = y then mj_R 114 (67, [l0, l1, l2, l3], st, h) else mj_R 114 (69, [l0, l1, l2, l3], st, h) := mj_R_jne rfl
theorem mq_114_67 {l0 l1 l2 l3 : Value} {st : List Value} {h : mj_H} : mj_R 114 (67, [l0, l1, l2, l3], st, h) = mj_R 114 (68, [l0, l1, l2, l3], .int (nI 0) :: st, h) := mj_R_next rfl rfl
theorem mq_114_68 {l0 l1 l2 l3 : Value} {x : Int32} {h : mj_H} : mj_R 114 (68, [l0, l1, l2, l3], [.int x], h) = if (x == 0 || x == 1) = true then some (some (.int x), h) else none := mj_R_rz rfl rfl
theorem mq_114_69 {l1 l2 l3 : Value} {x : Nat} {st : List Value} {h : mj_H} : mj_R 114 (69, [.ref x, l1, l2, l3], st, h) = mj_R 114 (70, [.ref x, l1, l2, l3], .ref x :: st, h) := mj_R_next rfl rfl
theorem mq_114_70 {l0 l1 l2 l3 : Value} {x : Nat} {st : List Value} {h : mj_H} : mj_R 114 (70, [l0, l1, l2, l3], .ref x :: st, h) = mj_bd (mj_gf h x 7 14) (fun v => mj_R 114 (73, [l0, l1, l2, l3], v :: st, h)) := mj_R_gf rfl
theorem mq_114_73 {l0 l1 l2 l3 : Value} {st : List Value} {h : mj_H} : mj_R 114 (73, [l0, l1, l2, l3], st, h) = mj_R 114 (74, [l0, l1, l2, l3], .int (nI 2) :: st, h) := mj_R_next rfl rfl
theorem mq_114_74 {l1 l2 l3 : Value} {x : Nat} {st : List Value} {h : mj_H} : mj_R 114 (74, [.ref x, l1, l2, l3], st, h) = mj_R 114 (75, [.ref x, l1, l2, l3], .ref x :: st, h) := mj_R_next rfl rfl
theorem mq_114_75 {l0 l1 l2 l3 : Value} {x : Nat} {st : List Value} {h : mj_H} : mj_R 114 (75, [l0, l1, l2, l3], .ref x :: st, h) = mj_bd (mj_gf h x 7 10) (fun v => mj_R 114 (78, [l0, l1, l2, l3], v :: st, h)) := mj_R_gf rfl
theorem mq_114_78 {l0 l1 l2 l3 : Value} {x y : Int32} {st : List Value} {h : mj_H} : mj_R 114 (78, [l0, l1, l2, l3], .int y :: .int x :: st, h) = mj_R 114 (79, [l0, l1, l2, l3], .int (x * y) :: st, h) := mj_R_next rfl rfl
theorem mq_114_79 {l0 l2 l3 : Value} {x : Int32} {st : List Value} {h : mj_H} : mj_R 114 (79, [l0, .int x, l2, l3], st, h) = mj_R 114 (80, [l0, .int x, l2, l3], .int x :: st, h) := mj_R_next rfl rfl
theorem mq_114_80 {l0 l1 l2 l3 : Value} {x : Nat} {j v : Int32} {st : List Value} {h : mj_H} : mj_R 114 (80, [l0, l1, l2, l3], .int v :: .int j :: .ref x :: st, h) = mj_bd (mj_pi h x j v) (fun h' => mj_R 114 (81, [l0, l1, l2, l3], st, h')) := mj_R_pi rfl
theorem mq_114_81 {l1 l2 l3 : Value} {x : Nat} {st : List Value} {h : mj_H} : mj_R 114 (81, [.ref x, l1, l2, l3], st, h) = mj_R 114 (82, [.ref x, l1, l2, l3], .ref x :: st, h) := mj_R_next rfl rfl
theorem mq_114_82 {l0 l1 l2 l3 : Value} {x : Nat} {st : List Value} {h : mj_H} : mj_R 114 (82, [l0, l1, l2, l3], .ref x :: st, h) = mj_bd (mj_gf h x 7 14) (fun v => mj_R 114 (85, [l0, l1, l2, l3], v :: st, h)) := mj_R_gf rfl
theorem mq_114_85 {l0 l1 l2 l3 : Value} {st : List Value} {h : mj_H} : mj_R 114 (85, [l0, l1, l2, l3], st, h) = mj_R 114 (86, [l0, l1, l2, l3], .int (nI 2) :: st, h) := mj_R_next rfl rfl
theorem mq_114_86 {l1 l2 l3 : Value} {x : Nat} {st : List Value} {h : mj_H} : mj_R 114 (86, [.ref x, l1, l2, l3], st, h) = mj_R 114 (87, [.ref x, l1, l2, l3], .ref x :: st, h) := mj_R_next rfl rfl
theorem mq_114_87 {l0 l1 l2 l3 : Value} {x : Nat} {st : List Value} {h : mj_H} : mj_R 114 (87, [l0, l1, l2, l3], .ref x :: st, h) = mj_bd (mj_gf h x 7 10) (fun v => mj_R 114 (90, [l0, l1, l2, l3], v :: st, h)) := mj_R_gf rfl
theorem mq_114_90 {l0 l1 l2 l3 : Value} {x y : Int32} {st : List Value} {h : mj_H} : mj_R 114 (90, [l0, l1, l2, l3], .int y :: .int x :: st, h) = mj_R 114 (91, [l0, l1, l2, l3], .int (x * y) :: st, h) := mj_R_next rfl rfl
theorem mq_114_91 {l0 l1 l2 l3 : Value} {st : List Value} {h : mj_H} : mj_R 114 (91, [l0, l1, l2, l3], st, h) = mj_R 114 (92, [l0, l1, l2, l3], .int (nI 1) :: st, h) := mj_R_next rfl rfl
theorem mq_114_92 {l0 l1 l2 l3 : Value} {x y : Int32} {st : List Value} {h : mj_H} : mj_R 114 (92, [l0, l1, l2, l3], .int y :: .int x :: st, h) = mj_R 114 (93, [l0, l1, l2, l3], .int (x + y) :: st, h) := mj_R_next rfl rfl
theorem mq_114_93 {l0 l1 l2 l3 : Value} {st : List Value} {h : mj_H} : mj_R 114 (93, [l0, l1, l2, l3], st, h) = mj_R 114 (95, [l0, l1, l2, l3], .int (nI 10) :: st, h) := mj_R_next rfl rfl
theorem mq_114_95 {l0 l1 l3 : Value} {x : Int32} {st : List Value} {h : mj_H} : mj_R 114 (95, [l0, l1, .int x, l3], st, h) = mj_R 114 (96, [l0, l1, .int x, l3], .int x :: st, h) := mj_R_next rfl rfl
theorem mq_114_96 {l0 l1 l2 l3 : Value} {x y : Int32} {st : List Value} {h : mj_H} : mj_R 114 (96, [l0, l1, l2, l3], .int y :: .int x :: st, h) = mj_R 114 (97, [l0, l1, l2, l3], .int (x * y) :: st, h) := mj_R_next rfl rfl
theorem mq_114_97 {l0 l1 l2 : Value} {x : Int32} {st : List Value} {h : mj_H} : mj_R 114 (97, [l0, l1, l2, .int x], st, h) = mj_R 114 (98, [l0, l1, l2, .int x], .int x :: st, h) := mj_R_next rfl rfl
theorem mq_114_98 {l0 l1 l2 l3 : Value} {x y : Int32} {st : List Value} {h : mj_H} : mj_R 114 (98, [l0, l1, l2, l3], .int y :: .int x :: st, h) = mj_R 114 (99, [l0, l1, l2, l3], .int (x + y) :: st, h) := mj_R_next rfl rfl
theorem mq_114_99 {l0 l1 l2 l3 : Value} {x : Nat} {j v : Int32} {st : List Value} {h : mj_H} : mj_R 114 (99, [l0, l1, l2, l3], .int v :: .int j :: .ref x :: st, h) = mj_bd (mj_pi h x j v) (fun h' => mj_R 114 (100, [l0, l1, l2, l3], st, h')) := mj_R_pi rfl
theorem mq_114_100 {l1 l2 l3 : Value} {x : Nat} {st : List Value} {h : mj_H} : mj_R 114 (100, [.ref x, l1, l2, l3], st, h) = mj_R 114 (101, [.ref x, l1, l2, l3], .ref x :: st, h) := mj_R_next rfl rfl
theorem mq_114_101 {l0 l1 l2 l3 : Value} {x : Nat} {st : List Value} {h : mj_H} : mj_R 114 (101, [l0, l1, l2, l3], .ref x :: st, h) = mj_R 114 (102, [l0, l1, l2, l3], .ref x :: .ref x :: st, h) := mj_R_next rfl rfl
theorem mq_114_102 {l0 l1 l2 l3 : Value} {x : Nat} {st : List Value} {h : mj_H} : mj_R 114 (102, [l0, l1, l2, l3], .ref x :: st, h) = mj_bd (mj_gf h x 7 10) (fun v => mj_R 114 (105, [l0, l1, l2, l3], v :: st, h)) := mj_R_gf rfl
theorem mq_114_105 {l0 l1 l2 l3 : Value} {st : List Value} {h : mj_H} : mj_R 114 (105, [l0, l1, l2, l3], st, h) = mj_R 114 (106, [l0, l1, l2, l3], .int (nI 1) :: st, h) := mj_R_next rfl rfl
theorem mq_114_106 {l0 l1 l2 l3 : Value} {x y : Int32} {st : List Value} {h : mj_H} : mj_R 114 (106, [l0, l1, l2, l3], .int y :: .int x :: st, h) = mj_R 114 (107, [l0, l1, l2, l3], .int (x + y) :: st, h) := mj_R_next rfl rfl
theorem mq_114_107 {l0 l1 l2 l3 : Value} {x : Nat} {v : Value} {st : List Value} {h : mj_H} : mj_R 114 (107, [l0, l1, l2, l3], v :: .ref x :: st, h) = mj_bd (mj_pf h x 7 10 v) (fun h' => mj_R 114 (110, [l0, l1, l2, l3], st, h')) := mj_R_pf rfl
theorem mq_114_110 {l0 l1 l2 l3 : Value} {st : List Value} {h : mj_H} : mj_R 114 (110, [l0, l1, l2, l3], st, h) = mj_R 114 (111, [l0, l1, l2, l3], .int (nI 1) :: st, h) := mj_R_next rfl rfl
theorem mq_114_111 {l0 l1 l2 l3 : Value} {x : Int32} {h : mj_H} : mj_R 114 (111, [l0, l1, l2, l3], [.int x], h) = if (x == 0 || x == 1) = true then some (some (.int x), h) else none := mj_R_rz rfl rfl
theorem mc_115 {a0 : Nat} {h : mj_H} : mj_C 115 [.ref a0] h = mj_R 115 (0, [.ref a0, .null], [], h) := rfl
theorem mq_115_0 {l1 : Value} {x : Nat} {st : List Value} {h : mj_H} : mj_R 115 (0, [.ref x, l1], st, h) = mj_R 115 (1, [.ref x, l1], .ref x :: st, h) := mj_R_next rfl rfl
theorem mq_115_1 {l0 l1 : Value} {st : List Value} {h : mj_H} : mj_R 115 (1, [l0, l1], st, h) = mj_R 115 (2, [l0, l1], .int (nI 0) :: st, h) := mj_R_next rfl rfl
theorem mq_115_2 {l0 l1 : Value} {x : Nat} {v : Value} {st : List Value} {h : mj_H} : mj_R 115 (2, [l0, l1], v :: .ref x :: st, h) = mj_bd (mj_pf h x 7 0 v) (fun h' => mj_R 115 (5, [l0, l1], st, h')) := mj_R_pf rfl
theorem mq_115_5 {l1 : Value} {x : Nat} {st : List Value} {h : mj_H} : mj_R 115 (5, [.ref x, l1], st, h) = mj_R 115 (6, [.ref x, l1], .ref x :: st, h) := mj_R_next rfl rfl
theorem mq_115_6 {l0 l1 : Value} {a0 : Nat} {h : mj_H} : mj_R 115 (6, [l0, l1], [.ref a0], h) = if mj_isC h a0 7 = true then mj_bd (mj_C 106 [.ref a0] h) (fun r => mj_R 115 (9, [l0, l1], r.1.toList ++ [], r.2)) else none := mj_R_cv rfl rfl
theorem mq_115_9 {l0 l1 : Value} {st : List Value} {h : mj_H} : mj_R 115 (9, [l0, l1], st, h) = mj_R 115 (11, [l0, l1], .int (-9) :: st, h) := mj_R_next rfl rfl
theorem mq_115_11 {l0 l1 : Value} {x y : Int32} {st : List Value} {h : mj_H} : mj_R 115 (11, [l0, l1], .int y :: .int x :: st, h) = if x = y then mj_R 115 (17, [l0, l1], st, h) else mj_R 115 (14, [l0, l1], st, h) := mj_R_jeq rfl
theorem mq_115_14 {l0 l1 : Value} {st : List Value} {h : mj_H} : mj_R 115 (14, [l0, l1], st, h) = mj_R 115 (16, [l0, l1], .int (-3) :: st, h) := mj_R_next rfl rfl
theorem mq_115_16 {l0 l1 : Value} {x : Int32} {h : mj_H} : mj_R 115 (16, [l0, l1], [.int x], h) = some (some (.int x), h) := mj_R_ret rfl rfl
theorem mq_115_17 {l1 : Value} {x : Nat} {st : List Value} {h : mj_H} : mj_R 115 (17, [.ref x, l1], st, h) = mj_R 115 (18, [.ref x, l1], .ref x :: st, h) := mj_R_next rfl rfl
theorem mq_115_18 {l1 : Value} {x : Nat} {st : List Value} {h : mj_H} : mj_R 115 (18, [.ref x, l1], st, h) = mj_R 115 (19, [.ref x, l1], .ref x :: st, h) := mj_R_next rfl rfl
theorem mq_115_19 {l0 l1 : Value} {x : Nat} {st : List Value} {h : mj_H} : mj_R 115 (19, [l0, l1], .ref x :: st, h) = mj_bd (mj_gf h x 7 9) (fun v => mj_R 115 (22, [l0, l1], v :: st, h)) := mj_R_gf rfl
theorem mq_115_22 {l0 l1 : Value} {x : Nat} {v : Value} {st : List Value} {h : mj_H} : mj_R 115 (22, [l0, l1], v :: .ref x :: st, h) = mj_bd (mj_pf h x 7 4 v) (fun h' => mj_R 115 (25, [l0, l1], st, h')) := mj_R_pf rfl
theorem mq_115_25 {l1 : Value} {x : Nat} {st : List Value} {h : mj_H} : mj_R 115 (25, [.ref x, l1], st, h) = mj_R 115 (26, [.ref x, l1], .ref x :: st, h) := mj_R_next rfl rfl
theorem mq_115_26 {l1 : Value} {x : Nat} {st : List Value} {h : mj_H} : mj_R 115 (26, [.ref x, l1], st, h) = mj_R 115 (27, [.ref x, l1], .ref x :: st, h) := mj_R_next rfl rfl
theorem mq_115_27 {l0 l1 : Value} {x : Nat} {st : List Value} {h : mj_H} : mj_R 115 (27, [l0, l1], .ref x :: st, h) = mj_bd (mj_gf h x 7 10) (fun v => mj_R 115 (30, [l0, l1], v :: st, h)) := mj_R_gf rfl
theorem mq_115_30 {l0 l1 : Value} {x : Nat} {v : Value} {st : List Value} {h : mj_H} : mj_R 115 (30, [l0, l1], v :: .ref x :: st, h) = mj_bd (mj_pf h x 7 5 v) (fun h' => mj_R 115 (33, [l0, l1], st, h')) := mj_R_pf rfl
theorem mq_115_33 {l0 l1 : Value} {st : List Value} {h : mj_H} : mj_R 115 (33, [l0, l1], st, h) = mj_R 115 (34, [l0, l1], .int (nI 0) :: st, h) := mj_R_next rfl rfl
theorem mq_115_34 {l0 l1 : Value} {x : Int32} {st : List Value} {h : mj_H} : mj_R 115 (34, [l0, l1], .int x :: st, h) = mj_R 115 (35, [l0, .int x], st, h) := mj_R_next rfl rfl
theorem mq_115_35 {l0 : Value} {x : Int32} {st : List Value} {h : mj_H} : mj_R 115 (35, [l0, .int x], st, h) = mj_R 115 (36, [l0, .int x], .int x :: st, h) := mj_R_next rfl rfl
theorem mq_115_36 {l0 l1 : Value} {st : List Value} {h : mj_H} : mj_R 115 (36, [l0, l1], st, h) = mj_R 115 (37, [l0, l1], .int (nI 4) :: st, h) := mj_R_next rfl rfl
theorem mq_115_37 {l1 : Value} {x : Nat} {st : List Value} {h : mj_H} : mj_R 115 (37, [.ref x, l1], st, h) = mj_R 115 (38, [.ref x, l1], .ref x :: st, h) := mj_R_next rfl rfl
theorem mq_115_38 {l0 l1 : Value} {x : Nat} {st : List Value} {h : mj_H} : mj_R 115 (38, [l0, l1], .ref x :: st, h) = mj_bd (mj_gf h x 7 4) (fun v => mj_R 115 (41, [l0, l1], v :: st, h)) := mj_R_gf rfl
theorem mq_115_41 {l0 l1 : Value} {x y : Int32} {st : List Value} {h : mj_H} : mj_R 115 (41, [l0, l1], .int y :: .int x :: st, h) = mj_R 115 (42, [l0, l1], .int (x * y) :: st, h) := mj_R_next rfl rfl
theorem mq_115_42 {l0 l1 : Value} {x y : Int32} {st : List Value} {h : mj_H} : mj_R 115 (42, [l0, l1], .int y :: .int x :: st, h) = if y ≤ x then mj_R 115 (63, [l0, l1], st, h) else mj_R 115 (45, [l0, l1], st, h) := mj_R_jge rfl
theorem mq_115_45 {l1 : Value} {x : Nat} {st : List Value} {h : mj_H} : mj_R 115 (45, [.ref x, l1], st, h) = mj_R 115 (46, [.ref x, l1], .ref x :: st, h) := mj_R_next rfl rfl
theorem mq_115_46 {l0 l1 : Value} {x : Nat} {st : List Value} {h : mj_H} : mj_R 115 (46, [l0, l1], .ref x :: st, h) = mj_bd (mj_gf h x 7 6) (fun v => mj_R 115 (49, [l0, l1], v :: st, h)) := mj_R_gf rfl
theorem mq_115_49 {l0 : Value} {x : Int32} {st : List Value} {h : mj_H} : mj_R 115 (49, [l0, .int x], st, h) = mj_R 115 (50, [l0, .int x], .int x :: st, h) := mj_R_next rfl rfl
theorem mq_115_50 {l1 : Value} {x : Nat} {st : List Value} {h : mj_H} : mj_R 115 (50, [.ref x, l1], st, h) = mj_R 115 (51, [.ref x, l1], .ref x :: st, h) := mj_R_next rfl rfl
theorem mq_115_51 {l0 l1 : Value} {x : Nat} {st : List Value} {h : mj_H} : mj_R 115 (51, [l0, l1], .ref x :: st, h) = mj_bd (mj_gf h x 7 12) (fun v => mj_R 115 (54, [l0, l1], v :: st, h)) := mj_R_gf rfl
theorem mq_115_54 {l0 : Value} {x : Int32} {st : List Value} {h : mj_H} : mj_R 115 (54, [l0, .int x], st, h) = mj_R 115 (55, [l0, .int x], .int x :: st, h) := mj_R_next rfl rfl
theorem mq_115_55 {l0 l1 : Value} {x : Nat} {j : Int32} {st : List Value} {h : mj_H} : mj_R 115 (55, [l0, l1], .int j :: .ref x :: st, h) = mj_bd (mj_gi h x j) (fun v => mj_R 115 (56, [l0, l1], .int v :: st, h)) := mj_R_gi rfl
theorem mq_115_56 {l0 l1 : Value} {x : Nat} {j v : Int32} {st : List Value} {h : mj_H} : mj_R 115 (56, [l0, l1], .int v :: .int j :: .ref x :: st, h) = mj_bd (mj_pi h x j v) (fun h' => mj_R 115 (57, [l0, l1], st, h')) := mj_R_pi rfl
theorem mq_115_57 {l0 : Value} {x : Int32} {st : List Value} {h : mj_H} : mj_R 115 (57, [l0, .int x], st, h) = mj_R 115 (60, [l0, .int (x + (nI 1))], st, h) := mj_R_next rfl rfl
theorem mq_115_60 {l0 l1 : Value} {st : List Value} {h : mj_H} : mj_R 115 (60, [l0, l1], st, h) = mj_R 115 (35, [l0, l1], st, h) := mj_R_next rfl rfl
theorem mq_115_63 {l0 l1 : Value} {st : List Value} {h : mj_H} : mj_R 115 (63, [l0, l1], st, h) = mj_R 115 (64, [l0, l1], .int (nI 0) :: st, h) := mj_R_next rfl rfl
theorem mq_115_64 {l0 l1 : Value} {x : Int32} {st : List Value} {h : mj_H} : mj_R 115 (64, [l0, l1], .int x :: st, h) = mj_R 115 (65, [l0, .int x], st, h) := mj_R_next rfl rfl
theorem mq_115_65 {l0 : Value} {x : Int32} {st : List Value} {h : mj_H} : mj_R 115 (65, [l0, .int x], st, h) = mj_R 115 (66, [l0, .int x], .int x :: st, h) := mj_R_next rfl rfl
theorem mq_115_66 {l1 : Value} {x : Nat} {st : List Value} {h : mj_H} : mj_R 115 (66, [.ref x, l1], st, h) = mj_R 115 (67, [.ref x, l1], .ref x :: st, h) := mj_R_next rfl rfl
theorem mq_115_67 {l0 l1 : Value} {x : Nat} {st : List Value} {h : mj_H} : mj_R 115 (67, [l0, l1], .ref x :: st, h) = mj_bd (mj_gf h x 7 4) (fun v => mj_R 115 (70, [l0, l1], v :: st, h)) := mj_R_gf rfl
theorem mq_115_70 {l0 l1 : Value} {x y : Int32} {st : List Value} {h : mj_H} : mj_R 115 (70, [l0, l1], .int y :: .int x :: st, h) = if y ≤ x then mj_R 115 (91, [l0, l1], st, h) else mj_R 115 (73, [l0, l1], st, h) := mj_R_jge rfl
theorem mq_115_73 {l1 : Value} {x : Nat} {st : List Value} {h : mj_H} : mj_R 115 (73, [.ref x, l1], st, h) = mj_R 115 (74, [.ref x, l1], .ref x :: st, h) := mj_R_next rfl rfl
theorem mq_115_74 {l0 l1 : Value} {x : Nat} {st : List Value} {h : mj_H} : mj_R 115 (74, [l0, l1], .ref x :: st, h) = mj_bd (mj_gf h x 7 7) (fun v => mj_R 115 (77, [l0, l1], v :: st, h)) := mj_R_gf rfl
theorem mq_115_77 {l0 : Value} {x : Int32} {st : List Value} {h : mj_H} : mj_R 115 (77, [l0, .int x], st, h) = mj_R 115 (78, [l0, .int x], .int x :: st, h) := mj_R_next rfl rfl
theorem mq_115_78 {l1 : Value} {x : Nat} {st : List Value} {h : mj_H} : mj_R 115 (78, [.ref x, l1], st, h) = mj_R 115 (79, [.ref x, l1], .ref x :: st, h) := mj_R_next rfl rfl
theorem mq_115_79 {l0 l1 : Value} {x : Nat} {st : List Value} {h : mj_H} : mj_R 115 (79, [l0, l1], .ref x :: st, h) = mj_bd (mj_gf h x 7 13) (fun v => mj_R 115 (82, [l0, l1], v :: st, h)) := mj_R_gf rfl
theorem mq_115_82 {l0 : Value} {x : Int32} {st : List Value} {h : mj_H} : mj_R 115 (82, [l0, .int x], st, h) = mj_R 115 (83, [l0, .int x], .int x :: st, h) := mj_R_next rfl rfl
theorem mq_115_83 {l0 l1 : Value} {x : Nat} {j : Int32} {st : List Value} {h : mj_H} : mj_R 115 (83, [l0, l1], .int j :: .ref x :: st, h) = mj_bd (mj_gi h x j) (fun v => mj_R 115 (84, [l0, l1], .int v :: st, h)) := mj_R_gi rfl
theorem mq_115_84 {l0 l1 : Value} {x : Nat} {j v : Int32} {st : List Value} {h : mj_H} : mj_R 115 (84, [l0, l1], .int v :: .int j :: .ref x :: st, h) = mj_bd (mj_pi h x j v) (fun h' => mj_R 115 (85, [l0, l1], st, h')) := mj_R_pi rfl
theorem mq_115_85 {l0 : Value} {x : Int32} {st : List Value} {h : mj_H} : mj_R 115 (85, [l0, .int x], st, h) = mj_R 115 (88, [l0, .int (x + (nI 1))], st, h) := mj_R_next rfl rfl
theorem mq_115_88 {l0 l1 : Value} {st : List Value} {h : mj_H} : mj_R 115 (88, [l0, l1], st, h) = mj_R 115 (65, [l0, l1], st, h) := mj_R_next rfl rfl
theorem mq_115_91 {l0 l1 : Value} {st : List Value} {h : mj_H} : mj_R 115 (91, [l0, l1], st, h) = mj_R 115 (92, [l0, l1], .int (nI 0) :: st, h) := mj_R_next rfl rfl
theorem mq_115_92 {l0 l1 : Value} {x : Int32} {st : List Value} {h : mj_H} : mj_R 115 (92, [l0, l1], .int x :: st, h) = mj_R 115 (93, [l0, .int x], st, h) := mj_R_next rfl rfl
theorem mq_115_93 {l0 : Value} {x : Int32} {st : List Value} {h : mj_H} : mj_R 115 (93, [l0, .int x], st, h) = mj_R 115 (94, [l0, .int x], .int x :: st, h) := mj_R_next rfl rfl
theorem mq_115_94 {l0 l1 : Value} {st : List Value} {h : mj_H} : mj_R 115 (94, [l0, l1], st, h) = mj_R 115 (95, [l0, l1], .int (nI 2) :: st, h) := mj_R_next rfl rfl
theorem mq_115_95 {l1 : Value} {x : Nat} {st : List Value} {h : mj_H} : mj_R 115 (95, [.ref x, l1], st, h) = mj_R 115 (96, [.ref x, l1], .ref x :: st, h) := mj_R_next rfl rfl
theorem mq_115_96 {l0 l1 : Value} {x : Nat} {st : List Value} {h : mj_H} : mj_R 115 (96, [l0, l1], .ref x :: st, h) = mj_bd (mj_gf h x 7 5) (fun v => mj_R 115 (99, [l0, l1], v :: st, h)) := mj_R_gf rfl
theorem mq_115_99 {l0 l1 : Value} {x y : Int32} {st : List Value} {h : mj_H} : mj_R 115 (99, [l0, l1], .int y :: .int x :: st, h) = mj_R 115 (100, [l0, l1], .int (x * y) :: st, h) := mj_R_next rfl rfl
theorem mq_115_100 {l0 l1 : Value} {x y : Int32} {st : List Value} {h : mj_H} : mj_R 115 (100, [l0, l1], .int y :: .int x :: st, h) = if y ≤ x then mj_R 115 (121, [l0, l1], st, h) else mj_R 115 (103, [l0, l1], st, h) := mj_R_jge rfl
theorem mq_115_103 {l1 : Value} {x : Nat} {st : List Value} {h : mj_H} : mj_R 115 (103, [.ref x, l1], st, h) = mj_R 115 (104, [.ref x, l1], .ref x :: st, h) := mj_R_next rfl rfl
theorem mq_115_104 {l0 l1 : Value} {x : Nat} {st : List Value} {h : mj_H} : mj_R 115 (104, [l0, l1], .ref x :: st, h) = mj_bd (mj_gf h x 7 8) (fun v => mj_R 115 (107, [l0, l1], v :: st, h)) := mj_R_gf rfl
theorem mq_115_107 {l0 : Value} {x : Int32} {st : List Value} {h : mj_H} : mj_R 115 (107, [l0, .int x], st, h) = mj_R 115 (108, [l0, .int x], .int x :: st, h) := mj_R_next rfl rfl
theorem mq_115_108 {l1 : Value} {x : Nat} {st : List Value} {h : mj_H} : mj_R 115 (108, [.ref x, l1], st, h) = mj_R 115 (109, [.ref x, l1], .ref x :: st, h) := mj_R_next rfl rfl
theorem mq_115_109 {l0 l1 : Value} {x : Nat} {st : List Value} {h : mj_H} : mj_R 115 (109, [l0, l1], .ref x :: st, h) = mj_bd (mj_gf h x 7 14) (fun v => mj_R 115 (112, [l0, l1], v :: st, h)) := mj_R_gf rfl
theorem mq_115_112 {l0 : Value} {x : Int32} {st : List Value} {h : mj_H} : mj_R 115 (112, [l0, .int x], st, h) = mj_R 115 (113, [l0, .int x], .int x :: st, h) := mj_R_next rfl rfl
theorem mq_115_113 {l0 l1 : Value} {x : Nat} {j : Int32} {st : List Value} {h : mj_H} : mj_R 115 (113, [l0, l1], .int j :: .ref x :: st, h) = mj_bd (mj_gi h x j) (fun v => mj_R 115 (114, [l0, l1], .int v :: st, h)) := mj_R_gi rfl
theorem mq_115_114 {l0 l1 : Value} {x : Nat} {j v : Int32} {st : List Value} {h : mj_H} : mj_R 115 (114, [l0, l1], .int v :: .int j :: .ref x :: st, h) = mj_bd (mj_pi h x j v) (fun h' => mj_R 115 (115, [l0, l1], st, h')) := mj_R_pi rfl
theorem mq_115_115 {l0 : Value} {x : Int32} {st : List Value} {h : mj_H} : mj_R 115 (115, [l0, .int x], st, h) = mj_R 115 (118, [l0, .int (x + (nI 1))], st, h) := mj_R_next rfl rfl
theorem mq_115_118 {l0 l1 : Value} {st : List Value} {h : mj_H} : mj_R 115 (118, [l0, l1], st, h) = mj_R 115 (93, [l0, l1], st, h) := mj_R_next rfl rfl
theorem mq_115_121 {l0 l1 : Value} {st : List Value} {h : mj_H} : mj_R 115 (121, [l0, l1], st, h) = mj_R 115 (122, [l0, l1], .int (nI 0) :: st, h) := mj_R_next rfl rfl
theorem mq_115_122 {l0 l1 : Value} {x : Int32} {st : List Value} {h : mj_H} : mj_R 115 (122, [l0, l1], .int x :: st, h) = mj_R 115 (123, [l0, .int x], st, h) := mj_R_next rfl rfl
theorem mq_115_123 {l0 : Value} {x : Int32} {st : List Value} {h : mj_H} : mj_R 115 (123, [l0, .int x], st, h) = mj_R 115 (124, [l0, .int x], .int x :: st, h) := mj_R_next rfl rfl
theorem mq_115_124 {l0 l1 : Value} {st : List Value} {h : mj_H} : mj_R 115 (124, [l0, l1], st, h) = mj_R 115 (126, [l0, l1], .int (nI 11) :: st, h) := mj_R_next rfl rfl
theorem mq_115_126 {l0 l1 : Value} {x y : Int32} {st : List Value} {h : mj_H} : mj_R 115 (126, [l0, l1], .int y :: .int x :: st, h) = if y ≤ x then mj_R 115 (142, [l0, l1], st, h) else mj_R 115 (129, [l0, l1], st, h) := mj_R_jge rfl
theorem mq_115_129 {l1 : Value} {x : Nat} {st : List Value} {h : mj_H} : mj_R 115 (129, [.ref x, l1], st, h) = mj_R 115 (130, [.ref x, l1], .ref x :: st, h) := mj_R_next rfl rfl
theorem mq_115_130 {l0 l1 : Value} {x : Nat} {st : List Value} {h : mj_H} : mj_R 115 (130, [l0, l1], .ref x :: st, h) = mj_bd (mj_gf h x 7 15) (fun v => mj_R 115 (133, [l0, l1], v :: st, h)) := mj_R_gf rfl
theorem mq_115_133 {l0 : Value} {x : Int32} {st : List Value} {h : mj_H} : mj_R 115 (133, [l0, .int x], st, h) = mj_R 115 (134, [l0, .int x], .int x :: st, h) := mj_R_next rfl rfl
theorem mq_115_134 {l0 l1 : Value} {st : List Value} {h : mj_H} : mj_R 115 (134, [l0, l1], st, h) = mj_R 115 (135, [l0, l1], .int (nI 0) :: st, h) := mj_R_next rfl rfl
theorem mq_115_135 {l0 l1 : Value} {x : Nat} {j v : Int32} {st : List Value} {h : mj_H} : mj_R 115 (135, [l0, l1], .int v :: .int j :: .ref x :: st, h) = mj_bd (mj_pi h x j v) (fun h' => mj_R 115 (136, [l0, l1], st, h')) := mj_R_pi rfl
theorem mq_115_136 {l0 : Value} {x : Int32} {st : List Value} {h : mj_H} : mj_R 115 (136, [l0, .int x], st, h) = mj_R 115 (139, [l0, .int (x + (nI 1))], st, h) := mj_R_next rfl rfl
theorem mq_115_139 {l0 l1 : Value} {st : List Value} {h : mj_H} : mj_R 115 (139, [l0, l1], st, h) = mj_R 115 (123, [l0, l1], st, h) := mj_R_next rfl rfl
theorem mq_115_142 {l1 : Value} {x : Nat} {st : List Value} {h : mj_H} : mj_R 115 (142, [.ref x, l1], st, h) = mj_R 115 (143, [.ref x, l1], .ref x :: st, h) := mj_R_next rfl rfl
theorem mq_115_143 {l0 l1 : Value} {x : Nat} {st : List Value} {h : mj_H} : mj_R 115 (143, [l0, l1], .ref x :: st, h) = mj_bd (mj_gf h x 7 15) (fun v => mj_R 115 (146, [l0, l1], v :: st, h)) := mj_R_gf rfl
theorem mq_115_146 {l0 l1 : Value} {st : List Value} {h : mj_H} : mj_R 115 (146, [l0, l1], st, h) = mj_R 115 (147, [l0, l1], .int (nI 0) :: st, h) := mj_R_next rfl rfl
theorem mq_115_147 {l1 : Value} {x : Nat} {st : List Value} {h : mj_H} : mj_R 115 (147, [.ref x, l1], st, h) = mj_R 115 (148, [.ref x, l1], .ref x :: st, h) := mj_R_next rfl rfl
theorem mq_115_148 {l0 l1 : Value} {x : Nat} {st : List Value} {h : mj_H} : mj_R 115 (148, [l0, l1], .ref x :: st, h) = mj_bd (mj_gf h x 7 11) (fun v => mj_R 115 (151, [l0, l1], v :: st, h)) := mj_R_gf rfl
theorem mq_115_151 {l0 l1 : Value} {x : Nat} {j v : Int32} {st : List Value} {h : mj_H} : mj_R 115 (151, [l0, l1], .int v :: .int j :: .ref x :: st, h) = mj_bd (mj_pi h x j v) (fun h' => mj_R 115 (152, [l0, l1], st, h')) := mj_R_pi rfl
theorem mq_115_152 {l1 : Value} {x : Nat} {st : List Value} {h : mj_H} : mj_R 115 (152, [.ref x, l1], st, h) = mj_R 115 (153, [.ref x, l1], .ref x :: st, h) := mj_R_next rfl rfl
theorem mq_115_153 {l0 l1 : Value} {st : List Value} {h : mj_H} : mj_R 115 (153, [l0, l1], st, h) = mj_R 115 (154, [l0, l1], .int (nI 0) :: st, h) := mj_R_next rfl rfl
theorem mq_115_154 {l0 l1 : Value} {x : Nat} {v : Value} {st : List Value} {h : mj_H} : mj_R 115 (154, [l0, l1], v :: .ref x :: st, h) = mj_bd (mj_pf h x 7 18 v) (fun h' => mj_R 115 (157, [l0, l1], st, h')) := mj_R_pf rfl
theorem mq_115_157 {l1 : Value} {x : Nat} {st : List Value} {h : mj_H} : mj_R 115 (157, [.ref x, l1], st, h) = mj_R 115 (158, [.ref x, l1], .ref x :: st, h) := mj_R_next rfl rfl
theorem mq_115_158 {l0 l1 : Value} {x : Nat} {st : List Value} {h : mj_H} : mj_R 115 (158, [l0, l1], .ref x :: st, h) = mj_bd (mj_gf h x 7 20) (fun v => mj_R 115 (161, [l0, l1], v :: st, h)) := mj_R_gf rfl
theorem mq_115_161 {l0 l1 : Value} {st : List Value} {h : mj_H} : mj_R 115 (161, [l0, l1], st, h) = mj_R 115 (162, [l0, l1], .int (nI 0) :: st, h) := mj_R_next rfl rfl
theorem mq_115_162 {l0 l1 : Value} {st : List Value} {h : mj_H} : mj_R 115 (162, [l0, l1], st, h) = mj_R 115 (163, [l0, l1], .int (nI 0) :: st, h) := mj_R_next rfl rfl
theorem mq_115_163 {l0 l1 : Value} {x : Nat} {j v : Int32} {st : List Value} {h : mj_H} : mj_R 115 (163, [l0, l1], .int v :: .int j :: .ref x :: st, h) = mj_bd (mj_pz h x j v) (fun h' => mj_R 115 (164, [l0, l1], st, h')) := mj_R_pz rfl
theorem mq_115_164 {l1 : Value} {x : Nat} {st : List Value} {h : mj_H} : mj_R 115 (164, [.ref x, l1], st, h) = mj_R 115 (165, [.ref x, l1], .ref x :: st, h) := mj_R_next rfl rfl
theorem mq_115_165 {l0 l1 : Value} {x : Nat} {st : List Value} {h : mj_H} : mj_R 115 (165, [l0, l1], .ref x :: st, h) = mj_bd (mj_gf h x 7 20) (fun v => mj_R 115 (168, [l0, l1], v :: st, h)) := mj_R_gf rfl
theorem mq_115_168 {l0 l1 : Value} {st : List Value} {h : mj_H} : mj_R 115 (168, [l0, l1], st, h) = mj_R 115 (169, [l0, l1], .int (nI 1) :: st, h) := mj_R_next rfl rfl
theorem mq_115_169 {l0 l1 : Value} {st : List Value} {h : mj_H} : mj_R 115 (169, [l0, l1], st, h) = mj_R 115 (170, [l0, l1], .int (nI 0) :: st, h) := mj_R_next rfl rfl
theorem mq_115_170 {l0 l1 : Value} {x : Nat} {j v : Int32} {st : List Value} {h : mj_H} : mj_R 115 (170, [l0, l1], .int v :: .int j :: .ref x :: st, h) = mj_bd (mj_pz h x j v) (fun h' => mj_R 115 (171, [l0, l1], st, h')) := mj_R_pz rfl
theorem mq_115_171 {l1 : Value} {x : Nat} {st : List Value} {h : mj_H} : mj_R 115 (171, [.ref x, l1], st, h) = mj_R 115 (172, [.ref x, l1], .ref x :: st, h) := mj_R_next rfl rfl
theorem mq_115_172 {l0 l1 : Value} {x : Nat} {st : List Value} {h : mj_H} : mj_R 115 (172, [l0, l1], .ref x :: st, h) = mj_bd (mj_gf h x 7 4) (fun v => mj_R 115 (175, [l0, l1], v :: st, h)) := mj_R_gf rfl
theorem mq_115_175 {l0 l1 : Value} {x : Int32} {h : mj_H} : mj_R 115 (175, [l0, l1], [.int x], h) = some (some (.int x), h) := mj_R_ret rfl rfl
theorem mc_116 {a0 : Nat} {a1 : Int32} {h : mj_H} : mj_C 116 [.ref a0, .int a1] h = mj_R 116 (0, [.ref a0, .int a1], [], h) := rfl
theorem mq_116_0 {l1 : Value} {x : Nat} {st : List Value} {h : mj_H} : mj_R 116 (0, [.ref x, l1], st, h) = mj_R 116 (1, [.ref x, l1], .ref x :: st, h) := mj_R_next rfl rfl
theorem mq_116_1 {l0 l1 : Value} {st : List Value} {h : mj_H} : mj_R 116 (1, [l0, l1], st, h) = mj_R 116 (2, [l0, l1], .int (nI 0) :: st, h) := mj_R_next rfl rfl
theorem mq_116_2 {l0 l1 : Value} {x : Nat} {v : Value} {st : List Value} {h : mj_H} : mj_R 116 (2, [l0, l1], v :: .ref x :: st, h) = mj_bd (mj_pf h x 7 0 v) (fun h' => mj_R 116 (5, [l0, l1], st, h')) := mj_R_pf rfl
theorem mq_116_5 {l0 : Value} {x : Int32} {st : List Value} {h : mj_H} : mj_R 116 (5, [l0, .int x], st, h) = mj_R 116 (6, [l0, .int x], .int x :: st, h) := mj_R_next rfl rfl
theorem mq_116_6_0 {l0 l1 : Value} {st : List Value} {h : mj_H} : mj_R 116 (6, [l0, l1], .int (nI 0) :: st, h) = mj_R 116 (68, [l0, l1], st, h) := mj_R_next rfl rfl
theorem mq_116_6_1 {l0 l1 : Value} {st : List Value} {h : mj_H} : mj_R 116 (6, [l0, l1], .int (nI 1) :: st, h) = mj_R 116 (73, [l0, l1], st, h) := mj_R_next rfl rfl
theorem mq_116_6_2 {l0 l1 : Value} {st : List Value} {h : mj_H} : mj_R 116 (6, [l0, l1], .int (nI 2) :: st, h) = mj_R 116 (80, [l0, l1], st, h) := mj_R_next rfl rfl
theorem mq_116_6_3 {l0 l1 : Value} {st : List Value} {h : mj_H} : mj_R 116 (6, [l0, l1], .int (nI 3) :: st, h) = mj_R 116 (87, [l0, l1], st, h) := mj_R_next rfl rfl
theorem mq_116_6_4 {l0 l1 : Value} {st : List Value} {h : mj_H} : mj_R 116 (6, [l0, l1], .int (nI 4) :: st, h) = mj_R 116 (98, [l0, l1], st, h) := mj_R_next rfl rfl
theorem mq_116_6_5 {l0 l1 : Value} {st : List Value} {h : mj_H} : mj_R 116 (6, [l0, l1], .int (nI 5) :: st, h) = mj_R 116 (105, [l0, l1], st, h) := mj_R_next rfl rfl
theorem mq_116_6_6 {l0 l1 : Value} {st : List Value} {h : mj_H} : mj_R 116 (6, [l0, l1], .int (nI 6) :: st, h) = mj_R 116 (130, [l0, l1], st, h) := mj_R_next rfl rfl
theorem mq_116_6_7 {l0 l1 : Value} {st : List Value} {h : mj_H} : mj_R 116 (6, [l0, l1], .int (nI 7) :: st, h) = mj_R 116 (135, [l0, l1], st, h) := mj_R_next rfl rfl
theorem mq_116_6_8 {l0 l1 : Value} {st : List Value} {h : mj_H} : mj_R 116 (6, [l0, l1], .int (nI 8) :: st, h) = mj_R 116 (142, [l0, l1], st, h) := mj_R_next rfl rfl
theorem mq_116_6_9 {l0 l1 : Value} {st : List Value} {h : mj_H} : mj_R 116 (6, [l0, l1], .int (nI 9) :: st, h) = mj_R 116 (147, [l0, l1], st, h) := mj_R_next rfl rfl
theorem mq_116_6_10 {l0 l1 : Value} {st : List Value} {h : mj_H} : mj_R 116 (6, [l0, l1], .int (nI 10) :: st, h) = mj_R 116 (152, [l0, l1], st, h) := mj_R_next rfl rfl
theorem mq_116_6_11 {l0 l1 : Value} {st : List Value} {h : mj_H} : mj_R 116 (6, [l0, l1], .int (nI 11) :: st, h) = mj_R 116 (157, [l0, l1], st, h) := mj_R_next rfl rfl
theorem mq_116_6_d {l0 l1 : Value} {st : List Value} {h : mj_H} {x : Int32} (hx : ∀ j, j < 12 → x ≠ nI j) : mj_R 116 (6, [l0, l1], .int x :: st, h) = mj_R 116 (168, [l0, l1], st, h) := mj_R_dfl (k := 12) rfl rfl rfl rfl hx
theorem mq_116_68 {l1 : Value} {x : Nat} {st : List Value} {h : mj_H} : mj_R 116 (68, [.ref x, l1], st, h) = mj_R 116 (69, [.ref x, l1], .ref x :: st, h) := mj_R_next rfl rfl
theorem mq_116_69 {l0 l1 : Value} {x : Nat} {st : List Value} {h : mj_H} : mj_R 116 (69, [l0, l1], .ref x :: st, h) = mj_bd (mj_gf h x 7 4) (fun v => mj_R 116 (72, [l0, l1], v :: st, h)) := mj_R_gf rfl
theorem mq_116_72 {l0 l1 : Value} {x : Int32} {h : mj_H} : mj_R 116 (72, [l0, l1], [.int x], h) = some (some (.int x), h) := mj_R_ret rfl rfl
theorem mq_116_73 {l1 : Value} {x : Nat} {st : List Value} {h : mj_H} : mj_R 116 (73, [.ref x, l1], st, h) = mj_R 116 (74, [.ref x, l1], .ref x :: st, h) := mj_R_next rfl rfl
theorem mq_116_74 {l0 l1 : Value} {x : Nat} {st : List Value} {h : mj_H} : mj_R 116 (74, [l0, l1], .ref x :: st, h) = mj_bd (mj_gf h x 7 15) (fun v => mj_R 116 (77, [l0, l1], v :: st, h)) := mj_R_gf rfl
theorem mq_116_77 {l0 l1 : Value} {st : List Value} {h : mj_H} : mj_R 116 (77, [l0, l1], st, h) = mj_R 116 (78, [l0, l1], .int (nI 0) :: st, h) := mj_R_next rfl rfl
theorem mq_116_78 {l0 l1 : Value} {x : Nat} {j : Int32} {st : List Value} {h : mj_H} : mj_R 116 (78, [l0, l1], .int j :: .ref x :: st, h) = mj_bd (mj_gi h x j) (fun v => mj_R 116 (79, [l0, l1], .int v :: st, h)) := mj_R_gi rfl
theorem mq_116_79 {l0 l1 : Value} {x : Int32} {h : mj_H} : mj_R 116 (79, [l0, l1], [.int x], h) = some (some (.int x), h) := mj_R_ret rfl rfl
theorem mq_116_80 {l1 : Value} {x : Nat} {st : List Value} {h : mj_H} : mj_R 116 (80, [.ref x, l1], st, h) = mj_R 116 (81, [.ref x, l1], .ref x :: st, h) := mj_R_next rfl rfl
theorem mq_116_81 {l0 l1 : Value} {x : Nat} {st : List Value} {h : mj_H} : mj_R 116 (81, [l0, l1], .ref x :: st, h) = mj_bd (mj_gf h x 7 15) (fun v => mj_R 116 (84, [l0, l1], v :: st, h)) := mj_R_gf rfl
theorem mq_116_84 {l0 l1 : Value} {st : List Value} {h : mj_H} : mj_R 116 (84, [l0, l1], st, h) = mj_R 116 (85, [l0, l1], .int (nI 1) :: st, h) := mj_R_next rfl rfl
theorem mq_116_85 {l0 l1 : Value} {x : Nat} {j : Int32} {st : List Value} {h : mj_H} : mj_R 116 (85, [l0, l1], .int j :: .ref x :: st, h) = mj_bd (mj_gi h x j) (fun v => mj_R 116 (86, [l0, l1], .int v :: st, h)) := mj_R_gi rfl
theorem mq_116_86 {l0 l1 : Value} {x : Int32} {h : mj_H} : mj_R 116 (86, [l0, l1], [.int x], h) = some (some (.int x), h) := mj_R_ret rfl rfl
theorem mq_116_87 {l1 : Value} {x : Nat} {st : List Value} {h : mj_H} : mj_R 116 (87, [.ref x, l1], st, h) = mj_R 116 (88, [.ref x, l1], .ref x :: st, h) := mj_R_next rfl rfl
theorem mq_116_88 {l1 : Value} {x : Nat} {st : List Value} {h : mj_H} : mj_R 116 (88, [.ref x, l1], st, h) = mj_R 116 (89, [.ref x, l1], .ref x :: st, h) := mj_R_next rfl rfl
theorem mq_116_89 {l0 l1 : Value} {x : Nat} {st : List Value} {h : mj_H} : mj_R 116 (89, [l0, l1], .ref x :: st, h) = mj_bd (mj_gf h x 7 15) (fun v => mj_R 116 (92, [l0, l1], v :: st, h)) := mj_R_gf rfl
theorem mq_116_92 {l0 l1 : Value} {st : List Value} {h : mj_H} : mj_R 116 (92, [l0, l1], st, h) = mj_R 116 (93, [l0, l1], .int (nI 1) :: st, h) := mj_R_next rfl rfl
theorem mq_116_93 {l0 l1 : Value} {x : Nat} {j : Int32} {st : List Value} {h : mj_H} : mj_R 116 (93, [l0, l1], .int j :: .ref x :: st, h) = mj_bd (mj_gi h x j) (fun v => mj_R 116 (94, [l0, l1], .int v :: st, h)) := mj_R_gi rfl
theorem mq_116_94 {l0 l1 : Value} {a0 : Nat} {a1 : Int32} {h : mj_H} : mj_R 116 (94, [l0, l1], [.int a1, .ref a0], h) = if mj_isC h a0 7 = true then mj_bd (mj_C 117 [.ref a0, .int a1] h) (fun r => mj_R 116 (97, [l0, l1], r.1.toList ++ [], r.2)) else none := mj_R_cv rfl rfl
theorem mq_116_97 {l0 l1 : Value} {x : Int32} {h : mj_H} : mj_R 116 (97, [l0, l1], [.int x], h) = some (some (.int x), h) := mj_R_ret rfl rfl
theorem mq_116_98 {l1 : Value} {x : Nat} {st : List Value} {h : mj_H} : mj_R 116 (98, [.ref x, l1], st, h) = mj_R 116 (99, [.ref x, l1], .ref x :: st, h) := mj_R_next rfl rfl
theorem mq_116_99 {l0 l1 : Value} {x : Nat} {st : List Value} {h : mj_H} : mj_R 116 (99, [l0, l1], .ref x :: st, h) = mj_bd (mj_gf h x 7 15) (fun v => mj_R 116 (102, [l0, l1], v :: st, h)) := mj_R_gf rfl
theorem mq_116_102 {l0 l1 : Value} {st : List Value} {h : mj_H} : mj_R 116 (102, [l0, l1], st, h) = mj_R 116 (103, [l0, l1], .int (nI 2) :: st, h) := mj_R_next rfl rfl
theorem mq_116_103 {l0 l1 : Value} {x : Nat} {j : Int32} {st : List Value} {h : mj_H} : mj_R 116 (103, [l0, l1], .int j :: .ref x :: st, h) = mj_bd (mj_gi h x j) (fun v => mj_R 116 (104, [l0, l1], .int v :: st, h)) := mj_R_gi rfl
theorem mq_116_104 {l0 l1 : Value} {x : Int32} {h : mj_H} : mj_R 116 (104, [l0, l1], [.int x], h) = some (some (.int x), h) := mj_R_ret rfl rfl
theorem mq_116_105 {l1 : Value} {x : Nat} {st : List Value} {h : mj_H} : mj_R 116 (105, [.ref x, l1], st, h) = mj_R 116 (106, [.ref x, l1], .ref x :: st, h) := mj_R_next rfl rfl
theorem mq_116_106 {l0 l1 : Value} {x : Nat} {st : List Value} {h : mj_H} : mj_R 116 (106, [l0, l1], .ref x :: st, h) = mj_bd (mj_gf h x 7 15) (fun v => mj_R 116 (109, [l0, l1], v :: st, h)) := mj_R_gf rfl
theorem mq_116_109 {l0 l1 : Value} {st : List Value} {h : mj_H} : mj_R 116 (109, [l0, l1], st, h) = mj_R 116 (110, [l0, l1], .int (nI 3) :: st, h) := mj_R_next rfl rfl
theorem mq_116_110 {l0 l1 : Value} {x : Nat} {j : Int32} {st : List Value} {h : mj_H} : mj_R 116 (110, [l0, l1], .int j :: .ref x :: st, h) = mj_bd (mj_gi h x j) (fun v => mj_R 116 (111, [l0, l1], .int v :: st, h)) := mj_R_gi rfl
theorem mq_116_111 {l1 : Value} {x : Nat} {st : List Value} {h : mj_H} : mj_R 116 (111, [.ref x, l1], st, h) = mj_R 116 (112, [.ref x, l1], .ref x :: st, h) := mj_R_next rfl rfl
theorem mq_116_112 {l0 l1 : Value} {x : Nat} {st : List Value} {h : mj_H} : mj_R 116 (112, [l0, l1], .ref x :: st, h) = mj_bd (mj_gf h x 7 4) (fun v => mj_R 116 (115, [l0, l1], v :: st, h)) := mj_R_gf rfl
theorem mq_116_115 {l0 l1 : Value} {x y : Int32} {st : List Value} {h : mj_H} : mj_R 116 (115, [l0, l1], .int y :: .int x :: st, h) = if y ≤ x then mj_R 116 (127, [l0, l1], st, h) else mj_R 116 (118, [l0, l1], st, h) := mj_R_jge rfl
theorem mq_116_118 {l1 : Value} {x : Nat} {st : List Value} {h : mj_H} : mj_R 116 (118, [.ref x, l1], st, h) = mj_R 116 (119, [.ref x, l1], .ref x :: st, h) := mj_R_next rfl rfl
theorem mq_116_119 {l0 l1 : Value} {x : Nat} {st : List Value} {h : mj_H} : mj_R 116 (119, [l0, l1], .ref x :: st, h) = mj_bd (mj_gf h x 7 15) (fun v => mj_R 116 (122, [l0, l1], v :: st, h)) := mj_R_gf rfl
theorem mq_116_122 {l0 l1 : Value} {st : List Value} {h : mj_H} : mj_R 116 (122, [l0, l1], st, h) = mj_R 116 (123, [l0, l1], .int (nI 3) :: st, h) := mj_R_next rfl rfl
theorem mq_116_123 {l0 l1 : Value} {x : Nat} {j : Int32} {st : List Value} {h : mj_H} : mj_R 116 (123, [l0, l1], .int j :: .ref x :: st, h) = mj_bd (mj_gi h x j) (fun v => mj_R 116 (124, [l0, l1], .int v :: st, h)) := mj_R_gi rfl
theorem mq_116_124 {l0 l1 : Value} {st : List Value} {h : mj_H} : mj_R 116 (124, [l0, l1], st, h) = mj_R 116 (129, [l0, l1], st, h) := mj_R_next rfl rfl
theorem mq_116_127 {l0 l1 : Value} {st : List Value} {h : mj_H} : mj_R 116 (127, [l0, l1], st, h) = mj_R 116 (129, [l0, l1], .int (-9) :: st, h) := mj_R_next rfl rfl
theorem mq_116_129 {l0 l1 : Value} {x : Int32} {h : mj_H} : mj_R 116 (129, [l0, l1], [.int x], h) = some (some (.int x), h) := mj_R_ret rfl rfl
theorem mq_116_130 {l1 : Value} {x : Nat} {st : List Value} {h : mj_H} : mj_R 116 (130, [.ref x, l1], st, h) = mj_R 116 (131, [.ref x, l1], .ref x :: st, h) := mj_R_next rfl rfl
theorem mq_116_131 {l0 l1 : Value} {x : Nat} {st : List Value} {h : mj_H} : mj_R 116 (131, [l0, l1], .ref x :: st, h) = mj_bd (mj_gf h x 7 5) (fun v => mj_R 116 (134, [l0, l1], v :: st, h)) := mj_R_gf rfl
theorem mq_116_134 {l0 l1 : Value} {x : Int32} {h : mj_H} : mj_R 116 (134, [l0, l1], [.int x], h) = some (some (.int x), h) := mj_R_ret rfl rfl
theorem mq_116_135 {l1 : Value} {x : Nat} {st : List Value} {h : mj_H} : mj_R 116 (135, [.ref x, l1], st, h) = mj_R 116 (136, [.ref x, l1], .ref x :: st, h) := mj_R_next rfl rfl
theorem mq_116_136 {l0 l1 : Value} {x : Nat} {st : List Value} {h : mj_H} : mj_R 116 (136, [l0, l1], .ref x :: st, h) = mj_bd (mj_gf h x 7 15) (fun v => mj_R 116 (139, [l0, l1], v :: st, h)) := mj_R_gf rfl
theorem mq_116_139 {l0 l1 : Value} {st : List Value} {h : mj_H} : mj_R 116 (139, [l0, l1], st, h) = mj_R 116 (140, [l0, l1], .int (nI 4) :: st, h) := mj_R_next rfl rfl
theorem mq_116_140 {l0 l1 : Value} {x : Nat} {j : Int32} {st : List Value} {h : mj_H} : mj_R 116 (140, [l0, l1], .int j :: .ref x :: st, h) = mj_bd (mj_gi h x j) (fun v => mj_R 116 (141, [l0, l1], .int v :: st, h)) := mj_R_gi rfl
theorem mq_116_141 {l0 l1 : Value} {x : Int32} {h : mj_H} : mj_R 116 (141, [l0, l1], [.int x], h) = some (some (.int x), h) := mj_R_ret rfl rfl
theorem mq_116_142 {l1 : Value} {x : Nat} {st : List Value} {h : mj_H} : mj_R 116 (142, [.ref x, l1], st, h) = mj_R 116 (143, [.ref x, l1], .ref x :: st, h) := mj_R_next rfl rfl
theorem mq_116_143 {l0 l1 : Value} {x : Nat} {st : List Value} {h : mj_H} : mj_R 116 (143, [l0, l1], .ref x :: st, h) = mj_bd (mj_gf h x 7 18) (fun v => mj_R 116 (146, [l0, l1], v :: st, h)) := mj_R_gf rfl
theorem mq_116_146 {l0 l1 : Value} {x : Int32} {h : mj_H} : mj_R 116 (146, [l0, l1], [.int x], h) = some (some (.int x), h) := mj_R_ret rfl rfl
theorem mq_116_147 {l1 : Value} {x : Nat} {st : List Value} {h : mj_H} : mj_R 116 (147, [.ref x, l1], st, h) = mj_R 116 (148, [.ref x, l1], .ref x :: st, h) := mj_R_next rfl rfl
theorem mq_116_148 {l0 l1 : Value} {x : Nat} {st : List Value} {h : mj_H} : mj_R 116 (148, [l0, l1], .ref x :: st, h) = mj_bd (mj_gf h x 7 21) (fun v => mj_R 116 (151, [l0, l1], v :: st, h)) := mj_R_gf rfl
theorem mq_116_151 {l0 l1 : Value} {x : Int32} {h : mj_H} : mj_R 116 (151, [l0, l1], [.int x], h) = some (some (.int x), h) := mj_R_ret rfl rfl
theorem mq_116_152 {l1 : Value} {x : Nat} {st : List Value} {h : mj_H} : mj_R 116 (152, [.ref x, l1], st, h) = mj_R 116 (153, [.ref x, l1], .ref x :: st, h) := mj_R_next rfl rfl
theorem mq_116_153 {l0 l1 : Value} {x : Nat} {st : List Value} {h : mj_H} : mj_R 116 (153, [l0, l1], .ref x :: st, h) = mj_bd (mj_gf h x 7 2) (fun v => mj_R 116 (156, [l0, l1], v :: st, h)) := mj_R_gf rfl
theorem mq_116_156 {l0 l1 : Value} {x : Int32} {h : mj_H} : mj_R 116 (156, [l0, l1], [.int x], h) = some (some (.int x), h) := mj_R_ret rfl rfl
theorem mq_116_157 {l1 : Value} {x : Nat} {st : List Value} {h : mj_H} : mj_R 116 (157, [.ref x, l1], st, h) = mj_R 116 (158, [.ref x, l1], .ref x :: st, h) := mj_R_next rfl rfl
theorem mq_116_158 {l1 : Value} {x : Nat} {st : List Value} {h : mj_H} : mj_R 116 (158, [.ref x, l1], st, h) = mj_R 116 (159, [.ref x, l1], .ref x :: st, h) := mj_R_next rfl rfl
theorem mq_116_159 {l0 l1 : Value} {x : Nat} {st : List Value} {h : mj_H} : mj_R 116 (159, [l0, l1], .ref x :: st, h) = mj_bd (mj_gf h x 7 15) (fun v => mj_R 116 (162, [l0, l1], v :: st, h)) := mj_R_gf rfl
theorem mq_116_162 {l0 l1 : Value} {st : List Value} {h : mj_H} : mj_R 116 (162, [l0, l1], st, h) = mj_R 116 (163, [l0, l1], .int (nI 1) :: st, h) := mj_R_next rfl rfl
theorem mq_116_163 {l0 l1 : Value} {x : Nat} {j : Int32} {st : List Value} {h : mj_H} : mj_R 116 (163, [l0, l1], .int j :: .ref x :: st, h) = mj_bd (mj_gi h x j) (fun v => mj_R 116 (164, [l0, l1], .int v :: st, h)) := mj_R_gi rfl
theorem mq_116_164 {l0 l1 : Value} {a0 : Nat} {a1 : Int32} {h : mj_H} : mj_R 116 (164, [l0, l1], [.int a1, .ref a0], h) = if mj_isC h a0 7 = true then mj_bd (mj_C 118 [.ref a0, .int a1] h) (fun r => mj_R 116 (167, [l0, l1], r.1.toList ++ [], r.2)) else none := mj_R_cv rfl rfl
theorem mq_116_167 {l0 l1 : Value} {x : Int32} {h : mj_H} : mj_R 116 (167, [l0, l1], [.int x], h) = some (some (.int x), h) := mj_R_ret rfl rfl
theorem mq_116_168 {l0 l1 : Value} {st : List Value} {h : mj_H} : mj_R 116 (168, [l0, l1], st, h) = mj_R 116 (170, [l0, l1], .int (-2) :: st, h) := mj_R_next rfl rfl
theorem mq_116_170 {l0 l1 : Value} {x : Int32} {h : mj_H} : mj_R 116 (170, [l0, l1], [.int x], h) = some (some (.int x), h) := mj_R_ret rfl rfl
theorem mc_117 {a0 : Nat} {a1 : Int32} {h : mj_H} : mj_C 117 [.ref a0, .int a1] h = mj_R 117 (0, [.ref a0, .int a1, .null, .null], [], h) := rfl
theorem mq_117_0 {l0 l1 l2 l3 : Value} {st : List Value} {h : mj_H} : mj_R 117 (0, [l0, l1, l2, l3], st, h) = mj_R 117 (1, [l0, l1, l2, l3], .int (nI 0) :: st, h) := mj_R_next rfl rfl
theorem mq_117_1 {l0 l1 l2 l3 : Value} {x : Int32} {st : List Value} {h : mj_H} : mj_R 117 (1, [l0, l1, l2, l3], .int x :: st, h) = mj_R 117 (2, [l0, l1, .int x, l3], st, h) := mj_R_next rfl rfl
theorem mq_117_2 {l0 l1 l2 l3 : Value} {st : List Value} {h : mj_H} : mj_R 117 (2, [l0, l1, l2, l3], st, h) = mj_R 117 (3, [l0, l1, l2, l3], .int (nI 0) :: st, h) := mj_R_next rfl rfl
theorem mq_117_3 {l0 l1 l2 l3 : Value} {x : Int32} {st : List Value} {h : mj_H} : mj_R 117 (3, [l0, l1, l2, l3], .int x :: st, h) = mj_R 117 (4, [l0, l1, l2, .int x], st, h) := mj_R_next rfl rfl
theorem mq_117_4 {l0 l1 l2 : Value} {x : Int32} {st : List Value} {h : mj_H} : mj_R 117 (4, [l0, l1, l2, .int x], st, h) = mj_R 117 (5, [l0, l1, l2, .int x], .int x :: st, h) := mj_R_next rfl rfl
theorem mq_117_5 {l1 l2 l3 : Value} {x : Nat} {st : List Value} {h : mj_H} : mj_R 117 (5, [.ref x, l1, l2, l3], st, h) = mj_R 117 (6, [.ref x, l1, l2, l3], .ref x :: st, h) := mj_R_next rfl rfl
theorem mq_117_6 {l0 l1 l2 l3 : Value} {x : Nat} {st : List Value} {h : mj_H} : mj_R 117 (6, [l0, l1, l2, l3], .ref x :: st, h) = mj_bd (mj_gf h x 7 4) (fun v => mj_R 117 (9, [l0, l1, l2, l3], v :: st, h)) := mj_R_gf rfl
theorem mq_117_9 {l0 l1 l2 l3 : Value} {x y : Int32} {st : List Value} {h : mj_H} : mj_R 117 (9, [l0, l1, l2, l3], .int y :: .int x :: st, h) = if y ≤ x then mj_R 117 (43, [l0, l1, l2, l3], st, h) else mj_R 117 (12, [l0, l1, l2, l3], st, h) := mj_R_jge rfl
theorem mq_117_12 {l0 l1 l3 : Value} {x : Int32} {st : List Value} {h : mj_H} : mj_R 117 (12, [l0, l1, .int x, l3], st, h) = mj_R 117 (13, [l0, l1, .int x, l3], .int x :: st, h) := mj_R_next rfl rfl
theorem mq_117_13 {l0 l2 l3 : Value} {x : Int32} {st : List Value} {h : mj_H} : mj_R 117 (13, [l0, .int x, l2, l3], st, h) = mj_R 117 (14, [l0, .int x, l2, l3], .int x :: st, h) := mj_R_next rfl rfl
theorem mq_117_14 {l0 l1 l2 : Value} {x : Int32} {st : List Value} {h : mj_H} : mj_R 117 (14, [l0, l1, l2, .int x], st, h) = mj_R 117 (15, [l0, l1, l2, .int x], .int x :: st, h) := mj_R_next rfl rfl
theorem mq_117_15 {l0 l1 l2 l3 : Value} {a0 : Int32} {a1 : Int32} {s0 : Value} {h : mj_H} : mj_R 117 (15, [l0, l1, l2, l3], [.int a1, .int a0, s0], h) = mj_bd (mj_C 113 [.int a0, .int a1] h) (fun r => mj_R 117 (18, [l0, l1, l2, l3], r.1.toList ++ [s0], r.2)) := mj_R_cs rfl rfl
theorem mq_117_18 {l0 l1 l2 l3 : Value} {x : Int32} {st : List Value} {h : mj_H} : mj_R 117 (18, [l0, l1, l2, l3], .int x :: st, h) = if x = nI 0 then mj_R 117 (34, [l0, l1, l2, l3], st, h) else mj_R 117 (21, [l0, l1, l2, l3], st, h) := mj_R_ieq rfl
theorem mq_117_21 {l1 l2 l3 : Value} {x : Nat} {st : List Value} {h : mj_H} : mj_R 117 (21, [.ref x, l1, l2, l3], st, h) = mj_R 117 (22, [.ref x, l1, l2, l3], .ref x :: st, h) := mj_R_next rfl rfl
theorem mq_117_22 {l0 l1 l2 l3 : Value} {x : Nat} {st : List Value} {h : mj_H} : mj_R 117 (22, [l0, l1, l2, l3], .ref x :: st, h) = mj_bd (mj_gf h x 7 6) (fun v => mj_R 117 (25, [l0, l1, l2, l3], v :: st, h)) := mj_R_gf rfl
theorem mq_117_25 {l0 l1 l2 l3 : Value} {st : List Value} {h : mj_H} : mj_R 117 (25, [l0, l1, l2, l3], st, h) = mj_R 117 (26, [l0, l1, l2, l3], .int (nI 4) :: st, h) := mj_R_next rfl rfl
theorem mq_117_26 {l0 l1 l2 : Value} {x : Int32} {st : List Value} {h : mj_H} : mj_R 117 (26, [l0, l1, l2, .int x], st, h) = mj_R 117 (27, [l0, l1, l2, .int x], .int x :: st, h) := mj_R_next rfl rfl
theorem mq_117_27 {l0 l1 l2 l3 : Value} {x y : Int32} {st : List Value} {h : mj_H} : mj_R 117 (27, [l0, l1, l2, l3], .int y :: .int x :: st, h) = mj_R 117 (28, [l0, l1, l2, l3], .int (x * y) :: st, h) := mj_R_next rfl rfl
theorem mq_117_28 {l0 l1 l2 l3 : Value} {st : List Value} {h : mj_H} : mj_R 117 (28, [l0, l1, l2, l3], st, h) = mj_R 117 (29, [l0, l1, l2, l3], .int (nI 2) :: st, h) := mj_R_next rfl rfl
theorem mq_117_29 {l0 l1 l2 l3 : Value} {x y : Int32} {st : List Value} {h : mj_H} : mj_R 117 (29, [l0, l1, l2, l3], .int y :: .int x :: st, h) = mj_R 117 (30, [l0, l1, l2, l3], .int (x + y) :: st, h) := mj_R_next rfl rfl
theorem mq_117_30 {l0 l1 l2 l3 : Value} {x : Nat} {j : Int32} {st : List Value} {h : mj_H} : mj_R 117 (30, [l0, l1, l2, l3], .int j :: .ref x :: st, h) = mj_bd (mj_gi h x j) (fun v => mj_R 117 (31, [l0, l1, l2, l3], .int v :: st, h)) := mj_R_gi rfl
theorem mq_117_31 {l0 l1 l2 l3 : Value} {st : List Value} {h : mj_H} : mj_R 117 (31, [l0, l1, l2, l3], st, h) = mj_R 117 (35, [l0, l1, l2, l3], st, h) := mj_R_next rfl rfl
theorem mq_117_34 {l0 l1 l2 l3 : Value} {st : List Value} {h : mj_H} : mj_R 117 (34, [l0, l1, l2, l3], st, h) = mj_R 117 (35, [l0, l1, l2, l3], .int (nI 0) :: st, h) := mj_R_next rfl rfl
theorem mq_117_35 {l0 l1 l2 l3 : Value} {x y : Int32} {st : List Value} {h : mj_H} : mj_R 117 (35, [l0, l1, l2, l3], .int y :: .int x :: st, h) = mj_R 117 (36, [l0, l1, l2, l3], .int (x + y) :: st, h) := mj_R_next rfl rfl
theorem mq_117_36 {l0 l1 l2 l3 : Value} {x : Int32} {st : List Value} {h : mj_H} : mj_R 117 (36, [l0, l1, l2, l3], .int x :: st, h) = mj_R 117 (37, [l0, l1, .int x, l3], st, h) := mj_R_next rfl rfl
theorem mq_117_37 {l0 l1 l2 : Value} {x : Int32} {st : List Value} {h : mj_H} : mj_R 117 (37, [l0, l1, l2, .int x], st, h) = mj_R 117 (40, [l0, l1, l2, .int (x + (nI 1))], st, h) := mj_R_next rfl rfl
theorem mq_117_40 {l0 l1 l2 l3 : Value} {st : List Value} {h : mj_H} : mj_R 117 (40, [l0, l1, l2, l3], st, h) = mj_R 117 (4, [l0, l1, l2, l3], st, h) := mj_R_next rfl rfl
theorem mq_117_43 {l0 l1 l3 : Value} {x : Int32} {st : List Value} {h : mj_H} : mj_R 117 (43, [l0, l1, .int x, l3], st, h) = mj_R 117 (44, [l0, l1, .int x, l3], .int x :: st, h) := mj_R_next rfl rfl
theorem mq_117_44 {l0 l1 l2 l3 : Value} {x : Int32} {h : mj_H} : mj_R 117 (44, [l0, l1, l2, l3], [.int x], h) = some (some (.int x), h) := mj_R_ret rfl rfl
theorem mc_118 {a0 : Nat} {a1 : Int32} {h : mj_H} : mj_C 118 [.ref a0, .int a1] h = mj_R 118 (0, [.ref a0, .int a1, .null, .null], [], h) := rfl
theorem mq_118_0 {l0 l1 l2 l3 : Value} {st : List Value} {h : mj_H} : mj_R 118 (0, [l0, l1, l2, l3], st, h) = mj_R 118 (1, [l0, l1, l2, l3], .int (nI 0) :: st, h) := mj_R_next rfl rfl
theorem mq_118_1 {l0 l1 l2 l3 : Value} {x : Int32} {st : List Value} {h : mj_H} : mj_R 118 (1, [l0, l1, l2, l3], .int x :: st, h) = mj_R 118 (2, [l0, l1, .int x, l3], st, h) := mj_R_next rfl rfl
theorem mq_118_2 {l0 l1 l2 l3 : Value} {st : List Value} {h : mj_H} : mj_R 118 (2, [l0, l1, l2, l3], st, h) = mj_R 118 (3, [l0, l1, l2, l3], .int (nI 0) :: st, h) := mj_R_next rfl rfl
theorem mq_118_3 {l0 l1 l2 l3 : Value} {x : Int32} {st : List Value} {h : mj_H} : mj_R 118 (3, [l0, l1, l2, l3], .int x :: st, h) = mj_R 118 (4, [l0, l1, l2, .int x], st, h) := mj_R_next rfl rfl
theorem mq_118_4 {l0 l1 l2 : Value} {x : Int32} {st : List Value} {h : mj_H} : mj_R 118 (4, [l0, l1, l2, .int x], st, h) = mj_R 118 (5, [l0, l1, l2, .int x], .int x :: st, h) := mj_R_next rfl rfl
theorem mq_118_5 {l1 l2 l3 : Value} {x : Nat} {st : List Value} {h : mj_H} : mj_R 118 (5, [.ref x, l1, l2, l3], st, h) = mj_R 118 (6, [.ref x, l1, l2, l3], .ref x :: st, h) := mj_R_next rfl rfl
theorem mq_118_6 {l0 l1 l2 l3 : Value} {x : Nat} {st : List Value} {h : mj_H} : mj_R 118 (6, [l0, l1, l2, l3], .ref x :: st, h) = mj_bd (mj_gf h x 7 4) (fun v => mj_R 118 (9, [l0, l1, l2, l3], v :: st, h)) := mj_R_gf rfl
theorem mq_118_9 {l0 l1 l2 l3 : Value} {x y : Int32} {st : List Value} {h : mj_H} : mj_R 118 (9, [l0, l1, l2, l3], .int y :: .int x :: st, h) = if y ≤ x then mj_R 118 (45, [l0, l1, l2, l3], st, h) else mj_R 118 (12, [l0, l1, l2, l3], st, h) := mj_R_jge rfl
theorem mq_118_12 {l0 l1 l3 : Value} {x : Int32} {st : List Value} {h : mj_H} : mj_R 118 (12, [l0, l1, .int x, l3], st, h) = mj_R 118 (13, [l0, l1, .int x, l3], .int x :: st, h) := mj_R_next rfl rfl
theorem mq_118_13 {l0 l2 l3 : Value} {x : Int32} {st : List Value} {h : mj_H} : mj_R 118 (13, [l0, .int x, l2, l3], st, h) = mj_R 118 (14, [l0, .int x, l2, l3], .int x :: st, h) := mj_R_next rfl rfl
theorem mq_118_14 {l0 l1 l2 : Value} {x : Int32} {st : List Value} {h : mj_H} : mj_R 118 (14, [l0, l1, l2, .int x], st, h) = mj_R 118 (15, [l0, l1, l2, .int x], .int x :: st, h) := mj_R_next rfl rfl
theorem mq_118_15 {l0 l1 l2 l3 : Value} {a0 : Int32} {a1 : Int32} {s0 : Value} {h : mj_H} : mj_R 118 (15, [l0, l1, l2, l3], [.int a1, .int a0, s0], h) = mj_bd (mj_C 113 [.int a0, .int a1] h) (fun r => mj_R 118 (18, [l0, l1, l2, l3], r.1.toList ++ [s0], r.2)) := mj_R_cs rfl rfl
theorem mq_118_18 {l0 l1 l2 l3 : Value} {x : Int32} {st : List Value} {h : mj_H} : mj_R 118 (18, [l0, l1, l2, l3], .int x :: st, h) = if x = nI 0 then mj_R 118 (36, [l0, l1, l2, l3], st, h) else mj_R 118 (21, [l0, l1, l2, l3], st, h) := mj_R_ieq rfl
theorem mq_118_21 {l0 l1 l2 l3 : Value} {st : List Value} {h : mj_H} : mj_R 118 (21, [l0, l1, l2, l3], st, h) = mj_R 118 (22, [l0, l1, l2, l3], .int (nI 1) :: st, h) := mj_R_next rfl rfl
theorem mq_118_22 {l1 l2 l3 : Value} {x : Nat} {st : List Value} {h : mj_H} : mj_R 118 (22, [.ref x, l1, l2, l3], st, h) = mj_R 118 (23, [.ref x, l1, l2, l3], .ref x :: st, h) := mj_R_next rfl rfl
theorem mq_118_23 {l0 l1 l2 l3 : Value} {x : Nat} {st : List Value} {h : mj_H} : mj_R 118 (23, [l0, l1, l2, l3], .ref x :: st, h) = mj_bd (mj_gf h x 7 6) (fun v => mj_R 118 (26, [l0, l1, l2, l3], v :: st, h)) := mj_R_gf rfl
theorem mq_118_26 {l0 l1 l2 l3 : Value} {st : List Value} {h : mj_H} : mj_R 118 (26, [l0, l1, l2, l3], st, h) = mj_R 118 (27, [l0, l1, l2, l3], .int (nI 4) :: st, h) := mj_R_next rfl rfl
theorem mq_118_27 {l0 l1 l2 : Value} {x : Int32} {st : List Value} {h : mj_H} : mj_R 118 (27, [l0, l1, l2, .int x], st, h) = mj_R 118 (28, [l0, l1, l2, .int x], .int x :: st, h) := mj_R_next rfl rfl
theorem mq_118_28 {l0 l1 l2 l3 : Value} {x y : Int32} {st : List Value} {h : mj_H} : mj_R 118 (28, [l0, l1, l2, l3], .int y :: .int x :: st, h) = mj_R 118 (29, [l0, l1, l2, l3], .int (x * y) :: st, h) := mj_R_next rfl rfl
theorem mq_118_29 {l0 l1 l2 l3 : Value} {st : List Value} {h : mj_H} : mj_R 118 (29, [l0, l1, l2, l3], st, h) = mj_R 118 (30, [l0, l1, l2, l3], .int (nI 3) :: st, h) := mj_R_next rfl rfl
theorem mq_118_30 {l0 l1 l2 l3 : Value} {x y : Int32} {st : List Value} {h : mj_H} : mj_R 118 (30, [l0, l1, l2, l3], .int y :: .int x :: st, h) = mj_R 118 (31, [l0, l1, l2, l3], .int (x + y) :: st, h) := mj_R_next rfl rfl
theorem mq_118_31 {l0 l1 l2 l3 : Value} {x : Nat} {j : Int32} {st : List Value} {h : mj_H} : mj_R 118 (31, [l0, l1, l2, l3], .int j :: .ref x :: st, h) = mj_bd (mj_gi h x j) (fun v => mj_R 118 (32, [l0, l1, l2, l3], .int v :: st, h)) := mj_R_gi rfl
theorem mq_118_32 {l0 l1 l2 l3 : Value} {x y : Int32} {st : List Value} {h : mj_H} : mj_R 118 (32, [l0, l1, l2, l3], .int y :: .int x :: st, h) = mj_R 118 (33, [l0, l1, l2, l3], .int (x <<< (y &&& 31)) :: st, h) := mj_R_next rfl rfl
theorem mq_118_33 {l0 l1 l2 l3 : Value} {st : List Value} {h : mj_H} : mj_R 118 (33, [l0, l1, l2, l3], st, h) = mj_R 118 (37, [l0, l1, l2, l3], st, h) := mj_R_next rfl rfl
theorem mq_118_36 {l0 l1 l2 l3 : Value} {st : List Value} {h : mj_H} : mj_R 118 (36, [l0, l1, l2, l3], st, h) = mj_R 118 (37, [l0, l1, l2, l3], .int (nI 0) :: st, h) := mj_R_next rfl rfl
theorem mq_118_37 {l0 l1 l2 l3 : Value} {x y : Int32} {st : List Value} {h : mj_H} : mj_R 118 (37, [l0, l1, l2, l3], .int y :: .int x :: st, h) = mj_R 118 (38, [l0, l1, l2, l3], .int (x ||| y) :: st, h) := mj_R_next rfl rfl
theorem mq_118_38 {l0 l1 l2 l3 : Value} {x : Int32} {st : List Value} {h : mj_H} : mj_R 118 (38, [l0, l1, l2, l3], .int x :: st, h) = mj_R 118 (39, [l0, l1, .int x, l3], st, h) := mj_R_next rfl rfl
theorem mq_118_39 {l0 l1 l2 : Value} {x : Int32} {st : List Value} {h : mj_H} : mj_R 118 (39, [l0, l1, l2, .int x], st, h) = mj_R 118 (42, [l0, l1, l2, .int (x + (nI 1))], st, h) := mj_R_next rfl rfl
theorem mq_118_42 {l0 l1 l2 l3 : Value} {st : List Value} {h : mj_H} : mj_R 118 (42, [l0, l1, l2, l3], st, h) = mj_R 118 (4, [l0, l1, l2, l3], st, h) := mj_R_next rfl rfl
theorem mq_118_45 {l0 l1 l3 : Value} {x : Int32} {st : List Value} {h : mj_H} : mj_R 118 (45, [l0, l1, .int x, l3], st, h) = mj_R 118 (46, [l0, l1, .int x, l3], .int x :: st, h) := mj_R_next rfl rfl
theorem mq_118_46 {l0 l1 l2 l3 : Value} {x : Int32} {h : mj_H} : mj_R 118 (46, [l0, l1, l2, l3], [.int x], h) = some (some (.int x), h) := mj_R_ret rfl rfl
theorem mc_119 {a0 : Nat} {a1 : Int32} {a2 : Int32} {h : mj_H} : mj_C 119 [.ref a0, .int a1, .int a2] h = mj_R 119 (0, [.ref a0, .int a1, .int a2], [], h) := rfl
theorem mq_119_0 {l1 l2 : Value} {x : Nat} {st : List Value} {h : mj_H} : mj_R 119 (0, [.ref x, l1, l2], st, h) = mj_R 119 (1, [.ref x, l1, l2], .ref x :: st, h) := mj_R_next rfl rfl
theorem mq_119_1 {l0 l1 l2 : Value} {st : List Value} {h : mj_H} : mj_R 119 (1, [l0, l1, l2], st, h) = mj_R 119 (2, [l0, l1, l2], .int (nI 0) :: st, h) := mj_R_next rfl rfl
theorem mq_119_2 {l0 l1 l2 : Value} {x : Nat} {v : Value} {st : List Value} {h : mj_H} : mj_R 119 (2, [l0, l1, l2], v :: .ref x :: st, h) = mj_bd (mj_pf h x 7 0 v) (fun h' => mj_R 119 (5, [l0, l1, l2], st, h')) := mj_R_pf rfl
theorem mq_119_5 {l1 l2 : Value} {x : Nat} {st : List Value} {h : mj_H} : mj_R 119 (5, [.ref x, l1, l2], st, h) = mj_R 119 (6, [.ref x, l1, l2], .ref x :: st, h) := mj_R_next rfl rfl
theorem mq_119_6 {l0 l2 : Value} {x : Int32} {st : List Value} {h : mj_H} : mj_R 119 (6, [l0, .int x, l2], st, h) = mj_R 119 (7, [l0, .int x, l2], .int x :: st, h) := mj_R_next rfl rfl
theorem mq_119_7 {l0 l1 l2 : Value} {a0 : Nat} {a1 : Int32} {h : mj_H} : mj_R 119 (7, [l0, l1, l2], [.int a1, .ref a0], h) = if mj_isC h a0 7 = true then mj_bd (mj_C 120 [.ref a0, .int a1] h) (fun r => mj_R 119 (10, [l0, l1, l2], r.1.toList ++ [], r.2)) else none := mj_R_cv rfl rfl
theorem mq_119_10 {l0 l1 l2 : Value} {x : Int32} {st : List Value} {h : mj_H} : mj_R 119 (10, [l0, l1, l2], .int x :: st, h) = if x = nI 0 then mj_R 119 (15, [l0, l1, l2], st, h) else mj_R 119 (13, [l0, l1, l2], st, h) := mj_R_ieq rfl
theorem mq_119_13 {l0 l1 l2 : Value} {st : List Value} {h : mj_H} : mj_R 119 (13, [l0, l1, l2], st, h) = mj_R 119 (14, [l0, l1, l2], .int (-1) :: st, h) := mj_R_next rfl rfl
theorem mq_119_14 {l0 l1 l2 : Value} {x : Int32} {h : mj_H} : mj_R 119 (14, [l0, l1, l2], [.int x], h) = some (some (.int x), h) := mj_R_ret rfl rfl
theorem mq_119_15 {l0 l1 : Value} {x : Int32} {st : List Value} {h : mj_H} : mj_R 119 (15, [l0, l1, .int x], st, h) = mj_R 119 (16, [l0, l1, .int x], .int x :: st, h) := mj_R_next rfl rfl
theorem mq_119_16 {l0 l1 l2 : Value} {x : Int32} {st : List Value} {h : mj_H} : mj_R 119 (16, [l0, l1, l2], .int x :: st, h) = mj_R 119 (17, [l0, l1, l2], .long x.toInt64 :: st, h) := mj_R_next rfl rfl
theorem mq_119_17 {l0 l1 l2 : Value} {st : List Value} {h : mj_H} : mj_R 119 (17, [l0, l1, l2], st, h) = mj_R 119 (18, [l0, l1, l2], .long 0 :: st, h) := mj_R_next rfl rfl
theorem mq_119_18 {l0 l1 l2 : Value} {st : List Value} {h : mj_H} : mj_R 119 (18, [l0, l1, l2], st, h) = mj_R 119 (21, [l0, l1, l2], .long 3 :: st, h) := mj_R_next rfl rfl
theorem mq_119_21 {l0 l1 l2 : Value} {a0 : Int64} {a1 : Int64} {a2 : Int64} {h : mj_H} : mj_R 119 (21, [l0, l1, l2], [.long a2, .long a1, .long a0], h) = mj_bd (mj_C 103 [.long a0, .long a1, .long a2] h) (fun r => mj_R 119 (24, [l0, l1, l2], r.1.toList ++ [], r.2)) := mj_R_cs rfl rfl
theorem mq_119_24 {l0 l1 l2 : Value} {x : Int32} {st : List Value} {h : mj_H} : mj_R 119 (24, [l0, l1, l2], .int x :: st, h) = if x = nI 0 then mj_R 119 (38, [l0, l1, l2], st, h) else mj_R 119 (27, [l0, l1, l2], st, h) := mj_R_ieq rfl
theorem mq_119_27 {l1 l2 : Value} {x : Nat} {st : List Value} {h : mj_H} : mj_R 119 (27, [.ref x, l1, l2], st, h) = mj_R 119 (28, [.ref x, l1, l2], .ref x :: st, h) := mj_R_next rfl rfl
theorem mq_119_28 {l0 l1 l2 : Value} {x : Nat} {st : List Value} {h : mj_H} : mj_R 119 (28, [l0, l1, l2], .ref x :: st, h) = mj_bd (mj_gf h x 7 6) (fun v => mj_R 119 (31, [l0, l1, l2], v :: st, h)) := mj_R_gf rfl
theorem mq_119_31 {l0 l1 l2 : Value} {st : List Value} {h : mj_H} : mj_R 119 (31, [l0, l1, l2], st, h) = mj_R 119 (32, [l0, l1, l2], .int (nI 4) :: st, h) := mj_R_next rfl rfl
theorem mq_119_32 {l0 l2 : Value} {x : Int32} {st : List Value} {h : mj_H} : mj_R 119 (32, [l0, .int x, l2], st, h) = mj_R 119 (33, [l0, .int x, l2], .int x :: st, h) := mj_R_next rfl rfl
theorem mq_119_33 {l0 l1 l2 : Value} {x y : Int32} {st : List Value} {h : mj_H} : mj_R 119 (33, [l0, l1, l2], .int y :: .int x :: st, h) = mj_R 119 (34, [l0, l1, l2], .int (x * y) :: st, h) := mj_R_next rfl rfl
theorem mq_119_34 {l0 l1 : Value} {x : Int32} {st : List Value} {h : mj_H} : mj_R 119 (34, [l0, l1, .int x], st, h) = mj_R 119 (35, [l0, l1, .int x], .int x :: st, h) := mj_R_next rfl rfl
theorem mq_119_35 {l0 l1 l2 : Value} {x y : Int32} {st : List Value} {h : mj_H} : mj_R 119 (35, [l0, l1, l2], .int y :: .int x :: st, h) = mj_R 119 (36, [l0, l1, l2], .int (x + y) :: st, h) := mj_R_next rfl rfl
theorem mq_119_36 {l0 l1 l2 : Value} {x : Nat} {j : Int32} {st : List Value} {h : mj_H} : mj_R 119 (36, [l0, l1, l2], .int j :: .ref x :: st, h) = mj_bd (mj_gi h x j) (fun v => mj_R 119 (37, [l0, l1, l2], .int v :: st, h)) := mj_R_gi rfl
theorem mq_119_37 {l0 l1 l2 : Value} {x : Int32} {h : mj_H} : mj_R 119 (37, [l0, l1, l2], [.int x], h) = some (some (.int x), h) := mj_R_ret rfl rfl
theorem mq_119_38 {l0 l1 : Value} {x : Int32} {st : List Value} {h : mj_H} : mj_R 119 (38, [l0, l1, .int x], st, h) = mj_R 119 (39, [l0, l1, .int x], .int x :: st, h) := mj_R_next rfl rfl
theorem mq_119_39 {l0 l1 l2 : Value} {st : List Value} {h : mj_H} : mj_R 119 (39, [l0, l1, l2], st, h) = mj_R 119 (40, [l0, l1, l2], .int (nI 4) :: st, h) := mj_R_next rfl rfl
theorem mq_119_40 {l0 l1 l2 : Value} {x y : Int32} {st : List Value} {h : mj_H} : mj_R 119 (40, [l0, l1, l2], .int y :: .int x :: st, h) = if x = y then mj_R 119 (43, [l0, l1, l2], st, h) else mj_R 119 (52, [l0, l1, l2], st, h) := mj_R_jne rfl
theorem mq_119_43 {l1 l2 : Value} {x : Nat} {st : List Value} {h : mj_H} : mj_R 119 (43, [.ref x, l1, l2], st, h) = mj_R 119 (44, [.ref x, l1, l2], .ref x :: st, h) := mj_R_next rfl rfl
theorem mq_119_44 {l0 l1 l2 : Value} {x : Nat} {st : List Value} {h : mj_H} : mj_R 119 (44, [l0, l1, l2], .ref x :: st, h) = mj_bd (mj_gf h x 7 7) (fun v => mj_R 119 (47, [l0, l1, l2], v :: st, h)) := mj_R_gf rfl
theorem mq_119_47 {l0 l2 : Value} {x : Int32} {st : List Value} {h : mj_H} : mj_R 119 (47, [l0, .int x, l2], st, h) = mj_R 119 (48, [l0, .int x, l2], .int x :: st, h) := mj_R_next rfl rfl
theorem mq_119_48 {l0 l1 l2 : Value} {x : Nat} {j : Int32} {st : List Value} {h : mj_H} : mj_R 119 (48, [l0, l1, l2], .int j :: .ref x :: st, h) = mj_bd (mj_gi h x j) (fun v => mj_R 119 (49, [l0, l1, l2], .int v :: st, h)) := mj_R_gi rfl
theorem mq_119_49 {l0 l1 l2 : Value} {st : List Value} {h : mj_H} : mj_R 119 (49, [l0, l1, l2], st, h) = mj_R 119 (106, [l0, l1, l2], st, h) := mj_R_next rfl rfl
theorem mq_119_52 {l0 l1 : Value} {x : Int32} {st : List Value} {h : mj_H} : mj_R 119 (52, [l0, l1, .int x], st, h) = mj_R 119 (53, [l0, l1, .int x], .int x :: st, h) := mj_R_next rfl rfl
theorem mq_119_53 {l0 l1 l2 : Value} {st : List Value} {h : mj_H} : mj_R 119 (53, [l0, l1, l2], st, h) = mj_R 119 (54, [l0, l1, l2], .int (nI 5) :: st, h) := mj_R_next rfl rfl
theorem mq_119_54 {l0 l1 l2 : Value} {x y : Int32} {st : List Value} {h : mj_H} : mj_R 119 (54, [l0, l1, l2], .int y :: .int x :: st, h) = if x = y then mj_R 119 (57, [l0, l1, l2], st, h) else mj_R 119 (69, [l0, l1, l2], st, h) := mj_R_jne rfl
theorem mq_119_57 {l1 l2 : Value} {x : Nat} {st : List Value} {h : mj_H} : mj_R 119 (57, [.ref x, l1, l2], st, h) = mj_R 119 (58, [.ref x, l1, l2], .ref x :: st, h) := mj_R_next rfl rfl
theorem mq_119_58 {l1 l2 : Value} {x : Nat} {st : List Value} {h : mj_H} : mj_R 119 (58, [.ref x, l1, l2], st, h) = mj_R 119 (59, [.ref x, l1, l2], .ref x :: st, h) := mj_R_next rfl rfl
theorem mq_119_59 {l0 l1 l2 : Value} {x : Nat} {st : List Value} {h : mj_H} : mj_R 119 (59, [l0, l1, l2], .ref x :: st, h) = mj_bd (mj_gf h x 7 15) (fun v => mj_R 119 (62, [l0, l1, l2], v :: st, h)) := mj_R_gf rfl
theorem mq_119_62 {l0 l2 : Value} {x : Int32} {st : List Value} {h : mj_H} : mj_R 119 (62, [l0, .int x, l2], st, h) = mj_R 119 (63, [l0, .int x, l2], .int x :: st, h) := mj_R_next rfl rfl
theorem mq_119_63 {l0 l1 l2 : Value} {a0 : Nat} {a1 : Nat} {a2 : Int32} {h : mj_H} : mj_R 119 (63, [l0, l1, l2], [.int a2, .ref a1, .ref a0], h) = if mj_isC h a0 7 = true then mj_bd (mj_C 121 [.ref a0, .ref a1, .int a2] h) (fun r => mj_R 119 (66, [l0, l1, l2], r.1.toList ++ [], r.2)) else none := mj_R_cv rfl rfl
theorem mq_119_66 {l0 l1 l2 : Value} {st : List Value} {h : mj_H} : mj_R 119 (66, [l0, l1, l2], st, h) = mj_R 119 (106, [l0, l1, l2], st, h) := mj_R_next rfl rfl
theorem mq_119_69 {l0 l1 : Value} {x : Int32} {st : List Value} {h : mj_H} : mj_R 119 (69, [l0, l1, .int x], st, h) = mj_R 119 (70, [l0, l1, .int x], .int x :: st, h) := mj_R_next rfl rfl
theorem mq_119_70 {l0 l1 l2 : Value} {st : List Value} {h : mj_H} : mj_R 119 (70, [l0, l1, l2], st, h) = mj_R 119 (72, [l0, l1, l2], .int (nI 6) :: st, h) := mj_R_next rfl rfl
theorem mq_119_72 {l0 l1 l2 : Value} {x y : Int32} {st : List Value} {h : mj_H} : mj_R 119 (72, [l0, l1, l2], .int y :: .int x :: st, h) = if x = y then mj_R 119 (80, [l0, l1, l2], st, h) else mj_R 119 (75, [l0, l1, l2], st, h) := mj_R_jeq rfl
theorem mq_119_75 {l0 l1 l2 : Value} {st : List Value} {h : mj_H} : mj_R 119 (75, [l0, l1, l2], st, h) = mj_R 119 (77, [l0, l1, l2], .int (-2) :: st, h) := mj_R_next rfl rfl
theorem mq_119_77 {l0 l1 l2 : Value} {st : List Value} {h : mj_H} : mj_R 119 (77, [l0, l1, l2], st, h) = mj_R 119 (106, [l0, l1, l2], st, h) := mj_R_next rfl rfl
theorem mq_119_80 {l1 l2 : Value} {x : Nat} {st : List Value} {h : mj_H} : mj_R 119 (80, [.ref x, l1, l2], st, h) = mj_R 119 (81, [.ref x, l1, l2], .ref x :: st, h) := mj_R_next rfl rfl
theorem mq_119_81 {l0 l1 l2 : Value} {x : Nat} {st : List Value} {h : mj_H} : mj_R 119 (81, [l0, l1, l2], .ref x :: st, h) = mj_bd (mj_gf h x 7 15) (fun v => mj_R 119 (84, [l0, l1, l2], v :: st, h)) := mj_R_gf rfl
theorem mq_119_84 {l0 l1 l2 : Value} {st : List Value} {h : mj_H} : mj_R 119 (84, [l0, l1, l2], st, h) = mj_R 119 (85, [l0, l1, l2], .int (nI 1) :: st, h) := mj_R_next rfl rfl
theorem mq_119_85 {l0 l1 l2 : Value} {x : Nat} {j : Int32} {st : List Value} {h : mj_H} : mj_R 119 (85, [l0, l1, l2], .int j :: .ref x :: st, h) = mj_bd (mj_gi h x j) (fun v => mj_R 119 (86, [l0, l1, l2], .int v :: st, h)) := mj_R_gi rfl
theorem mq_119_86 {l0 l2 : Value} {x : Int32} {st : List Value} {h : mj_H} : mj_R 119 (86, [l0, .int x, l2], st, h) = mj_R 119 (87, [l0, .int x, l2], .int x :: st, h) := mj_R_next rfl rfl
theorem mq_119_87 {l0 l1 l2 : Value} {a0 : Int32} {a1 : Int32} {h : mj_H} : mj_R 119 (87, [l0, l1, l2], [.int a1, .int a0], h) = mj_bd (mj_C 113 [.int a0, .int a1] h) (fun r => mj_R 119 (90, [l0, l1, l2], r.1.toList ++ [], r.2)) := mj_R_cs rfl rfl
theorem mq_119_90 {l0 l1 l2 : Value} {x : Int32} {st : List Value} {h : mj_H} : mj_R 119 (90, [l0, l1, l2], .int x :: st, h) = if x = nI 0 then mj_R 119 (104, [l0, l1, l2], st, h) else mj_R 119 (93, [l0, l1, l2], st, h) := mj_R_ieq rfl
theorem mq_119_93 {l1 l2 : Value} {x : Nat} {st : List Value} {h : mj_H} : mj_R 119 (93, [.ref x, l1, l2], st, h) = mj_R 119 (94, [.ref x, l1, l2], .ref x :: st, h) := mj_R_next rfl rfl
theorem mq_119_94 {l0 l1 l2 : Value} {x : Nat} {st : List Value} {h : mj_H} : mj_R 119 (94, [l0, l1, l2], .ref x :: st, h) = mj_bd (mj_gf h x 7 15) (fun v => mj_R 119 (97, [l0, l1, l2], v :: st, h)) := mj_R_gf rfl
theorem mq_119_97 {l0 l1 l2 : Value} {st : List Value} {h : mj_H} : mj_R 119 (97, [l0, l1, l2], st, h) = mj_R 119 (98, [l0, l1, l2], .int (nI 5) :: st, h) := mj_R_next rfl rfl
theorem mq_119_98 {l0 l2 : Value} {x : Int32} {st : List Value} {h : mj_H} : mj_R 119 (98, [l0, .int x, l2], st, h) = mj_R 119 (99, [l0, .int x, l2], .int x :: st, h) := mj_R_next rfl rfl
theorem mq_119_99 {l0 l1 l2 : Value} {x y : Int32} {st : List Value} {h : mj_H} : mj_R 119 (99, [l0, l1, l2], .int y :: .int x :: st, h) = mj_R 119 (100, [l0, l1, l2], .int (x + y) :: st, h) := mj_R_next rfl rfl
theorem mq_119_100 {l0 l1 l2 : Value} {x : Nat} {j : Int32} {st : List Value} {h : mj_H} : mj_R 119 (100, [l0, l1, l2], .int j :: .ref x :: st, h) = mj_bd (mj_gi h x j) (fun v => mj_R 119 (101, [l0, l1, l2], .int v :: st, h)) := mj_R_gi rfl
theorem mq_119_101 {l0 l1 l2 : Value} {st : List Value} {h : mj_H} : mj_R 119 (101, [l0, l1, l2], st, h) = mj_R 119 (106, [l0, l1, l2], st, h) := mj_R_next rfl rfl
theorem mq_119_104 {l0 l1 l2 : Value} {st : List Value} {h : mj_H} : mj_R 119 (104, [l0, l1, l2], st, h) = mj_R 119 (106, [l0, l1, l2], .int (-9) :: st, h) := mj_R_next rfl rfl
theorem mq_119_106 {l0 l1 l2 : Value} {x : Int32} {h : mj_H} : mj_R 119 (106, [l0, l1, l2], [.int x], h) = some (some (.int x), h) := mj_R_ret rfl rfl
theorem mc_120 {a0 : Nat} {a1 : Int32} {h : mj_H} : mj_C 120 [.ref a0, .int a1] h = mj_R 120 (0, [.ref a0, .int a1], [], h) := rfl
theorem mq_120_0 {l0 : Value} {x : Int32} {st : List Value} {h : mj_H} : mj_R 120 (0, [l0, .int x], st, h) = mj_R 120 (1, [l0, .int x], .int x :: st, h) := mj_R_next rfl rfl
theorem mq_120_1 {l0 l1 : Value} {x : Int32} {st : List Value} {h : mj_H} : mj_R 120 (1, [l0, l1], .int x :: st, h) = mj_R 120 (2, [l0, l1], .long x.toInt64 :: st, h) := mj_R_next rfl rfl
theorem mq_120_2 {l0 l1 : Value} {st : List Value} {h : mj_H} : mj_R 120 (2, [l0, l1], st, h) = mj_R 120 (3, [l0, l1], .long 0 :: st, h) := mj_R_next rfl rfl
theorem mq_120_3 {l1 : Value} {x : Nat} {st : List Value} {h : mj_H} : mj_R 120 (3, [.ref x, l1], st, h) = mj_R 120 (4, [.ref x, l1], .ref x :: st, h) := mj_R_next rfl rfl
theorem mq_120_4 {l0 l1 : Value} {x : Nat} {st : List Value} {h : mj_H} : mj_R 120 (4, [l0, l1], .ref x :: st, h) = mj_bd (mj_gf h x 7 4) (fun v => mj_R 120 (7, [l0, l1], v :: st, h)) := mj_R_gf rfl
theorem mq_120_7 {l0 l1 : Value} {st : List Value} {h : mj_H} : mj_R 120 (7, [l0, l1], st, h) = mj_R 120 (8, [l0, l1], .int (nI 1) :: st, h) := mj_R_next rfl rfl
theorem mq_120_8 {l0 l1 : Value} {x y : Int32} {st : List Value} {h : mj_H} : mj_R 120 (8, [l0, l1], .int y :: .int x :: st, h) = mj_R 120 (9, [l0, l1], .int (x - y) :: st, h) := mj_R_next rfl rfl
theorem mq_120_9 {l0 l1 : Value} {x : Int32} {st : List Value} {h : mj_H} : mj_R 120 (9, [l0, l1], .int x :: st, h) = mj_R 120 (10, [l0, l1], .long x.toInt64 :: st, h) := mj_R_next rfl rfl
theorem mq_120_10 {l0 l1 : Value} {a0 : Int64} {a1 : Int64} {a2 : Int64} {h : mj_H} : mj_R 120 (10, [l0, l1], [.long a2, .long a1, .long a0], h) = mj_bd (mj_C 103 [.long a0, .long a1, .long a2] h) (fun r => mj_R 120 (13, [l0, l1], r.1.toList ++ [], r.2)) := mj_R_cs rfl rfl
theorem mq_120_13 {l0 l1 : Value} {x : Int32} {st : List Value} {h : mj_H} : mj_R 120 (13, [l0, l1], .int x :: st, h) = if x = nI 0 then mj_R 120 (16, [l0, l1], st, h) else mj_R 120 (20, [l0, l1], st, h) := mj_R_ine rfl
theorem mq_120_16 {l0 l1 : Value} {st : List Value} {h : mj_H} : mj_R 120 (16, [l0, l1], st, h) = mj_R 120 (17, [l0, l1], .int (nI 1) :: st, h) := mj_R_next rfl rfl
theorem mq_120_17 {l0 l1 : Value} {st : List Value} {h : mj_H} : mj_R 120 (17, [l0, l1], st, h) = mj_R 120 (21, [l0, l1], st, h) := mj_R_next rfl rfl
theorem mq_120_20 {l0 l1 : Value} {st : List Value} {h : mj_H} : mj_R 120 (20, [l0, l1], st, h) = mj_R 120 (21, [l0, l1], .int (nI 0) :: st, h) := mj_R_next rfl rfl
theorem mq_120_21 {l0 l1 : Value} {x : Int32} {h : mj_H} : mj_R 120 (21, [l0, l1], [.int x], h) = if (x == 0 || x == 1) = true then some (some (.int x), h) else none := mj_R_rz rfl rfl
theorem mc_121 {a0 : Nat} {a1 : Nat} {a2 : Int32} {h : mj_H} : mj_C 121 [.ref a0, .ref a1, .int a2] h = mj_R 121 (0, [.ref a0, .ref a1, .int a2, .null, .null], [], h) := rfl
theorem mq_121_0 {l1 l2 l3 l4 : Value} {x : Nat} {st : List Value} {h : mj_H} : mj_R 121 (0, [.ref x, l1, l2, l3, l4], st, h) = mj_R 121 (1, [.ref x, l1, l2, l3, l4], .ref x :: st, h) := mj_R_next rfl rfl
theorem mq_121_1 {l0 l1 l2 l3 l4 : Value} {x : Nat} {st : List Value} {h : mj_H} : mj_R 121 (1, [l0, l1, l2, l3, l4], .ref x :: st, h) = mj_bd (mj_gf h x 7 6) (fun v => mj_R 121 (4, [l0, l1, l2, l3, l4], v :: st, h)) := mj_R_gf rfl
theorem mq_121_4 {l0 l1 l2 l3 l4 : Value} {st : List Value} {h : mj_H} : mj_R 121 (4, [l0, l1, l2, l3, l4], st, h) = mj_R 121 (5, [l0, l1, l2, l3, l4], .int (nI 4) :: st, h) := mj_R_next rfl rfl
theorem mq_121_5 {l0 l1 l3 l4 : Value} {x : Int32} {st : List Value} {h : mj_H} : mj_R 121 (5, [l0, l1, .int x, l3, l4], st, h) = mj_R 121 (6, [l0, l1, .int x, l3, l4], .int x :: st, h) := mj_R_next rfl rfl
theorem mq_121_6 {l0 l1 l2 l3 l4 : Value} {x y : Int32} {st : List Value} {h : mj_H} : mj_R 121 (6, [l0, l1, l2, l3, l4], .int y :: .int x :: st, h) = mj_R 121 (7, [l0, l1, l2, l3, l4], .int (x * y) :: st, h) := mj_R_next rfl rfl
theorem mq_121_7 {l0 l1 l2 l3 l4 : Value} {st : List Value} {h : mj_H} : mj_R 121 (7, [l0, l1, l2, l3, l4], st, h) = mj_R 121 (8, [l0, l1, l2, l3, l4], .int (nI 1) :: st, h) := mj_R_next rfl rfl
theorem mq_121_8 {l0 l1 l2 l3 l4 : Value} {x y : Int32} {st : List Value} {h : mj_H} : mj_R 121 (8, [l0, l1, l2, l3, l4], .int y :: .int x :: st, h) = mj_R 121 (9, [l0, l1, l2, l3, l4], .int (x + y) :: st, h) := mj_R_next rfl rfl
theorem mq_121_9 {l0 l1 l2 l3 l4 : Value} {x : Nat} {j : Int32} {st : List Value} {h : mj_H} : mj_R 121 (9, [l0, l1, l2, l3, l4], .int j :: .ref x :: st, h) = mj_bd (mj_gi h x j) (fun v => mj_R 121 (10, [l0, l1, l2, l3, l4], .int v :: st, h)) := mj_R_gi rfl
theorem mq_121_10 {l0 l1 l2 l3 l4 : Value} {x : Int32} {st : List Value} {h : mj_H} : mj_R 121 (10, [l0, l1, l2, l3, l4], .int x :: st, h) = mj_R 121 (11, [l0, l1, l2, .int x, l4], st, h) := mj_R_next rfl rfl
theorem mq_121_11 {l1 l2 l3 l4 : Value} {x : Nat} {st : List Value} {h : mj_H} : mj_R 121 (11, [.ref x, l1, l2, l3, l4], st, h) = mj_R 121 (12, [.ref x, l1, l2, l3, l4], .ref x :: st, h) := mj_R_next rfl rfl
theorem mq_121_12 {l0 l1 l2 l3 l4 : Value} {x : Nat} {st : List Value} {h : mj_H} : mj_R 121 (12, [l0, l1, l2, l3, l4], .ref x :: st, h) = mj_bd (mj_gf h x 7 6) (fun v => mj_R 121 (15, [l0, l1, l2, l3, l4], v :: st, h)) := mj_R_gf rfl
theorem mq_121_15 {l0 l1 l2 l3 l4 : Value} {st : List Value} {h : mj_H} : mj_R 121 (15, [l0, l1, l2, l3, l4], st, h) = mj_R 121 (16, [l0, l1, l2, l3, l4], .int (nI 4) :: st, h) := mj_R_next rfl rfl
theorem mq_121_16 {l0 l1 l3 l4 : Value} {x : Int32} {st : List Value} {h : mj_H} : mj_R 121 (16, [l0, l1, .int x, l3, l4], st, h) = mj_R 121 (17, [l0, l1, .int x, l3, l4], .int x :: st, h) := mj_R_next rfl rfl
theorem mq_121_17 {l0 l1 l2 l3 l4 : Value} {x y : Int32} {st : List Value} {h : mj_H} : mj_R 121 (17, [l0, l1, l2, l3, l4], .int y :: .int x :: st, h) = mj_R 121 (18, [l0, l1, l2, l3, l4], .int (x * y) :: st, h) := mj_R_next rfl rfl
theorem mq_121_18 {l0 l1 l2 l3 l4 : Value} {x : Nat} {j : Int32} {st : List Value} {h : mj_H} : mj_R 121 (18, [l0, l1, l2, l3, l4], .int j :: .ref x :: st, h) = mj_bd (mj_gi h x j) (fun v => mj_R 121 (19, [l0, l1, l2, l3, l4], .int v :: st, h)) := mj_R_gi rfl
theorem mq_121_19 {l0 l1 l2 l3 l4 : Value} {st : List Value} {h : mj_H} : mj_R 121 (19, [l0, l1, l2, l3, l4], st, h) = mj_R 121 (20, [l0, l1, l2, l3, l4], .int (nI 1) :: st, h) := mj_R_next rfl rfl
theorem mq_121_20 {l0 l1 l2 l3 l4 : Value} {x y : Int32} {st : List Value} {h : mj_H} : mj_R 121 (20, [l0, l1, l2, l3, l4], .int y :: .int x :: st, h) = if x = y then mj_R 121 (23, [l0, l1, l2, l3, l4], st, h) else mj_R 121 (29, [l0, l1, l2, l3, l4], st, h) := mj_R_jne rfl
theorem mq_121_23 {l0 l1 l2 l4 : Value} {x : Int32} {st : List Value} {h : mj_H} : mj_R 121 (23, [l0, l1, l2, .int x, l4], st, h) = mj_R 121 (24, [l0, l1, l2, .int x, l4], .int x :: st, h) := mj_R_next rfl rfl
theorem mq_121_24 {l0 l1 l2 l3 l4 : Value} {st : List Value} {h : mj_H} : mj_R 121 (24, [l0, l1, l2, l3, l4], st, h) = mj_R 121 (25, [l0, l1, l2, l3, l4], .int (nI 1) :: st, h) := mj_R_next rfl rfl
theorem mq_121_25 {l0 l1 l2 l3 l4 : Value} {x y : Int32} {st : List Value} {h : mj_H} : mj_R 121 (25, [l0, l1, l2, l3, l4], .int y :: .int x :: st, h) = mj_R 121 (26, [l0, l1, l2, l3, l4], .int (x + y) :: st, h) := mj_R_next rfl rfl
theorem mq_121_26 {l0 l1 l2 l3 l4 : Value} {st : List Value} {h : mj_H} : mj_R 121 (26, [l0, l1, l2, l3, l4], st, h) = mj_R 121 (27, [l0, l1, l2, l3, l4], .int (nI 2) :: st, h) := mj_R_next rfl rfl
theorem mq_121_27 {l0 l1 l2 l3 l4 : Value} {x y : Int32} {st : List Value} {h : mj_H} : mj_R 121 (27, [l0, l1, l2, l3, l4], .int y :: .int x :: st, h) = if y = 0 then none else mj_R 121 (28, [l0, l1, l2, l3, l4], .int (x / y) :: st, h) := mj_R_div rfl rfl
theorem mq_121_28 {l0 l1 l2 l3 l4 : Value} {x : Int32} {h : mj_H} : mj_R 121 (28, [l0, l1, l2, l3, l4], [.int x], h) = some (some (.int x), h) := mj_R_ret rfl rfl
theorem mq_121_29 {l0 l1 l2 l3 l4 : Value} {st : List Value} {h : mj_H} : mj_R 121 (29, [l0, l1, l2, l3, l4], st, h) = mj_R 121 (30, [l0, l1, l2, l3, l4], .int (nI 0) :: st, h) := mj_R_next rfl rfl
theorem mq_121_30 {l0 l1 l2 l3 l4 : Value} {x : Int32} {st : List Value} {h : mj_H} : mj_R 121 (30, [l0, l1, l2, l3, l4], .int x :: st, h) = mj_R 121 (32, [l0, l1, l2, l3, .int x], st, h) := mj_R_next rfl rfl
theorem mq_121_32 {l0 l1 l2 l3 : Value} {x : Int32} {st : List Value} {h : mj_H} : mj_R 121 (32, [l0, l1, l2, l3, .int x], st, h) = mj_R 121 (34, [l0, l1, l2, l3, .int x], .int x :: st, h) := mj_R_next rfl rfl
theorem mq_121_34 {l1 l2 l3 l4 : Value} {x : Nat} {st : List Value} {h : mj_H} : mj_R 121 (34, [.ref x, l1, l2, l3, l4], st, h) = mj_R 121 (35, [.ref x, l1, l2, l3, l4], .ref x :: st, h) := mj_R_next rfl rfl
theorem mq_121_35 {l0 l1 l2 l3 l4 : Value} {x : Nat} {st : List Value} {h : mj_H} : mj_R 121 (35, [l0, l1, l2, l3, l4], .ref x :: st, h) = mj_bd (mj_gf h x 7 4) (fun v => mj_R 121 (38, [l0, l1, l2, l3, l4], v :: st, h)) := mj_R_gf rfl
theorem mq_121_38 {l0 l1 l2 l3 l4 : Value} {x y : Int32} {st : List Value} {h : mj_H} : mj_R 121 (38, [l0, l1, l2, l3, l4], .int y :: .int x :: st, h) = if y ≤ x then mj_R 121 (91, [l0, l1, l2, l3, l4], st, h) else mj_R 121 (41, [l0, l1, l2, l3, l4], st, h) := mj_R_jge rfl
theorem mq_121_41 {l1 l2 l3 l4 : Value} {x : Nat} {st : List Value} {h : mj_H} : mj_R 121 (41, [.ref x, l1, l2, l3, l4], st, h) = mj_R 121 (42, [.ref x, l1, l2, l3, l4], .ref x :: st, h) := mj_R_next rfl rfl
theorem mq_121_42 {l0 l1 l2 l3 l4 : Value} {x : Nat} {st : List Value} {h : mj_H} : mj_R 121 (42, [l0, l1, l2, l3, l4], .ref x :: st, h) = mj_bd (mj_gf h x 7 6) (fun v => mj_R 121 (45, [l0, l1, l2, l3, l4], v :: st, h)) := mj_R_gf rfl
theorem mq_121_45 {l0 l1 l2 l3 l4 : Value} {st : List Value} {h : mj_H} : mj_R 121 (45, [l0, l1, l2, l3, l4], st, h) = mj_R 121 (46, [l0, l1, l2, l3, l4], .int (nI 4) :: st, h) := mj_R_next rfl rfl
theorem mq_121_46 {l0 l1 l3 l4 : Value} {x : Int32} {st : List Value} {h : mj_H} : mj_R 121 (46, [l0, l1, .int x, l3, l4], st, h) = mj_R 121 (47, [l0, l1, .int x, l3, l4], .int x :: st, h) := mj_R_next rfl rfl
theorem mq_121_47 {l0 l1 l2 l3 l4 : Value} {x y : Int32} {st : List Value} {h : mj_H} : mj_R 121 (47, [l0, l1, l2, l3, l4], .int y :: .int x :: st, h) = mj_R 121 (48, [l0, l1, l2, l3, l4], .int (x * y) :: st, h) := mj_R_next rfl rfl
theorem mq_121_48 {l0 l1 l2 l3 l4 : Value} {x : Nat} {j : Int32} {st : List Value} {h : mj_H} : mj_R 121 (48, [l0, l1, l2, l3, l4], .int j :: .ref x :: st, h) = mj_bd (mj_gi h x j) (fun v => mj_R 121 (49, [l0, l1, l2, l3, l4], .int v :: st, h)) := mj_R_gi rfl
theorem mq_121_49 {l0 l1 l2 l3 l4 : Value} {st : List Value} {h : mj_H} : mj_R 121 (49, [l0, l1, l2, l3, l4], st, h) = mj_R 121 (50, [l0, l1, l2, l3, l4], .int (nI 2) :: st, h) := mj_R_next rfl rfl
theorem mq_121_50 {l0 l1 l2 l3 l4 : Value} {x y : Int32} {st : List Value} {h : mj_H} : mj_R 121 (50, [l0, l1, l2, l3, l4], .int y :: .int x :: st, h) = if x = y then mj_R 121 (53, [l0, l1, l2, l3, l4], st, h) else mj_R 121 (91, [l0, l1, l2, l3, l4], st, h) := mj_R_jne rfl
theorem mq_121_53 {l0 l2 l3 l4 : Value} {x : Nat} {st : List Value} {h : mj_H} : mj_R 121 (53, [l0, .ref x, l2, l3, l4], st, h) = mj_R 121 (54, [l0, .ref x, l2, l3, l4], .ref x :: st, h) := mj_R_next rfl rfl
theorem mq_121_54 {l0 l1 l2 l3 l4 : Value} {st : List Value} {h : mj_H} : mj_R 121 (54, [l0, l1, l2, l3, l4], st, h) = mj_R 121 (55, [l0, l1, l2, l3, l4], .int (nI 1) :: st, h) := mj_R_next rfl rfl
theorem mq_121_55 {l0 l1 l2 l3 l4 : Value} {x : Nat} {j : Int32} {st : List Value} {h : mj_H} : mj_R 121 (55, [l0, l1, l2, l3, l4], .int j :: .ref x :: st, h) = mj_bd (mj_gi h x j) (fun v => mj_R 121 (56, [l0, l1, l2, l3, l4], .int v :: st, h)) := mj_R_gi rfl
theorem mq_121_56 {l0 l1 l2 l3 : Value} {x : Int32} {st : List Value} {h : mj_H} : mj_R 121 (56, [l0, l1, l2, l3, .int x], st, h) = mj_R 121 (58, [l0, l1, l2, l3, .int x], .int x :: st, h) := mj_R_next rfl rfl
theorem mq_121_58 {l0 l1 l2 l3 l4 : Value} {a0 : Int32} {a1 : Int32} {h : mj_H} : mj_R 121 (58, [l0, l1, l2, l3, l4], [.int a1, .int a0], h) = mj_bd (mj_C 113 [.int a0, .int a1] h) (fun r => mj_R 121 (61, [l0, l1, l2, l3, l4], r.1.toList ++ [], r.2)) := mj_R_cs rfl rfl
theorem mq_121_61 {l0 l1 l2 l3 l4 : Value} {x : Int32} {st : List Value} {h : mj_H} : mj_R 121 (61, [l0, l1, l2, l3, l4], .int x :: st, h) = if x = nI 0 then mj_R 121 (83, [l0, l1, l2, l3, l4], st, h) else mj_R 121 (64, [l0, l1, l2, l3, l4], st, h) := mj_R_ieq rfl
theorem mq_121_64 {l0 l2 l3 l4 : Value} {x : Nat} {st : List Value} {h : mj_H} : mj_R 121 (64, [l0, .ref x, l2, l3, l4], st, h) = mj_R 121 (65, [l0, .ref x, l2, l3, l4], .ref x :: st, h) := mj_R_next rfl rfl
theorem mq_121_65 {l0 l1 l2 l3 l4 : Value} {st : List Value} {h : mj_H} : mj_R 121 (65, [l0, l1, l2, l3, l4], st, h) = mj_R 121 (66, [l0, l1, l2, l3, l4], .int (nI 5) :: st, h) := mj_R_next rfl rfl
theorem mq_121_66 {l0 l1 l2 l3 : Value} {x : Int32} {st : List Value} {h : mj_H} : mj_R 121 (66, [l0, l1, l2, l3, .int x], st, h) = mj_R 121 (68, [l0, l1, l2, l3, .int x], .int x :: st, h) := mj_R_next rfl rfl
theorem mq_121_68 {l0 l1 l2 l3 l4 : Value} {x y : Int32} {st : List Value} {h : mj_H} : mj_R 121 (68, [l0, l1, l2, l3, l4], .int y :: .int x :: st, h) = mj_R 121 (69, [l0, l1, l2, l3, l4], .int (x + y) :: st, h) := mj_R_next rfl rfl
theorem mq_121_69 {l0 l1 l2 l3 l4 : Value} {x : Nat} {j : Int32} {st : List Value} {h : mj_H} : mj_R 121 (69, [l0, l1, l2, l3, l4], .int j :: .ref x :: st, h) = mj_bd (mj_gi h x j) (fun v => mj_R 121 (70, [l0, l1, l2, l3, l4], .int v :: st, h)) := mj_R_gi rfl
theorem mq_121_70 {l0 l1 l2 l4 : Value} {x : Int32} {st : List Value} {h : mj_H} : mj_R 121 (70, [l0, l1, l2, .int x, l4], st, h) = mj_R 121 (71, [l0, l1, l2, .int x, l4], .int x :: st, h) := mj_R_next rfl rfl
theorem mq_121_71 {l0 l1 l2 l3 l4 : Value} {x y : Int32} {st : List Value} {h : mj_H} : mj_R 121 (71, [l0, l1, l2, l3, l4], .int y :: .int x :: st, h) = if x ≤ y then mj_R 121 (83, [l0, l1, l2, l3, l4], st, h) else mj_R 121 (74, [l0, l1, l2, l3, l4], st, h) := mj_R_jle rfl
theorem mq_121_74 {l0 l2 l3 l4 : Value} {x : Nat} {st : List Value} {h : mj_H} : mj_R 121 (74, [l0, .ref x, l2, l3, l4], st, h) = mj_R 121 (75, [l0, .ref x, l2, l3, l4], .ref x :: st, h) := mj_R_next rfl rfl
theorem mq_121_75 {l0 l1 l2 l3 l4 : Value} {st : List Value} {h : mj_H} : mj_R 121 (75, [l0, l1, l2, l3, l4], st, h) = mj_R 121 (76, [l0, l1, l2, l3, l4], .int (nI 5) :: st, h) := mj_R_next rfl rfl
theorem mq_121_76 {l0 l1 l2 l3 : Value} {x : Int32} {st : List Value} {h : mj_H} : mj_R 121 (76, [l0, l1, l2, l3, .int x], st, h) = mj_R 121 (78, [l0, l1, l2, l3, .int x], .int x :: st, h) := mj_R_next rfl rfl
theorem mq_121_78 {l0 l1 l2 l3 l4 : Value} {x y : Int32} {st : List Value} {h : mj_H} : mj_R 121 (78, [l0, l1, l2, l3, l4], .int y :: .int x :: st, h) = mj_R 121 (79, [l0, l1, l2, l3, l4], .int (x + y) :: st, h) := mj_R_next rfl rfl
theorem mq_121_79 {l0 l1 l2 l3 l4 : Value} {x : Nat} {j : Int32} {st : List Value} {h : mj_H} : mj_R 121 (79, [l0, l1, l2, l3, l4], .int j :: .ref x :: st, h) = mj_bd (mj_gi h x j) (fun v => mj_R 121 (80, [l0, l1, l2, l3, l4], .int v :: st, h)) := mj_R_gi rfl
theorem mq_121_80 {l0 l1 l2 l3 l4 : Value} {st : List Value} {h : mj_H} : mj_R 121 (80, [l0, l1, l2, l3, l4], st, h) = mj_R 121 (84, [l0, l1, l2, l3, l4], st, h) := mj_R_next rfl rfl
theorem mq_121_83 {l0 l1 l2 l4 : Value} {x : Int32} {st : List Value} {h : mj_H} : mj_R 121 (83, [l0, l1, l2, .int x, l4], st, h) = mj_R 121 (84, [l0, l1, l2, .int x, l4], .int x :: st, h) := mj_R_next rfl rfl
theorem mq_121_84 {l0 l1 l2 l3 l4 : Value} {x : Int32} {st : List Value} {h : mj_H} : mj_R 121 (84, [l0, l1, l2, l3, l4], .int x :: st, h) = mj_R 121 (85, [l0, l1, l2, .int x, l4], st, h) := mj_R_next rfl rfl
theorem mq_121_85 {l0 l1 l2 l3 : Value} {x : Int32} {st : List Value} {h : mj_H} : mj_R 121 (85, [l0, l1, l2, l3, .int x], st, h) = mj_R 121 (88, [l0, l1, l2, l3, .int (x + (nI 1))], st, h) := mj_R_next rfl rfl
theorem mq_121_88 {l0 l1 l2 l3 l4 : Value} {st : List Value} {h : mj_H} : mj_R 121 (88, [l0, l1, l2, l3, l4], st, h) = mj_R 121 (32, [l0, l1, l2, l3, l4], st, h) := mj_R_next rfl rfl
theorem mq_121_91 {l0 l1 l2 l4 : Value} {x : Int32} {st : List Value} {h : mj_H} : mj_R 121 (91, [l0, l1, l2, .int x, l4], st, h) = mj_R 121 (92, [l0, l1, l2, .int x, l4], .int x :: st, h) := mj_R_next rfl rfl
theorem mq_121_92 {l0 l1 l2 l3 l4 : Value} {x : Int32} {h : mj_H} : mj_R 121 (92, [l0, l1, l2, l3, l4], [.int x], h) = some (some (.int x), h) := mj_R_ret rfl rfl
theorem mc_122 {a0 : Nat} {a1 : Int32} {a2 : Int32} {h : mj_H} : mj_C 122 [.ref a0, .int a1, .int a2] h = mj_R 122 (0, [.ref a0, .int a1, .int a2], [], h) := rfl
theorem mq_122_0 {l1 l2 : Value} {x : Nat} {st : List Value} {h : mj_H} : mj_R 122 (0, [.ref x, l1, l2], st, h) = mj_R 122 (1, [.ref x, l1, l2], .ref x :: st, h) := mj_R_next rfl rfl
theorem mq_122_1 {l0 l1 l2 : Value} {st : List Value} {h : mj_H} : mj_R 122 (1, [l0, l1, l2], st, h) = mj_R 122 (2, [l0, l1, l2], .int (nI 0) :: st, h) := mj_R_next rfl rfl
theorem mq_122_2 {l0 l1 l2 : Value} {x : Nat} {v : Value} {st : List Value} {h : mj_H} : mj_R 122 (2, [l0, l1, l2], v :: .ref x :: st, h) = mj_bd (mj_pf h x 7 0 v) (fun h' => mj_R 122 (5, [l0, l1, l2], st, h')) := mj_R_pf rfl
theorem mq_122_5 {l1 l2 : Value} {x : Nat} {st : List Value} {h : mj_H} : mj_R 122 (5, [.ref x, l1, l2], st, h) = mj_R 122 (6, [.ref x, l1, l2], .ref x :: st, h) := mj_R_next rfl rfl
theorem mq_122_6 {l0 l2 : Value} {x : Int32} {st : List Value} {h : mj_H} : mj_R 122 (6, [l0, .int x, l2], st, h) = mj_R 122 (7, [l0, .int x, l2], .int x :: st, h) := mj_R_next rfl rfl
theorem mq_122_7 {l0 l1 l2 : Value} {a0 : Nat} {a1 : Int32} {h : mj_H} : mj_R 122 (7, [l0, l1, l2], [.int a1, .ref a0], h) = if mj_isC h a0 7 = true then mj_bd (mj_C 123 [.ref a0, .int a1] h) (fun r => mj_R 122 (10, [l0, l1, l2], r.1.toList ++ [], r.2)) else none := mj_R_cv rfl rfl
theorem mq_122_10 {l0 l1 l2 : Value} {x : Int32} {st : List Value} {h : mj_H} : mj_R 122 (10, [l0, l1, l2], .int x :: st, h) = if x = nI 0 then mj_R 122 (15, [l0, l1, l2], st, h) else mj_R 122 (13, [l0, l1, l2], st, h) := mj_R_ieq rfl
theorem mq_122_13 {l0 l1 l2 : Value} {st : List Value} {h : mj_H} : mj_R 122 (13, [l0, l1, l2], st, h) = mj_R 122 (14, [l0, l1, l2], .int (-1) :: st, h) := mj_R_next rfl rfl
theorem mq_122_14 {l0 l1 l2 : Value} {x : Int32} {h : mj_H} : mj_R 122 (14, [l0, l1, l2], [.int x], h) = some (some (.int x), h) := mj_R_ret rfl rfl
theorem mq_122_15 {l0 l1 : Value} {x : Int32} {st : List Value} {h : mj_H} : mj_R 122 (15, [l0, l1, .int x], st, h) = mj_R 122 (16, [l0, l1, .int x], .int x :: st, h) := mj_R_next rfl rfl
theorem mq_122_16 {l0 l1 l2 : Value} {x : Int32} {st : List Value} {h : mj_H} : mj_R 122 (16, [l0, l1, l2], .int x :: st, h) = mj_R 122 (17, [l0, l1, l2], .long x.toInt64 :: st, h) := mj_R_next rfl rfl
theorem mq_122_17 {l0 l1 l2 : Value} {st : List Value} {h : mj_H} : mj_R 122 (17, [l0, l1, l2], st, h) = mj_R 122 (18, [l0, l1, l2], .long 0 :: st, h) := mj_R_next rfl rfl
theorem mq_122_18 {l0 l1 l2 : Value} {st : List Value} {h : mj_H} : mj_R 122 (18, [l0, l1, l2], st, h) = mj_R 122 (19, [l0, l1, l2], .long 1 :: st, h) := mj_R_next rfl rfl
theorem mq_122_19 {l0 l1 l2 : Value} {a0 : Int64} {a1 : Int64} {a2 : Int64} {h : mj_H} : mj_R 122 (19, [l0, l1, l2], [.long a2, .long a1, .long a0], h) = mj_bd (mj_C 103 [.long a0, .long a1, .long a2] h) (fun r => mj_R 122 (22, [l0, l1, l2], r.1.toList ++ [], r.2)) := mj_R_cs rfl rfl
theorem mq_122_22 {l0 l1 l2 : Value} {x : Int32} {st : List Value} {h : mj_H} : mj_R 122 (22, [l0, l1, l2], .int x :: st, h) = if x = nI 0 then mj_R 122 (38, [l0, l1, l2], st, h) else mj_R 122 (25, [l0, l1, l2], st, h) := mj_R_ieq rfl
theorem mq_122_25 {l1 l2 : Value} {x : Nat} {st : List Value} {h : mj_H} : mj_R 122 (25, [.ref x, l1, l2], st, h) = mj_R 122 (26, [.ref x, l1, l2], .ref x :: st, h) := mj_R_next rfl rfl
theorem mq_122_26 {l0 l1 l2 : Value} {x : Nat} {st : List Value} {h : mj_H} : mj_R 122 (26, [l0, l1, l2], .ref x :: st, h) = mj_bd (mj_gf h x 7 8) (fun v => mj_R 122 (29, [l0, l1, l2], v :: st, h)) := mj_R_gf rfl
theorem mq_122_29 {l0 l1 l2 : Value} {st : List Value} {h : mj_H} : mj_R 122 (29, [l0, l1, l2], st, h) = mj_R 122 (30, [l0, l1, l2], .int (nI 2) :: st, h) := mj_R_next rfl rfl
theorem mq_122_30 {l0 l2 : Value} {x : Int32} {st : List Value} {h : mj_H} : mj_R 122 (30, [l0, .int x, l2], st, h) = mj_R 122 (31, [l0, .int x, l2], .int x :: st, h) := mj_R_next rfl rfl
theorem mq_122_31 {l0 l1 l2 : Value} {x y : Int32} {st : List Value} {h : mj_H} : mj_R 122 (31, [l0, l1, l2], .int y :: .int x :: st, h) = mj_R 122 (32, [l0, l1, l2], .int (x * y) :: st, h) := mj_R_next rfl rfl
theorem mq_122_32 {l0 l1 : Value} {x : Int32} {st : List Value} {h : mj_H} : mj_R 122 (32, [l0, l1, .int x], st, h) = mj_R 122 (33, [l0, l1, .int x], .int x :: st, h) := mj_R_next rfl rfl
theorem mq_122_33 {l0 l1 l2 : Value} {x y : Int32} {st : List Value} {h : mj_H} : mj_R 122 (33, [l0, l1, l2], .int y :: .int x :: st, h) = mj_R 122 (34, [l0, l1, l2], .int (x + y) :: st, h) := mj_R_next rfl rfl
theorem mq_122_34 {l0 l1 l2 : Value} {x : Nat} {j : Int32} {st : List Value} {h : mj_H} : mj_R 122 (34, [l0, l1, l2], .int j :: .ref x :: st, h) = mj_bd (mj_gi h x j) (fun v => mj_R 122 (35, [l0, l1, l2], .int v :: st, h)) := mj_R_gi rfl
theorem mq_122_35 {l0 l1 l2 : Value} {st : List Value} {h : mj_H} : mj_R 122 (35, [l0, l1, l2], st, h) = mj_R 122 (63, [l0, l1, l2], st, h) := mj_R_next rfl rfl
theorem mq_122_38 {l0 l1 : Value} {x : Int32} {st : List Value} {h : mj_H} : mj_R 122 (38, [l0, l1, .int x], st, h) = mj_R 122 (39, [l0, l1, .int x], .int x :: st, h) := mj_R_next rfl rfl
theorem mq_122_39 {l0 l1 l2 : Value} {st : List Value} {h : mj_H} : mj_R 122 (39, [l0, l1, l2], st, h) = mj_R 122 (40, [l0, l1, l2], .int (nI 2) :: st, h) := mj_R_next rfl rfl
theorem mq_122_40 {l0 l1 l2 : Value} {x y : Int32} {st : List Value} {h : mj_H} : mj_R 122 (40, [l0, l1, l2], .int y :: .int x :: st, h) = if x = y then mj_R 122 (43, [l0, l1, l2], st, h) else mj_R 122 (61, [l0, l1, l2], st, h) := mj_R_jne rfl
theorem mq_122_43 {l0 l2 : Value} {x : Int32} {st : List Value} {h : mj_H} : mj_R 122 (43, [l0, .int x, l2], st, h) = mj_R 122 (44, [l0, .int x, l2], .int x :: st, h) := mj_R_next rfl rfl
theorem mq_122_44 {l1 l2 : Value} {x : Nat} {st : List Value} {h : mj_H} : mj_R 122 (44, [.ref x, l1, l2], st, h) = mj_R 122 (45, [.ref x, l1, l2], .ref x :: st, h) := mj_R_next rfl rfl
theorem mq_122_45 {l0 l1 l2 : Value} {x : Nat} {st : List Value} {h : mj_H} : mj_R 122 (45, [l0, l1, l2], .ref x :: st, h) = mj_bd (mj_gf h x 7 15) (fun v => mj_R 122 (48, [l0, l1, l2], v :: st, h)) := mj_R_gf rfl
theorem mq_122_48 {l0 l1 l2 : Value} {st : List Value} {h : mj_H} : mj_R 122 (48, [l0, l1, l2], st, h) = mj_R 122 (49, [l0, l1, l2], .int (nI 4) :: st, h) := mj_R_next rfl rfl
theorem mq_122_49 {l0 l1 l2 : Value} {x : Nat} {j : Int32} {st : List Value} {h : mj_H} : mj_R 122 (49, [l0, l1, l2], .int j :: .ref x :: st, h) = mj_bd (mj_gi h x j) (fun v => mj_R 122 (50, [l0, l1, l2], .int v :: st, h)) := mj_R_gi rfl
theorem mq_122_50 {l0 l1 l2 : Value} {x y : Int32} {st : List Value} {h : mj_H} : mj_R 122 (50, [l0, l1, l2], .int y :: .int x :: st, h) = if y ≤ x then mj_R 122 (57, [l0, l1, l2], st, h) else mj_R 122 (53, [l0, l1, l2], st, h) := mj_R_jge rfl
theorem mq_122_53 {l0 l1 l2 : Value} {st : List Value} {h : mj_H} : mj_R 122 (53, [l0, l1, l2], st, h) = mj_R 122 (54, [l0, l1, l2], .int (nI 1) :: st, h) := mj_R_next rfl rfl
theorem mq_122_54 {l0 l1 l2 : Value} {st : List Value} {h : mj_H} : mj_R 122 (54, [l0, l1, l2], st, h) = mj_R 122 (63, [l0, l1, l2], st, h) := mj_R_next rfl rfl
theorem mq_122_57 {l0 l1 l2 : Value} {st : List Value} {h : mj_H} : mj_R 122 (57, [l0, l1, l2], st, h) = mj_R 122 (58, [l0, l1, l2], .int (nI 0) :: st, h) := mj_R_next rfl rfl
theorem mq_122_58 {l0 l1 l2 : Value} {st : List Value} {h : mj_H} : mj_R 122 (58, [l0, l1, l2], st, h) = mj_R 122 (63, [l0, l1, l2], st, h) := mj_R_next rfl rfl
theorem mq_122_61 {l0 l1 l2 : Value} {st : List Value} {h : mj_H} : mj_R 122 (61, [l0, l1, l2], st, h) = mj_R 122 (63, [l0, l1, l2], .int (-2) :: st, h) := mj_R_next rfl rfl
theorem mq_122_63 {l0 l1 l2 : Value} {x : Int32} {h : mj_H} : mj_R 122 (63, [l0, l1, l2], [.int x], h) = some (some (.int x), h) := mj_R_ret rfl rfl
theorem mc_123 {a0 : Nat} {a1 : Int32} {h : mj_H} : mj_C 123 [.ref a0, .int a1] h = mj_R 123 (0, [.ref a0, .int a1], [], h) := rfl
theorem mq_123_0 {l0 : Value} {x : Int32} {st : List Value} {h : mj_H} : mj_R 123 (0, [l0, .int x], st, h) = mj_R 123 (1, [l0, .int x], .int x :: st, h) := mj_R_next rfl rfl
theorem mq_123_1 {l0 l1 : Value} {x : Int32} {st : List Value} {h : mj_H} : mj_R 123 (1, [l0, l1], .int x :: st, h) = mj_R 123 (2, [l0, l1], .long x.toInt64 :: st, h) := mj_R_next rfl rfl
theorem mq_123_2 {l0 l1 : Value} {st : List Value} {h : mj_H} : mj_R 123 (2, [l0, l1], st, h) = mj_R 123 (3, [l0, l1], .long 0 :: st, h) := mj_R_next rfl rfl
theorem mq_123_3 {l1 : Value} {x : Nat} {st : List Value} {h : mj_H} : mj_R 123 (3, [.ref x, l1], st, h) = mj_R 123 (4, [.ref x, l1], .ref x :: st, h) := mj_R_next rfl rfl
theorem mq_123_4 {l0 l1 : Value} {x : Nat} {st : List Value} {h : mj_H} : mj_R 123 (4, [l0, l1], .ref x :: st, h) = mj_bd (mj_gf h x 7 5) (fun v => mj_R 123 (7, [l0, l1], v :: st, h)) := mj_R_gf rfl
theorem mq_123_7 {l0 l1 : Value} {st : List Value} {h : mj_H} : mj_R 123 (7, [l0, l1], st, h) = mj_R 123 (8, [l0, l1], .int (nI 1) :: st, h) := mj_R_next rfl rfl
theorem mq_123_8 {l0 l1 : Value} {x y : Int32} {st : List Value} {h : mj_H} : mj_R 123 (8, [l0, l1], .int y :: .int x :: st, h) = mj_R 123 (9, [l0, l1], .int (x - y) :: st, h) := mj_R_next rfl rfl
theorem mq_123_9 {l0 l1 : Value} {x : Int32} {st : List Value} {h : mj_H} : mj_R 123 (9, [l0, l1], .int x :: st, h) = mj_R 123 (10, [l0, l1], .long x.toInt64 :: st, h) := mj_R_next rfl rfl
theorem mq_123_10 {l0 l1 : Value} {a0 : Int64} {a1 : Int64} {a2 : Int64} {h : mj_H} : mj_R 123 (10, [l0, l1], [.long a2, .long a1, .long a0], h) = mj_bd (mj_C 103 [.long a0, .long a1, .long a2] h) (fun r => mj_R 123 (13, [l0, l1], r.1.toList ++ [], r.2)) := mj_R_cs rfl rfl
theorem mq_123_13 {l0 l1 : Value} {x : Int32} {st : List Value} {h : mj_H} : mj_R 123 (13, [l0, l1], .int x :: st, h) = if x = nI 0 then mj_R 123 (16, [l0, l1], st, h) else mj_R 123 (20, [l0, l1], st, h) := mj_R_ine rfl
theorem mq_123_16 {l0 l1 : Value} {st : List Value} {h : mj_H} : mj_R 123 (16, [l0, l1], st, h) = mj_R 123 (17, [l0, l1], .int (nI 1) :: st, h) := mj_R_next rfl rfl
theorem mq_123_17 {l0 l1 : Value} {st : List Value} {h : mj_H} : mj_R 123 (17, [l0, l1], st, h) = mj_R 123 (21, [l0, l1], st, h) := mj_R_next rfl rfl
theorem mq_123_20 {l0 l1 : Value} {st : List Value} {h : mj_H} : mj_R 123 (20, [l0, l1], st, h) = mj_R 123 (21, [l0, l1], .int (nI 0) :: st, h) := mj_R_next rfl rfl
theorem mq_123_21 {l0 l1 : Value} {x : Int32} {h : mj_H} : mj_R 123 (21, [l0, l1], [.int x], h) = if (x == 0 || x == 1) = true then some (some (.int x), h) else none := mj_R_rz rfl rfl
theorem mc_124 {a0 : Nat} {h : mj_H} : mj_C 124 [.ref a0] h = mj_R 124 (0, [.ref a0], [], h) := rfl
theorem mq_124_0 {x : Nat} {st : List Value} {h : mj_H} : mj_R 124 (0, [.ref x], st, h) = mj_R 124 (1, [.ref x], .ref x :: st, h) := mj_R_next rfl rfl
theorem mq_124_1 {l0 : Value} {st : List Value} {h : mj_H} : mj_R 124 (1, [l0], st, h) = mj_R 124 (2, [l0], .int (nI 0) :: st, h) := mj_R_next rfl rfl
theorem mq_124_2 {l0 : Value} {x : Nat} {v : Value} {st : List Value} {h : mj_H} : mj_R 124 (2, [l0], v :: .ref x :: st, h) = mj_bd (mj_pf h x 7 0 v) (fun h' => mj_R 124 (5, [l0], st, h')) := mj_R_pf rfl
theorem mq_124_5 {x : Nat} {st : List Value} {h : mj_H} : mj_R 124 (5, [.ref x], st, h) = mj_R 124 (6, [.ref x], .ref x :: st, h) := mj_R_next rfl rfl
theorem mq_124_6 {l0 : Value} {x : Nat} {st : List Value} {h : mj_H} : mj_R 124 (6, [l0], .ref x :: st, h) = mj_bd (mj_gf h x 7 15) (fun v => mj_R 124 (9, [l0], v :: st, h)) := mj_R_gf rfl
theorem mq_124_9 {l0 : Value} {st : List Value} {h : mj_H} : mj_R 124 (9, [l0], st, h) = mj_R 124 (10, [l0], .int (nI 3) :: st, h) := mj_R_next rfl rfl
theorem mq_124_10 {l0 : Value} {x : Nat} {j : Int32} {st : List Value} {h : mj_H} : mj_R 124 (10, [l0], .int j :: .ref x :: st, h) = mj_bd (mj_gi h x j) (fun v => mj_R 124 (11, [l0], .int v :: st, h)) := mj_R_gi rfl
theorem mq_124_11 {x : Nat} {st : List Value} {h : mj_H} : mj_R 124 (11, [.ref x], st, h) = mj_R 124 (12, [.ref x], .ref x :: st, h) := mj_R_next rfl rfl
theorem mq_124_12 {l0 : Value} {x : Nat} {st : List Value} {h : mj_H} : mj_R 124 (12, [l0], .ref x :: st, h) = mj_bd (mj_gf h x 7 4) (fun v => mj_R 124 (15, [l0], v :: st, h)) := mj_R_gf rfl
theorem mq_124_15 {l0 : Value} {x y : Int32} {st : List Value} {h : mj_H} : mj_R 124 (15, [l0], .int y :: .int x :: st, h) = if x < y then mj_R 124 (21, [l0], st, h) else mj_R 124 (18, [l0], st, h) := mj_R_jlt rfl
theorem mq_124_18 {l0 : Value} {st : List Value} {h : mj_H} : mj_R 124 (18, [l0], st, h) = mj_R 124 (20, [l0], .int (-3) :: st, h) := mj_R_next rfl rfl
theorem mq_124_20 {l0 : Value} {x : Int32} {h : mj_H} : mj_R 124 (20, [l0], [.int x], h) = some (some (.int x), h) := mj_R_ret rfl rfl
theorem mq_124_21 {x : Nat} {st : List Value} {h : mj_H} : mj_R 124 (21, [.ref x], st, h) = mj_R 124 (22, [.ref x], .ref x :: st, h) := mj_R_next rfl rfl
theorem mq_124_22 {x : Nat} {st : List Value} {h : mj_H} : mj_R 124 (22, [.ref x], st, h) = mj_R 124 (23, [.ref x], .ref x :: st, h) := mj_R_next rfl rfl
theorem mq_124_23 {l0 : Value} {x : Nat} {st : List Value} {h : mj_H} : mj_R 124 (23, [l0], .ref x :: st, h) = mj_bd (mj_gf h x 7 15) (fun v => mj_R 124 (26, [l0], v :: st, h)) := mj_R_gf rfl
theorem mq_124_26 {l0 : Value} {a0 : Nat} {a1 : Nat} {h : mj_H} : mj_R 124 (26, [l0], [.ref a1, .ref a0], h) = if mj_isC h a0 7 = true then mj_bd (mj_C 125 [.ref a0, .ref a1] h) (fun r => mj_R 124 (29, [l0], r.1.toList ++ [], r.2)) else none := mj_R_cv rfl rfl
theorem mq_124_29 {l0 : Value} {x : Int32} {st : List Value} {h : mj_H} : mj_R 124 (29, [l0], .int x :: st, h) = if x = nI 0 then mj_R 124 (32, [l0], st, h) else mj_R 124 (35, [l0], st, h) := mj_R_ine rfl
theorem mq_124_32 {l0 : Value} {st : List Value} {h : mj_H} : mj_R 124 (32, [l0], st, h) = mj_R 124 (34, [l0], .int (-4) :: st, h) := mj_R_next rfl rfl
theorem mq_124_34 {l0 : Value} {x : Int32} {h : mj_H} : mj_R 124 (34, [l0], [.int x], h) = some (some (.int x), h) := mj_R_ret rfl rfl
theorem mq_124_35 {x : Nat} {st : List Value} {h : mj_H} : mj_R 124 (35, [.ref x], st, h) = mj_R 124 (36, [.ref x], .ref x :: st, h) := mj_R_next rfl rfl
theorem mq_124_36 {l0 : Value} {a0 : Nat} {h : mj_H} : mj_R 124 (36, [l0], [.ref a0], h) = if mj_isC h a0 7 = true then mj_bd (mj_C 126 [.ref a0] h) (fun r => mj_R 124 (39, [l0], r.1.toList ++ [], r.2)) else none := mj_R_cv rfl rfl
theorem mq_124_39 {x : Nat} {st : List Value} {h : mj_H} : mj_R 124 (39, [.ref x], st, h) = mj_R 124 (40, [.ref x], .ref x :: st, h) := mj_R_next rfl rfl
theorem mq_124_40 {x : Nat} {st : List Value} {h : mj_H} : mj_R 124 (40, [.ref x], st, h) = mj_R 124 (41, [.ref x], .ref x :: st, h) := mj_R_next rfl rfl
theorem mq_124_41 {l0 : Value} {x : Nat} {st : List Value} {h : mj_H} : mj_R 124 (41, [l0], .ref x :: st, h) = mj_bd (mj_gf h x 7 15) (fun v => mj_R 124 (44, [l0], v :: st, h)) := mj_R_gf rfl
theorem mq_124_44 {l0 : Value} {a0 : Nat} {a1 : Nat} {h : mj_H} : mj_R 124 (44, [l0], [.ref a1, .ref a0], h) = if mj_isC h a0 7 = true then mj_bd (mj_C 127 [.ref a0, .ref a1] h) (fun r => mj_R 124 (47, [l0], r.1.toList ++ [], r.2)) else none := mj_R_cv rfl rfl
theorem mq_124_47 {l0 : Value} {x : Int32} {h : mj_H} : mj_R 124 (47, [l0], [.int x], h) = some (some (.int x), h) := mj_R_ret rfl rfl
theorem mc_125 {a0 : Nat} {a1 : Nat} {h : mj_H} : mj_C 125 [.ref a0, .ref a1] h = mj_R 125 (0, [.ref a0, .ref a1], [], h) := rfl
theorem mq_125_0 {l0 : Value} {x : Nat} {st : List Value} {h : mj_H} : mj_R 125 (0, [l0, .ref x], st, h) = mj_R 125 (1, [l0, .ref x], .ref x :: st, h) := mj_R_next rfl rfl
theorem mq_125_1 {l0 l1 : Value} {st : List Value} {h : mj_H} : mj_R 125 (1, [l0, l1], st, h) = mj_R 125 (2, [l0, l1], .int (nI 3) :: st, h) := mj_R_next rfl rfl
theorem mq_125_2 {l0 l1 : Value} {x : Nat} {j : Int32} {st : List Value} {h : mj_H} : mj_R 125 (2, [l0, l1], .int j :: .ref x :: st, h) = mj_bd (mj_gi h x j) (fun v => mj_R 125 (3, [l0, l1], .int v :: st, h)) := mj_R_gi rfl
theorem mq_125_3 {l1 : Value} {x : Nat} {st : List Value} {h : mj_H} : mj_R 125 (3, [.ref x, l1], st, h) = mj_R 125 (4, [.ref x, l1], .ref x :: st, h) := mj_R_next rfl rfl
theorem mq_125_4 {l0 l1 : Value} {x : Nat} {st : List Value} {h : mj_H} : mj_R 125 (4, [l0, l1], .ref x :: st, h) = mj_bd (mj_gf h x 7 4) (fun v => mj_R 125 (7, [l0, l1], v :: st, h)) := mj_R_gf rfl
theorem mq_125_7 {l0 l1 : Value} {x y : Int32} {st : List Value} {h : mj_H} : mj_R 125 (7, [l0, l1], .int y :: .int x :: st, h) = if y ≤ x then mj_R 125 (28, [l0, l1], st, h) else mj_R 125 (10, [l0, l1], st, h) := mj_R_jge rfl
theorem mq_125_10 {l1 : Value} {x : Nat} {st : List Value} {h : mj_H} : mj_R 125 (10, [.ref x, l1], st, h) = mj_R 125 (11, [.ref x, l1], .ref x :: st, h) := mj_R_next rfl rfl
theorem mq_125_11 {l0 : Value} {x : Nat} {st : List Value} {h : mj_H} : mj_R 125 (11, [l0, .ref x], st, h) = mj_R 125 (12, [l0, .ref x], .ref x :: st, h) := mj_R_next rfl rfl
theorem mq_125_12 {l0 : Value} {x : Nat} {st : List Value} {h : mj_H} : mj_R 125 (12, [l0, .ref x], st, h) = mj_R 125 (13, [l0, .ref x], .ref x :: st, h) := mj_R_next rfl rfl
theorem mq_125_13 {l0 l1 : Value} {st : List Value} {h : mj_H} : mj_R 125 (13, [l0, l1], st, h) = mj_R 125 (14, [l0, l1], .int (nI 3) :: st, h) := mj_R_next rfl rfl
theorem mq_125_14 {l0 l1 : Value} {x : Nat} {j : Int32} {st : List Value} {h : mj_H} : mj_R 125 (14, [l0, l1], .int j :: .ref x :: st, h) = mj_bd (mj_gi h x j) (fun v => mj_R 125 (15, [l0, l1], .int v :: st, h)) := mj_R_gi rfl
theorem mq_125_15 {l0 l1 : Value} {a0 : Nat} {a1 : Nat} {a2 : Int32} {h : mj_H} : mj_R 125 (15, [l0, l1], [.int a2, .ref a1, .ref a0], h) = if mj_isC h a0 7 = true then mj_bd (mj_C 121 [.ref a0, .ref a1, .int a2] h) (fun r => mj_R 125 (18, [l0, l1], r.1.toList ++ [], r.2)) else none := mj_R_cv rfl rfl
theorem mq_125_18 {l0 : Value} {x : Nat} {st : List Value} {h : mj_H} : mj_R 125 (18, [l0, .ref x], st, h) = mj_R 125 (19, [l0, .ref x], .ref x :: st, h) := mj_R_next rfl rfl
theorem mq_125_19 {l0 l1 : Value} {st : List Value} {h : mj_H} : mj_R 125 (19, [l0, l1], st, h) = mj_R 125 (20, [l0, l1], .int (nI 0) :: st, h) := mj_R_next rfl rfl
theorem mq_125_20 {l0 l1 : Value} {x : Nat} {j : Int32} {st : List Value} {h : mj_H} : mj_R 125 (20, [l0, l1], .int j :: .ref x :: st, h) = mj_bd (mj_gi h x j) (fun v => mj_R 125 (21, [l0, l1], .int v :: st, h)) := mj_R_gi rfl
theorem mq_125_21 {l0 l1 : Value} {x y : Int32} {st : List Value} {h : mj_H} : mj_R 125 (21, [l0, l1], .int y :: .int x :: st, h) = if y < x then mj_R 125 (28, [l0, l1], st, h) else mj_R 125 (24, [l0, l1], st, h) := mj_R_jgt rfl
theorem mq_125_24 {l0 l1 : Value} {st : List Value} {h : mj_H} : mj_R 125 (24, [l0, l1], st, h) = mj_R 125 (25, [l0, l1], .int (nI 1) :: st, h) := mj_R_next rfl rfl
theorem mq_125_25 {l0 l1 : Value} {st : List Value} {h : mj_H} : mj_R 125 (25, [l0, l1], st, h) = mj_R 125 (29, [l0, l1], st, h) := mj_R_next rfl rfl
theorem mq_125_28 {l0 l1 : Value} {st : List Value} {h : mj_H} : mj_R 125 (28, [l0, l1], st, h) = mj_R 125 (29, [l0, l1], .int (nI 0) :: st, h) := mj_R_next rfl rfl
theorem mq_125_29 {l0 l1 : Value} {x : Int32} {h : mj_H} : mj_R 125 (29, [l0, l1], [.int x], h) = if (x == 0 || x == 1) = true then some (some (.int x), h) else none := mj_R_rz rfl rfl
theorem mc_126 {a0 : Nat} {h : mj_H} : mj_C 126 [.ref a0] h = mj_R 126 (0, [.ref a0, .null], [], h) := rfl
theorem mq_126_0 {l1 : Value} {x : Nat} {st : List Value} {h : mj_H} : mj_R 126 (0, [.ref x, l1], st, h) = mj_R 126 (1, [.ref x, l1], .ref x :: st, h) := mj_R_next rfl rfl
theorem mq_126_1 {l0 l1 : Value} {x : Nat} {st : List Value} {h : mj_H} : mj_R 126 (1, [l0, l1], .ref x :: st, h) = mj_bd (mj_gf h x 7 18) (fun v => mj_R 126 (4, [l0, l1], v :: st, h)) := mj_R_gf rfl
theorem mq_126_4 {l0 l1 : Value} {st : List Value} {h : mj_H} : mj_R 126 (4, [l0, l1], st, h) = mj_R 126 (6, [l0, l1], .int (nI 14) :: st, h) := mj_R_next rfl rfl
theorem mq_126_6 {l0 l1 : Value} {x y : Int32} {st : List Value} {h : mj_H} : mj_R 126 (6, [l0, l1], .int y :: .int x :: st, h) = if x = y then mj_R 126 (9, [l0, l1], st, h) else mj_R 126 (49, [l0, l1], st, h) := mj_R_jne rfl
theorem mq_126_9 {l0 l1 : Value} {st : List Value} {h : mj_H} : mj_R 126 (9, [l0, l1], st, h) = mj_R 126 (10, [l0, l1], .int (nI 0) :: st, h) := mj_R_next rfl rfl
theorem mq_126_10 {l0 l1 : Value} {x : Int32} {st : List Value} {h : mj_H} : mj_R 126 (10, [l0, l1], .int x :: st, h) = mj_R 126 (11, [l0, .int x], st, h) := mj_R_next rfl rfl
theorem mq_126_11 {l0 : Value} {x : Int32} {st : List Value} {h : mj_H} : mj_R 126 (11, [l0, .int x], st, h) = mj_R 126 (12, [l0, .int x], .int x :: st, h) := mj_R_next rfl rfl
theorem mq_126_12 {l0 l1 : Value} {st : List Value} {h : mj_H} : mj_R 126 (12, [l0, l1], st, h) = mj_R 126 (15, [l0, l1], .int (nI 143) :: st, h) := mj_R_next rfl rfl
theorem mq_126_15 {l0 l1 : Value} {x y : Int32} {st : List Value} {h : mj_H} : mj_R 126 (15, [l0, l1], .int y :: .int x :: st, h) = if y ≤ x then mj_R 126 (39, [l0, l1], st, h) else mj_R 126 (18, [l0, l1], st, h) := mj_R_jge rfl
theorem mq_126_18 {l1 : Value} {x : Nat} {st : List Value} {h : mj_H} : mj_R 126 (18, [.ref x, l1], st, h) = mj_R 126 (19, [.ref x, l1], .ref x :: st, h) := mj_R_next rfl rfl
theorem mq_126_19 {l0 l1 : Value} {x : Nat} {st : List Value} {h : mj_H} : mj_R 126 (19, [l0, l1], .ref x :: st, h) = mj_bd (mj_gf h x 7 17) (fun v => mj_R 126 (22, [l0, l1], v :: st, h)) := mj_R_gf rfl
theorem mq_126_22 {l0 : Value} {x : Int32} {st : List Value} {h : mj_H} : mj_R 126 (22, [l0, .int x], st, h) = mj_R 126 (23, [l0, .int x], .int x :: st, h) := mj_R_next rfl rfl
theorem mq_126_23 {l1 : Value} {x : Nat} {st : List Value} {h : mj_H} : mj_R 126 (23, [.ref x, l1], st, h) = mj_R 126 (24, [.ref x, l1], .ref x :: st, h) := mj_R_next rfl rfl
theorem mq_126_24 {l0 l1 : Value} {x : Nat} {st : List Value} {h : mj_H} : mj_R 126 (24, [l0, l1], .ref x :: st, h) = mj_bd (mj_gf h x 7 17) (fun v => mj_R 126 (27, [l0, l1], v :: st, h)) := mj_R_gf rfl
theorem mq_126_27 {l0 : Value} {x : Int32} {st : List Value} {h : mj_H} : mj_R 126 (27, [l0, .int x], st, h) = mj_R 126 (28, [l0, .int x], .int x :: st, h) := mj_R_next rfl rfl
theorem mq_126_28 {l0 l1 : Value} {st : List Value} {h : mj_H} : mj_R 126 (28, [l0, l1], st, h) = mj_R 126 (30, [l0, l1], .int (nI 11) :: st, h) := mj_R_next rfl rfl
theorem mq_126_30 {l0 l1 : Value} {x y : Int32} {st : List Value} {h : mj_H} : mj_R 126 (30, [l0, l1], .int y :: .int x :: st, h) = mj_R 126 (31, [l0, l1], .int (x + y) :: st, h) := mj_R_next rfl rfl
theorem mq_126_31 {l0 l1 : Value} {x : Nat} {j : Int32} {st : List Value} {h : mj_H} : mj_R 126 (31, [l0, l1], .int j :: .ref x :: st, h) = mj_bd (mj_gi h x j) (fun v => mj_R 126 (32, [l0, l1], .int v :: st, h)) := mj_R_gi rfl
theorem mq_126_32 {l0 l1 : Value} {x : Nat} {j v : Int32} {st : List Value} {h : mj_H} : mj_R 126 (32, [l0, l1], .int v :: .int j :: .ref x :: st, h) = mj_bd (mj_pi h x j v) (fun h' => mj_R 126 (33, [l0, l1], st, h')) := mj_R_pi rfl
theorem mq_126_33 {l0 : Value} {x : Int32} {st : List Value} {h : mj_H} : mj_R 126 (33, [l0, .int x], st, h) = mj_R 126 (36, [l0, .int (x + (nI 1))], st, h) := mj_R_next rfl rfl
theorem mq_126_36 {l0 l1 : Value} {st : List Value} {h : mj_H} : mj_R 126 (36, [l0, l1], st, h) = mj_R 126 (11, [l0, l1], st, h) := mj_R_next rfl rfl
theorem mq_126_39 {l1 : Value} {x : Nat} {st : List Value} {h : mj_H} : mj_R 126 (39, [.ref x, l1], st, h) = mj_R 126 (40, [.ref x, l1], .ref x :: st, h) := mj_R_next rfl rfl
theorem mq_126_40 {l0 l1 : Value} {x : Nat} {st : List Value} {h : mj_H} : mj_R 126 (40, [l0, l1], .ref x :: st, h) = mj_R 126 (41, [l0, l1], .ref x :: .ref x :: st, h) := mj_R_next rfl rfl
theorem mq_126_41 {l0 l1 : Value} {x : Nat} {st : List Value} {h : mj_H} : mj_R 126 (41, [l0, l1], .ref x :: st, h) = mj_bd (mj_gf h x 7 18) (fun v => mj_R 126 (44, [l0, l1], v :: st, h)) := mj_R_gf rfl
theorem mq_126_44 {l0 l1 : Value} {st : List Value} {h : mj_H} : mj_R 126 (44, [l0, l1], st, h) = mj_R 126 (45, [l0, l1], .int (nI 1) :: st, h) := mj_R_next rfl rfl
theorem mq_126_45 {l0 l1 : Value} {x y : Int32} {st : List Value} {h : mj_H} : mj_R 126 (45, [l0, l1], .int y :: .int x :: st, h) = mj_R 126 (46, [l0, l1], .int (x - y) :: st, h) := mj_R_next rfl rfl
theorem mq_126_46 {l0 l1 : Value} {x : Nat} {v : Value} {st : List Value} {h : mj_H} : mj_R 126 (46, [l0, l1], v :: .ref x :: st, h) = mj_bd (mj_pf h x 7 18 v) (fun h' => mj_R 126 (49, [l0, l1], st, h')) := mj_R_pf rfl
theorem mq_126_49 {l0 l1 : Value} {st : List Value} {h : mj_H} : mj_R 126 (49, [l0, l1], st, h) = mj_R 126 (50, [l0, l1], .int (nI 0) :: st, h) := mj_R_next rfl rfl
theorem mq_126_50 {l0 l1 : Value} {x : Int32} {st : List Value} {h : mj_H} : mj_R 126 (50, [l0, l1], .int x :: st, h) = mj_R 126 (51, [l0, .int x], st, h) := mj_R_next rfl rfl
theorem mq_126_51 {l0 : Value} {x : Int32} {st : List Value} {h : mj_H} : mj_R 126 (51, [l0, .int x], st, h) = mj_R 126 (52, [l0, .int x], .int x :: st, h) := mj_R_next rfl rfl
theorem mq_126_52 {l0 l1 : Value} {st : List Value} {h : mj_H} : mj_R 126 (52, [l0, l1], st, h) = mj_R 126 (54, [l0, l1], .int (nI 11) :: st, h) := mj_R_next rfl rfl
theorem mq_126_54 {l0 l1 : Value} {x y : Int32} {st : List Value} {h : mj_H} : mj_R 126 (54, [l0, l1], .int y :: .int x :: st, h) = if y ≤ x then mj_R 126 (83, [l0, l1], st, h) else mj_R 126 (57, [l0, l1], st, h) := mj_R_jge rfl
theorem mq_126_57 {l1 : Value} {x : Nat} {st : List Value} {h : mj_H} : mj_R 126 (57, [.ref x, l1], st, h) = mj_R 126 (58, [.ref x, l1], .ref x :: st, h) := mj_R_next rfl rfl
theorem mq_126_58 {l0 l1 : Value} {x : Nat} {st : List Value} {h : mj_H} : mj_R 126 (58, [l0, l1], .ref x :: st, h) = mj_bd (mj_gf h x 7 17) (fun v => mj_R 126 (61, [l0, l1], v :: st, h)) := mj_R_gf rfl
theorem mq_126_61 {l0 l1 : Value} {st : List Value} {h : mj_H} : mj_R 126 (61, [l0, l1], st, h) = mj_R 126 (63, [l0, l1], .int (nI 11) :: st, h) := mj_R_next rfl rfl
theorem mq_126_63 {l1 : Value} {x : Nat} {st : List Value} {h : mj_H} : mj_R 126 (63, [.ref x, l1], st, h) = mj_R 126 (64, [.ref x, l1], .ref x :: st, h) := mj_R_next rfl rfl
theorem mq_126_64 {l0 l1 : Value} {x : Nat} {st : List Value} {h : mj_H} : mj_R 126 (64, [l0, l1], .ref x :: st, h) = mj_bd (mj_gf h x 7 18) (fun v => mj_R 126 (67, [l0, l1], v :: st, h)) := mj_R_gf rfl
theorem mq_126_67 {l0 l1 : Value} {x y : Int32} {st : List Value} {h : mj_H} : mj_R 126 (67, [l0, l1], .int y :: .int x :: st, h) = mj_R 126 (68, [l0, l1], .int (x * y) :: st, h) := mj_R_next rfl rfl
theorem mq_126_68 {l0 : Value} {x : Int32} {st : List Value} {h : mj_H} : mj_R 126 (68, [l0, .int x], st, h) = mj_R 126 (69, [l0, .int x], .int x :: st, h) := mj_R_next rfl rfl
theorem mq_126_69 {l0 l1 : Value} {x y : Int32} {st : List Value} {h : mj_H} : mj_R 126 (69, [l0, l1], .int y :: .int x :: st, h) = mj_R 126 (70, [l0, l1], .int (x + y) :: st, h) := mj_R_next rfl rfl
theorem mq_126_70 {l1 : Value} {x : Nat} {st : List Value} {h : mj_H} : mj_R 126 (70, [.ref x, l1], st, h) = mj_R 126 (71, [.ref x, l1], .ref x :: st, h) := mj_R_next rfl rfl
theorem mq_126_71 {l0 l1 : Value} {x : Nat} {st : List Value} {h : mj_H} : mj_R 126 (71, [l0, l1], .ref x :: st, h) = mj_bd (mj_gf h x 7 15) (fun v => mj_R 126 (74, [l0, l1], v :: st, h)) := mj_R_gf rfl
theorem mq_126_74 {l0 : Value} {x : Int32} {st : List Value} {h : mj_H} : mj_R 126 (74, [l0, .int x], st, h) = mj_R 126 (75, [l0, .int x], .int x :: st, h) := mj_R_next rfl rfl
theorem mq_126_75 {l0 l1 : Value} {x : Nat} {j : Int32} {st : List Value} {h : mj_H} : mj_R 126 (75, [l0, l1], .int j :: .ref x :: st, h) = mj_bd (mj_gi h x j) (fun v => mj_R 126 (76, [l0, l1], .int v :: st, h)) := mj_R_gi rfl
theorem mq_126_76 {l0 l1 : Value} {x : Nat} {j v : Int32} {st : List Value} {h : mj_H} : mj_R 126 (76, [l0, l1], .int v :: .int j :: .ref x :: st, h) = mj_bd (mj_pi h x j v) (fun h' => mj_R 126 (77, [l0, l1], st, h')) := mj_R_pi rfl
theorem mq_126_77 {l0 : Value} {x : Int32} {st : List Value} {h : mj_H} : mj_R 126 (77, [l0, .int x], st, h) = mj_R 126 (80, [l0, .int (x + (nI 1))], st, h) := mj_R_next rfl rfl
theorem mq_126_80 {l0 l1 : Value} {st : List Value} {h : mj_H} : mj_R 126 (80, [l0, l1], st, h) = mj_R 126 (51, [l0, l1], st, h) := mj_R_next rfl rfl
theorem mq_126_83 {l1 : Value} {x : Nat} {st : List Value} {h : mj_H} : mj_R 126 (83, [.ref x, l1], st, h) = mj_R 126 (84, [.ref x, l1], .ref x :: st, h) := mj_R_next rfl rfl
theorem mq_126_84 {l0 l1 : Value} {x : Nat} {st : List Value} {h : mj_H} : mj_R 126 (84, [l0, l1], .ref x :: st, h) = mj_R 126 (85, [l0, l1], .ref x :: .ref x :: st, h) := mj_R_next rfl rfl
theorem mq_126_85 {l0 l1 : Value} {x : Nat} {st : List Value} {h : mj_H} : mj_R 126 (85, [l0, l1], .ref x :: st, h) = mj_bd (mj_gf h x 7 18) (fun v => mj_R 126 (88, [l0, l1], v :: st, h)) := mj_R_gf rfl
theorem mq_126_88 {l0 l1 : Value} {st : List Value} {h : mj_H} : mj_R 126 (88, [l0, l1], st, h) = mj_R 126 (89, [l0, l1], .int (nI 1) :: st, h) := mj_R_next rfl rfl
theorem mq_126_89 {l0 l1 : Value} {x y : Int32} {st : List Value} {h : mj_H} : mj_R 126 (89, [l0, l1], .int y :: .int x :: st, h) = mj_R 126 (90, [l0, l1], .int (x + y) :: st, h) := mj_R_next rfl rfl
theorem mq_126_90 {l0 l1 : Value} {x : Nat} {v : Value} {st : List Value} {h : mj_H} : mj_R 126 (90, [l0, l1], v :: .ref x :: st, h) = mj_bd (mj_pf h x 7 18 v) (fun h' => mj_R 126 (93, [l0, l1], st, h')) := mj_R_pf rfl
theorem mq_126_93 {l0 l1 : Value} {h : mj_H} : mj_R 126 (93, [l0, l1], [], h) = some (none, h) := mj_R_ret rfl rfl
theorem mc_127 {a0 : Nat} {a1 : Nat} {h : mj_H} : mj_C 127 [.ref a0, .ref a1] h = mj_R 127 (0, [.ref a0, .ref a1, .null, .null, .null, .null], [], h) := rfl
theorem mq_127_0 {l0 l2 l3 l4 l5 : Value} {x : Nat} {st : List Value} {h : mj_H} : mj_R 127 (0, [l0, .ref x, l2, l3, l4, l5], st, h) = mj_R 127 (1, [l0, .ref x, l2, l3, l4, l5], .ref x :: st, h) := mj_R_next rfl rfl
theorem mq_127_1 {l0 l1 l2 l3 l4 l5 : Value} {st : List Value} {h : mj_H} : mj_R 127 (1, [l0, l1, l2, l3, l4, l5], st, h) = mj_R 127 (2, [l0, l1, l2, l3, l4, l5], .int (nI 3) :: st, h) := mj_R_next rfl rfl
theorem mq_127_2 {l0 l1 l2 l3 l4 l5 : Value} {x : Nat} {j : Int32} {st : List Value} {h : mj_H} : mj_R 127 (2, [l0, l1, l2, l3, l4, l5], .int j :: .ref x :: st, h) = mj_bd (mj_gi h x j) (fun v => mj_R 127 (3, [l0, l1, l2, l3, l4, l5], .int v :: st, h)) := mj_R_gi rfl
theorem mq_127_3 {l0 l1 l2 l3 l4 l5 : Value} {x : Int32} {st : List Value} {h : mj_H} : mj_R 127 (3, [l0, l1, l2, l3, l4, l5], .int x :: st, h) = mj_R 127 (4, [l0, l1, .int x, l3, l4, l5], st, h) := mj_R_next rfl rfl
theorem mq_127_4 {l0 l1 l2 l3 l4 l5 : Value} {st : List Value} {h : mj_H} : mj_R 127 (4, [l0, l1, l2, l3, l4, l5], st, h) = mj_R 127 (5, [l0, l1, l2, l3, l4, l5], .int (nI 0) :: st, h) := mj_R_next rfl rfl
theorem mq_127_5 {l0 l1 l2 l3 l4 l5 : Value} {x : Int32} {st : List Value} {h : mj_H} : mj_R 127 (5, [l0, l1, l2, l3, l4, l5], .int x :: st, h) = mj_R 127 (6, [l0, l1, l2, .int x, l4, l5], st, h) := mj_R_next rfl rfl
theorem mq_127_6 {l0 l2 l3 l4 l5 : Value} {x : Nat} {st : List Value} {h : mj_H} : mj_R 127 (6, [l0, .ref x, l2, l3, l4, l5], st, h) = mj_R 127 (7, [l0, .ref x, l2, l3, l4, l5], .ref x :: st, h) := mj_R_next rfl rfl
theorem mq_127_7 {l0 l1 l2 l3 l4 l5 : Value} {st : List Value} {h : mj_H} : mj_R 127 (7, [l0, l1, l2, l3, l4, l5], st, h) = mj_R 127 (8, [l0, l1, l2, l3, l4, l5], .int (nI 5) :: st, h) := mj_R_next rfl rfl
theorem mq_127_8 {l0 l1 l3 l4 l5 : Value} {x : Int32} {st : List Value} {h : mj_H} : mj_R 127 (8, [l0, l1, .int x, l3, l4, l5], st, h) = mj_R 127 (9, [l0, l1, .int x, l3, l4, l5], .int x :: st, h) := mj_R_next rfl rfl
theorem mq_127_9 {l0 l1 l2 l3 l4 l5 : Value} {x y : Int32} {st : List Value} {h : mj_H} : mj_R 127 (9, [l0, l1, l2, l3, l4, l5], .int y :: .int x :: st, h) = mj_R 127 (10, [l0, l1, l2, l3, l4, l5], .int (x + y) :: st, h) := mj_R_next rfl rfl
theorem mq_127_10 {l1 l2 l3 l4 l5 : Value} {x : Nat} {st : List Value} {h : mj_H} : mj_R 127 (10, [.ref x, l1, l2, l3, l4, l5], st, h) = mj_R 127 (11, [.ref x, l1, l2, l3, l4, l5], .ref x :: st, h) := mj_R_next rfl rfl
theorem mq_127_11 {l0 l2 l3 l4 l5 : Value} {x : Nat} {st : List Value} {h : mj_H} : mj_R 127 (11, [l0, .ref x, l2, l3, l4, l5], st, h) = mj_R 127 (12, [l0, .ref x, l2, l3, l4, l5], .ref x :: st, h) := mj_R_next rfl rfl
theorem mq_127_12 {l0 l1 l3 l4 l5 : Value} {x : Int32} {st : List Value} {h : mj_H} : mj_R 127 (12, [l0, l1, .int x, l3, l4, l5], st, h) = mj_R 127 (13, [l0, l1, .int x, l3, l4, l5], .int x :: st, h) := mj_R_next rfl rfl
theorem mq_127_13 {l0 l1 l2 l3 l4 l5 : Value} {a0 : Nat} {a1 : Nat} {a2 : Int32} {s0 : Value} {s1 : Value} {h : mj_H} : mj_R 127 (13, [l0, l1, l2, l3, l4, l5], [.int a2, .ref a1, .ref a0, s0, s1], h) = if mj_isC h a0 7 = true then mj_bd (mj_C 121 [.ref a0, .ref a1, .int a2] h) (fun r => mj_R 127 (16, [l0, l1, l2, l3, l4, l5], r.1.toList ++ [s0, s1], r.2)) else none := mj_R_cv rfl rfl
theorem mq_127_16 {l0 l1 l2 l3 l4 l5 : Value} {x : Nat} {j v : Int32} {st : List Value} {h : mj_H} : mj_R 127 (16, [l0, l1, l2, l3, l4, l5], .int v :: .int j :: .ref x :: st, h) = mj_bd (mj_pi h x j v) (fun h' => mj_R 127 (17, [l0, l1, l2, l3, l4, l5], st, h')) := mj_R_pi rfl
theorem mq_127_17 {l0 l2 l3 l4 l5 : Value} {x : Nat} {st : List Value} {h : mj_H} : mj_R 127 (17, [l0, .ref x, l2, l3, l4, l5], st, h) = mj_R 127 (18, [l0, .ref x, l2, l3, l4, l5], .ref x :: st, h) := mj_R_next rfl rfl
theorem mq_127_18 {l0 l1 l2 l3 l4 l5 : Value} {st : List Value} {h : mj_H} : mj_R 127 (18, [l0, l1, l2, l3, l4, l5], st, h) = mj_R 127 (19, [l0, l1, l2, l3, l4, l5], .int (nI 0) :: st, h) := mj_R_next rfl rfl
theorem mq_127_19 {l0 l1 l2 l3 l4 l5 : Value} {x : Int32} {y : Nat} {st : List Value} {h : mj_H} : mj_R 127 (19, [l0, l1, l2, l3, l4, l5], .int x :: .ref y :: st, h) = mj_R 127 (20, [l0, l1, l2, l3, l4, l5], .int x :: .ref y :: .int x :: .ref y :: st, h) := mj_R_next rfl rfl
theorem mq_127_20 {l0 l1 l2 l3 l4 l5 : Value} {x : Nat} {j : Int32} {st : List Value} {h : mj_H} : mj_R 127 (20, [l0, l1, l2, l3, l4, l5], .int j :: .ref x :: st, h) = mj_bd (mj_gi h x j) (fun v => mj_R 127 (21, [l0, l1, l2, l3, l4, l5], .int v :: st, h)) := mj_R_gi rfl
theorem mq_127_21 {l0 l2 l3 l4 l5 : Value} {x : Nat} {st : List Value} {h : mj_H} : mj_R 127 (21, [l0, .ref x, l2, l3, l4, l5], st, h) = mj_R 127 (22, [l0, .ref x, l2, l3, l4, l5], .ref x :: st, h) := mj_R_next rfl rfl
theorem mq_127_22 {l0 l1 l2 l3 l4 l5 : Value} {st : List Value} {h : mj_H} : mj_R 127 (22, [l0, l1, l2, l3, l4, l5], st, h) = mj_R 127 (23, [l0, l1, l2, l3, l4, l5], .int (nI 5) :: st, h) := mj_R_next rfl rfl
theorem mq_127_23 {l0 l1 l3 l4 l5 : Value} {x : Int32} {st : List Value} {h : mj_H} : mj_R 127 (23, [l0, l1, .int x, l3, l4, l5], st, h) = mj_R 127 (24, [l0, l1, .int x, l3, l4, l5], .int x :: st, h) := mj_R_next rfl rfl
theorem mq_127_24 {l0 l1 l2 l3 l4 l5 : Value} {x y : Int32} {st : List Value} {h : mj_H} : mj_R 127 (24, [l0, l1, l2, l3, l4, l5], .int y :: .int x :: st, h) = mj_R 127 (25, [l0, l1, l2, l3, l4, l5], .int (x + y) :: st, h) := mj_R_next rfl rfl
theorem mq_127_25 {l0 l1 l2 l3 l4 l5 : Value} {x : Nat} {j : Int32} {st : List Value} {h : mj_H} : mj_R 127 (25, [l0, l1, l2, l3, l4, l5], .int j :: .ref x :: st, h) = mj_bd (mj_gi h x j) (fun v => mj_R 127 (26, [l0, l1, l2, l3, l4, l5], .int v :: st, h)) := mj_R_gi rfl
theorem mq_127_26 {l0 l1 l2 l3 l4 l5 : Value} {x y : Int32} {st : List Value} {h : mj_H} : mj_R 127 (26, [l0, l1, l2, l3, l4, l5], .int y :: .int x :: st, h) = mj_R 127 (27, [l0, l1, l2, l3, l4, l5], .int (x - y) :: st, h) := mj_R_next rfl rfl
theorem mq_127_27 {l0 l1 l2 l3 l4 l5 : Value} {x : Nat} {j v : Int32} {st : List Value} {h : mj_H} : mj_R 127 (27, [l0, l1, l2, l3, l4, l5], .int v :: .int j :: .ref x :: st, h) = mj_bd (mj_pi h x j v) (fun h' => mj_R 127 (28, [l0, l1, l2, l3, l4, l5], st, h')) := mj_R_pi rfl
theorem mq_127_28 {l0 l2 l3 l4 l5 : Value} {x : Nat} {st : List Value} {h : mj_H} : mj_R 127 (28, [l0, .ref x, l2, l3, l4, l5], st, h) = mj_R 127 (29, [l0, .ref x, l2, l3, l4, l5], .ref x :: st, h) := mj_R_next rfl rfl
theorem mq_127_29 {l0 l1 l2 l3 l4 l5 : Value} {st : List Value} {h : mj_H} : mj_R 127 (29, [l0, l1, l2, l3, l4, l5], st, h) = mj_R 127 (30, [l0, l1, l2, l3, l4, l5], .int (nI 1) :: st, h) := mj_R_next rfl rfl
theorem mq_127_30 {l0 l1 l2 l3 l4 l5 : Value} {x : Int32} {y : Nat} {st : List Value} {h : mj_H} : mj_R 127 (30, [l0, l1, l2, l3, l4, l5], .int x :: .ref y :: st, h) = mj_R 127 (31, [l0, l1, l2, l3, l4, l5], .int x :: .ref y :: .int x :: .ref y :: st, h) := mj_R_next rfl rfl
theorem mq_127_31 {l0 l1 l2 l3 l4 l5 : Value} {x : Nat} {j : Int32} {st : List Value} {h : mj_H} : mj_R 127 (31, [l0, l1, l2, l3, l4, l5], .int j :: .ref x :: st, h) = mj_bd (mj_gi h x j) (fun v => mj_R 127 (32, [l0, l1, l2, l3, l4, l5], .int v :: st, h)) := mj_R_gi rfl
theorem mq_127_32 {l0 l1 l2 l3 l4 l5 : Value} {st : List Value} {h : mj_H} : mj_R 127 (32, [l0, l1, l2, l3, l4, l5], st, h) = mj_R 127 (33, [l0, l1, l2, l3, l4, l5], .int (nI 1) :: st, h) := mj_R_next rfl rfl
theorem mq_127_33 {l0 l1 l3 l4 l5 : Value} {x : Int32} {st : List Value} {h : mj_H} : mj_R 127 (33, [l0, l1, .int x, l3, l4, l5], st, h) = mj_R 127 (34, [l0, l1, .int x, l3, l4, l5], .int x :: st, h) := mj_R_next rfl rfl
theorem mq_127_34 {l0 l1 l2 l3 l4 l5 : Value} {x y : Int32} {st : List Value} {h : mj_H} : mj_R 127 (34, [l0, l1, l2, l3, l4, l5], .int y :: .int x :: st, h) = mj_R 127 (35, [l0, l1, l2, l3, l4, l5], .int (x <<< (y &&& 31)) :: st, h) := mj_R_next rfl rfl
theorem mq_127_35 {l0 l1 l2 l3 l4 l5 : Value} {x y : Int32} {st : List Value} {h : mj_H} : mj_R 127 (35, [l0, l1, l2, l3, l4, l5], .int y :: .int x :: st, h) = mj_R 127 (36, [l0, l1, l2, l3, l4, l5], .int (x ||| y) :: st, h) := mj_R_next rfl rfl
theorem mq_127_36 {l0 l1 l2 l3 l4 l5 : Value} {x : Nat} {j v : Int32} {st : List Value} {h : mj_H} : mj_R 127 (36, [l0, l1, l2, l3, l4, l5], .int v :: .int j :: .ref x :: st, h) = mj_bd (mj_pi h x j v) (fun h' => mj_R 127 (37, [l0, l1, l2, l3, l4, l5], st, h')) := mj_R_pi rfl
theorem mq_127_37 {l0 l2 l3 l4 l5 : Value} {x : Nat} {st : List Value} {h : mj_H} : mj_R 127 (37, [l0, .ref x, l2, l3, l4, l5], st, h) = mj_R 127 (38, [l0, .ref x, l2, l3, l4, l5], .ref x :: st, h) := mj_R_next rfl rfl
theorem mq_127_38 {l0 l1 l2 l3 l4 l5 : Value} {st : List Value} {h : mj_H} : mj_R 127 (38, [l0, l1, l2, l3, l4, l5], st, h) = mj_R 127 (39, [l0, l1, l2, l3, l4, l5], .int (nI 3) :: st, h) := mj_R_next rfl rfl
theorem mq_127_39 {l0 l1 l2 l3 l4 l5 : Value} {x : Int32} {y : Nat} {st : List Value} {h : mj_H} : mj_R 127 (39, [l0, l1, l2, l3, l4, l5], .int x :: .ref y :: st, h) = mj_R 127 (40, [l0, l1, l2, l3, l4, l5], .int x :: .ref y :: .int x :: .ref y :: st, h) := mj_R_next rfl rfl
theorem mq_127_40 {l0 l1 l2 l3 l4 l5 : Value} {x : Nat} {j : Int32} {st : List Value} {h : mj_H} : mj_R 127 (40, [l0, l1, l2, l3, l4, l5], .int j :: .ref x :: st, h) = mj_bd (mj_gi h x j) (fun v => mj_R 127 (41, [l0, l1, l2, l3, l4, l5], .int v :: st, h)) := mj_R_gi rfl
theorem mq_127_41 {l0 l1 l2 l3 l4 l5 : Value} {st : List Value} {h : mj_H} : mj_R 127 (41, [l0, l1, l2, l3, l4, l5], st, h) = mj_R 127 (42, [l0, l1, l2, l3, l4, l5], .int (nI 1) :: st, h) := mj_R_next rfl rfl
theorem mq_127_42 {l0 l1 l2 l3 l4 l5 : Value} {x y : Int32} {st : List Value} {h : mj_H} : mj_R 127 (42, [l0, l1, l2, l3, l4, l5], .int y :: .int x :: st, h) = mj_R 127 (43, [l0, l1, l2, l3, l4, l5], .int (x + y) :: st, h) := mj_R_next rfl rfl
theorem mq_127_43 {l0 l1 l2 l3 l4 l5 : Value} {x : Nat} {j v : Int32} {st : List Value} {h : mj_H} : mj_R 127 (43, [l0, l1, l2, l3, l4, l5], .int v :: .int j :: .ref x :: st, h) = mj_bd (mj_pi h x j v) (fun h' => mj_R 127 (44, [l0, l1, l2, l3, l4, l5], st, h')) := mj_R_pi rfl
theorem mq_127_44 {l0 l1 l2 l3 l4 l5 : Value} {st : List Value} {h : mj_H} : mj_R 127 (44, [l0, l1, l2, l3, l4, l5], st, h) = mj_R 127 (45, [l0, l1, l2, l3, l4, l5], .int (nI 0) :: st, h) := mj_R_next rfl rfl
theorem mq_127_45 {l0 l1 l2 l3 l4 l5 : Value} {x : Int32} {st : List Value} {h : mj_H} : mj_R 127 (45, [l0, l1, l2, l3, l4, l5], .int x :: st, h) = mj_R 127 (47, [l0, l1, l2, l3, .int x, l5], st, h) := mj_R_next rfl rfl
theorem mq_127_47 {l0 l1 l2 l3 l5 : Value} {x : Int32} {st : List Value} {h : mj_H} : mj_R 127 (47, [l0, l1, l2, l3, .int x, l5], st, h) = mj_R 127 (49, [l0, l1, l2, l3, .int x, l5], .int x :: st, h) := mj_R_next rfl rfl
theorem mq_127_49 {l1 l2 l3 l4 l5 : Value} {x : Nat} {st : List Value} {h : mj_H} : mj_R 127 (49, [.ref x, l1, l2, l3, l4, l5], st, h) = mj_R 127 (50, [.ref x, l1, l2, l3, l4, l5], .ref x :: st, h) := mj_R_next rfl rfl
theorem mq_127_50 {l0 l1 l2 l3 l4 l5 : Value} {x : Nat} {st : List Value} {h : mj_H} : mj_R 127 (50, [l0, l1, l2, l3, l4, l5], .ref x :: st, h) = mj_bd (mj_gf h x 7 4) (fun v => mj_R 127 (53, [l0, l1, l2, l3, l4, l5], v :: st, h)) := mj_R_gf rfl
theorem mq_127_53 {l0 l1 l2 l3 l4 l5 : Value} {x y : Int32} {st : List Value} {h : mj_H} : mj_R 127 (53, [l0, l1, l2, l3, l4, l5], .int y :: .int x :: st, h) = if y ≤ x then mj_R 127 (147, [l0, l1, l2, l3, l4, l5], st, h) else mj_R 127 (56, [l0, l1, l2, l3, l4, l5], st, h) := mj_R_jge rfl
theorem mq_127_56 {l0 l2 l3 l4 l5 : Value} {x : Nat} {st : List Value} {h : mj_H} : mj_R 127 (56, [l0, .ref x, l2, l3, l4, l5], st, h) = mj_R 127 (57, [l0, .ref x, l2, l3, l4, l5], .ref x :: st, h) := mj_R_next rfl rfl
theorem mq_127_57 {l0 l1 l2 l3 l4 l5 : Value} {st : List Value} {h : mj_H} : mj_R 127 (57, [l0, l1, l2, l3, l4, l5], st, h) = mj_R 127 (58, [l0, l1, l2, l3, l4, l5], .int (nI 1) :: st, h) := mj_R_next rfl rfl
theorem mq_127_58 {l0 l1 l2 l3 l4 l5 : Value} {x : Nat} {j : Int32} {st : List Value} {h : mj_H} : mj_R 127 (58, [l0, l1, l2, l3, l4, l5], .int j :: .ref x :: st, h) = mj_bd (mj_gi h x j) (fun v => mj_R 127 (59, [l0, l1, l2, l3, l4, l5], .int v :: st, h)) := mj_R_gi rfl
theorem mq_127_59 {l0 l1 l3 l4 l5 : Value} {x : Int32} {st : List Value} {h : mj_H} : mj_R 127 (59, [l0, l1, .int x, l3, l4, l5], st, h) = mj_R 127 (60, [l0, l1, .int x, l3, l4, l5], .int x :: st, h) := mj_R_next rfl rfl
theorem mq_127_60 {l0 l1 l2 l3 l4 l5 : Value} {a0 : Int32} {a1 : Int32} {h : mj_H} : mj_R 127 (60, [l0, l1, l2, l3, l4, l5], [.int a1, .int a0], h) = mj_bd (mj_C 113 [.int a0, .int a1] h) (fun r => mj_R 127 (63, [l0, l1, l2, l3, l4, l5], r.1.toList ++ [], r.2)) := mj_R_cs rfl rfl
theorem mq_127_63 {l0 l1 l2 l3 l4 l5 : Value} {x : Int32} {st : List Value} {h : mj_H} : mj_R 127 (63, [l0, l1, l2, l3, l4, l5], .int x :: st, h) = if x = nI 0 then mj_R 127 (147, [l0, l1, l2, l3, l4, l5], st, h) else mj_R 127 (66, [l0, l1, l2, l3, l4, l5], st, h) := mj_R_ieq rfl
theorem mq_127_66 {l0 l1 l2 l3 l5 : Value} {x : Int32} {st : List Value} {h : mj_H} : mj_R 127 (66, [l0, l1, l2, l3, .int x, l5], st, h) = mj_R 127 (68, [l0, l1, l2, l3, .int x, l5], .int x :: st, h) := mj_R_next rfl rfl
theorem mq_127_68 {l0 l1 l3 l4 l5 : Value} {x : Int32} {st : List Value} {h : mj_H} : mj_R 127 (68, [l0, l1, .int x, l3, l4, l5], st, h) = mj_R 127 (69, [l0, l1, .int x, l3, l4, l5], .int x :: st, h) := mj_R_next rfl rfl
theorem mq_127_69 {l0 l1 l2 l3 l4 l5 : Value} {x y : Int32} {st : List Value} {h : mj_H} : mj_R 127 (69, [l0, l1, l2, l3, l4, l5], .int y :: .int x :: st, h) = if x = y then mj_R 127 (141, [l0, l1, l2, l3, l4, l5], st, h) else mj_R 127 (72, [l0, l1, l2, l3, l4, l5], st, h) := mj_R_jeq rfl
theorem mq_127_72 {l0 l2 l3 l4 l5 : Value} {x : Nat} {st : List Value} {h : mj_H} : mj_R 127 (72, [l0, .ref x, l2, l3, l4, l5], st, h) = mj_R 127 (73, [l0, .ref x, l2, l3, l4, l5], .ref x :: st, h) := mj_R_next rfl rfl
theorem mq_127_73 {l0 l1 l2 l3 l4 l5 : Value} {st : List Value} {h : mj_H} : mj_R 127 (73, [l0, l1, l2, l3, l4, l5], st, h) = mj_R 127 (74, [l0, l1, l2, l3, l4, l5], .int (nI 1) :: st, h) := mj_R_next rfl rfl
theorem mq_127_74 {l0 l1 l2 l3 l4 l5 : Value} {x : Nat} {j : Int32} {st : List Value} {h : mj_H} : mj_R 127 (74, [l0, l1, l2, l3, l4, l5], .int j :: .ref x :: st, h) = mj_bd (mj_gi h x j) (fun v => mj_R 127 (75, [l0, l1, l2, l3, l4, l5], .int v :: st, h)) := mj_R_gi rfl
theorem mq_127_75 {l1 l2 l3 l4 l5 : Value} {x : Nat} {st : List Value} {h : mj_H} : mj_R 127 (75, [.ref x, l1, l2, l3, l4, l5], st, h) = mj_R 127 (76, [.ref x, l1, l2, l3, l4, l5], .ref x :: st, h) := mj_R_next rfl rfl
theorem mq_127_76 {l0 l1 l2 l3 l4 l5 : Value} {x : Nat} {st : List Value} {h : mj_H} : mj_R 127 (76, [l0, l1, l2, l3, l4, l5], .ref x :: st, h) = mj_bd (mj_gf h x 7 7) (fun v => mj_R 127 (79, [l0, l1, l2, l3, l4, l5], v :: st, h)) := mj_R_gf rfl
theorem mq_127_79 {l0 l1 l3 l4 l5 : Value} {x : Int32} {st : List Value} {h : mj_H} : mj_R 127 (79, [l0, l1, .int x, l3, l4, l5], st, h) = mj_R 127 (80, [l0, l1, .int x, l3, l4, l5], .int x :: st, h) := mj_R_next rfl rfl
theorem mq_127_80 {l0 l1 l2 l3 l4 l5 : Value} {x : Nat} {j : Int32} {st : List Value} {h : mj_H} : mj_R 127 (80, [l0, l1, l2, l3, l4, l5], .int j :: .ref x :: st, h) = mj_bd (mj_gi h x j) (fun v => mj_R 127 (81, [l0, l1, l2, l3, l4, l5], .int v :: st, h)) := mj_R_gi rfl
theorem mq_127_81 {l0 l1 l2 l3 l4 l5 : Value} {x y : Int32} {st : List Value} {h : mj_H} : mj_R 127 (81, [l0, l1, l2, l3, l4, l5], .int y :: .int x :: st, h) = mj_R 127 (82, [l0, l1, l2, l3, l4, l5], .int (x &&& y) :: st, h) := mj_R_next rfl rfl
theorem mq_127_82 {l0 l1 l2 l3 l5 : Value} {x : Int32} {st : List Value} {h : mj_H} : mj_R 127 (82, [l0, l1, l2, l3, .int x, l5], st, h) = mj_R 127 (84, [l0, l1, l2, l3, .int x, l5], .int x :: st, h) := mj_R_next rfl rfl
theorem mq_127_84 {l0 l1 l2 l3 l4 l5 : Value} {a0 : Int32} {a1 : Int32} {h : mj_H} : mj_R 127 (84, [l0, l1, l2, l3, l4, l5], [.int a1, .int a0], h) = mj_bd (mj_C 113 [.int a0, .int a1] h) (fun r => mj_R 127 (87, [l0, l1, l2, l3, l4, l5], r.1.toList ++ [], r.2)) := mj_R_cs rfl rfl
theorem mq_127_87 {l0 l1 l2 l3 l4 l5 : Value} {x : Int32} {st : List Value} {h : mj_H} : mj_R 127 (87, [l0, l1, l2, l3, l4, l5], .int x :: st, h) = if x = nI 0 then mj_R 127 (141, [l0, l1, l2, l3, l4, l5], st, h) else mj_R 127 (90, [l0, l1, l2, l3, l4, l5], st, h) := mj_R_ieq rfl
theorem mq_127_90 {l1 l2 l3 l4 l5 : Value} {x : Nat} {st : List Value} {h : mj_H} : mj_R 127 (90, [.ref x, l1, l2, l3, l4, l5], st, h) = mj_R 127 (91, [.ref x, l1, l2, l3, l4, l5], .ref x :: st, h) := mj_R_next rfl rfl
theorem mq_127_91 {l0 l1 l2 l3 l4 l5 : Value} {x : Nat} {st : List Value} {h : mj_H} : mj_R 127 (91, [l0, l1, l2, l3, l4, l5], .ref x :: st, h) = mj_bd (mj_gf h x 7 6) (fun v => mj_R 127 (94, [l0, l1, l2, l3, l4, l5], v :: st, h)) := mj_R_gf rfl
theorem mq_127_94 {l0 l1 l2 l3 l4 l5 : Value} {st : List Value} {h : mj_H} : mj_R 127 (94, [l0, l1, l2, l3, l4, l5], st, h) = mj_R 127 (95, [l0, l1, l2, l3, l4, l5], .int (nI 4) :: st, h) := mj_R_next rfl rfl
theorem mq_127_95 {l0 l1 l2 l3 l5 : Value} {x : Int32} {st : List Value} {h : mj_H} : mj_R 127 (95, [l0, l1, l2, l3, .int x, l5], st, h) = mj_R 127 (97, [l0, l1, l2, l3, .int x, l5], .int x :: st, h) := mj_R_next rfl rfl
theorem mq_127_97 {l0 l1 l2 l3 l4 l5 : Value} {x y : Int32} {st : List Value} {h : mj_H} : mj_R 127 (97, [l0, l1, l2, l3, l4, l5], .int y :: .int x :: st, h) = mj_R 127 (98, [l0, l1, l2, l3, l4, l5], .int (x * y) :: st, h) := mj_R_next rfl rfl
theorem mq_127_98 {l0 l1 l2 l3 l4 l5 : Value} {st : List Value} {h : mj_H} : mj_R 127 (98, [l0, l1, l2, l3, l4, l5], st, h) = mj_R 127 (99, [l0, l1, l2, l3, l4, l5], .int (nI 2) :: st, h) := mj_R_next rfl rfl
theorem mq_127_99 {l0 l1 l2 l3 l4 l5 : Value} {x y : Int32} {st : List Value} {h : mj_H} : mj_R 127 (99, [l0, l1, l2, l3, l4, l5], .int y :: .int x :: st, h) = mj_R 127 (100, [l0, l1, l2, l3, l4, l5], .int (x + y) :: st, h) := mj_R_next rfl rfl
theorem mq_127_100 {l0 l1 l2 l3 l4 l5 : Value} {x : Nat} {j : Int32} {st : List Value} {h : mj_H} : mj_R 127 (100, [l0, l1, l2, l3, l4, l5], .int j :: .ref x :: st, h) = mj_bd (mj_gi h x j) (fun v => mj_R 127 (101, [l0, l1, l2, l3, l4, l5], .int v :: st, h)) := mj_R_gi rfl
theorem mq_127_101 {l1 l2 l3 l4 l5 : Value} {x : Nat} {st : List Value} {h : mj_H} : mj_R 127 (101, [.ref x, l1, l2, l3, l4, l5], st, h) = mj_R 127 (102, [.ref x, l1, l2, l3, l4, l5], .ref x :: st, h) := mj_R_next rfl rfl
theorem mq_127_102 {l0 l1 l2 l3 l4 l5 : Value} {x : Nat} {st : List Value} {h : mj_H} : mj_R 127 (102, [l0, l1, l2, l3, l4, l5], .ref x :: st, h) = mj_bd (mj_gf h x 7 6) (fun v => mj_R 127 (105, [l0, l1, l2, l3, l4, l5], v :: st, h)) := mj_R_gf rfl
theorem mq_127_105 {l0 l1 l2 l3 l4 l5 : Value} {st : List Value} {h : mj_H} : mj_R 127 (105, [l0, l1, l2, l3, l4, l5], st, h) = mj_R 127 (106, [l0, l1, l2, l3, l4, l5], .int (nI 4) :: st, h) := mj_R_next rfl rfl
theorem mq_127_106 {l0 l1 l3 l4 l5 : Value} {x : Int32} {st : List Value} {h : mj_H} : mj_R 127 (106, [l0, l1, .int x, l3, l4, l5], st, h) = mj_R 127 (107, [l0, l1, .int x, l3, l4, l5], .int x :: st, h) := mj_R_next rfl rfl
theorem mq_127_107 {l0 l1 l2 l3 l4 l5 : Value} {x y : Int32} {st : List Value} {h : mj_H} : mj_R 127 (107, [l0, l1, l2, l3, l4, l5], .int y :: .int x :: st, h) = mj_R 127 (108, [l0, l1, l2, l3, l4, l5], .int (x * y) :: st, h) := mj_R_next rfl rfl
theorem mq_127_108 {l0 l1 l2 l3 l4 l5 : Value} {st : List Value} {h : mj_H} : mj_R 127 (108, [l0, l1, l2, l3, l4, l5], st, h) = mj_R 127 (109, [l0, l1, l2, l3, l4, l5], .int (nI 2) :: st, h) := mj_R_next rfl rfl
theorem mq_127_109 {l0 l1 l2 l3 l4 l5 : Value} {x y : Int32} {st : List Value} {h : mj_H} : mj_R 127 (109, [l0, l1, l2, l3, l4, l5], .int y :: .int x :: st, h) = mj_R 127 (110, [l0, l1, l2, l3, l4, l5], .int (x + y) :: st, h) := mj_R_next rfl rfl
theorem mq_127_110 {l0 l1 l2 l3 l4 l5 : Value} {x : Nat} {j : Int32} {st : List Value} {h : mj_H} : mj_R 127 (110, [l0, l1, l2, l3, l4, l5], .int j :: .ref x :: st, h) = mj_bd (mj_gi h x j) (fun v => mj_R 127 (111, [l0, l1, l2, l3, l4, l5], .int v :: st, h)) := mj_R_gi rfl
theorem mq_127_111 {l0 l1 l2 l3 l4 l5 : Value} {x y : Int32} {st : List Value} {h : mj_H} : mj_R 127 (111, [l0, l1, l2, l3, l4, l5], .int y :: .int x :: st, h) = if y ≤ x then mj_R 127 (119, [l0, l1, l2, l3, l4, l5], st, h) else mj_R 127 (114, [l0, l1, l2, l3, l4, l5], st, h) := mj_R_jge rfl
theorem mq_127_114 {l0 l1 l2 l3 l5 : Value} {x : Int32} {st : List Value} {h : mj_H} : mj_R 127 (114, [l0, l1, l2, l3, .int x, l5], st, h) = mj_R 127 (116, [l0, l1, l2, l3, .int x, l5], .int x :: st, h) := mj_R_next rfl rfl
theorem mq_127_116 {l0 l1 l2 l3 l4 l5 : Value} {st : List Value} {h : mj_H} : mj_R 127 (116, [l0, l1, l2, l3, l4, l5], st, h) = mj_R 127 (120, [l0, l1, l2, l3, l4, l5], st, h) := mj_R_next rfl rfl
theorem mq_127_119 {l0 l1 l3 l4 l5 : Value} {x : Int32} {st : List Value} {h : mj_H} : mj_R 127 (119, [l0, l1, .int x, l3, l4, l5], st, h) = mj_R 127 (120, [l0, l1, .int x, l3, l4, l5], .int x :: st, h) := mj_R_next rfl rfl
theorem mq_127_120 {l0 l1 l2 l3 l4 l5 : Value} {x : Int32} {st : List Value} {h : mj_H} : mj_R 127 (120, [l0, l1, l2, l3, l4, l5], .int x :: st, h) = mj_R 127 (122, [l0, l1, l2, l3, l4, .int x], st, h) := mj_R_next rfl rfl
theorem mq_127_122 {l0 l2 l3 l4 l5 : Value} {x : Nat} {st : List Value} {h : mj_H} : mj_R 127 (122, [l0, .ref x, l2, l3, l4, l5], st, h) = mj_R 127 (123, [l0, .ref x, l2, l3, l4, l5], .ref x :: st, h) := mj_R_next rfl rfl
theorem mq_127_123 {l0 l1 l2 l3 l4 l5 : Value} {st : List Value} {h : mj_H} : mj_R 127 (123, [l0, l1, l2, l3, l4, l5], st, h) = mj_R 127 (124, [l0, l1, l2, l3, l4, l5], .int (nI 1) :: st, h) := mj_R_next rfl rfl
theorem mq_127_124 {l0 l1 l2 l3 l4 l5 : Value} {x : Int32} {y : Nat} {st : List Value} {h : mj_H} : mj_R 127 (124, [l0, l1, l2, l3, l4, l5], .int x :: .ref y :: st, h) = mj_R 127 (125, [l0, l1, l2, l3, l4, l5], .int x :: .ref y :: .int x :: .ref y :: st, h) := mj_R_next rfl rfl
theorem mq_127_125 {l0 l1 l2 l3 l4 l5 : Value} {x : Nat} {j : Int32} {st : List Value} {h : mj_H} : mj_R 127 (125, [l0, l1, l2, l3, l4, l5], .int j :: .ref x :: st, h) = mj_bd (mj_gi h x j) (fun v => mj_R 127 (126, [l0, l1, l2, l3, l4, l5], .int v :: st, h)) := mj_R_gi rfl
theorem mq_127_126 {l0 l1 l2 l3 l4 l5 : Value} {st : List Value} {h : mj_H} : mj_R 127 (126, [l0, l1, l2, l3, l4, l5], st, h) = mj_R 127 (127, [l0, l1, l2, l3, l4, l5], .int (nI 1) :: st, h) := mj_R_next rfl rfl
theorem mq_127_127 {l0 l1 l2 l3 l4 : Value} {x : Int32} {st : List Value} {h : mj_H} : mj_R 127 (127, [l0, l1, l2, l3, l4, .int x], st, h) = mj_R 127 (129, [l0, l1, l2, l3, l4, .int x], .int x :: st, h) := mj_R_next rfl rfl
theorem mq_127_129 {l0 l1 l2 l3 l4 l5 : Value} {x y : Int32} {st : List Value} {h : mj_H} : mj_R 127 (129, [l0, l1, l2, l3, l4, l5], .int y :: .int x :: st, h) = mj_R 127 (130, [l0, l1, l2, l3, l4, l5], .int (x <<< (y &&& 31)) :: st, h) := mj_R_next rfl rfl
theorem mq_127_130 {l0 l1 l2 l3 l4 l5 : Value} {st : List Value} {h : mj_H} : mj_R 127 (130, [l0, l1, l2, l3, l4, l5], st, h) = mj_R 127 (131, [l0, l1, l2, l3, l4, l5], .int (-1) :: st, h) := mj_R_next rfl rfl
theorem mq_127_131 {l0 l1 l2 l3 l4 l5 : Value} {x y : Int32} {st : List Value} {h : mj_H} : mj_R 127 (131, [l0, l1, l2, l3, l4, l5], .int y :: .int x :: st, h) = mj_R 127 (132, [l0, l1, l2, l3, l4, l5], .int (x ^^^ y) :: st, h) := mj_R_next rfl rfl
theorem mq_127_132 {l0 l1 l2 l3 l4 l5 : Value} {x y : Int32} {st : List Value} {h : mj_H} : mj_R 127 (132, [l0, l1, l2, l3, l4, l5], .int y :: .int x :: st, h) = mj_R 127 (133, [l0, l1, l2, l3, l4, l5], .int (x &&& y) :: st, h) := mj_R_next rfl rfl
theorem mq_127_133 {l0 l1 l2 l3 l4 l5 : Value} {x : Nat} {j v : Int32} {st : List Value} {h : mj_H} : mj_R 127 (133, [l0, l1, l2, l3, l4, l5], .int v :: .int j :: .ref x :: st, h) = mj_bd (mj_pi h x j v) (fun h' => mj_R 127 (134, [l0, l1, l2, l3, l4, l5], st, h')) := mj_R_pi rfl
theorem mq_127_134 {l0 l1 l2 l4 l5 : Value} {x : Int32} {st : List Value} {h : mj_H} : mj_R 127 (134, [l0, l1, l2, .int x, l4, l5], st, h) = mj_R 127 (135, [l0, l1, l2, .int x, l4, l5], .int x :: st, h) := mj_R_next rfl rfl
theorem mq_127_135 {l0 l1 l2 l3 l4 l5 : Value} {st : List Value} {h : mj_H} : mj_R 127 (135, [l0, l1, l2, l3, l4, l5], st, h) = mj_R 127 (136, [l0, l1, l2, l3, l4, l5], .int (nI 1) :: st, h) := mj_R_next rfl rfl
theorem mq_127_136 {l0 l1 l2 l3 l4 : Value} {x : Int32} {st : List Value} {h : mj_H} : mj_R 127 (136, [l0, l1, l2, l3, l4, .int x], st, h) = mj_R 127 (138, [l0, l1, l2, l3, l4, .int x], .int x :: st, h) := mj_R_next rfl rfl
theorem mq_127_138 {l0 l1 l2 l3 l4 l5 : Value} {x y : Int32} {st : List Value} {h : mj_H} : mj_R 127 (138, [l0, l1, l2, l3, l4, l5], .int y :: .int x :: st, h) = mj_R 127 (139, [l0, l1, l2, l3, l4, l5], .int (x <<< (y &&& 31)) :: st, h) := mj_R_next rfl rfl
theorem mq_127_139 {l0 l1 l2 l3 l4 l5 : Value} {x y : Int32} {st : List Value} {h : mj_H} : mj_R 127 (139, [l0, l1, l2, l3, l4, l5], .int y :: .int x :: st, h) = mj_R 127 (140, [l0, l1, l2, l3, l4, l5], .int (x ||| y) :: st, h) := mj_R_next rfl rfl
theorem mq_127_140 {l0 l1 l2 l3 l4 l5 : Value} {x : Int32} {st : List Value} {h : mj_H} : mj_R 127 (140, [l0, l1, l2, l3, l4, l5], .int x :: st, h) = mj_R 127 (141, [l0, l1, l2, .int x, l4, l5], st, h) := mj_R_next rfl rfl
theorem mq_127_141 {l0 l1 l2 l3 l5 : Value} {x : Int32} {st : List Value} {h : mj_H} : mj_R 127 (141, [l0, l1, l2, l3, .int x, l5], st, h) = mj_R 127 (144, [l0, l1, l2, l3, .int (x + (nI 1)), l5], st, h) := mj_R_next rfl rfl
theorem mq_127_144 {l0 l1 l2 l3 l4 l5 : Value} {st : List Value} {h : mj_H} : mj_R 127 (144, [l0, l1, l2, l3, l4, l5], st, h) = mj_R 127 (47, [l0, l1, l2, l3, l4, l5], st, h) := mj_R_next rfl rfl
theorem mq_127_147 {l0 l1 l2 l4 l5 : Value} {x : Int32} {st : List Value} {h : mj_H} : mj_R 127 (147, [l0, l1, l2, .int x, l4, l5], st, h) = mj_R 127 (148, [l0, l1, l2, .int x, l4, l5], .int x :: st, h) := mj_R_next rfl rfl
theorem mq_127_148 {l0 l1 l2 l3 l4 l5 : Value} {x : Int32} {h : mj_H} : mj_R 127 (148, [l0, l1, l2, l3, l4, l5], [.int x], h) = some (some (.int x), h) := mj_R_ret rfl rfl
theorem mc_128 {a0 : Nat} {h : mj_H} : mj_C 128 [.ref a0] h = mj_R 128 (0, [.ref a0], [], h) := rfl
theorem mq_128_0 {x : Nat} {st : List Value} {h : mj_H} : mj_R 128 (0, [.ref x], st, h) = mj_R 128 (1, [.ref x], .ref x :: st, h) := mj_R_next rfl rfl
theorem mq_128_1 {l0 : Value} {st : List Value} {h : mj_H} : mj_R 128 (1, [l0], st, h) = mj_R 128 (2, [l0], .int (nI 0) :: st, h) := mj_R_next rfl rfl
theorem mq_128_2 {l0 : Value} {x : Nat} {v : Value} {st : List Value} {h : mj_H} : mj_R 128 (2, [l0], v :: .ref x :: st, h) = mj_bd (mj_pf h x 7 0 v) (fun h' => mj_R 128 (5, [l0], st, h')) := mj_R_pf rfl
theorem mq_128_5 {x : Nat} {st : List Value} {h : mj_H} : mj_R 128 (5, [.ref x], st, h) = mj_R 128 (6, [.ref x], .ref x :: st, h) := mj_R_next rfl rfl
theorem mq_128_6 {l0 : Value} {x : Nat} {st : List Value} {h : mj_H} : mj_R 128 (6, [l0], .ref x :: st, h) = mj_bd (mj_gf h x 7 15) (fun v => mj_R 128 (9, [l0], v :: st, h)) := mj_R_gf rfl
theorem mq_128_9 {l0 : Value} {st : List Value} {h : mj_H} : mj_R 128 (9, [l0], st, h) = mj_R 128 (10, [l0], .int (nI 3) :: st, h) := mj_R_next rfl rfl
theorem mq_128_10 {l0 : Value} {x : Nat} {j : Int32} {st : List Value} {h : mj_H} : mj_R 128 (10, [l0], .int j :: .ref x :: st, h) = mj_bd (mj_gi h x j) (fun v => mj_R 128 (11, [l0], .int v :: st, h)) := mj_R_gi rfl
theorem mq_128_11 {x : Nat} {st : List Value} {h : mj_H} : mj_R 128 (11, [.ref x], st, h) = mj_R 128 (12, [.ref x], .ref x :: st, h) := mj_R_next rfl rfl
theorem mq_128_12 {l0 : Value} {x : Nat} {st : List Value} {h : mj_H} : mj_R 128 (12, [l0], .ref x :: st, h) = mj_bd (mj_gf h x 7 4) (fun v => mj_R 128 (15, [l0], v :: st, h)) := mj_R_gf rfl
theorem mq_128_15 {l0 : Value} {x y : Int32} {st : List Value} {h : mj_H} : mj_R 128 (15, [l0], .int y :: .int x :: st, h) = if x < y then mj_R 128 (21, [l0], st, h) else mj_R 128 (18, [l0], st, h) := mj_R_jlt rfl
theorem mq_128_18 {l0 : Value} {st : List Value} {h : mj_H} : mj_R 128 (18, [l0], st, h) = mj_R 128 (20, [l0], .int (-3) :: st, h) := mj_R_next rfl rfl
theorem mq_128_20 {l0 : Value} {x : Int32} {h : mj_H} : mj_R 128 (20, [l0], [.int x], h) = some (some (.int x), h) := mj_R_ret rfl rfl
theorem mq_128_21 {x : Nat} {st : List Value} {h : mj_H} : mj_R 128 (21, [.ref x], st, h) = mj_R 128 (22, [.ref x], .ref x :: st, h) := mj_R_next rfl rfl
theorem mq_128_22 {l0 : Value} {a0 : Nat} {h : mj_H} : mj_R 128 (22, [l0], [.ref a0], h) = if mj_isC h a0 7 = true then mj_bd (mj_C 126 [.ref a0] h) (fun r => mj_R 128 (25, [l0], r.1.toList ++ [], r.2)) else none := mj_R_cv rfl rfl
theorem mq_128_25 {x : Nat} {st : List Value} {h : mj_H} : mj_R 128 (25, [.ref x], st, h) = mj_R 128 (26, [.ref x], .ref x :: st, h) := mj_R_next rfl rfl
theorem mq_128_26 {l0 : Value} {x : Nat} {st : List Value} {h : mj_H} : mj_R 128 (26, [l0], .ref x :: st, h) = mj_bd (mj_gf h x 7 15) (fun v => mj_R 128 (29, [l0], v :: st, h)) := mj_R_gf rfl
theorem mq_128_29 {l0 : Value} {st : List Value} {h : mj_H} : mj_R 128 (29, [l0], st, h) = mj_R 128 (30, [l0], .int (nI 3) :: st, h) := mj_R_next rfl rfl
theorem mq_128_30 {l0 : Value} {x : Int32} {y : Nat} {st : List Value} {h : mj_H} : mj_R 128 (30, [l0], .int x :: .ref y :: st, h) = mj_R 128 (31, [l0], .int x :: .ref y :: .int x :: .ref y :: st, h) := mj_R_next rfl rfl
theorem mq_128_31 {l0 : Value} {x : Nat} {j : Int32} {st : List Value} {h : mj_H} : mj_R 128 (31, [l0], .int j :: .ref x :: st, h) = mj_bd (mj_gi h x j) (fun v => mj_R 128 (32, [l0], .int v :: st, h)) := mj_R_gi rfl
theorem mq_128_32 {l0 : Value} {st : List Value} {h : mj_H} : mj_R 128 (32, [l0], st, h) = mj_R 128 (33, [l0], .int (nI 1) :: st, h) := mj_R_next rfl rfl
theorem mq_128_33 {l0 : Value} {x y : Int32} {st : List Value} {h : mj_H} : mj_R 128 (33, [l0], .int y :: .int x :: st, h) = mj_R 128 (34, [l0], .int (x + y) :: st, h) := mj_R_next rfl rfl
theorem mq_128_34 {l0 : Value} {x : Nat} {j v : Int32} {st : List Value} {h : mj_H} : mj_R 128 (34, [l0], .int v :: .int j :: .ref x :: st, h) = mj_bd (mj_pi h x j v) (fun h' => mj_R 128 (35, [l0], st, h')) := mj_R_pi rfl
theorem mq_128_35 {x : Nat} {st : List Value} {h : mj_H} : mj_R 128 (35, [.ref x], st, h) = mj_R 128 (36, [.ref x], .ref x :: st, h) := mj_R_next rfl rfl
theorem mq_128_36 {l0 : Value} {x : Nat} {st : List Value} {h : mj_H} : mj_R 128 (36, [l0], .ref x :: st, h) = mj_bd (mj_gf h x 7 15) (fun v => mj_R 128 (39, [l0], v :: st, h)) := mj_R_gf rfl
theorem mq_128_39 {l0 : Value} {st : List Value} {h : mj_H} : mj_R 128 (39, [l0], st, h) = mj_R 128 (40, [l0], .int (nI 3) :: st, h) := mj_R_next rfl rfl
theorem mq_128_40 {l0 : Value} {x : Nat} {j : Int32} {st : List Value} {h : mj_H} : mj_R 128 (40, [l0], .int j :: .ref x :: st, h) = mj_bd (mj_gi h x j) (fun v => mj_R 128 (41, [l0], .int v :: st, h)) := mj_R_gi rfl
theorem mq_128_41 {x : Nat} {st : List Value} {h : mj_H} : mj_R 128 (41, [.ref x], st, h) = mj_R 128 (42, [.ref x], .ref x :: st, h) := mj_R_next rfl rfl
theorem mq_128_42 {l0 : Value} {x : Nat} {st : List Value} {h : mj_H} : mj_R 128 (42, [l0], .ref x :: st, h) = mj_bd (mj_gf h x 7 4) (fun v => mj_R 128 (45, [l0], v :: st, h)) := mj_R_gf rfl
theorem mq_128_45 {l0 : Value} {x y : Int32} {st : List Value} {h : mj_H} : mj_R 128 (45, [l0], .int y :: .int x :: st, h) = if y ≤ x then mj_R 128 (57, [l0], st, h) else mj_R 128 (48, [l0], st, h) := mj_R_jge rfl
theorem mq_128_48 {x : Nat} {st : List Value} {h : mj_H} : mj_R 128 (48, [.ref x], st, h) = mj_R 128 (49, [.ref x], .ref x :: st, h) := mj_R_next rfl rfl
theorem mq_128_49 {l0 : Value} {x : Nat} {st : List Value} {h : mj_H} : mj_R 128 (49, [l0], .ref x :: st, h) = mj_bd (mj_gf h x 7 15) (fun v => mj_R 128 (52, [l0], v :: st, h)) := mj_R_gf rfl
theorem mq_128_52 {l0 : Value} {st : List Value} {h : mj_H} : mj_R 128 (52, [l0], st, h) = mj_R 128 (53, [l0], .int (nI 3) :: st, h) := mj_R_next rfl rfl
theorem mq_128_53 {l0 : Value} {x : Nat} {j : Int32} {st : List Value} {h : mj_H} : mj_R 128 (53, [l0], .int j :: .ref x :: st, h) = mj_bd (mj_gi h x j) (fun v => mj_R 128 (54, [l0], .int v :: st, h)) := mj_R_gi rfl
theorem mq_128_54 {l0 : Value} {st : List Value} {h : mj_H} : mj_R 128 (54, [l0], st, h) = mj_R 128 (59, [l0], st, h) := mj_R_next rfl rfl
theorem mq_128_57 {l0 : Value} {st : List Value} {h : mj_H} : mj_R 128 (57, [l0], st, h) = mj_R 128 (59, [l0], .int (-9) :: st, h) := mj_R_next rfl rfl
theorem mq_128_59 {l0 : Value} {x : Int32} {h : mj_H} : mj_R 128 (59, [l0], [.int x], h) = some (some (.int x), h) := mj_R_ret rfl rfl
theorem mc_129 {a0 : Nat} {h : mj_H} : mj_C 129 [.ref a0] h = mj_R 129 (0, [.ref a0], [], h) := rfl
theorem mq_129_0 {x : Nat} {st : List Value} {h : mj_H} : mj_R 129 (0, [.ref x], st, h) = mj_R 129 (1, [.ref x], .ref x :: st, h) := mj_R_next rfl rfl
theorem mq_129_1 {l0 : Value} {st : List Value} {h : mj_H} : mj_R 129 (1, [l0], st, h) = mj_R 129 (2, [l0], .int (nI 0) :: st, h) := mj_R_next rfl rfl
theorem mq_129_2 {l0 : Value} {x : Nat} {v : Value} {st : List Value} {h : mj_H} : mj_R 129 (2, [l0], v :: .ref x :: st, h) = mj_bd (mj_pf h x 7 0 v) (fun h' => mj_R 129 (5, [l0], st, h')) := mj_R_pf rfl
theorem mq_129_5 {x : Nat} {st : List Value} {h : mj_H} : mj_R 129 (5, [.ref x], st, h) = mj_R 129 (6, [.ref x], .ref x :: st, h) := mj_R_next rfl rfl
theorem mq_129_6 {l0 : Value} {a0 : Nat} {h : mj_H} : mj_R 129 (6, [l0], [.ref a0], h) = if mj_isC h a0 7 = true then mj_bd (mj_C 126 [.ref a0] h) (fun r => mj_R 129 (9, [l0], r.1.toList ++ [], r.2)) else none := mj_R_cv rfl rfl
theorem mq_129_9 {x : Nat} {st : List Value} {h : mj_H} : mj_R 129 (9, [.ref x], st, h) = mj_R 129 (10, [.ref x], .ref x :: st, h) := mj_R_next rfl rfl
theorem mq_129_10 {x : Nat} {st : List Value} {h : mj_H} : mj_R 129 (10, [.ref x], st, h) = mj_R 129 (11, [.ref x], .ref x :: st, h) := mj_R_next rfl rfl
theorem mq_129_11 {l0 : Value} {x : Nat} {st : List Value} {h : mj_H} : mj_R 129 (11, [l0], .ref x :: st, h) = mj_bd (mj_gf h x 7 15) (fun v => mj_R 129 (14, [l0], v :: st, h)) := mj_R_gf rfl
theorem mq_129_14 {l0 : Value} {a0 : Nat} {a1 : Nat} {h : mj_H} : mj_R 129 (14, [l0], [.ref a1, .ref a0], h) = if mj_isC h a0 7 = true then mj_bd (mj_C 130 [.ref a0, .ref a1] h) (fun r => mj_R 129 (17, [l0], r.1.toList ++ [], r.2)) else none := mj_R_cv rfl rfl
theorem mq_129_17 {l0 : Value} {x : Int32} {h : mj_H} : mj_R 129 (17, [l0], [.int x], h) = some (some (.int x), h) := mj_R_ret rfl rfl
theorem mc_130 {a0 : Nat} {a1 : Nat} {h : mj_H} : mj_C 130 [.ref a0, .ref a1] h = mj_R 130 (0, [.ref a0, .ref a1, .null, .null], [], h) := rfl
theorem mq_130_0 {l0 l1 l2 l3 : Value} {st : List Value} {h : mj_H} : mj_R 130 (0, [l0, l1, l2, l3], st, h) = mj_R 130 (1, [l0, l1, l2, l3], .int (nI 0) :: st, h) := mj_R_next rfl rfl
theorem mq_130_1 {l0 l1 l2 l3 : Value} {x : Int32} {st : List Value} {h : mj_H} : mj_R 130 (1, [l0, l1, l2, l3], .int x :: st, h) = mj_R 130 (2, [l0, l1, .int x, l3], st, h) := mj_R_next rfl rfl
theorem mq_130_2 {l0 l1 l2 l3 : Value} {st : List Value} {h : mj_H} : mj_R 130 (2, [l0, l1, l2, l3], st, h) = mj_R 130 (3, [l0, l1, l2, l3], .int (nI 0) :: st, h) := mj_R_next rfl rfl
theorem mq_130_3 {l0 l1 l2 l3 : Value} {x : Int32} {st : List Value} {h : mj_H} : mj_R 130 (3, [l0, l1, l2, l3], .int x :: st, h) = mj_R 130 (4, [l0, l1, l2, .int x], st, h) := mj_R_next rfl rfl
theorem mq_130_4 {l0 l1 l2 : Value} {x : Int32} {st : List Value} {h : mj_H} : mj_R 130 (4, [l0, l1, l2, .int x], st, h) = mj_R 130 (5, [l0, l1, l2, .int x], .int x :: st, h) := mj_R_next rfl rfl
theorem mq_130_5 {l1 l2 l3 : Value} {x : Nat} {st : List Value} {h : mj_H} : mj_R 130 (5, [.ref x, l1, l2, l3], st, h) = mj_R 130 (6, [.ref x, l1, l2, l3], .ref x :: st, h) := mj_R_next rfl rfl
theorem mq_130_6 {l0 l1 l2 l3 : Value} {x : Nat} {st : List Value} {h : mj_H} : mj_R 130 (6, [l0, l1, l2, l3], .ref x :: st, h) = mj_bd (mj_gf h x 7 4) (fun v => mj_R 130 (9, [l0, l1, l2, l3], v :: st, h)) := mj_R_gf rfl
theorem mq_130_9 {l0 l1 l2 l3 : Value} {x y : Int32} {st : List Value} {h : mj_H} : mj_R 130 (9, [l0, l1, l2, l3], .int y :: .int x :: st, h) = if y ≤ x then mj_R 130 (83, [l0, l1, l2, l3], st, h) else mj_R 130 (12, [l0, l1, l2, l3], st, h) := mj_R_jge rfl
theorem mq_130_12 {l0 l2 l3 : Value} {x : Nat} {st : List Value} {h : mj_H} : mj_R 130 (12, [l0, .ref x, l2, l3], st, h) = mj_R 130 (13, [l0, .ref x, l2, l3], .ref x :: st, h) := mj_R_next rfl rfl
theorem mq_130_13 {l0 l1 l2 l3 : Value} {st : List Value} {h : mj_H} : mj_R 130 (13, [l0, l1, l2, l3], st, h) = mj_R 130 (14, [l0, l1, l2, l3], .int (nI 1) :: st, h) := mj_R_next rfl rfl
theorem mq_130_14 {l0 l1 l2 l3 : Value} {x : Nat} {j : Int32} {st : List Value} {h : mj_H} : mj_R 130 (14, [l0, l1, l2, l3], .int j :: .ref x :: st, h) = mj_bd (mj_gi h x j) (fun v => mj_R 130 (15, [l0, l1, l2, l3], .int v :: st, h)) := mj_R_gi rfl
theorem mq_130_15 {l0 l1 l2 : Value} {x : Int32} {st : List Value} {h : mj_H} : mj_R 130 (15, [l0, l1, l2, .int x], st, h) = mj_R 130 (16, [l0, l1, l2, .int x], .int x :: st, h) := mj_R_next rfl rfl
theorem mq_130_16 {l0 l1 l2 l3 : Value} {a0 : Int32} {a1 : Int32} {h : mj_H} : mj_R 130 (16, [l0, l1, l2, l3], [.int a1, .int a0], h) = mj_bd (mj_C 113 [.int a0, .int a1] h) (fun r => mj_R 130 (19, [l0, l1, l2, l3], r.1.toList ++ [], r.2)) := mj_R_cs rfl rfl
theorem mq_130_19 {l0 l1 l2 l3 : Value} {x : Int32} {st : List Value} {h : mj_H} : mj_R 130 (19, [l0, l1, l2, l3], .int x :: st, h) = if x = nI 0 then mj_R 130 (77, [l0, l1, l2, l3], st, h) else mj_R 130 (22, [l0, l1, l2, l3], st, h) := mj_R_ieq rfl
theorem mq_130_22 {l0 l1 l3 : Value} {x : Int32} {st : List Value} {h : mj_H} : mj_R 130 (22, [l0, l1, .int x, l3], st, h) = mj_R 130 (23, [l0, l1, .int x, l3], .int x :: st, h) := mj_R_next rfl rfl
theorem mq_130_23 {l0 l2 l3 : Value} {x : Nat} {st : List Value} {h : mj_H} : mj_R 130 (23, [l0, .ref x, l2, l3], st, h) = mj_R 130 (24, [l0, .ref x, l2, l3], .ref x :: st, h) := mj_R_next rfl rfl
theorem mq_130_24 {l0 l1 l2 l3 : Value} {st : List Value} {h : mj_H} : mj_R 130 (24, [l0, l1, l2, l3], st, h) = mj_R 130 (25, [l0, l1, l2, l3], .int (nI 0) :: st, h) := mj_R_next rfl rfl
theorem mq_130_25 {l0 l1 l2 l3 : Value} {x : Nat} {j : Int32} {st : List Value} {h : mj_H} : mj_R 130 (25, [l0, l1, l2, l3], .int j :: .ref x :: st, h) = mj_bd (mj_gi h x j) (fun v => mj_R 130 (26, [l0, l1, l2, l3], .int v :: st, h)) := mj_R_gi rfl
theorem mq_130_26 {l0 l1 l2 l3 : Value} {x : Int32} {st : List Value} {h : mj_H} : mj_R 130 (26, [l0, l1, l2, l3], .int x :: st, h) = if x = nI 0 then mj_R 130 (29, [l0, l1, l2, l3], st, h) else mj_R 130 (35, [l0, l1, l2, l3], st, h) := mj_R_ine rfl
theorem mq_130_29 {l0 l1 l2 l3 : Value} {st : List Value} {h : mj_H} : mj_R 130 (29, [l0, l1, l2, l3], st, h) = mj_R 130 (30, [l0, l1, l2, l3], .int (nI 1) :: st, h) := mj_R_next rfl rfl
theorem mq_130_30 {l0 l1 l2 : Value} {x : Int32} {st : List Value} {h : mj_H} : mj_R 130 (30, [l0, l1, l2, .int x], st, h) = mj_R 130 (31, [l0, l1, l2, .int x], .int x :: st, h) := mj_R_next rfl rfl
theorem mq_130_31 {l0 l1 l2 l3 : Value} {x y : Int32} {st : List Value} {h : mj_H} : mj_R 130 (31, [l0, l1, l2, l3], .int y :: .int x :: st, h) = mj_R 130 (32, [l0, l1, l2, l3], .int (x <<< (y &&& 31)) :: st, h) := mj_R_next rfl rfl
theorem mq_130_32 {l0 l1 l2 l3 : Value} {st : List Value} {h : mj_H} : mj_R 130 (32, [l0, l1, l2, l3], st, h) = mj_R 130 (36, [l0, l1, l2, l3], st, h) := mj_R_next rfl rfl
theorem mq_130_35 {l0 l1 l2 l3 : Value} {st : List Value} {h : mj_H} : mj_R 130 (35, [l0, l1, l2, l3], st, h) = mj_R 130 (36, [l0, l1, l2, l3], .int (nI 0) :: st, h) := mj_R_next rfl rfl
theorem mq_130_36 {l0 l1 l2 l3 : Value} {x y : Int32} {st : List Value} {h : mj_H} : mj_R 130 (36, [l0, l1, l2, l3], .int y :: .int x :: st, h) = mj_R 130 (37, [l0, l1, l2, l3], .int (x ||| y) :: st, h) := mj_R_next rfl rfl
theorem mq_130_37 {l0 l1 l2 l3 : Value} {x : Int32} {st : List Value} {h : mj_H} : mj_R 130 (37, [l0, l1, l2, l3], .int x :: st, h) = mj_R 130 (38, [l0, l1, .int x, l3], st, h) := mj_R_next rfl rfl
theorem mq_130_38 {l0 l2 l3 : Value} {x : Nat} {st : List Value} {h : mj_H} : mj_R 130 (38, [l0, .ref x, l2, l3], st, h) = mj_R 130 (39, [l0, .ref x, l2, l3], .ref x :: st, h) := mj_R_next rfl rfl
theorem mq_130_39 {l0 l1 l2 l3 : Value} {st : List Value} {h : mj_H} : mj_R 130 (39, [l0, l1, l2, l3], st, h) = mj_R 130 (40, [l0, l1, l2, l3], .int (nI 0) :: st, h) := mj_R_next rfl rfl
theorem mq_130_40 {l0 l1 l2 l3 : Value} {x : Int32} {y : Nat} {st : List Value} {h : mj_H} : mj_R 130 (40, [l0, l1, l2, l3], .int x :: .ref y :: st, h) = mj_R 130 (41, [l0, l1, l2, l3], .int x :: .ref y :: .int x :: .ref y :: st, h) := mj_R_next rfl rfl
theorem mq_130_41 {l0 l1 l2 l3 : Value} {x : Nat} {j : Int32} {st : List Value} {h : mj_H} : mj_R 130 (41, [l0, l1, l2, l3], .int j :: .ref x :: st, h) = mj_bd (mj_gi h x j) (fun v => mj_R 130 (42, [l0, l1, l2, l3], .int v :: st, h)) := mj_R_gi rfl
theorem mq_130_42 {l0 l2 l3 : Value} {x : Nat} {st : List Value} {h : mj_H} : mj_R 130 (42, [l0, .ref x, l2, l3], st, h) = mj_R 130 (43, [l0, .ref x, l2, l3], .ref x :: st, h) := mj_R_next rfl rfl
theorem mq_130_43 {l0 l1 l2 l3 : Value} {st : List Value} {h : mj_H} : mj_R 130 (43, [l0, l1, l2, l3], st, h) = mj_R 130 (44, [l0, l1, l2, l3], .int (nI 0) :: st, h) := mj_R_next rfl rfl
theorem mq_130_44 {l0 l1 l2 l3 : Value} {x : Nat} {j : Int32} {st : List Value} {h : mj_H} : mj_R 130 (44, [l0, l1, l2, l3], .int j :: .ref x :: st, h) = mj_bd (mj_gi h x j) (fun v => mj_R 130 (45, [l0, l1, l2, l3], .int v :: st, h)) := mj_R_gi rfl
theorem mq_130_45 {l0 l1 l2 l3 : Value} {x : Int32} {st : List Value} {h : mj_H} : mj_R 130 (45, [l0, l1, l2, l3], .int x :: st, h) = if x = nI 0 then mj_R 130 (48, [l0, l1, l2, l3], st, h) else mj_R 130 (52, [l0, l1, l2, l3], st, h) := mj_R_ine rfl
theorem mq_130_48 {l0 l1 l2 l3 : Value} {st : List Value} {h : mj_H} : mj_R 130 (48, [l0, l1, l2, l3], st, h) = mj_R 130 (49, [l0, l1, l2, l3], .int (nI 0) :: st, h) := mj_R_next rfl rfl
theorem mq_130_49 {l0 l1 l2 l3 : Value} {st : List Value} {h : mj_H} : mj_R 130 (49, [l0, l1, l2, l3], st, h) = mj_R 130 (53, [l0, l1, l2, l3], st, h) := mj_R_next rfl rfl
theorem mq_130_52 {l0 l1 l2 l3 : Value} {st : List Value} {h : mj_H} : mj_R 130 (52, [l0, l1, l2, l3], st, h) = mj_R 130 (53, [l0, l1, l2, l3], .int (nI 1) :: st, h) := mj_R_next rfl rfl
theorem mq_130_53 {l0 l1 l2 l3 : Value} {x y : Int32} {st : List Value} {h : mj_H} : mj_R 130 (53, [l0, l1, l2, l3], .int y :: .int x :: st, h) = mj_R 130 (54, [l0, l1, l2, l3], .int (x - y) :: st, h) := mj_R_next rfl rfl
theorem mq_130_54 {l0 l1 l2 l3 : Value} {x : Nat} {j v : Int32} {st : List Value} {h : mj_H} : mj_R 130 (54, [l0, l1, l2, l3], .int v :: .int j :: .ref x :: st, h) = mj_bd (mj_pi h x j v) (fun h' => mj_R 130 (55, [l0, l1, l2, l3], st, h')) := mj_R_pi rfl
theorem mq_130_55 {l0 l1 l3 : Value} {x : Int32} {st : List Value} {h : mj_H} : mj_R 130 (55, [l0, l1, .int x, l3], st, h) = mj_R 130 (56, [l0, l1, .int x, l3], .int x :: st, h) := mj_R_next rfl rfl
theorem mq_130_56 {l1 l2 l3 : Value} {x : Nat} {st : List Value} {h : mj_H} : mj_R 130 (56, [.ref x, l1, l2, l3], st, h) = mj_R 130 (57, [.ref x, l1, l2, l3], .ref x :: st, h) := mj_R_next rfl rfl
theorem mq_130_57 {l0 l1 l2 l3 : Value} {x : Nat} {st : List Value} {h : mj_H} : mj_R 130 (57, [l0, l1, l2, l3], .ref x :: st, h) = mj_bd (mj_gf h x 7 6) (fun v => mj_R 130 (60, [l0, l1, l2, l3], v :: st, h)) := mj_R_gf rfl
theorem mq_130_60 {l0 l1 l2 l3 : Value} {st : List Value} {h : mj_H} : mj_R 130 (60, [l0, l1, l2, l3], st, h) = mj_R 130 (61, [l0, l1, l2, l3], .int (nI 4) :: st, h) := mj_R_next rfl rfl
theorem mq_130_61 {l0 l1 l2 : Value} {x : Int32} {st : List Value} {h : mj_H} : mj_R 130 (61, [l0, l1, l2, .int x], st, h) = mj_R 130 (62, [l0, l1, l2, .int x], .int x :: st, h) := mj_R_next rfl rfl
theorem mq_130_62 {l0 l1 l2 l3 : Value} {x y : Int32} {st : List Value} {h : mj_H} : mj_R 130 (62, [l0, l1, l2, l3], .int y :: .int x :: st, h) = mj_R 130 (63, [l0, l1, l2, l3], .int (x * y) :: st, h) := mj_R_next rfl rfl
theorem mq_130_63 {l0 l1 l2 l3 : Value} {x : Nat} {j : Int32} {st : List Value} {h : mj_H} : mj_R 130 (63, [l0, l1, l2, l3], .int j :: .ref x :: st, h) = mj_bd (mj_gi h x j) (fun v => mj_R 130 (64, [l0, l1, l2, l3], .int v :: st, h)) := mj_R_gi rfl
theorem mq_130_64 {l0 l1 l2 l3 : Value} {st : List Value} {h : mj_H} : mj_R 130 (64, [l0, l1, l2, l3], st, h) = mj_R 130 (65, [l0, l1, l2, l3], .int (nI 3) :: st, h) := mj_R_next rfl rfl
theorem mq_130_65 {l0 l1 l2 l3 : Value} {x y : Int32} {st : List Value} {h : mj_H} : mj_R 130 (65, [l0, l1, l2, l3], .int y :: .int x :: st, h) = if x = y then mj_R 130 (68, [l0, l1, l2, l3], st, h) else mj_R 130 (74, [l0, l1, l2, l3], st, h) := mj_R_jne rfl
theorem mq_130_68 {l0 l1 l2 l3 : Value} {st : List Value} {h : mj_H} : mj_R 130 (68, [l0, l1, l2, l3], st, h) = mj_R 130 (69, [l0, l1, l2, l3], .int (nI 1) :: st, h) := mj_R_next rfl rfl
theorem mq_130_69 {l0 l1 l2 : Value} {x : Int32} {st : List Value} {h : mj_H} : mj_R 130 (69, [l0, l1, l2, .int x], st, h) = mj_R 130 (70, [l0, l1, l2, .int x], .int x :: st, h) := mj_R_next rfl rfl
theorem mq_130_70 {l0 l1 l2 l3 : Value} {x y : Int32} {st : List Value} {h : mj_H} : mj_R 130 (70, [l0, l1, l2, l3], .int y :: .int x :: st, h) = mj_R 130 (71, [l0, l1, l2, l3], .int (x <<< (y &&& 31)) :: st, h) := mj_R_next rfl rfl
theorem mq_130_71 {l0 l1 l2 l3 : Value} {st : List Value} {h : mj_H} : mj_R 130 (71, [l0, l1, l2, l3], st, h) = mj_R 130 (75, [l0, l1, l2, l3], st, h) := mj_R_next rfl rfl
theorem mq_130_74 {l0 l1 l2 l3 : Value} {st : List Value} {h : mj_H} : mj_R 130 (74, [l0, l1, l2, l3], st, h) = mj_R 130 (75, [l0, l1, l2, l3], .int (nI 0) :: st, h) := mj_R_next rfl rfl
theorem mq_130_75 {l0 l1 l2 l3 : Value} {x y : Int32} {st : List Value} {h : mj_H} : mj_R 130 (75, [l0, l1, l2, l3], .int y :: .int x :: st, h) = mj_R 130 (76, [l0, l1, l2, l3], .int (x ||| y) :: st, h) := mj_R_next rfl rfl
theorem mq_130_76 {l0 l1 l2 l3 : Value} {x : Int32} {st : List Value} {h : mj_H} : mj_R 130 (76, [l0, l1, l2, l3], .int x :: st, h) = mj_R 130 (77, [l0, l1, .int x, l3], st, h) := mj_R_next rfl rfl
theorem mq_130_77 {l0 l1 l2 : Value} {x : Int32} {st : List Value} {h : mj_H} : mj_R 130 (77, [l0, l1, l2, .int x], st, h) = mj_R 130 (80, [l0, l1, l2, .int (x + (nI 1))], st, h) := mj_R_next rfl rfl
theorem mq_130_80 {l0 l1 l2 l3 : Value} {st : List Value} {h : mj_H} : mj_R 130 (80, [l0, l1, l2, l3], st, h) = mj_R 130 (4, [l0, l1, l2, l3], st, h) := mj_R_next rfl rfl
theorem mq_130_83 {l0 l2 l3 : Value} {x : Nat} {st : List Value} {h : mj_H} : mj_R 130 (83, [l0, .ref x, l2, l3], st, h) = mj_R 130 (84, [l0, .ref x, l2, l3], .ref x :: st, h) := mj_R_next rfl rfl
theorem mq_130_84 {l0 l1 l2 l3 : Value} {st : List Value} {h : mj_H} : mj_R 130 (84, [l0, l1, l2, l3], st, h) = mj_R 130 (85, [l0, l1, l2, l3], .int (nI 1) :: st, h) := mj_R_next rfl rfl
theorem mq_130_85 {l0 l1 l2 l3 : Value} {x : Int32} {y : Nat} {st : List Value} {h : mj_H} : mj_R 130 (85, [l0, l1, l2, l3], .int x :: .ref y :: st, h) = mj_R 130 (86, [l0, l1, l2, l3], .int x :: .ref y :: .int x :: .ref y :: st, h) := mj_R_next rfl rfl
theorem mq_130_86 {l0 l1 l2 l3 : Value} {x : Nat} {j : Int32} {st : List Value} {h : mj_H} : mj_R 130 (86, [l0, l1, l2, l3], .int j :: .ref x :: st, h) = mj_bd (mj_gi h x j) (fun v => mj_R 130 (87, [l0, l1, l2, l3], .int v :: st, h)) := mj_R_gi rfl
theorem mq_130_87 {l0 l1 l3 : Value} {x : Int32} {st : List Value} {h : mj_H} : mj_R 130 (87, [l0, l1, .int x, l3], st, h) = mj_R 130 (88, [l0, l1, .int x, l3], .int x :: st, h) := mj_R_next rfl rfl
theorem mq_130_88 {l0 l1 l2 l3 : Value} {st : List Value} {h : mj_H} : mj_R 130 (88, [l0, l1, l2, l3], st, h) = mj_R 130 (89, [l0, l1, l2, l3], .int (-1) :: st, h) := mj_R_next rfl rfl
theorem mq_130_89 {l0 l1 l2 l3 : Value} {x y : Int32} {st : List Value} {h : mj_H} : mj_R 130 (89, [l0, l1, l2, l3], .int y :: .int x :: st, h) = mj_R 130 (90, [l0, l1, l2, l3], .int (x ^^^ y) :: st, h) := mj_R_next rfl rfl
theorem mq_130_90 {l0 l1 l2 l3 : Value} {x y : Int32} {st : List Value} {h : mj_H} : mj_R 130 (90, [l0, l1, l2, l3], .int y :: .int x :: st, h) = mj_R 130 (91, [l0, l1, l2, l3], .int (x &&& y) :: st, h) := mj_R_next rfl rfl
theorem mq_130_91 {l0 l1 l2 l3 : Value} {x : Nat} {j v : Int32} {st : List Value} {h : mj_H} : mj_R 130 (91, [l0, l1, l2, l3], .int v :: .int j :: .ref x :: st, h) = mj_bd (mj_pi h x j v) (fun h' => mj_R 130 (92, [l0, l1, l2, l3], st, h')) := mj_R_pi rfl
theorem mq_130_92 {l0 l2 l3 : Value} {x : Nat} {st : List Value} {h : mj_H} : mj_R 130 (92, [l0, .ref x, l2, l3], st, h) = mj_R 130 (93, [l0, .ref x, l2, l3], .ref x :: st, h) := mj_R_next rfl rfl
theorem mq_130_93 {l0 l1 l2 l3 : Value} {st : List Value} {h : mj_H} : mj_R 130 (93, [l0, l1, l2, l3], st, h) = mj_R 130 (94, [l0, l1, l2, l3], .int (nI 2) :: st, h) := mj_R_next rfl rfl
theorem mq_130_94 {l0 l1 l2 l3 : Value} {x : Int32} {y : Nat} {st : List Value} {h : mj_H} : mj_R 130 (94, [l0, l1, l2, l3], .int x :: .ref y :: st, h) = mj_R 130 (95, [l0, l1, l2, l3], .int x :: .ref y :: .int x :: .ref y :: st, h) := mj_R_next rfl rfl
theorem mq_130_95 {l0 l1 l2 l3 : Value} {x : Nat} {j : Int32} {st : List Value} {h : mj_H} : mj_R 130 (95, [l0, l1, l2, l3], .int j :: .ref x :: st, h) = mj_bd (mj_gi h x j) (fun v => mj_R 130 (96, [l0, l1, l2, l3], .int v :: st, h)) := mj_R_gi rfl
theorem mq_130_96 {l0 l1 l2 l3 : Value} {st : List Value} {h : mj_H} : mj_R 130 (96, [l0, l1, l2, l3], st, h) = mj_R 130 (97, [l0, l1, l2, l3], .int (nI 1) :: st, h) := mj_R_next rfl rfl
theorem mq_130_97 {l0 l1 l2 l3 : Value} {x y : Int32} {st : List Value} {h : mj_H} : mj_R 130 (97, [l0, l1, l2, l3], .int y :: .int x :: st, h) = mj_R 130 (98, [l0, l1, l2, l3], .int (x + y) :: st, h) := mj_R_next rfl rfl
theorem mq_130_98 {l0 l1 l2 l3 : Value} {x : Nat} {j v : Int32} {st : List Value} {h : mj_H} : mj_R 130 (98, [l0, l1, l2, l3], .int v :: .int j :: .ref x :: st, h) = mj_bd (mj_pi h x j v) (fun h' => mj_R 130 (99, [l0, l1, l2, l3], st, h')) := mj_R_pi rfl
theorem mq_130_99 {l0 l1 l3 : Value} {x : Int32} {st : List Value} {h : mj_H} : mj_R 130 (99, [l0, l1, .int x, l3], st, h) = mj_R 130 (100, [l0, l1, .int x, l3], .int x :: st, h) := mj_R_next rfl rfl
theorem mq_130_100 {l0 l1 l2 l3 : Value} {x : Int32} {h : mj_H} : mj_R 130 (100, [l0, l1, l2, l3], [.int x], h) = some (some (.int x), h) := mj_R_ret rfl rfl
theorem mc_131 {a0 : Nat} {h : mj_H} : mj_C 131 [.ref a0] h = mj_R 131 (0, [.ref a0], [], h) := rfl
theorem mq_131_0 {x : Nat} {st : List Value} {h : mj_H} : mj_R 131 (0, [.ref x], st, h) = mj_R 131 (1, [.ref x], .ref x :: st, h) := mj_R_next rfl rfl
theorem mq_131_1 {l0 : Value} {st : List Value} {h : mj_H} : mj_R 131 (1, [l0], st, h) = mj_R 131 (2, [l0], .int (nI 0) :: st, h) := mj_R_next rfl rfl
theorem mq_131_2 {l0 : Value} {x : Nat} {v : Value} {st : List Value} {h : mj_H} : mj_R 131 (2, [l0], v :: .ref x :: st, h) = mj_bd (mj_pf h x 7 0 v) (fun h' => mj_R 131 (5, [l0], st, h')) := mj_R_pf rfl
theorem mq_131_5 {x : Nat} {st : List Value} {h : mj_H} : mj_R 131 (5, [.ref x], st, h) = mj_R 131 (6, [.ref x], .ref x :: st, h) := mj_R_next rfl rfl
theorem mq_131_6 {x : Nat} {st : List Value} {h : mj_H} : mj_R 131 (6, [.ref x], st, h) = mj_R 131 (7, [.ref x], .ref x :: st, h) := mj_R_next rfl rfl
theorem mq_131_7 {l0 : Value} {x : Nat} {st : List Value} {h : mj_H} : mj_R 131 (7, [l0], .ref x :: st, h) = mj_bd (mj_gf h x 7 15) (fun v => mj_R 131 (10, [l0], v :: st, h)) := mj_R_gf rfl
theorem mq_131_10 {l0 : Value} {a0 : Nat} {a1 : Nat} {h : mj_H} : mj_R 131 (10, [l0], [.ref a1, .ref a0], h) = if mj_isC h a0 7 = true then mj_bd (mj_C 132 [.ref a0, .ref a1] h) (fun r => mj_R 131 (13, [l0], r.1.toList ++ [], r.2)) else none := mj_R_cv rfl rfl
theorem mq_131_13 {l0 : Value} {x : Int32} {st : List Value} {h : mj_H} : mj_R 131 (13, [l0], .int x :: st, h) = if x = nI 0 then mj_R 131 (16, [l0], st, h) else mj_R 131 (19, [l0], st, h) := mj_R_ine rfl
theorem mq_131_16 {l0 : Value} {st : List Value} {h : mj_H} : mj_R 131 (16, [l0], st, h) = mj_R 131 (18, [l0], .int (-3) :: st, h) := mj_R_next rfl rfl
theorem mq_131_18 {l0 : Value} {x : Int32} {h : mj_H} : mj_R 131 (18, [l0], [.int x], h) = some (some (.int x), h) := mj_R_ret rfl rfl
theorem mq_131_19 {x : Nat} {st : List Value} {h : mj_H} : mj_R 131 (19, [.ref x], st, h) = mj_R 131 (20, [.ref x], .ref x :: st, h) := mj_R_next rfl rfl
theorem mq_131_20 {l0 : Value} {a0 : Nat} {h : mj_H} : mj_R 131 (20, [l0], [.ref a0], h) = if mj_isC h a0 7 = true then mj_bd (mj_C 126 [.ref a0] h) (fun r => mj_R 131 (23, [l0], r.1.toList ++ [], r.2)) else none := mj_R_cv rfl rfl
theorem mq_131_23 {x : Nat} {st : List Value} {h : mj_H} : mj_R 131 (23, [.ref x], st, h) = mj_R 131 (24, [.ref x], .ref x :: st, h) := mj_R_next rfl rfl
theorem mq_131_24 {l0 : Value} {x : Nat} {st : List Value} {h : mj_H} : mj_R 131 (24, [l0], .ref x :: st, h) = mj_bd (mj_gf h x 7 15) (fun v => mj_R 131 (27, [l0], v :: st, h)) := mj_R_gf rfl
theorem mq_131_27 {l0 : Value} {st : List Value} {h : mj_H} : mj_R 131 (27, [l0], st, h) = mj_R 131 (28, [l0], .int (nI 4) :: st, h) := mj_R_next rfl rfl
theorem mq_131_28 {l0 : Value} {x : Int32} {y : Nat} {st : List Value} {h : mj_H} : mj_R 131 (28, [l0], .int x :: .ref y :: st, h) = mj_R 131 (29, [l0], .int x :: .ref y :: .int x :: .ref y :: st, h) := mj_R_next rfl rfl
theorem mq_131_29 {l0 : Value} {x : Nat} {j : Int32} {st : List Value} {h : mj_H} : mj_R 131 (29, [l0], .int j :: .ref x :: st, h) = mj_bd (mj_gi h x j) (fun v => mj_R 131 (30, [l0], .int v :: st, h)) := mj_R_gi rfl
theorem mq_131_30 {l0 : Value} {st : List Value} {h : mj_H} : mj_R 131 (30, [l0], st, h) = mj_R 131 (31, [l0], .int (nI 1) :: st, h) := mj_R_next rfl rfl
theorem mq_131_31 {l0 : Value} {x y : Int32} {st : List Value} {h : mj_H} : mj_R 131 (31, [l0], .int y :: .int x :: st, h) = mj_R 131 (32, [l0], .int (x + y) :: st, h) := mj_R_next rfl rfl
theorem mq_131_32 {l0 : Value} {x : Nat} {j v : Int32} {st : List Value} {h : mj_H} : mj_R 131 (32, [l0], .int v :: .int j :: .ref x :: st, h) = mj_bd (mj_pi h x j v) (fun h' => mj_R 131 (33, [l0], st, h')) := mj_R_pi rfl
theorem mq_131_33 {x : Nat} {st : List Value} {h : mj_H} : mj_R 131 (33, [.ref x], st, h) = mj_R 131 (34, [.ref x], .ref x :: st, h) := mj_R_next rfl rfl
theorem mq_131_34 {l0 : Value} {x : Nat} {st : List Value} {h : mj_H} : mj_R 131 (34, [l0], .ref x :: st, h) = mj_bd (mj_gf h x 7 15) (fun v => mj_R 131 (37, [l0], v :: st, h)) := mj_R_gf rfl
theorem mq_131_37 {l0 : Value} {st : List Value} {h : mj_H} : mj_R 131 (37, [l0], st, h) = mj_R 131 (38, [l0], .int (nI 4) :: st, h) := mj_R_next rfl rfl
theorem mq_131_38 {l0 : Value} {x : Nat} {j : Int32} {st : List Value} {h : mj_H} : mj_R 131 (38, [l0], .int j :: .ref x :: st, h) = mj_bd (mj_gi h x j) (fun v => mj_R 131 (39, [l0], .int v :: st, h)) := mj_R_gi rfl
theorem mq_131_39 {l0 : Value} {st : List Value} {h : mj_H} : mj_R 131 (39, [l0], st, h) = mj_R 131 (40, [l0], .int (nI 1) :: st, h) := mj_R_next rfl rfl
theorem mq_131_40 {l0 : Value} {x y : Int32} {st : List Value} {h : mj_H} : mj_R 131 (40, [l0], .int y :: .int x :: st, h) = mj_R 131 (41, [l0], .int (x - y) :: st, h) := mj_R_next rfl rfl
theorem mq_131_41 {l0 : Value} {x : Int32} {h : mj_H} : mj_R 131 (41, [l0], [.int x], h) = some (some (.int x), h) := mj_R_ret rfl rfl
theorem mc_132 {a0 : Nat} {a1 : Nat} {h : mj_H} : mj_C 132 [.ref a0, .ref a1] h = mj_R 132 (0, [.ref a0, .ref a1], [], h) := rfl
theorem mq_132_0 {l0 : Value} {x : Nat} {st : List Value} {h : mj_H} : mj_R 132 (0, [l0, .ref x], st, h) = mj_R 132 (1, [l0, .ref x], .ref x :: st, h) := mj_R_next rfl rfl
theorem mq_132_1 {l0 l1 : Value} {st : List Value} {h : mj_H} : mj_R 132 (1, [l0, l1], st, h) = mj_R 132 (2, [l0, l1], .int (nI 4) :: st, h) := mj_R_next rfl rfl
theorem mq_132_2 {l0 l1 : Value} {x : Nat} {j : Int32} {st : List Value} {h : mj_H} : mj_R 132 (2, [l0, l1], .int j :: .ref x :: st, h) = mj_bd (mj_gi h x j) (fun v => mj_R 132 (3, [l0, l1], .int v :: st, h)) := mj_R_gi rfl
theorem mq_132_3 {l1 : Value} {x : Nat} {st : List Value} {h : mj_H} : mj_R 132 (3, [.ref x, l1], st, h) = mj_R 132 (4, [.ref x, l1], .ref x :: st, h) := mj_R_next rfl rfl
theorem mq_132_4 {l0 l1 : Value} {x : Nat} {st : List Value} {h : mj_H} : mj_R 132 (4, [l0, l1], .ref x :: st, h) = mj_bd (mj_gf h x 7 5) (fun v => mj_R 132 (7, [l0, l1], v :: st, h)) := mj_R_gf rfl
theorem mq_132_7 {l0 l1 : Value} {x y : Int32} {st : List Value} {h : mj_H} : mj_R 132 (7, [l0, l1], .int y :: .int x :: st, h) = if y ≤ x then mj_R 132 (27, [l0, l1], st, h) else mj_R 132 (10, [l0, l1], st, h) := mj_R_jge rfl
theorem mq_132_10 {l1 : Value} {x : Nat} {st : List Value} {h : mj_H} : mj_R 132 (10, [.ref x, l1], st, h) = mj_R 132 (11, [.ref x, l1], .ref x :: st, h) := mj_R_next rfl rfl
theorem mq_132_11 {l0 : Value} {x : Nat} {st : List Value} {h : mj_H} : mj_R 132 (11, [l0, .ref x], st, h) = mj_R 132 (12, [l0, .ref x], .ref x :: st, h) := mj_R_next rfl rfl
theorem mq_132_12 {l0 l1 : Value} {st : List Value} {h : mj_H} : mj_R 132 (12, [l0, l1], st, h) = mj_R 132 (13, [l0, l1], .int (nI 1) :: st, h) := mj_R_next rfl rfl
theorem mq_132_13 {l0 l1 : Value} {x : Nat} {j : Int32} {st : List Value} {h : mj_H} : mj_R 132 (13, [l0, l1], .int j :: .ref x :: st, h) = mj_bd (mj_gi h x j) (fun v => mj_R 132 (14, [l0, l1], .int v :: st, h)) := mj_R_gi rfl
theorem mq_132_14 {l0 : Value} {x : Nat} {st : List Value} {h : mj_H} : mj_R 132 (14, [l0, .ref x], st, h) = mj_R 132 (15, [l0, .ref x], .ref x :: st, h) := mj_R_next rfl rfl
theorem mq_132_15 {l0 l1 : Value} {st : List Value} {h : mj_H} : mj_R 132 (15, [l0, l1], st, h) = mj_R 132 (16, [l0, l1], .int (nI 4) :: st, h) := mj_R_next rfl rfl
theorem mq_132_16 {l0 l1 : Value} {x : Nat} {j : Int32} {st : List Value} {h : mj_H} : mj_R 132 (16, [l0, l1], .int j :: .ref x :: st, h) = mj_bd (mj_gi h x j) (fun v => mj_R 132 (17, [l0, l1], .int v :: st, h)) := mj_R_gi rfl
theorem mq_132_17 {l0 l1 : Value} {a0 : Nat} {a1 : Int32} {a2 : Int32} {h : mj_H} : mj_R 132 (17, [l0, l1], [.int a2, .int a1, .ref a0], h) = if mj_isC h a0 7 = true then mj_bd (mj_C 133 [.ref a0, .int a1, .int a2] h) (fun r => mj_R 132 (20, [l0, l1], r.1.toList ++ [], r.2)) else none := mj_R_cv rfl rfl
theorem mq_132_20 {l0 l1 : Value} {x : Int32} {st : List Value} {h : mj_H} : mj_R 132 (20, [l0, l1], .int x :: st, h) = if x = nI 0 then mj_R 132 (27, [l0, l1], st, h) else mj_R 132 (23, [l0, l1], st, h) := mj_R_ieq rfl
theorem mq_132_23 {l0 l1 : Value} {st : List Value} {h : mj_H} : mj_R 132 (23, [l0, l1], st, h) = mj_R 132 (24, [l0, l1], .int (nI 1) :: st, h) := mj_R_next rfl rfl
theorem mq_132_24 {l0 l1 : Value} {st : List Value} {h : mj_H} : mj_R 132 (24, [l0, l1], st, h) = mj_R 132 (28, [l0, l1], st, h) := mj_R_next rfl rfl
theorem mq_132_27 {l0 l1 : Value} {st : List Value} {h : mj_H} : mj_R 132 (27, [l0, l1], st, h) = mj_R 132 (28, [l0, l1], .int (nI 0) :: st, h) := mj_R_next rfl rfl
theorem mq_132_28 {l0 l1 : Value} {x : Int32} {h : mj_H} : mj_R 132 (28, [l0, l1], [.int x], h) = if (x == 0 || x == 1) = true then some (some (.int x), h) else none := mj_R_rz rfl rfl
theorem mc_133 {a0 : Nat} {a1 : Int32} {a2 : Int32} {h : mj_H} : mj_C 133 [.ref a0, .int a1, .int a2] h = mj_R 133 (0, [.ref a0, .int a1, .int a2], [], h) := rfl
theorem mq_133_0 {l1 l2 : Value} {x : Nat} {st : List Value} {h : mj_H} : mj_R 133 (0, [.ref x, l1, l2], st, h) = mj_R 133 (1, [.ref x, l1, l2], .ref x :: st, h) := mj_R_next rfl rfl
theorem mq_133_1 {l0 l2 : Value} {x : Int32} {st : List Value} {h : mj_H} : mj_R 133 (1, [l0, .int x, l2], st, h) = mj_R 133 (2, [l0, .int x, l2], .int x :: st, h) := mj_R_next rfl rfl
theorem mq_133_2 {l0 l1 l2 : Value} {a0 : Nat} {a1 : Int32} {h : mj_H} : mj_R 133 (2, [l0, l1, l2], [.int a1, .ref a0], h) = if mj_isC h a0 7 = true then mj_bd (mj_C 118 [.ref a0, .int a1] h) (fun r => mj_R 133 (5, [l0, l1, l2], r.1.toList ++ [], r.2)) else none := mj_R_cv rfl rfl
theorem mq_133_5 {l1 l2 : Value} {x : Nat} {st : List Value} {h : mj_H} : mj_R 133 (5, [.ref x, l1, l2], st, h) = mj_R 133 (6, [.ref x, l1, l2], .ref x :: st, h) := mj_R_next rfl rfl
theorem mq_133_6 {l0 l1 l2 : Value} {x : Nat} {st : List Value} {h : mj_H} : mj_R 133 (6, [l0, l1, l2], .ref x :: st, h) = mj_bd (mj_gf h x 7 8) (fun v => mj_R 133 (9, [l0, l1, l2], v :: st, h)) := mj_R_gf rfl
theorem mq_133_9 {l0 l1 l2 : Value} {st : List Value} {h : mj_H} : mj_R 133 (9, [l0, l1, l2], st, h) = mj_R 133 (10, [l0, l1, l2], .int (nI 2) :: st, h) := mj_R_next rfl rfl
theorem mq_133_10 {l0 l1 : Value} {x : Int32} {st : List Value} {h : mj_H} : mj_R 133 (10, [l0, l1, .int x], st, h) = mj_R 133 (11, [l0, l1, .int x], .int x :: st, h) := mj_R_next rfl rfl
theorem mq_133_11 {l0 l1 l2 : Value} {x y : Int32} {st : List Value} {h : mj_H} : mj_R 133 (11, [l0, l1, l2], .int y :: .int x :: st, h) = mj_R 133 (12, [l0, l1, l2], .int (x * y) :: st, h) := mj_R_next rfl rfl
theorem mq_133_12 {l0 l1 l2 : Value} {x : Nat} {j : Int32} {st : List Value} {h : mj_H} : mj_R 133 (12, [l0, l1, l2], .int j :: .ref x :: st, h) = mj_bd (mj_gi h x j) (fun v => mj_R 133 (13, [l0, l1, l2], .int v :: st, h)) := mj_R_gi rfl
theorem mq_133_13 {l0 l1 l2 : Value} {a0 : Int32} {a1 : Int32} {h : mj_H} : mj_R 133 (13, [l0, l1, l2], [.int a1, .int a0], h) = mj_bd (mj_C 113 [.int a0, .int a1] h) (fun r => mj_R 133 (16, [l0, l1, l2], r.1.toList ++ [], r.2)) := mj_R_cs rfl rfl
theorem mq_133_16 {l0 l1 l2 : Value} {x : Int32} {st : List Value} {h : mj_H} : mj_R 133 (16, [l0, l1, l2], .int x :: st, h) = if x = nI 0 then mj_R 133 (41, [l0, l1, l2], st, h) else mj_R 133 (19, [l0, l1, l2], st, h) := mj_R_ieq rfl
theorem mq_133_19 {l1 l2 : Value} {x : Nat} {st : List Value} {h : mj_H} : mj_R 133 (19, [.ref x, l1, l2], st, h) = mj_R 133 (20, [.ref x, l1, l2], .ref x :: st, h) := mj_R_next rfl rfl
theorem mq_133_20 {l0 l2 : Value} {x : Int32} {st : List Value} {h : mj_H} : mj_R 133 (20, [l0, .int x, l2], st, h) = mj_R 133 (21, [l0, .int x, l2], .int x :: st, h) := mj_R_next rfl rfl
theorem mq_133_21 {l0 l1 l2 : Value} {a0 : Nat} {a1 : Int32} {h : mj_H} : mj_R 133 (21, [l0, l1, l2], [.int a1, .ref a0], h) = if mj_isC h a0 7 = true then mj_bd (mj_C 117 [.ref a0, .int a1] h) (fun r => mj_R 133 (24, [l0, l1, l2], r.1.toList ++ [], r.2)) else none := mj_R_cv rfl rfl
theorem mq_133_24 {l1 l2 : Value} {x : Nat} {st : List Value} {h : mj_H} : mj_R 133 (24, [.ref x, l1, l2], st, h) = mj_R 133 (25, [.ref x, l1, l2], .ref x :: st, h) := mj_R_next rfl rfl
theorem mq_133_25 {l0 l1 l2 : Value} {x : Nat} {st : List Value} {h : mj_H} : mj_R 133 (25, [l0, l1, l2], .ref x :: st, h) = mj_bd (mj_gf h x 7 8) (fun v => mj_R 133 (28, [l0, l1, l2], v :: st, h)) := mj_R_gf rfl
theorem mq_133_28 {l0 l1 l2 : Value} {st : List Value} {h : mj_H} : mj_R 133 (28, [l0, l1, l2], st, h) = mj_R 133 (29, [l0, l1, l2], .int (nI 2) :: st, h) := mj_R_next rfl rfl
theorem mq_133_29 {l0 l1 : Value} {x : Int32} {st : List Value} {h : mj_H} : mj_R 133 (29, [l0, l1, .int x], st, h) = mj_R 133 (30, [l0, l1, .int x], .int x :: st, h) := mj_R_next rfl rfl
theorem mq_133_30 {l0 l1 l2 : Value} {x y : Int32} {st : List Value} {h : mj_H} : mj_R 133 (30, [l0, l1, l2], .int y :: .int x :: st, h) = mj_R 133 (31, [l0, l1, l2], .int (x * y) :: st, h) := mj_R_next rfl rfl
theorem mq_133_31 {l0 l1 l2 : Value} {st : List Value} {h : mj_H} : mj_R 133 (31, [l0, l1, l2], st, h) = mj_R 133 (32, [l0, l1, l2], .int (nI 1) :: st, h) := mj_R_next rfl rfl
theorem mq_133_32 {l0 l1 l2 : Value} {x y : Int32} {st : List Value} {h : mj_H} : mj_R 133 (32, [l0, l1, l2], .int y :: .int x :: st, h) = mj_R 133 (33, [l0, l1, l2], .int (x + y) :: st, h) := mj_R_next rfl rfl
theorem mq_133_33 {l0 l1 l2 : Value} {x : Nat} {j : Int32} {st : List Value} {h : mj_H} : mj_R 133 (33, [l0, l1, l2], .int j :: .ref x :: st, h) = mj_bd (mj_gi h x j) (fun v => mj_R 133 (34, [l0, l1, l2], .int v :: st, h)) := mj_R_gi rfl
theorem mq_133_34 {l0 l1 l2 : Value} {x y : Int32} {st : List Value} {h : mj_H} : mj_R 133 (34, [l0, l1, l2], .int y :: .int x :: st, h) = if x < y then mj_R 133 (41, [l0, l1, l2], st, h) else mj_R 133 (37, [l0, l1, l2], st, h) := mj_R_jlt rfl
theorem mq_133_37 {l0 l1 l2 : Value} {st : List Value} {h : mj_H} : mj_R 133 (37, [l0, l1, l2], st, h) = mj_R 133 (38, [l0, l1, l2], .int (nI 1) :: st, h) := mj_R_next rfl rfl
theorem mq_133_38 {l0 l1 l2 : Value} {st : List Value} {h : mj_H} : mj_R 133 (38, [l0, l1, l2], st, h) = mj_R 133 (42, [l0, l1, l2], st, h) := mj_R_next rfl rfl
theorem mq_133_41 {l0 l1 l2 : Value} {st : List Value} {h : mj_H} : mj_R 133 (41, [l0, l1, l2], st, h) = mj_R 133 (42, [l0, l1, l2], .int (nI 0) :: st, h) := mj_R_next rfl rfl
theorem mq_133_42 {l0 l1 l2 : Value} {x : Int32} {h : mj_H} : mj_R 133 (42, [l0, l1, l2], [.int x], h) = if (x == 0 || x == 1) = true then some (some (.int x), h) else none := mj_R_rz rfl rfl
theorem mc_134 {a0 : Nat} {h : mj_H} : mj_C 134 [.ref a0] h = mj_R 134 (0, [.ref a0, .null], [], h) := rfl
theorem mq_134_0 {l1 : Value} {x : Nat} {st : List Value} {h : mj_H} : mj_R 134 (0, [.ref x, l1], st, h) = mj_R 134 (1, [.ref x, l1], .ref x :: st, h) := mj_R_next rfl rfl
theorem mq_134_1 {l0 l1 : Value} {st : List Value} {h : mj_H} : mj_R 134 (1, [l0, l1], st, h) = mj_R 134 (2, [l0, l1], .int (nI 0) :: st, h) := mj_R_next rfl rfl
theorem mq_134_2 {l0 l1 : Value} {x : Nat} {v : Value} {st : List Value} {h : mj_H} : mj_R 134 (2, [l0, l1], v :: .ref x :: st, h) = mj_bd (mj_pf h x 7 0 v) (fun h' => mj_R 134 (5, [l0, l1], st, h')) := mj_R_pf rfl
theorem mq_134_5 {l1 : Value} {x : Nat} {st : List Value} {h : mj_H} : mj_R 134 (5, [.ref x, l1], st, h) = mj_R 134 (6, [.ref x, l1], .ref x :: st, h) := mj_R_next rfl rfl
theorem mq_134_6 {l0 l1 : Value} {x : Nat} {st : List Value} {h : mj_H} : mj_R 134 (6, [l0, l1], .ref x :: st, h) = mj_bd (mj_gf h x 7 18) (fun v => mj_R 134 (9, [l0, l1], v :: st, h)) := mj_R_gf rfl
theorem mq_134_9 {l0 l1 : Value} {x : Int32} {st : List Value} {h : mj_H} : mj_R 134 (9, [l0, l1], .int x :: st, h) = if x = nI 0 then mj_R 134 (12, [l0, l1], st, h) else mj_R 134 (15, [l0, l1], st, h) := mj_R_ine rfl
theorem mq_134_12 {l0 l1 : Value} {st : List Value} {h : mj_H} : mj_R 134 (12, [l0, l1], st, h) = mj_R 134 (14, [l0, l1], .int (-3) :: st, h) := mj_R_next rfl rfl
theorem mq_134_14 {l0 l1 : Value} {x : Int32} {h : mj_H} : mj_R 134 (14, [l0, l1], [.int x], h) = some (some (.int x), h) := mj_R_ret rfl rfl
theorem mq_134_15 {l1 : Value} {x : Nat} {st : List Value} {h : mj_H} : mj_R 134 (15, [.ref x, l1], st, h) = mj_R 134 (16, [.ref x, l1], .ref x :: st, h) := mj_R_next rfl rfl
theorem mq_134_16 {l0 l1 : Value} {x : Nat} {st : List Value} {h : mj_H} : mj_R 134 (16, [l0, l1], .ref x :: st, h) = mj_R 134 (17, [l0, l1], .ref x :: .ref x :: st, h) := mj_R_next rfl rfl
theorem mq_134_17 {l0 l1 : Value} {x : Nat} {st : List Value} {h : mj_H} : mj_R 134 (17, [l0, l1], .ref x :: st, h) = mj_bd (mj_gf h x 7 18) (fun v => mj_R 134 (20, [l0, l1], v :: st, h)) := mj_R_gf rfl
theorem mq_134_20 {l0 l1 : Value} {st : List Value} {h : mj_H} : mj_R 134 (20, [l0, l1], st, h) = mj_R 134 (21, [l0, l1], .int (nI 1) :: st, h) := mj_R_next rfl rfl
theorem mq_134_21 {l0 l1 : Value} {x y : Int32} {st : List Value} {h : mj_H} : mj_R 134 (21, [l0, l1], .int y :: .int x :: st, h) = mj_R 134 (22, [l0, l1], .int (x - y) :: st, h) := mj_R_next rfl rfl
theorem mq_134_22 {l0 l1 : Value} {x : Nat} {v : Value} {st : List Value} {h : mj_H} : mj_R 134 (22, [l0, l1], v :: .ref x :: st, h) = mj_bd (mj_pf h x 7 18 v) (fun h' => mj_R 134 (25, [l0, l1], st, h')) := mj_R_pf rfl
theorem mq_134_25 {l0 l1 : Value} {st : List Value} {h : mj_H} : mj_R 134 (25, [l0, l1], st, h) = mj_R 134 (26, [l0, l1], .int (nI 0) :: st, h) := mj_R_next rfl rfl
theorem mq_134_26 {l0 l1 : Value} {x : Int32} {st : List Value} {h : mj_H} : mj_R 134 (26, [l0, l1], .int x :: st, h) = mj_R 134 (27, [l0, .int x], st, h) := mj_R_next rfl rfl
theorem mq_134_27 {l0 : Value} {x : Int32} {st : List Value} {h : mj_H} : mj_R 134 (27, [l0, .int x], st, h) = mj_R 134 (28, [l0, .int x], .int x :: st, h) := mj_R_next rfl rfl
theorem mq_134_28 {l0 l1 : Value} {st : List Value} {h : mj_H} : mj_R 134 (28, [l0, l1], st, h) = mj_R 134 (30, [l0, l1], .int (nI 11) :: st, h) := mj_R_next rfl rfl
theorem mq_134_30 {l0 l1 : Value} {x y : Int32} {st : List Value} {h : mj_H} : mj_R 134 (30, [l0, l1], .int y :: .int x :: st, h) = if y ≤ x then mj_R 134 (59, [l0, l1], st, h) else mj_R 134 (33, [l0, l1], st, h) := mj_R_jge rfl
theorem mq_134_33 {l1 : Value} {x : Nat} {st : List Value} {h : mj_H} : mj_R 134 (33, [.ref x, l1], st, h) = mj_R 134 (34, [.ref x, l1], .ref x :: st, h) := mj_R_next rfl rfl
theorem mq_134_34 {l0 l1 : Value} {x : Nat} {st : List Value} {h : mj_H} : mj_R 134 (34, [l0, l1], .ref x :: st, h) = mj_bd (mj_gf h x 7 15) (fun v => mj_R 134 (37, [l0, l1], v :: st, h)) := mj_R_gf rfl
theorem mq_134_37 {l0 : Value} {x : Int32} {st : List Value} {h : mj_H} : mj_R 134 (37, [l0, .int x], st, h) = mj_R 134 (38, [l0, .int x], .int x :: st, h) := mj_R_next rfl rfl
theorem mq_134_38 {l1 : Value} {x : Nat} {st : List Value} {h : mj_H} : mj_R 134 (38, [.ref x, l1], st, h) = mj_R 134 (39, [.ref x, l1], .ref x :: st, h) := mj_R_next rfl rfl
theorem mq_134_39 {l0 l1 : Value} {x : Nat} {st : List Value} {h : mj_H} : mj_R 134 (39, [l0, l1], .ref x :: st, h) = mj_bd (mj_gf h x 7 17) (fun v => mj_R 134 (42, [l0, l1], v :: st, h)) := mj_R_gf rfl
theorem mq_134_42 {l0 l1 : Value} {st : List Value} {h : mj_H} : mj_R 134 (42, [l0, l1], st, h) = mj_R 134 (44, [l0, l1], .int (nI 11) :: st, h) := mj_R_next rfl rfl
theorem mq_134_44 {l1 : Value} {x : Nat} {st : List Value} {h : mj_H} : mj_R 134 (44, [.ref x, l1], st, h) = mj_R 134 (45, [.ref x, l1], .ref x :: st, h) := mj_R_next rfl rfl
theorem mq_134_45 {l0 l1 : Value} {x : Nat} {st : List Value} {h : mj_H} : mj_R 134 (45, [l0, l1], .ref x :: st, h) = mj_bd (mj_gf h x 7 18) (fun v => mj_R 134 (48, [l0, l1], v :: st, h)) := mj_R_gf rfl
theorem mq_134_48 {l0 l1 : Value} {x y : Int32} {st : List Value} {h : mj_H} : mj_R 134 (48, [l0, l1], .int y :: .int x :: st, h) = mj_R 134 (49, [l0, l1], .int (x * y) :: st, h) := mj_R_next rfl rfl
theorem mq_134_49 {l0 : Value} {x : Int32} {st : List Value} {h : mj_H} : mj_R 134 (49, [l0, .int x], st, h) = mj_R 134 (50, [l0, .int x], .int x :: st, h) := mj_R_next rfl rfl
theorem mq_134_50 {l0 l1 : Value} {x y : Int32} {st : List Value} {h : mj_H} : mj_R 134 (50, [l0, l1], .int y :: .int x :: st, h) = mj_R 134 (51, [l0, l1], .int (x + y) :: st, h) := mj_R_next rfl rfl
theorem mq_134_51 {l0 l1 : Value} {x : Nat} {j : Int32} {st : List Value} {h : mj_H} : mj_R 134 (51, [l0, l1], .int j :: .ref x :: st, h) = mj_bd (mj_gi h x j) (fun v => mj_R 134 (52, [l0, l1], .int v :: st, h)) := mj_R_gi rfl
theorem mq_134_52 {l0 l1 : Value} {x : Nat} {j v : Int32} {st : List Value} {h : mj_H} : mj_R 134 (52, [l0, l1], .int v :: .int j :: .ref x :: st, h) = mj_bd (mj_pi h x j v) (fun h' => mj_R 134 (53, [l0, l1], st, h')) := mj_R_pi rfl
theorem mq_134_53 {l0 : Value} {x : Int32} {st : List Value} {h : mj_H} : mj_R 134 (53, [l0, .int x], st, h) = mj_R 134 (56, [l0, .int (x + (nI 1))], st, h) := mj_R_next rfl rfl
theorem mq_134_56 {l0 l1 : Value} {st : List Value} {h : mj_H} : mj_R 134 (56, [l0, l1], st, h) = mj_R 134 (27, [l0, l1], st, h) := mj_R_next rfl rfl
theorem mq_134_59 {l1 : Value} {x : Nat} {st : List Value} {h : mj_H} : mj_R 134 (59, [.ref x, l1], st, h) = mj_R 134 (60, [.ref x, l1], .ref x :: st, h) := mj_R_next rfl rfl
theorem mq_134_60 {l0 l1 : Value} {x : Nat} {st : List Value} {h : mj_H} : mj_R 134 (60, [l0, l1], .ref x :: st, h) = mj_bd (mj_gf h x 7 18) (fun v => mj_R 134 (63, [l0, l1], v :: st, h)) := mj_R_gf rfl
theorem mq_134_63 {l0 l1 : Value} {x : Int32} {h : mj_H} : mj_R 134 (63, [l0, l1], [.int x], h) = some (some (.int x), h) := mj_R_ret rfl rfl
