theorem mc_25 {a0 : Nat} {h : mj_H} : mj_C 25 [.ref a0] h = mj_R 25 (0, [.ref a0], [], h) := rfl
theorem mq_25_0 {x : Nat} {st : List Value} {h : mj_H} : mj_R 25 (0, [.ref x], st, h) = mj_R 25 (1, [.ref x], .ref x :: st, h) := mj_R_next rfl rfl
theorem mq_25_1 {l0 : Value} {a0 : Nat} {h : mj_H} : mj_R 25 (1, [l0], [.ref a0], h) = mj_R 25 (4, [l0], [], h) := mj_R_next rfl rfl
theorem mq_25_4 {x : Nat} {st : List Value} {h : mj_H} : mj_R 25 (4, [.ref x], st, h) = mj_R 25 (5, [.ref x], .ref x :: st, h) := mj_R_next rfl rfl
theorem mq_25_5 {l0 : Value} {st : List Value} {h : mj_H} : mj_R 25 (5, [l0], st, h) = mj_R 25 (7, [l0], .int (nI 6) :: st, h) := mj_R_next rfl rfl
-- mq_25_7: .newarray .int
theorem mq_25_7 {l0 : Value} {st : List Value} {h : mj_H} : mj_R 25 (7, [l0], .int (nI 6) :: st, h) = mj_R 25 (9, [l0], .ref h.2.1 :: st, mj_new h (.inl (0, List.replicate 6 0))) := mj_R_next rfl rfl
theorem mq_25_9 {l0 : Value} {x : Nat} {v : Value} {st : List Value} {h : mj_H} : mj_R 25 (9, [l0], v :: .ref x :: st, h) = mj_bd (mj_pf h x 3 3 v) (fun h' => mj_R 25 (12, [l0], st, h')) := mj_R_pf rfl
theorem mq_25_12 {x : Nat} {st : List Value} {h : mj_H} : mj_R 25 (12, [.ref x], st, h) = mj_R 25 (13, [.ref x], .ref x :: st, h) := mj_R_next rfl rfl
theorem mq_25_13 {l0 : Value} {st : List Value} {h : mj_H} : mj_R 25 (13, [l0], st, h) = mj_R 25 (15, [l0], .int (nI 6) :: st, h) := mj_R_next rfl rfl
-- mq_25_15: .newarray .int
theorem mq_25_15 {l0 : Value} {st : List Value} {h : mj_H} : mj_R 25 (15, [l0], .int (nI 6) :: st, h) = mj_R 25 (17, [l0], .ref h.2.1 :: st, mj_new h (.inl (0, List.replicate 6 0))) := mj_R_next rfl rfl
theorem mq_25_17 {l0 : Value} {x : Nat} {v : Value} {st : List Value} {h : mj_H} : mj_R 25 (17, [l0], v :: .ref x :: st, h) = mj_bd (mj_pf h x 3 4 v) (fun h' => mj_R 25 (20, [l0], st, h')) := mj_R_pf rfl
theorem mq_25_20 {x : Nat} {st : List Value} {h : mj_H} : mj_R 25 (20, [.ref x], st, h) = mj_R 25 (21, [.ref x], .ref x :: st, h) := mj_R_next rfl rfl
theorem mq_25_21 {l0 : Value} {st : List Value} {h : mj_H} : mj_R 25 (21, [l0], st, h) = mj_R 25 (23, [l0], .int (nI 6) :: st, h) := mj_R_next rfl rfl
-- mq_25_23: .newarray .int
theorem mq_25_23 {l0 : Value} {st : List Value} {h : mj_H} : mj_R 25 (23, [l0], .int (nI 6) :: st, h) = mj_R 25 (25, [l0], .ref h.2.1 :: st, mj_new h (.inl (0, List.replicate 6 0))) := mj_R_next rfl rfl
theorem mq_25_25 {l0 : Value} {x : Nat} {v : Value} {st : List Value} {h : mj_H} : mj_R 25 (25, [l0], v :: .ref x :: st, h) = mj_bd (mj_pf h x 3 5 v) (fun h' => mj_R 25 (28, [l0], st, h')) := mj_R_pf rfl
theorem mq_25_28 {x : Nat} {st : List Value} {h : mj_H} : mj_R 25 (28, [.ref x], st, h) = mj_R 25 (29, [.ref x], .ref x :: st, h) := mj_R_next rfl rfl
theorem mq_25_29 {l0 : Value} {st : List Value} {h : mj_H} : mj_R 25 (29, [l0], st, h) = mj_R 25 (31, [l0], .int (nI 6) :: st, h) := mj_R_next rfl rfl
-- mq_25_31: .newarray .int
theorem mq_25_31 {l0 : Value} {st : List Value} {h : mj_H} : mj_R 25 (31, [l0], .int (nI 6) :: st, h) = mj_R 25 (33, [l0], .ref h.2.1 :: st, mj_new h (.inl (0, List.replicate 6 0))) := mj_R_next rfl rfl
theorem mq_25_33 {l0 : Value} {x : Nat} {v : Value} {st : List Value} {h : mj_H} : mj_R 25 (33, [l0], v :: .ref x :: st, h) = mj_bd (mj_pf h x 3 6 v) (fun h' => mj_R 25 (36, [l0], st, h')) := mj_R_pf rfl
theorem mq_25_36 {x : Nat} {st : List Value} {h : mj_H} : mj_R 25 (36, [.ref x], st, h) = mj_R 25 (37, [.ref x], .ref x :: st, h) := mj_R_next rfl rfl
theorem mq_25_37 {l0 : Value} {st : List Value} {h : mj_H} : mj_R 25 (37, [l0], st, h) = mj_R 25 (39, [l0], .int (nI 6) :: st, h) := mj_R_next rfl rfl
-- mq_25_39: .newarray .int
theorem mq_25_39 {l0 : Value} {st : List Value} {h : mj_H} : mj_R 25 (39, [l0], .int (nI 6) :: st, h) = mj_R 25 (41, [l0], .ref h.2.1 :: st, mj_new h (.inl (0, List.replicate 6 0))) := mj_R_next rfl rfl
theorem mq_25_41 {l0 : Value} {x : Nat} {v : Value} {st : List Value} {h : mj_H} : mj_R 25 (41, [l0], v :: .ref x :: st, h) = mj_bd (mj_pf h x 3 7 v) (fun h' => mj_R 25 (44, [l0], st, h')) := mj_R_pf rfl
theorem mq_25_44 {x : Nat} {st : List Value} {h : mj_H} : mj_R 25 (44, [.ref x], st, h) = mj_R 25 (45, [.ref x], .ref x :: st, h) := mj_R_next rfl rfl
theorem mq_25_45 {l0 : Value} {st : List Value} {h : mj_H} : mj_R 25 (45, [l0], st, h) = mj_R 25 (46, [l0], .int (nI 3) :: st, h) := mj_R_next rfl rfl
-- mq_25_46: .newarray .int
theorem mq_25_46 {l0 : Value} {st : List Value} {h : mj_H} : mj_R 25 (46, [l0], .int (nI 3) :: st, h) = mj_R 25 (48, [l0], .ref h.2.1 :: st, mj_new h (.inl (0, List.replicate 3 0))) := mj_R_next rfl rfl
theorem mq_25_48 {l0 : Value} {x : Nat} {v : Value} {st : List Value} {h : mj_H} : mj_R 25 (48, [l0], v :: .ref x :: st, h) = mj_bd (mj_pf h x 3 8 v) (fun h' => mj_R 25 (51, [l0], st, h')) := mj_R_pf rfl
theorem mq_25_51 {x : Nat} {st : List Value} {h : mj_H} : mj_R 25 (51, [.ref x], st, h) = mj_R 25 (52, [.ref x], .ref x :: st, h) := mj_R_next rfl rfl
theorem mq_25_52 {l0 : Value} {st : List Value} {h : mj_H} : mj_R 25 (52, [l0], st, h) = mj_R 25 (53, [l0], .int (nI 3) :: st, h) := mj_R_next rfl rfl
-- mq_25_53: .newarray .int
theorem mq_25_53 {l0 : Value} {st : List Value} {h : mj_H} : mj_R 25 (53, [l0], .int (nI 3) :: st, h) = mj_R 25 (55, [l0], .ref h.2.1 :: st, mj_new h (.inl (0, List.replicate 3 0))) := mj_R_next rfl rfl
theorem mq_25_55 {l0 : Value} {x : Nat} {v : Value} {st : List Value} {h : mj_H} : mj_R 25 (55, [l0], v :: .ref x :: st, h) = mj_bd (mj_pf h x 3 9 v) (fun h' => mj_R 25 (58, [l0], st, h')) := mj_R_pf rfl
theorem mq_25_58 {l0 : Value} {h : mj_H} : mj_R 25 (58, [l0], [], h) = some (none, h) := mj_R_ret rfl rfl
theorem mc_26 {a0 : Nat} {h : mj_H} : mj_C 26 [.ref a0] h = mj_R 26 (0, [.ref a0], [], h) := rfl
theorem mq_26_0 {x : Nat} {st : List Value} {h : mj_H} : mj_R 26 (0, [.ref x], st, h) = mj_R 26 (1, [.ref x], .ref x :: st, h) := mj_R_next rfl rfl
theorem mq_26_1 {l0 : Value} {st : List Value} {h : mj_H} : mj_R 26 (1, [l0], st, h) = mj_R 26 (2, [l0], .int (nI 0) :: st, h) := mj_R_next rfl rfl
theorem mq_26_2 {l0 : Value} {x : Nat} {v : Value} {st : List Value} {h : mj_H} : mj_R 26 (2, [l0], v :: .ref x :: st, h) = mj_bd (mj_pf h x 3 0 v) (fun h' => mj_R 26 (5, [l0], st, h')) := mj_R_pf rfl
theorem mq_26_5 {x : Nat} {st : List Value} {h : mj_H} : mj_R 26 (5, [.ref x], st, h) = mj_R 26 (6, [.ref x], .ref x :: st, h) := mj_R_next rfl rfl
theorem mq_26_6 {l0 : Value} {st : List Value} {h : mj_H} : mj_R 26 (6, [l0], st, h) = mj_R 26 (7, [l0], .int (nI 0) :: st, h) := mj_R_next rfl rfl
theorem mq_26_7 {l0 : Value} {x : Nat} {v : Value} {st : List Value} {h : mj_H} : mj_R 26 (7, [l0], v :: .ref x :: st, h) = mj_bd (mj_pf h x 3 1 v) (fun h' => mj_R 26 (10, [l0], st, h')) := mj_R_pf rfl
theorem mq_26_10 {x : Nat} {st : List Value} {h : mj_H} : mj_R 26 (10, [.ref x], st, h) = mj_R 26 (11, [.ref x], .ref x :: st, h) := mj_R_next rfl rfl
theorem mq_26_11 {l0 : Value} {st : List Value} {h : mj_H} : mj_R 26 (11, [l0], st, h) = mj_R 26 (12, [l0], .int (nI 0) :: st, h) := mj_R_next rfl rfl
theorem mq_26_12 {l0 : Value} {x : Nat} {v : Value} {st : List Value} {h : mj_H} : mj_R 26 (12, [l0], v :: .ref x :: st, h) = mj_bd (mj_pf h x 3 2 v) (fun h' => mj_R 26 (15, [l0], st, h')) := mj_R_pf rfl
theorem mq_26_15 {l0 : Value} {h : mj_H} : mj_R 26 (15, [l0], [], h) = some (none, h) := mj_R_ret rfl rfl
theorem mc_27 {a0 : Nat} {a1 : Int32} {a2 : Int32} {a3 : Int32} {a4 : Int32} {h : mj_H} : mj_C 27 [.ref a0, .int a1, .int a2, .int a3, .int a4] h = mj_R 27 (0, [.ref a0, .int a1, .int a2, .int a3, .int a4], [], h) := rfl
theorem mq_27_0 {l1 l2 l3 l4 : Value} {x : Nat} {st : List Value} {h : mj_H} : mj_R 27 (0, [.ref x, l1, l2, l3, l4], st, h) = mj_R 27 (1, [.ref x, l1, l2, l3, l4], .ref x :: st, h) := mj_R_next rfl rfl
theorem mq_27_1 {l0 l1 l2 l3 l4 : Value} {x : Nat} {st : List Value} {h : mj_H} : mj_R 27 (1, [l0, l1, l2, l3, l4], .ref x :: st, h) = mj_bd (mj_gf h x 3 1) (fun v => mj_R 27 (4, [l0, l1, l2, l3, l4], v :: st, h)) := mj_R_gf rfl
theorem mq_27_4 {l0 l1 l2 l3 l4 : Value} {st : List Value} {h : mj_H} : mj_R 27 (4, [l0, l1, l2, l3, l4], st, h) = mj_R 27 (6, [l0, l1, l2, l3, l4], .int (nI 6) :: st, h) := mj_R_next rfl rfl
theorem mq_27_6 {l0 l1 l2 l3 l4 : Value} {x y : Int32} {st : List Value} {h : mj_H} : mj_R 27 (6, [l0, l1, l2, l3, l4], .int y :: .int x :: st, h) = if y ≤ x then mj_R 27 (70, [l0, l1, l2, l3, l4], st, h) else mj_R 27 (9, [l0, l1, l2, l3, l4], st, h) := mj_R_jge rfl
theorem mq_27_9 {l1 l2 l3 l4 : Value} {x : Nat} {st : List Value} {h : mj_H} : mj_R 27 (9, [.ref x, l1, l2, l3, l4], st, h) = mj_R 27 (10, [.ref x, l1, l2, l3, l4], .ref x :: st, h) := mj_R_next rfl rfl
theorem mq_27_10 {l0 l1 l2 l3 l4 : Value} {x : Nat} {st : List Value} {h : mj_H} : mj_R 27 (10, [l0, l1, l2, l3, l4], .ref x :: st, h) = mj_bd (mj_gf h x 3 3) (fun v => mj_R 27 (13, [l0, l1, l2, l3, l4], v :: st, h)) := mj_R_gf rfl
theorem mq_27_13 {l1 l2 l3 l4 : Value} {x : Nat} {st : List Value} {h : mj_H} : mj_R 27 (13, [.ref x, l1, l2, l3, l4], st, h) = mj_R 27 (14, [.ref x, l1, l2, l3, l4], .ref x :: st, h) := mj_R_next rfl rfl
theorem mq_27_14 {l0 l1 l2 l3 l4 : Value} {x : Nat} {st : List Value} {h : mj_H} : mj_R 27 (14, [l0, l1, l2, l3, l4], .ref x :: st, h) = mj_bd (mj_gf h x 3 1) (fun v => mj_R 27 (17, [l0, l1, l2, l3, l4], v :: st, h)) := mj_R_gf rfl
theorem mq_27_17 {l0 l2 l3 l4 : Value} {x : Int32} {st : List Value} {h : mj_H} : mj_R 27 (17, [l0, .int x, l2, l3, l4], st, h) = mj_R 27 (18, [l0, .int x, l2, l3, l4], .int x :: st, h) := mj_R_next rfl rfl
theorem mq_27_18 {l0 l1 l2 l3 l4 : Value} {x : Nat} {j v : Int32} {st : List Value} {h : mj_H} : mj_R 27 (18, [l0, l1, l2, l3, l4], .int v :: .int j :: .ref x :: st, h) = mj_bd (mj_pi h x j v) (fun h' => mj_R 27 (19, [l0, l1, l2, l3, l4], st, h')) := mj_R_pi rfl
theorem mq_27_19 {l1 l2 l3 l4 : Value} {x : Nat} {st : List Value} {h : mj_H} : mj_R 27 (19, [.ref x, l1, l2, l3, l4], st, h) = mj_R 27 (20, [.ref x, l1, l2, l3, l4], .ref x :: st, h) := mj_R_next rfl rfl
theorem mq_27_20 {l0 l1 l2 l3 l4 : Value} {x : Nat} {st : List Value} {h : mj_H} : mj_R 27 (20, [l0, l1, l2, l3, l4], .ref x :: st, h) = mj_bd (mj_gf h x 3 4) (fun v => mj_R 27 (23, [l0, l1, l2, l3, l4], v :: st, h)) := mj_R_gf rfl
theorem mq_27_23 {l1 l2 l3 l4 : Value} {x : Nat} {st : List Value} {h : mj_H} : mj_R 27 (23, [.ref x, l1, l2, l3, l4], st, h) = mj_R 27 (24, [.ref x, l1, l2, l3, l4], .ref x :: st, h) := mj_R_next rfl rfl
theorem mq_27_24 {l0 l1 l2 l3 l4 : Value} {x : Nat} {st : List Value} {h : mj_H} : mj_R 27 (24, [l0, l1, l2, l3, l4], .ref x :: st, h) = mj_bd (mj_gf h x 3 1) (fun v => mj_R 27 (27, [l0, l1, l2, l3, l4], v :: st, h)) := mj_R_gf rfl
theorem mq_27_27 {l0 l1 l3 l4 : Value} {x : Int32} {st : List Value} {h : mj_H} : mj_R 27 (27, [l0, l1, .int x, l3, l4], st, h) = mj_R 27 (28, [l0, l1, .int x, l3, l4], .int x :: st, h) := mj_R_next rfl rfl
theorem mq_27_28 {l0 l1 l2 l3 l4 : Value} {x : Nat} {j v : Int32} {st : List Value} {h : mj_H} : mj_R 27 (28, [l0, l1, l2, l3, l4], .int v :: .int j :: .ref x :: st, h) = mj_bd (mj_pi h x j v) (fun h' => mj_R 27 (29, [l0, l1, l2, l3, l4], st, h')) := mj_R_pi rfl
theorem mq_27_29 {l1 l2 l3 l4 : Value} {x : Nat} {st : List Value} {h : mj_H} : mj_R 27 (29, [.ref x, l1, l2, l3, l4], st, h) = mj_R 27 (30, [.ref x, l1, l2, l3, l4], .ref x :: st, h) := mj_R_next rfl rfl
theorem mq_27_30 {l0 l1 l2 l3 l4 : Value} {x : Nat} {st : List Value} {h : mj_H} : mj_R 27 (30, [l0, l1, l2, l3, l4], .ref x :: st, h) = mj_bd (mj_gf h x 3 5) (fun v => mj_R 27 (33, [l0, l1, l2, l3, l4], v :: st, h)) := mj_R_gf rfl
theorem mq_27_33 {l1 l2 l3 l4 : Value} {x : Nat} {st : List Value} {h : mj_H} : mj_R 27 (33, [.ref x, l1, l2, l3, l4], st, h) = mj_R 27 (34, [.ref x, l1, l2, l3, l4], .ref x :: st, h) := mj_R_next rfl rfl
theorem mq_27_34 {l0 l1 l2 l3 l4 : Value} {x : Nat} {st : List Value} {h : mj_H} : mj_R 27 (34, [l0, l1, l2, l3, l4], .ref x :: st, h) = mj_bd (mj_gf h x 3 1) (fun v => mj_R 27 (37, [l0, l1, l2, l3, l4], v :: st, h)) := mj_R_gf rfl
theorem mq_27_37 {l0 l1 l2 l4 : Value} {x : Int32} {st : List Value} {h : mj_H} : mj_R 27 (37, [l0, l1, l2, .int x, l4], st, h) = mj_R 27 (38, [l0, l1, l2, .int x, l4], .int x :: st, h) := mj_R_next rfl rfl
theorem mq_27_38 {l0 l1 l2 l3 l4 : Value} {x : Nat} {j v : Int32} {st : List Value} {h : mj_H} : mj_R 27 (38, [l0, l1, l2, l3, l4], .int v :: .int j :: .ref x :: st, h) = mj_bd (mj_pi h x j v) (fun h' => mj_R 27 (39, [l0, l1, l2, l3, l4], st, h')) := mj_R_pi rfl
theorem mq_27_39 {l1 l2 l3 l4 : Value} {x : Nat} {st : List Value} {h : mj_H} : mj_R 27 (39, [.ref x, l1, l2, l3, l4], st, h) = mj_R 27 (40, [.ref x, l1, l2, l3, l4], .ref x :: st, h) := mj_R_next rfl rfl
theorem mq_27_40 {l0 l1 l2 l3 l4 : Value} {x : Nat} {st : List Value} {h : mj_H} : mj_R 27 (40, [l0, l1, l2, l3, l4], .ref x :: st, h) = mj_bd (mj_gf h x 3 6) (fun v => mj_R 27 (43, [l0, l1, l2, l3, l4], v :: st, h)) := mj_R_gf rfl
theorem mq_27_43 {l1 l2 l3 l4 : Value} {x : Nat} {st : List Value} {h : mj_H} : mj_R 27 (43, [.ref x, l1, l2, l3, l4], st, h) = mj_R 27 (44, [.ref x, l1, l2, l3, l4], .ref x :: st, h) := mj_R_next rfl rfl
theorem mq_27_44 {l0 l1 l2 l3 l4 : Value} {x : Nat} {st : List Value} {h : mj_H} : mj_R 27 (44, [l0, l1, l2, l3, l4], .ref x :: st, h) = mj_bd (mj_gf h x 3 1) (fun v => mj_R 27 (47, [l0, l1, l2, l3, l4], v :: st, h)) := mj_R_gf rfl
theorem mq_27_47 {l0 l1 l2 l3 : Value} {x : Int32} {st : List Value} {h : mj_H} : mj_R 27 (47, [l0, l1, l2, l3, .int x], st, h) = mj_R 27 (49, [l0, l1, l2, l3, .int x], .int x :: st, h) := mj_R_next rfl rfl
theorem mq_27_49 {l0 l1 l2 l3 l4 : Value} {x : Nat} {j v : Int32} {st : List Value} {h : mj_H} : mj_R 27 (49, [l0, l1, l2, l3, l4], .int v :: .int j :: .ref x :: st, h) = mj_bd (mj_pi h x j v) (fun h' => mj_R 27 (50, [l0, l1, l2, l3, l4], st, h')) := mj_R_pi rfl
theorem mq_27_50 {l1 l2 l3 l4 : Value} {x : Nat} {st : List Value} {h : mj_H} : mj_R 27 (50, [.ref x, l1, l2, l3, l4], st, h) = mj_R 27 (51, [.ref x, l1, l2, l3, l4], .ref x :: st, h) := mj_R_next rfl rfl
theorem mq_27_51 {l0 l1 l2 l3 l4 : Value} {x : Nat} {st : List Value} {h : mj_H} : mj_R 27 (51, [l0, l1, l2, l3, l4], .ref x :: st, h) = mj_bd (mj_gf h x 3 7) (fun v => mj_R 27 (54, [l0, l1, l2, l3, l4], v :: st, h)) := mj_R_gf rfl
theorem mq_27_54 {l1 l2 l3 l4 : Value} {x : Nat} {st : List Value} {h : mj_H} : mj_R 27 (54, [.ref x, l1, l2, l3, l4], st, h) = mj_R 27 (55, [.ref x, l1, l2, l3, l4], .ref x :: st, h) := mj_R_next rfl rfl
theorem mq_27_55 {l0 l1 l2 l3 l4 : Value} {x : Nat} {st : List Value} {h : mj_H} : mj_R 27 (55, [l0, l1, l2, l3, l4], .ref x :: st, h) = mj_bd (mj_gf h x 3 1) (fun v => mj_R 27 (58, [l0, l1, l2, l3, l4], v :: st, h)) := mj_R_gf rfl
theorem mq_27_58 {l0 l1 l2 l3 l4 : Value} {st : List Value} {h : mj_H} : mj_R 27 (58, [l0, l1, l2, l3, l4], st, h) = mj_R 27 (59, [l0, l1, l2, l3, l4], .int (nI 0) :: st, h) := mj_R_next rfl rfl
theorem mq_27_59 {l0 l1 l2 l3 l4 : Value} {x : Nat} {j v : Int32} {st : List Value} {h : mj_H} : mj_R 27 (59, [l0, l1, l2, l3, l4], .int v :: .int j :: .ref x :: st, h) = mj_bd (mj_pi h x j v) (fun h' => mj_R 27 (60, [l0, l1, l2, l3, l4], st, h')) := mj_R_pi rfl
theorem mq_27_60 {l1 l2 l3 l4 : Value} {x : Nat} {st : List Value} {h : mj_H} : mj_R 27 (60, [.ref x, l1, l2, l3, l4], st, h) = mj_R 27 (61, [.ref x, l1, l2, l3, l4], .ref x :: st, h) := mj_R_next rfl rfl
theorem mq_27_61 {l0 l1 l2 l3 l4 : Value} {x : Nat} {st : List Value} {h : mj_H} : mj_R 27 (61, [l0, l1, l2, l3, l4], .ref x :: st, h) = mj_R 27 (62, [l0, l1, l2, l3, l4], .ref x :: .ref x :: st, h) := mj_R_next rfl rfl
theorem mq_27_62 {l0 l1 l2 l3 l4 : Value} {x : Nat} {st : List Value} {h : mj_H} : mj_R 27 (62, [l0, l1, l2, l3, l4], .ref x :: st, h) = mj_bd (mj_gf h x 3 1) (fun v => mj_R 27 (65, [l0, l1, l2, l3, l4], v :: st, h)) := mj_R_gf rfl
theorem mq_27_65 {l0 l1 l2 l3 l4 : Value} {st : List Value} {h : mj_H} : mj_R 27 (65, [l0, l1, l2, l3, l4], st, h) = mj_R 27 (66, [l0, l1, l2, l3, l4], .int (nI 1) :: st, h) := mj_R_next rfl rfl
theorem mq_27_66 {l0 l1 l2 l3 l4 : Value} {x y : Int32} {st : List Value} {h : mj_H} : mj_R 27 (66, [l0, l1, l2, l3, l4], .int y :: .int x :: st, h) = mj_R 27 (67, [l0, l1, l2, l3, l4], .int (x + y) :: st, h) := mj_R_next rfl rfl
theorem mq_27_67 {l0 l1 l2 l3 l4 : Value} {x : Nat} {v : Value} {st : List Value} {h : mj_H} : mj_R 27 (67, [l0, l1, l2, l3, l4], v :: .ref x :: st, h) = mj_bd (mj_pf h x 3 1 v) (fun h' => mj_R 27 (70, [l0, l1, l2, l3, l4], st, h')) := mj_R_pf rfl
theorem mq_27_70 {l0 l1 l2 l3 l4 : Value} {h : mj_H} : mj_R 27 (70, [l0, l1, l2, l3, l4], [], h) = some (none, h) := mj_R_ret rfl rfl
theorem mc_28 {a0 : Nat} {h : mj_H} : mj_C 28 [.ref a0] h = mj_R 28 (0, [.ref a0], [], h) := rfl
theorem mq_28_0 {x : Nat} {st : List Value} {h : mj_H} : mj_R 28 (0, [.ref x], st, h) = mj_R 28 (1, [.ref x], .ref x :: st, h) := mj_R_next rfl rfl
theorem mq_28_1 {l0 : Value} {a0 : Nat} {h : mj_H} : mj_R 28 (1, [l0], [.ref a0], h) = if mj_isC h a0 3 = true then mj_bd (mj_C 29 [.ref a0] h) (fun r => mj_R 28 (4, [l0], r.1.toList ++ [], r.2)) else none := mj_R_cv rfl rfl
theorem mq_28_4 {l0 : Value} {x : Int32} {st : List Value} {h : mj_H} : mj_R 28 (4, [l0], .int x :: st, h) = if x = nI 0 then mj_R 28 (11, [l0], st, h) else mj_R 28 (7, [l0], st, h) := mj_R_ieq rfl
theorem mq_28_7 {l0 : Value} {st : List Value} {h : mj_H} : mj_R 28 (7, [l0], st, h) = mj_R 28 (8, [l0], .int (nI 1) :: st, h) := mj_R_next rfl rfl
theorem mq_28_8 {l0 : Value} {st : List Value} {h : mj_H} : mj_R 28 (8, [l0], st, h) = mj_R 28 (12, [l0], st, h) := mj_R_next rfl rfl
theorem mq_28_11 {l0 : Value} {st : List Value} {h : mj_H} : mj_R 28 (11, [l0], st, h) = mj_R 28 (12, [l0], .int (nI 0) :: st, h) := mj_R_next rfl rfl
theorem mq_28_12 {l0 : Value} {x : Int32} {h : mj_H} : mj_R 28 (12, [l0], [.int x], h) = if (x == 0 || x == 1) = true then some (some (.int x), h) else none := mj_R_rz rfl rfl
theorem mc_29 {a0 : Nat} {h : mj_H} : mj_C 29 [.ref a0] h = mj_R 29 (0, [.ref a0, .null, .null], [], h) := rfl
theorem mq_29_0 {l0 l1 l2 : Value} {st : List Value} {h : mj_H} : mj_R 29 (0, [l0, l1, l2], st, h) = mj_R 29 (1, [l0, l1, l2], .int (nI 0) :: st, h) := mj_R_next rfl rfl
theorem mq_29_1 {l0 l1 l2 : Value} {x : Int32} {st : List Value} {h : mj_H} : mj_R 29 (1, [l0, l1, l2], .int x :: st, h) = mj_R 29 (2, [l0, .int x, l2], st, h) := mj_R_next rfl rfl
theorem mq_29_2 {l0 l1 l2 : Value} {st : List Value} {h : mj_H} : mj_R 29 (2, [l0, l1, l2], st, h) = mj_R 29 (3, [l0, l1, l2], .int (nI 0) :: st, h) := mj_R_next rfl rfl
theorem mq_29_3 {l0 l1 l2 : Value} {x : Int32} {st : List Value} {h : mj_H} : mj_R 29 (3, [l0, l1, l2], .int x :: st, h) = mj_R 29 (4, [l0, l1, .int x], st, h) := mj_R_next rfl rfl
theorem mq_29_4 {l0 l1 : Value} {x : Int32} {st : List Value} {h : mj_H} : mj_R 29 (4, [l0, l1, .int x], st, h) = mj_R 29 (5, [l0, l1, .int x], .int x :: st, h) := mj_R_next rfl rfl
theorem mq_29_5 {l1 l2 : Value} {x : Nat} {st : List Value} {h : mj_H} : mj_R 29 (5, [.ref x, l1, l2], st, h) = mj_R 29 (6, [.ref x, l1, l2], .ref x :: st, h) := mj_R_next rfl rfl
theorem mq_29_6 {l0 l1 l2 : Value} {x : Nat} {st : List Value} {h : mj_H} : mj_R 29 (6, [l0, l1, l2], .ref x :: st, h) = mj_bd (mj_gf h x 3 1) (fun v => mj_R 29 (9, [l0, l1, l2], v :: st, h)) := mj_R_gf rfl
theorem mq_29_9 {l0 l1 l2 : Value} {x y : Int32} {st : List Value} {h : mj_H} : mj_R 29 (9, [l0, l1, l2], .int y :: .int x :: st, h) = if y ≤ x then mj_R 29 (32, [l0, l1, l2], st, h) else mj_R 29 (12, [l0, l1, l2], st, h) := mj_R_jge rfl
theorem mq_29_12 {l1 l2 : Value} {x : Nat} {st : List Value} {h : mj_H} : mj_R 29 (12, [.ref x, l1, l2], st, h) = mj_R 29 (13, [.ref x, l1, l2], .ref x :: st, h) := mj_R_next rfl rfl
theorem mq_29_13 {l0 l1 : Value} {x : Int32} {st : List Value} {h : mj_H} : mj_R 29 (13, [l0, l1, .int x], st, h) = mj_R 29 (14, [l0, l1, .int x], .int x :: st, h) := mj_R_next rfl rfl
theorem mq_29_14 {l0 l1 l2 : Value} {a0 : Nat} {a1 : Int32} {h : mj_H} : mj_R 29 (14, [l0, l1, l2], [.int a1, .ref a0], h) = if mj_isC h a0 3 = true then mj_bd (mj_C 30 [.ref a0, .int a1] h) (fun r => mj_R 29 (17, [l0, l1, l2], r.1.toList ++ [], r.2)) else none := mj_R_cv rfl rfl
theorem mq_29_17 {l0 l1 l2 : Value} {x : Int32} {st : List Value} {h : mj_H} : mj_R 29 (17, [l0, l1, l2], .int x :: st, h) = if x = nI 0 then mj_R 29 (26, [l0, l1, l2], st, h) else mj_R 29 (20, [l0, l1, l2], st, h) := mj_R_ieq rfl
theorem mq_29_20 {l0 l2 : Value} {x : Int32} {st : List Value} {h : mj_H} : mj_R 29 (20, [l0, .int x, l2], st, h) = mj_R 29 (21, [l0, .int x, l2], .int x :: st, h) := mj_R_next rfl rfl
theorem mq_29_21 {l0 l1 l2 : Value} {st : List Value} {h : mj_H} : mj_R 29 (21, [l0, l1, l2], st, h) = mj_R 29 (22, [l0, l1, l2], .int (nI 1) :: st, h) := mj_R_next rfl rfl
theorem mq_29_22 {l0 l1 : Value} {x : Int32} {st : List Value} {h : mj_H} : mj_R 29 (22, [l0, l1, .int x], st, h) = mj_R 29 (23, [l0, l1, .int x], .int x :: st, h) := mj_R_next rfl rfl
theorem mq_29_23 {l0 l1 l2 : Value} {x y : Int32} {st : List Value} {h : mj_H} : mj_R 29 (23, [l0, l1, l2], .int y :: .int x :: st, h) = mj_R 29 (24, [l0, l1, l2], .int (x <<< (y &&& 31)) :: st, h) := mj_R_next rfl rfl
theorem mq_29_24 {l0 l1 l2 : Value} {x y : Int32} {st : List Value} {h : mj_H} : mj_R 29 (24, [l0, l1, l2], .int y :: .int x :: st, h) = mj_R 29 (25, [l0, l1, l2], .int (x ||| y) :: st, h) := mj_R_next rfl rfl
theorem mq_29_25 {l0 l1 l2 : Value} {x : Int32} {st : List Value} {h : mj_H} : mj_R 29 (25, [l0, l1, l2], .int x :: st, h) = mj_R 29 (26, [l0, .int x, l2], st, h) := mj_R_next rfl rfl
theorem mq_29_26 {l0 l1 : Value} {x : Int32} {st : List Value} {h : mj_H} : mj_R 29 (26, [l0, l1, .int x], st, h) = mj_R 29 (29, [l0, l1, .int (x + (nI 1))], st, h) := mj_R_next rfl rfl
theorem mq_29_29 {l0 l1 l2 : Value} {st : List Value} {h : mj_H} : mj_R 29 (29, [l0, l1, l2], st, h) = mj_R 29 (4, [l0, l1, l2], st, h) := mj_R_next rfl rfl
theorem mq_29_32 {l0 l2 : Value} {x : Int32} {st : List Value} {h : mj_H} : mj_R 29 (32, [l0, .int x, l2], st, h) = mj_R 29 (33, [l0, .int x, l2], .int x :: st, h) := mj_R_next rfl rfl
theorem mq_29_33 {l0 l1 l2 : Value} {x : Int32} {h : mj_H} : mj_R 29 (33, [l0, l1, l2], [.int x], h) = some (some (.int x), h) := mj_R_ret rfl rfl
theorem mc_30 {a0 : Nat} {a1 : Int32} {h : mj_H} : mj_C 30 [.ref a0, .int a1] h = mj_R 30 (0, [.ref a0, .int a1], [], h) := rfl
theorem mq_30_0 {l1 : Value} {x : Nat} {st : List Value} {h : mj_H} : mj_R 30 (0, [.ref x, l1], st, h) = mj_R 30 (1, [.ref x, l1], .ref x :: st, h) := mj_R_next rfl rfl
theorem mq_30_1 {l0 : Value} {x : Int32} {st : List Value} {h : mj_H} : mj_R 30 (1, [l0, .int x], st, h) = mj_R 30 (2, [l0, .int x], .int x :: st, h) := mj_R_next rfl rfl
theorem mq_30_2 {l0 l1 : Value} {a0 : Nat} {a1 : Int32} {h : mj_H} : mj_R 30 (2, [l0, l1], [.int a1, .ref a0], h) = if mj_isC h a0 3 = true then mj_bd (mj_C 31 [.ref a0, .int a1] h) (fun r => mj_R 30 (5, [l0, l1], r.1.toList ++ [], r.2)) else none := mj_R_cv rfl rfl
theorem mq_30_5 {l0 l1 : Value} {x : Int32} {st : List Value} {h : mj_H} : mj_R 30 (5, [l0, l1], .int x :: st, h) = if x = nI 0 then mj_R 30 (30, [l0, l1], st, h) else mj_R 30 (8, [l0, l1], st, h) := mj_R_ieq rfl
theorem mq_30_8 {l1 : Value} {x : Nat} {st : List Value} {h : mj_H} : mj_R 30 (8, [.ref x, l1], st, h) = mj_R 30 (9, [.ref x, l1], .ref x :: st, h) := mj_R_next rfl rfl
theorem mq_30_9 {l0 l1 : Value} {a0 : Nat} {h : mj_H} : mj_R 30 (9, [l0, l1], [.ref a0], h) = if mj_isC h a0 3 = true then mj_bd (mj_C 32 [.ref a0] h) (fun r => mj_R 30 (12, [l0, l1], r.1.toList ++ [], r.2)) else none := mj_R_cv rfl rfl
theorem mq_30_12 {l1 : Value} {x : Nat} {st : List Value} {h : mj_H} : mj_R 30 (12, [.ref x, l1], st, h) = mj_R 30 (13, [.ref x, l1], .ref x :: st, h) := mj_R_next rfl rfl
theorem mq_30_13 {l0 l1 : Value} {x : Nat} {st : List Value} {h : mj_H} : mj_R 30 (13, [l0, l1], .ref x :: st, h) = mj_bd (mj_gf h x 3 7) (fun v => mj_R 30 (16, [l0, l1], v :: st, h)) := mj_R_gf rfl
theorem mq_30_16 {l0 : Value} {x : Int32} {st : List Value} {h : mj_H} : mj_R 30 (16, [l0, .int x], st, h) = mj_R 30 (17, [l0, .int x], .int x :: st, h) := mj_R_next rfl rfl
theorem mq_30_17 {l0 l1 : Value} {x : Nat} {j : Int32} {st : List Value} {h : mj_H} : mj_R 30 (17, [l0, l1], .int j :: .ref x :: st, h) = mj_bd (mj_gi h x j) (fun v => mj_R 30 (18, [l0, l1], .int v :: st, h)) := mj_R_gi rfl
theorem mq_30_18 {l0 l1 : Value} {st : List Value} {h : mj_H} : mj_R 30 (18, [l0, l1], st, h) = mj_R 30 (19, [l0, l1], .int (-1) :: st, h) := mj_R_next rfl rfl
theorem mq_30_19 {l0 l1 : Value} {x y : Int32} {st : List Value} {h : mj_H} : mj_R 30 (19, [l0, l1], .int y :: .int x :: st, h) = mj_R 30 (20, [l0, l1], .int (x ^^^ y) :: st, h) := mj_R_next rfl rfl
theorem mq_30_20 {l0 l1 : Value} {x y : Int32} {st : List Value} {h : mj_H} : mj_R 30 (20, [l0, l1], .int y :: .int x :: st, h) = mj_R 30 (21, [l0, l1], .int (x &&& y) :: st, h) := mj_R_next rfl rfl
theorem mq_30_21 {l0 l1 : Value} {st : List Value} {h : mj_H} : mj_R 30 (21, [l0, l1], st, h) = mj_R 30 (22, [l0, l1], .int (nI 1) :: st, h) := mj_R_next rfl rfl
theorem mq_30_22 {l0 : Value} {x : Int32} {st : List Value} {h : mj_H} : mj_R 30 (22, [l0, .int x], st, h) = mj_R 30 (23, [l0, .int x], .int x :: st, h) := mj_R_next rfl rfl
theorem mq_30_23 {l0 l1 : Value} {x y : Int32} {st : List Value} {h : mj_H} : mj_R 30 (23, [l0, l1], .int y :: .int x :: st, h) = mj_R 30 (24, [l0, l1], .int (x <<< (y &&& 31)) :: st, h) := mj_R_next rfl rfl
theorem mq_30_24 {l0 l1 : Value} {st : List Value} {h : mj_H} : mj_R 30 (24, [l0, l1], st, h) = mj_R 30 (25, [l0, l1], .int (-1) :: st, h) := mj_R_next rfl rfl
theorem mq_30_25 {l0 l1 : Value} {x y : Int32} {st : List Value} {h : mj_H} : mj_R 30 (25, [l0, l1], .int y :: .int x :: st, h) = mj_R 30 (26, [l0, l1], .int (x ^^^ y) :: st, h) := mj_R_next rfl rfl
theorem mq_30_26 {l0 l1 : Value} {x y : Int32} {st : List Value} {h : mj_H} : mj_R 30 (26, [l0, l1], .int y :: .int x :: st, h) = mj_R 30 (27, [l0, l1], .int (x &&& y) :: st, h) := mj_R_next rfl rfl
theorem mq_30_27 {l0 l1 : Value} {st : List Value} {h : mj_H} : mj_R 30 (27, [l0, l1], st, h) = mj_R 30 (31, [l0, l1], st, h) := mj_R_next rfl rfl
theorem mq_30_30 {l0 l1 : Value} {st : List Value} {h : mj_H} : mj_R 30 (30, [l0, l1], st, h) = mj_R 30 (31, [l0, l1], .int (nI 0) :: st, h) := mj_R_next rfl rfl
theorem mq_30_31 {l0 l1 : Value} {x : Int32} {h : mj_H} : mj_R 30 (31, [l0, l1], [.int x], h) = some (some (.int x), h) := mj_R_ret rfl rfl
theorem mc_31 {a0 : Nat} {a1 : Int32} {h : mj_H} : mj_C 31 [.ref a0, .int a1] h = mj_R 31 (0, [.ref a0, .int a1], [], h) := rfl
theorem mq_31_0 {l0 : Value} {x : Int32} {st : List Value} {h : mj_H} : mj_R 31 (0, [l0, .int x], st, h) = mj_R 31 (1, [l0, .int x], .int x :: st, h) := mj_R_next rfl rfl
theorem mq_31_1 {l0 l1 : Value} {x : Int32} {st : List Value} {h : mj_H} : mj_R 31 (1, [l0, l1], .int x :: st, h) = if x < nI 0 then mj_R 31 (16, [l0, l1], st, h) else mj_R 31 (4, [l0, l1], st, h) := mj_R_ilt rfl
theorem mq_31_4 {l0 : Value} {x : Int32} {st : List Value} {h : mj_H} : mj_R 31 (4, [l0, .int x], st, h) = mj_R 31 (5, [l0, .int x], .int x :: st, h) := mj_R_next rfl rfl
theorem mq_31_5 {l1 : Value} {x : Nat} {st : List Value} {h : mj_H} : mj_R 31 (5, [.ref x, l1], st, h) = mj_R 31 (6, [.ref x, l1], .ref x :: st, h) := mj_R_next rfl rfl
theorem mq_31_6 {l0 l1 : Value} {x : Nat} {st : List Value} {h : mj_H} : mj_R 31 (6, [l0, l1], .ref x :: st, h) = mj_bd (mj_gf h x 3 1) (fun v => mj_R 31 (9, [l0, l1], v :: st, h)) := mj_R_gf rfl
theorem mq_31_9 {l0 l1 : Value} {x y : Int32} {st : List Value} {h : mj_H} : mj_R 31 (9, [l0, l1], .int y :: .int x :: st, h) = if y ≤ x then mj_R 31 (16, [l0, l1], st, h) else mj_R 31 (12, [l0, l1], st, h) := mj_R_jge rfl
theorem mq_31_12 {l0 l1 : Value} {st : List Value} {h : mj_H} : mj_R 31 (12, [l0, l1], st, h) = mj_R 31 (13, [l0, l1], .int (nI 1) :: st, h) := mj_R_next rfl rfl
theorem mq_31_13 {l0 l1 : Value} {st : List Value} {h : mj_H} : mj_R 31 (13, [l0, l1], st, h) = mj_R 31 (17, [l0, l1], st, h) := mj_R_next rfl rfl
theorem mq_31_16 {l0 l1 : Value} {st : List Value} {h : mj_H} : mj_R 31 (16, [l0, l1], st, h) = mj_R 31 (17, [l0, l1], .int (nI 0) :: st, h) := mj_R_next rfl rfl
theorem mq_31_17 {l0 l1 : Value} {x : Int32} {h : mj_H} : mj_R 31 (17, [l0, l1], [.int x], h) = if (x == 0 || x == 1) = true then some (some (.int x), h) else none := mj_R_rz rfl rfl
theorem mc_32 {a0 : Nat} {h : mj_H} : mj_C 32 [.ref a0] h = mj_R 32 (0, [.ref a0], [], h) := rfl
theorem mq_32_0 {l0 : Value} {st : List Value} {h : mj_H} : mj_R 32 (0, [l0], st, h) = mj_R 32 (1, [l0], .int (nI 1) :: st, h) := mj_R_next rfl rfl
theorem mq_32_1 {x : Nat} {st : List Value} {h : mj_H} : mj_R 32 (1, [.ref x], st, h) = mj_R 32 (2, [.ref x], .ref x :: st, h) := mj_R_next rfl rfl
theorem mq_32_2 {l0 : Value} {x : Nat} {st : List Value} {h : mj_H} : mj_R 32 (2, [l0], .ref x :: st, h) = mj_bd (mj_gf h x 3 1) (fun v => mj_R 32 (5, [l0], v :: st, h)) := mj_R_gf rfl
theorem mq_32_5 {l0 : Value} {x y : Int32} {st : List Value} {h : mj_H} : mj_R 32 (5, [l0], .int y :: .int x :: st, h) = mj_R 32 (6, [l0], .int (x <<< (y &&& 31)) :: st, h) := mj_R_next rfl rfl
theorem mq_32_6 {l0 : Value} {st : List Value} {h : mj_H} : mj_R 32 (6, [l0], st, h) = mj_R 32 (7, [l0], .int (nI 1) :: st, h) := mj_R_next rfl rfl
theorem mq_32_7 {l0 : Value} {x y : Int32} {st : List Value} {h : mj_H} : mj_R 32 (7, [l0], .int y :: .int x :: st, h) = mj_R 32 (8, [l0], .int (x - y) :: st, h) := mj_R_next rfl rfl
theorem mq_32_8 {l0 : Value} {x : Int32} {h : mj_H} : mj_R 32 (8, [l0], [.int x], h) = some (some (.int x), h) := mj_R_ret rfl rfl
theorem mc_33 {a0 : Nat} {a1 : Int32} {a2 : Int32} {h : mj_H} : mj_C 33 [.ref a0, .int a1, .int a2] h = mj_R 33 (0, [.ref a0, .int a1, .int a2], [], h) := rfl
theorem mq_33_0 {l1 l2 : Value} {x : Nat} {st : List Value} {h : mj_H} : mj_R 33 (0, [.ref x, l1, l2], st, h) = mj_R 33 (1, [.ref x, l1, l2], .ref x :: st, h) := mj_R_next rfl rfl
theorem mq_33_1 {l0 l2 : Value} {x : Int32} {st : List Value} {h : mj_H} : mj_R 33 (1, [l0, .int x, l2], st, h) = mj_R 33 (2, [l0, .int x, l2], .int x :: st, h) := mj_R_next rfl rfl
theorem mq_33_2 {l0 l1 l2 : Value} {a0 : Nat} {a1 : Int32} {h : mj_H} : mj_R 33 (2, [l0, l1, l2], [.int a1, .ref a0], h) = if mj_isC h a0 3 = true then mj_bd (mj_C 31 [.ref a0, .int a1] h) (fun r => mj_R 33 (5, [l0, l1, l2], r.1.toList ++ [], r.2)) else none := mj_R_cv rfl rfl
theorem mq_33_5 {l0 l1 l2 : Value} {x : Int32} {st : List Value} {h : mj_H} : mj_R 33 (5, [l0, l1, l2], .int x :: st, h) = if x = nI 0 then mj_R 33 (40, [l0, l1, l2], st, h) else mj_R 33 (8, [l0, l1, l2], st, h) := mj_R_ieq rfl
theorem mq_33_8 {l1 l2 : Value} {x : Nat} {st : List Value} {h : mj_H} : mj_R 33 (8, [.ref x, l1, l2], st, h) = mj_R 33 (9, [.ref x, l1, l2], .ref x :: st, h) := mj_R_next rfl rfl
theorem mq_33_9 {l0 l1 : Value} {x : Int32} {st : List Value} {h : mj_H} : mj_R 33 (9, [l0, l1, .int x], st, h) = mj_R 33 (10, [l0, l1, .int x], .int x :: st, h) := mj_R_next rfl rfl
theorem mq_33_10 {l0 l1 l2 : Value} {a0 : Nat} {a1 : Int32} {h : mj_H} : mj_R 33 (10, [l0, l1, l2], [.int a1, .ref a0], h) = if mj_isC h a0 3 = true then mj_bd (mj_C 31 [.ref a0, .int a1] h) (fun r => mj_R 33 (13, [l0, l1, l2], r.1.toList ++ [], r.2)) else none := mj_R_cv rfl rfl
theorem mq_33_13 {l0 l1 l2 : Value} {x : Int32} {st : List Value} {h : mj_H} : mj_R 33 (13, [l0, l1, l2], .int x :: st, h) = if x = nI 0 then mj_R 33 (40, [l0, l1, l2], st, h) else mj_R 33 (16, [l0, l1, l2], st, h) := mj_R_ieq rfl
theorem mq_33_16 {l1 l2 : Value} {x : Nat} {st : List Value} {h : mj_H} : mj_R 33 (16, [.ref x, l1, l2], st, h) = mj_R 33 (17, [.ref x, l1, l2], .ref x :: st, h) := mj_R_next rfl rfl
theorem mq_33_17 {l0 l1 l2 : Value} {x : Nat} {st : List Value} {h : mj_H} : mj_R 33 (17, [l0, l1, l2], .ref x :: st, h) = mj_bd (mj_gf h x 3 7) (fun v => mj_R 33 (20, [l0, l1, l2], v :: st, h)) := mj_R_gf rfl
theorem mq_33_20 {l0 l2 : Value} {x : Int32} {st : List Value} {h : mj_H} : mj_R 33 (20, [l0, .int x, l2], st, h) = mj_R 33 (21, [l0, .int x, l2], .int x :: st, h) := mj_R_next rfl rfl
theorem mq_33_21 {l0 l1 l2 : Value} {x : Int32} {y : Nat} {st : List Value} {h : mj_H} : mj_R 33 (21, [l0, l1, l2], .int x :: .ref y :: st, h) = mj_R 33 (22, [l0, l1, l2], .int x :: .ref y :: .int x :: .ref y :: st, h) := mj_R_next rfl rfl
theorem mq_33_22 {l0 l1 l2 : Value} {x : Nat} {j : Int32} {st : List Value} {h : mj_H} : mj_R 33 (22, [l0, l1, l2], .int j :: .ref x :: st, h) = mj_bd (mj_gi h x j) (fun v => mj_R 33 (23, [l0, l1, l2], .int v :: st, h)) := mj_R_gi rfl
theorem mq_33_23 {l0 l1 l2 : Value} {st : List Value} {h : mj_H} : mj_R 33 (23, [l0, l1, l2], st, h) = mj_R 33 (24, [l0, l1, l2], .int (nI 1) :: st, h) := mj_R_next rfl rfl
theorem mq_33_24 {l0 l1 : Value} {x : Int32} {st : List Value} {h : mj_H} : mj_R 33 (24, [l0, l1, .int x], st, h) = mj_R 33 (25, [l0, l1, .int x], .int x :: st, h) := mj_R_next rfl rfl
theorem mq_33_25 {l0 l1 l2 : Value} {x y : Int32} {st : List Value} {h : mj_H} : mj_R 33 (25, [l0, l1, l2], .int y :: .int x :: st, h) = mj_R 33 (26, [l0, l1, l2], .int (x <<< (y &&& 31)) :: st, h) := mj_R_next rfl rfl
theorem mq_33_26 {l0 l1 l2 : Value} {x y : Int32} {st : List Value} {h : mj_H} : mj_R 33 (26, [l0, l1, l2], .int y :: .int x :: st, h) = mj_R 33 (27, [l0, l1, l2], .int (x ||| y) :: st, h) := mj_R_next rfl rfl
theorem mq_33_27 {l0 l1 l2 : Value} {x : Nat} {j v : Int32} {st : List Value} {h : mj_H} : mj_R 33 (27, [l0, l1, l2], .int v :: .int j :: .ref x :: st, h) = mj_bd (mj_pi h x j v) (fun h' => mj_R 33 (28, [l0, l1, l2], st, h')) := mj_R_pi rfl
theorem mq_33_28 {l1 l2 : Value} {x : Nat} {st : List Value} {h : mj_H} : mj_R 33 (28, [.ref x, l1, l2], st, h) = mj_R 33 (29, [.ref x, l1, l2], .ref x :: st, h) := mj_R_next rfl rfl
theorem mq_33_29 {l0 l1 l2 : Value} {x : Nat} {st : List Value} {h : mj_H} : mj_R 33 (29, [l0, l1, l2], .ref x :: st, h) = mj_bd (mj_gf h x 3 7) (fun v => mj_R 33 (32, [l0, l1, l2], v :: st, h)) := mj_R_gf rfl
theorem mq_33_32 {l0 l1 : Value} {x : Int32} {st : List Value} {h : mj_H} : mj_R 33 (32, [l0, l1, .int x], st, h) = mj_R 33 (33, [l0, l1, .int x], .int x :: st, h) := mj_R_next rfl rfl
theorem mq_33_33 {l0 l1 l2 : Value} {x : Int32} {y : Nat} {st : List Value} {h : mj_H} : mj_R 33 (33, [l0, l1, l2], .int x :: .ref y :: st, h) = mj_R 33 (34, [l0, l1, l2], .int x :: .ref y :: .int x :: .ref y :: st, h) := mj_R_next rfl rfl
theorem mq_33_34 {l0 l1 l2 : Value} {x : Nat} {j : Int32} {st : List Value} {h : mj_H} : mj_R 33 (34, [l0, l1, l2], .int j :: .ref x :: st, h) = mj_bd (mj_gi h x j) (fun v => mj_R 33 (35, [l0, l1, l2], .int v :: st, h)) := mj_R_gi rfl
theorem mq_33_35 {l0 l1 l2 : Value} {st : List Value} {h : mj_H} : mj_R 33 (35, [l0, l1, l2], st, h) = mj_R 33 (36, [l0, l1, l2], .int (nI 1) :: st, h) := mj_R_next rfl rfl
theorem mq_33_36 {l0 l2 : Value} {x : Int32} {st : List Value} {h : mj_H} : mj_R 33 (36, [l0, .int x, l2], st, h) = mj_R 33 (37, [l0, .int x, l2], .int x :: st, h) := mj_R_next rfl rfl
theorem mq_33_37 {l0 l1 l2 : Value} {x y : Int32} {st : List Value} {h : mj_H} : mj_R 33 (37, [l0, l1, l2], .int y :: .int x :: st, h) = mj_R 33 (38, [l0, l1, l2], .int (x <<< (y &&& 31)) :: st, h) := mj_R_next rfl rfl
theorem mq_33_38 {l0 l1 l2 : Value} {x y : Int32} {st : List Value} {h : mj_H} : mj_R 33 (38, [l0, l1, l2], .int y :: .int x :: st, h) = mj_R 33 (39, [l0, l1, l2], .int (x ||| y) :: st, h) := mj_R_next rfl rfl
theorem mq_33_39 {l0 l1 l2 : Value} {x : Nat} {j v : Int32} {st : List Value} {h : mj_H} : mj_R 33 (39, [l0, l1, l2], .int v :: .int j :: .ref x :: st, h) = mj_bd (mj_pi h x j v) (fun h' => mj_R 33 (40, [l0, l1, l2], st, h')) := mj_R_pi rfl
theorem mq_33_40 {l0 l1 l2 : Value} {h : mj_H} : mj_R 33 (40, [l0, l1, l2], [], h) = some (none, h) := mj_R_ret rfl rfl
theorem mc_34 {a0 : Nat} {a1 : Int32} {a2 : Int32} {h : mj_H} : mj_C 34 [.ref a0, .int a1, .int a2] h = mj_R 34 (0, [.ref a0, .int a1, .int a2], [], h) := rfl
theorem mq_34_0 {l1 l2 : Value} {x : Nat} {st : List Value} {h : mj_H} : mj_R 34 (0, [.ref x, l1, l2], st, h) = mj_R 34 (1, [.ref x, l1, l2], .ref x :: st, h) := mj_R_next rfl rfl
theorem mq_34_1 {l0 l1 l2 : Value} {x : Nat} {st : List Value} {h : mj_H} : mj_R 34 (1, [l0, l1, l2], .ref x :: st, h) = mj_bd (mj_gf h x 3 2) (fun v => mj_R 34 (4, [l0, l1, l2], v :: st, h)) := mj_R_gf rfl
theorem mq_34_4 {l0 l1 l2 : Value} {st : List Value} {h : mj_H} : mj_R 34 (4, [l0, l1, l2], st, h) = mj_R 34 (5, [l0, l1, l2], .int (nI 3) :: st, h) := mj_R_next rfl rfl
theorem mq_34_5 {l0 l1 l2 : Value} {x y : Int32} {st : List Value} {h : mj_H} : mj_R 34 (5, [l0, l1, l2], .int y :: .int x :: st, h) = if y ≤ x then mj_R 34 (38, [l0, l1, l2], st, h) else mj_R 34 (8, [l0, l1, l2], st, h) := mj_R_jge rfl
theorem mq_34_8 {l1 l2 : Value} {x : Nat} {st : List Value} {h : mj_H} : mj_R 34 (8, [.ref x, l1, l2], st, h) = mj_R 34 (9, [.ref x, l1, l2], .ref x :: st, h) := mj_R_next rfl rfl
theorem mq_34_9 {l0 l1 l2 : Value} {x : Nat} {st : List Value} {h : mj_H} : mj_R 34 (9, [l0, l1, l2], .ref x :: st, h) = mj_bd (mj_gf h x 3 8) (fun v => mj_R 34 (12, [l0, l1, l2], v :: st, h)) := mj_R_gf rfl
theorem mq_34_12 {l1 l2 : Value} {x : Nat} {st : List Value} {h : mj_H} : mj_R 34 (12, [.ref x, l1, l2], st, h) = mj_R 34 (13, [.ref x, l1, l2], .ref x :: st, h) := mj_R_next rfl rfl
theorem mq_34_13 {l0 l1 l2 : Value} {x : Nat} {st : List Value} {h : mj_H} : mj_R 34 (13, [l0, l1, l2], .ref x :: st, h) = mj_bd (mj_gf h x 3 2) (fun v => mj_R 34 (16, [l0, l1, l2], v :: st, h)) := mj_R_gf rfl
theorem mq_34_16 {l0 l2 : Value} {x : Int32} {st : List Value} {h : mj_H} : mj_R 34 (16, [l0, .int x, l2], st, h) = mj_R 34 (17, [l0, .int x, l2], .int x :: st, h) := mj_R_next rfl rfl
theorem mq_34_17 {l0 l1 l2 : Value} {x : Nat} {j v : Int32} {st : List Value} {h : mj_H} : mj_R 34 (17, [l0, l1, l2], .int v :: .int j :: .ref x :: st, h) = mj_bd (mj_pi h x j v) (fun h' => mj_R 34 (18, [l0, l1, l2], st, h')) := mj_R_pi rfl
theorem mq_34_18 {l1 l2 : Value} {x : Nat} {st : List Value} {h : mj_H} : mj_R 34 (18, [.ref x, l1, l2], st, h) = mj_R 34 (19, [.ref x, l1, l2], .ref x :: st, h) := mj_R_next rfl rfl
theorem mq_34_19 {l0 l1 l2 : Value} {x : Nat} {st : List Value} {h : mj_H} : mj_R 34 (19, [l0, l1, l2], .ref x :: st, h) = mj_bd (mj_gf h x 3 9) (fun v => mj_R 34 (22, [l0, l1, l2], v :: st, h)) := mj_R_gf rfl
theorem mq_34_22 {l1 l2 : Value} {x : Nat} {st : List Value} {h : mj_H} : mj_R 34 (22, [.ref x, l1, l2], st, h) = mj_R 34 (23, [.ref x, l1, l2], .ref x :: st, h) := mj_R_next rfl rfl
theorem mq_34_23 {l0 l1 l2 : Value} {x : Nat} {st : List Value} {h : mj_H} : mj_R 34 (23, [l0, l1, l2], .ref x :: st, h) = mj_bd (mj_gf h x 3 2) (fun v => mj_R 34 (26, [l0, l1, l2], v :: st, h)) := mj_R_gf rfl
theorem mq_34_26 {l0 l1 : Value} {x : Int32} {st : List Value} {h : mj_H} : mj_R 34 (26, [l0, l1, .int x], st, h) = mj_R 34 (27, [l0, l1, .int x], .int x :: st, h) := mj_R_next rfl rfl
theorem mq_34_27 {l0 l1 l2 : Value} {x : Nat} {j v : Int32} {st : List Value} {h : mj_H} : mj_R 34 (27, [l0, l1, l2], .int v :: .int j :: .ref x :: st, h) = mj_bd (mj_pi h x j v) (fun h' => mj_R 34 (28, [l0, l1, l2], st, h')) := mj_R_pi rfl
theorem mq_34_28 {l1 l2 : Value} {x : Nat} {st : List Value} {h : mj_H} : mj_R 34 (28, [.ref x, l1, l2], st, h) = mj_R 34 (29, [.ref x, l1, l2], .ref x :: st, h) := mj_R_next rfl rfl
theorem mq_34_29 {l0 l1 l2 : Value} {x : Nat} {st : List Value} {h : mj_H} : mj_R 34 (29, [l0, l1, l2], .ref x :: st, h) = mj_R 34 (30, [l0, l1, l2], .ref x :: .ref x :: st, h) := mj_R_next rfl rfl
theorem mq_34_30 {l0 l1 l2 : Value} {x : Nat} {st : List Value} {h : mj_H} : mj_R 34 (30, [l0, l1, l2], .ref x :: st, h) = mj_bd (mj_gf h x 3 2) (fun v => mj_R 34 (33, [l0, l1, l2], v :: st, h)) := mj_R_gf rfl
theorem mq_34_33 {l0 l1 l2 : Value} {st : List Value} {h : mj_H} : mj_R 34 (33, [l0, l1, l2], st, h) = mj_R 34 (34, [l0, l1, l2], .int (nI 1) :: st, h) := mj_R_next rfl rfl
theorem mq_34_34 {l0 l1 l2 : Value} {x y : Int32} {st : List Value} {h : mj_H} : mj_R 34 (34, [l0, l1, l2], .int y :: .int x :: st, h) = mj_R 34 (35, [l0, l1, l2], .int (x + y) :: st, h) := mj_R_next rfl rfl
theorem mq_34_35 {l0 l1 l2 : Value} {x : Nat} {v : Value} {st : List Value} {h : mj_H} : mj_R 34 (35, [l0, l1, l2], v :: .ref x :: st, h) = mj_bd (mj_pf h x 3 2 v) (fun h' => mj_R 34 (38, [l0, l1, l2], st, h')) := mj_R_pf rfl
theorem mq_34_38 {l0 l1 l2 : Value} {h : mj_H} : mj_R 34 (38, [l0, l1, l2], [], h) = some (none, h) := mj_R_ret rfl rfl
theorem mc_35 {a0 : Nat} {a1 : Int32} {h : mj_H} : mj_C 35 [.ref a0, .int a1] h = mj_R 35 (0, [.ref a0, .int a1], [], h) := rfl
theorem mq_35_0 {l1 : Value} {x : Nat} {st : List Value} {h : mj_H} : mj_R 35 (0, [.ref x, l1], st, h) = mj_R 35 (1, [.ref x, l1], .ref x :: st, h) := mj_R_next rfl rfl
theorem mq_35_1 {l1 : Value} {x : Nat} {st : List Value} {h : mj_H} : mj_R 35 (1, [.ref x, l1], st, h) = mj_R 35 (2, [.ref x, l1], .ref x :: st, h) := mj_R_next rfl rfl
theorem mq_35_2 {l0 l1 : Value} {x : Nat} {st : List Value} {h : mj_H} : mj_R 35 (2, [l0, l1], .ref x :: st, h) = mj_bd (mj_gf h x 3 5) (fun v => mj_R 35 (5, [l0, l1], v :: st, h)) := mj_R_gf rfl
theorem mq_35_5 {l0 : Value} {x : Int32} {st : List Value} {h : mj_H} : mj_R 35 (5, [l0, .int x], st, h) = mj_R 35 (6, [l0, .int x], .int x :: st, h) := mj_R_next rfl rfl
theorem mq_35_6 {l0 l1 : Value} {a0 : Nat} {a1 : Nat} {a2 : Int32} {h : mj_H} : mj_R 35 (6, [l0, l1], [.int a2, .ref a1, .ref a0], h) = if mj_isC h a0 3 = true then mj_bd (mj_C 36 [.ref a0, .ref a1, .int a2] h) (fun r => mj_R 35 (9, [l0, l1], r.1.toList ++ [], r.2)) else none := mj_R_cv rfl rfl
theorem mq_35_9 {l0 l1 : Value} {x : Int32} {h : mj_H} : mj_R 35 (9, [l0, l1], [.int x], h) = some (some (.int x), h) := mj_R_ret rfl rfl
theorem mc_36 {a0 : Nat} {a1 : Nat} {a2 : Int32} {h : mj_H} : mj_C 36 [.ref a0, .ref a1, .int a2] h = mj_R 36 (0, [.ref a0, .ref a1, .int a2, .null, .null], [], h) := rfl
theorem mq_36_0 {l0 l1 l2 l3 l4 : Value} {st : List Value} {h : mj_H} : mj_R 36 (0, [l0, l1, l2, l3, l4], st, h) = mj_R 36 (1, [l0, l1, l2, l3, l4], .int (nI 0) :: st, h) := mj_R_next rfl rfl
theorem mq_36_1 {l0 l1 l2 l3 l4 : Value} {x : Int32} {st : List Value} {h : mj_H} : mj_R 36 (1, [l0, l1, l2, l3, l4], .int x :: st, h) = mj_R 36 (2, [l0, l1, l2, .int x, l4], st, h) := mj_R_next rfl rfl
theorem mq_36_2 {l0 l1 l2 l3 l4 : Value} {st : List Value} {h : mj_H} : mj_R 36 (2, [l0, l1, l2, l3, l4], st, h) = mj_R 36 (3, [l0, l1, l2, l3, l4], .int (nI 0) :: st, h) := mj_R_next rfl rfl
theorem mq_36_3 {l0 l1 l2 l3 l4 : Value} {x : Int32} {st : List Value} {h : mj_H} : mj_R 36 (3, [l0, l1, l2, l3, l4], .int x :: st, h) = mj_R 36 (5, [l0, l1, l2, l3, .int x], st, h) := mj_R_next rfl rfl
theorem mq_36_5 {l0 l1 l2 l3 : Value} {x : Int32} {st : List Value} {h : mj_H} : mj_R 36 (5, [l0, l1, l2, l3, .int x], st, h) = mj_R 36 (7, [l0, l1, l2, l3, .int x], .int x :: st, h) := mj_R_next rfl rfl
theorem mq_36_7 {l1 l2 l3 l4 : Value} {x : Nat} {st : List Value} {h : mj_H} : mj_R 36 (7, [.ref x, l1, l2, l3, l4], st, h) = mj_R 36 (8, [.ref x, l1, l2, l3, l4], .ref x :: st, h) := mj_R_next rfl rfl
theorem mq_36_8 {l0 l1 l2 l3 l4 : Value} {x : Nat} {st : List Value} {h : mj_H} : mj_R 36 (8, [l0, l1, l2, l3, l4], .ref x :: st, h) = mj_bd (mj_gf h x 3 1) (fun v => mj_R 36 (11, [l0, l1, l2, l3, l4], v :: st, h)) := mj_R_gf rfl
theorem mq_36_11 {l0 l1 l2 l3 l4 : Value} {x y : Int32} {st : List Value} {h : mj_H} : mj_R 36 (11, [l0, l1, l2, l3, l4], .int y :: .int x :: st, h) = if y ≤ x then mj_R 36 (43, [l0, l1, l2, l3, l4], st, h) else mj_R 36 (14, [l0, l1, l2, l3, l4], st, h) := mj_R_jge rfl
theorem mq_36_14 {l0 l1 l2 l3 : Value} {x : Int32} {st : List Value} {h : mj_H} : mj_R 36 (14, [l0, l1, l2, l3, .int x], st, h) = mj_R 36 (16, [l0, l1, l2, l3, .int x], .int x :: st, h) := mj_R_next rfl rfl
theorem mq_36_16 {l0 l2 l3 l4 : Value} {x : Nat} {st : List Value} {h : mj_H} : mj_R 36 (16, [l0, .ref x, l2, l3, l4], st, h) = mj_R 36 (17, [l0, .ref x, l2, l3, l4], .ref x :: st, h) := mj_R_next rfl rfl
theorem mq_36_17 {l0 l1 l2 l3 l4 : Value} {x : Nat} {st : List Value} {h : mj_H} : mj_R 36 (17, [l0, l1, l2, l3, l4], .ref x :: st, h) = mj_bd (mj_al h x) (fun v => mj_R 36 (18, [l0, l1, l2, l3, l4], .int v :: st, h)) := mj_R_al rfl
theorem mq_36_18 {l0 l1 l2 l3 l4 : Value} {x y : Int32} {st : List Value} {h : mj_H} : mj_R 36 (18, [l0, l1, l2, l3, l4], .int y :: .int x :: st, h) = if y ≤ x then mj_R 36 (43, [l0, l1, l2, l3, l4], st, h) else mj_R 36 (21, [l0, l1, l2, l3, l4], st, h) := mj_R_jge rfl
theorem mq_36_21 {l0 l1 l3 l4 : Value} {x : Int32} {st : List Value} {h : mj_H} : mj_R 36 (21, [l0, l1, .int x, l3, l4], st, h) = mj_R 36 (22, [l0, l1, .int x, l3, l4], .int x :: st, h) := mj_R_next rfl rfl
theorem mq_36_22 {l0 l1 l2 l3 l4 : Value} {st : List Value} {h : mj_H} : mj_R 36 (22, [l0, l1, l2, l3, l4], st, h) = mj_R 36 (23, [l0, l1, l2, l3, l4], .int (nI 1) :: st, h) := mj_R_next rfl rfl
theorem mq_36_23 {l0 l1 l2 l3 : Value} {x : Int32} {st : List Value} {h : mj_H} : mj_R 36 (23, [l0, l1, l2, l3, .int x], st, h) = mj_R 36 (25, [l0, l1, l2, l3, .int x], .int x :: st, h) := mj_R_next rfl rfl
theorem mq_36_25 {l0 l1 l2 l3 l4 : Value} {x y : Int32} {st : List Value} {h : mj_H} : mj_R 36 (25, [l0, l1, l2, l3, l4], .int y :: .int x :: st, h) = mj_R 36 (26, [l0, l1, l2, l3, l4], .int (x <<< (y &&& 31)) :: st, h) := mj_R_next rfl rfl
theorem mq_36_26 {l0 l1 l2 l3 l4 : Value} {x y : Int32} {st : List Value} {h : mj_H} : mj_R 36 (26, [l0, l1, l2, l3, l4], .int y :: .int x :: st, h) = mj_R 36 (27, [l0, l1, l2, l3, l4], .int (x &&& y) :: st, h) := mj_R_next rfl rfl
theorem mq_36_27 {l0 l1 l2 l3 l4 : Value} {x : Int32} {st : List Value} {h : mj_H} : mj_R 36 (27, [l0, l1, l2, l3, l4], .int x :: st, h) = if x = nI 0 then mj_R 36 (37, [l0, l1, l2, l3, l4], st, h) else mj_R 36 (30, [l0, l1, l2, l3, l4], st, h) := mj_R_ieq rfl
theorem mq_36_30 {l0 l1 l2 l4 : Value} {x : Int32} {st : List Value} {h : mj_H} : mj_R 36 (30, [l0, l1, l2, .int x, l4], st, h) = mj_R 36 (31, [l0, l1, l2, .int x, l4], .int x :: st, h) := mj_R_next rfl rfl
theorem mq_36_31 {l0 l2 l3 l4 : Value} {x : Nat} {st : List Value} {h : mj_H} : mj_R 36 (31, [l0, .ref x, l2, l3, l4], st, h) = mj_R 36 (32, [l0, .ref x, l2, l3, l4], .ref x :: st, h) := mj_R_next rfl rfl
theorem mq_36_32 {l0 l1 l2 l3 : Value} {x : Int32} {st : List Value} {h : mj_H} : mj_R 36 (32, [l0, l1, l2, l3, .int x], st, h) = mj_R 36 (34, [l0, l1, l2, l3, .int x], .int x :: st, h) := mj_R_next rfl rfl
theorem mq_36_34 {l0 l1 l2 l3 l4 : Value} {x : Nat} {j : Int32} {st : List Value} {h : mj_H} : mj_R 36 (34, [l0, l1, l2, l3, l4], .int j :: .ref x :: st, h) = mj_bd (mj_gi h x j) (fun v => mj_R 36 (35, [l0, l1, l2, l3, l4], .int v :: st, h)) := mj_R_gi rfl
theorem mq_36_35 {l0 l1 l2 l3 l4 : Value} {x y : Int32} {st : List Value} {h : mj_H} : mj_R 36 (35, [l0, l1, l2, l3, l4], .int y :: .int x :: st, h) = mj_R 36 (36, [l0, l1, l2, l3, l4], .int (x + y) :: st, h) := mj_R_next rfl rfl
theorem mq_36_36 {l0 l1 l2 l3 l4 : Value} {x : Int32} {st : List Value} {h : mj_H} : mj_R 36 (36, [l0, l1, l2, l3, l4], .int x :: st, h) = mj_R 36 (37, [l0, l1, l2, .int x, l4], st, h) := mj_R_next rfl rfl
theorem mq_36_37 {l0 l1 l2 l3 : Value} {x : Int32} {st : List Value} {h : mj_H} : mj_R 36 (37, [l0, l1, l2, l3, .int x], st, h) = mj_R 36 (40, [l0, l1, l2, l3, .int (x + (nI 1))], st, h) := mj_R_next rfl rfl
theorem mq_36_40 {l0 l1 l2 l3 l4 : Value} {st : List Value} {h : mj_H} : mj_R 36 (40, [l0, l1, l2, l3, l4], st, h) = mj_R 36 (5, [l0, l1, l2, l3, l4], st, h) := mj_R_next rfl rfl
theorem mq_36_43 {l0 l1 l2 l4 : Value} {x : Int32} {st : List Value} {h : mj_H} : mj_R 36 (43, [l0, l1, l2, .int x, l4], st, h) = mj_R 36 (44, [l0, l1, l2, .int x, l4], .int x :: st, h) := mj_R_next rfl rfl
theorem mq_36_44 {l0 l1 l2 l3 l4 : Value} {x : Int32} {h : mj_H} : mj_R 36 (44, [l0, l1, l2, l3, l4], [.int x], h) = some (some (.int x), h) := mj_R_ret rfl rfl
theorem mc_37 {a0 : Nat} {a1 : Int32} {h : mj_H} : mj_C 37 [.ref a0, .int a1] h = mj_R 37 (0, [.ref a0, .int a1, .null, .null], [], h) := rfl
theorem mq_37_0 {l0 l1 l2 l3 : Value} {st : List Value} {h : mj_H} : mj_R 37 (0, [l0, l1, l2, l3], st, h) = mj_R 37 (1, [l0, l1, l2, l3], .int (nI 0) :: st, h) := mj_R_next rfl rfl
theorem mq_37_1 {l0 l1 l2 l3 : Value} {x : Int32} {st : List Value} {h : mj_H} : mj_R 37 (1, [l0, l1, l2, l3], .int x :: st, h) = mj_R 37 (2, [l0, l1, .int x, l3], st, h) := mj_R_next rfl rfl
theorem mq_37_2 {l0 l1 l2 l3 : Value} {st : List Value} {h : mj_H} : mj_R 37 (2, [l0, l1, l2, l3], st, h) = mj_R 37 (3, [l0, l1, l2, l3], .int (nI 0) :: st, h) := mj_R_next rfl rfl
theorem mq_37_3 {l0 l1 l2 l3 : Value} {x : Int32} {st : List Value} {h : mj_H} : mj_R 37 (3, [l0, l1, l2, l3], .int x :: st, h) = mj_R 37 (4, [l0, l1, l2, .int x], st, h) := mj_R_next rfl rfl
theorem mq_37_4 {l0 l1 l2 : Value} {x : Int32} {st : List Value} {h : mj_H} : mj_R 37 (4, [l0, l1, l2, .int x], st, h) = mj_R 37 (5, [l0, l1, l2, .int x], .int x :: st, h) := mj_R_next rfl rfl
theorem mq_37_5 {l1 l2 l3 : Value} {x : Nat} {st : List Value} {h : mj_H} : mj_R 37 (5, [.ref x, l1, l2, l3], st, h) = mj_R 37 (6, [.ref x, l1, l2, l3], .ref x :: st, h) := mj_R_next rfl rfl
theorem mq_37_6 {l0 l1 l2 l3 : Value} {x : Nat} {st : List Value} {h : mj_H} : mj_R 37 (6, [l0, l1, l2, l3], .ref x :: st, h) = mj_bd (mj_gf h x 3 1) (fun v => mj_R 37 (9, [l0, l1, l2, l3], v :: st, h)) := mj_R_gf rfl
theorem mq_37_9 {l0 l1 l2 l3 : Value} {x y : Int32} {st : List Value} {h : mj_H} : mj_R 37 (9, [l0, l1, l2, l3], .int y :: .int x :: st, h) = if y ≤ x then mj_R 37 (37, [l0, l1, l2, l3], st, h) else mj_R 37 (12, [l0, l1, l2, l3], st, h) := mj_R_jge rfl
theorem mq_37_12 {l0 l2 l3 : Value} {x : Int32} {st : List Value} {h : mj_H} : mj_R 37 (12, [l0, .int x, l2, l3], st, h) = mj_R 37 (13, [l0, .int x, l2, l3], .int x :: st, h) := mj_R_next rfl rfl
theorem mq_37_13 {l0 l1 l2 l3 : Value} {st : List Value} {h : mj_H} : mj_R 37 (13, [l0, l1, l2, l3], st, h) = mj_R 37 (14, [l0, l1, l2, l3], .int (nI 1) :: st, h) := mj_R_next rfl rfl
theorem mq_37_14 {l0 l1 l2 : Value} {x : Int32} {st : List Value} {h : mj_H} : mj_R 37 (14, [l0, l1, l2, .int x], st, h) = mj_R 37 (15, [l0, l1, l2, .int x], .int x :: st, h) := mj_R_next rfl rfl
theorem mq_37_15 {l0 l1 l2 l3 : Value} {x y : Int32} {st : List Value} {h : mj_H} : mj_R 37 (15, [l0, l1, l2, l3], .int y :: .int x :: st, h) = mj_R 37 (16, [l0, l1, l2, l3], .int (x <<< (y &&& 31)) :: st, h) := mj_R_next rfl rfl
theorem mq_37_16 {l0 l1 l2 l3 : Value} {x y : Int32} {st : List Value} {h : mj_H} : mj_R 37 (16, [l0, l1, l2, l3], .int y :: .int x :: st, h) = mj_R 37 (17, [l0, l1, l2, l3], .int (x &&& y) :: st, h) := mj_R_next rfl rfl
theorem mq_37_17 {l0 l1 l2 l3 : Value} {x : Int32} {st : List Value} {h : mj_H} : mj_R 37 (17, [l0, l1, l2, l3], .int x :: st, h) = if x = nI 0 then mj_R 37 (31, [l0, l1, l2, l3], st, h) else mj_R 37 (20, [l0, l1, l2, l3], st, h) := mj_R_ieq rfl
theorem mq_37_20 {l0 l1 l3 : Value} {x : Int32} {st : List Value} {h : mj_H} : mj_R 37 (20, [l0, l1, .int x, l3], st, h) = mj_R 37 (21, [l0, l1, .int x, l3], .int x :: st, h) := mj_R_next rfl rfl
theorem mq_37_21 {l0 l1 l2 l3 : Value} {st : List Value} {h : mj_H} : mj_R 37 (21, [l0, l1, l2, l3], st, h) = mj_R 37 (22, [l0, l1, l2, l3], .int (nI 1) :: st, h) := mj_R_next rfl rfl
theorem mq_37_22 {l1 l2 l3 : Value} {x : Nat} {st : List Value} {h : mj_H} : mj_R 37 (22, [.ref x, l1, l2, l3], st, h) = mj_R 37 (23, [.ref x, l1, l2, l3], .ref x :: st, h) := mj_R_next rfl rfl
theorem mq_37_23 {l0 l1 l2 l3 : Value} {x : Nat} {st : List Value} {h : mj_H} : mj_R 37 (23, [l0, l1, l2, l3], .ref x :: st, h) = mj_bd (mj_gf h x 3 6) (fun v => mj_R 37 (26, [l0, l1, l2, l3], v :: st, h)) := mj_R_gf rfl
theorem mq_37_26 {l0 l1 l2 : Value} {x : Int32} {st : List Value} {h : mj_H} : mj_R 37 (26, [l0, l1, l2, .int x], st, h) = mj_R 37 (27, [l0, l1, l2, .int x], .int x :: st, h) := mj_R_next rfl rfl
theorem mq_37_27 {l0 l1 l2 l3 : Value} {x : Nat} {j : Int32} {st : List Value} {h : mj_H} : mj_R 37 (27, [l0, l1, l2, l3], .int j :: .ref x :: st, h) = mj_bd (mj_gi h x j) (fun v => mj_R 37 (28, [l0, l1, l2, l3], .int v :: st, h)) := mj_R_gi rfl
theorem mq_37_28 {l0 l1 l2 l3 : Value} {x y : Int32} {st : List Value} {h : mj_H} : mj_R 37 (28, [l0, l1, l2, l3], .int y :: .int x :: st, h) = mj_R 37 (29, [l0, l1, l2, l3], .int (x <<< (y &&& 31)) :: st, h) := mj_R_next rfl rfl
theorem mq_37_29 {l0 l1 l2 l3 : Value} {x y : Int32} {st : List Value} {h : mj_H} : mj_R 37 (29, [l0, l1, l2, l3], .int y :: .int x :: st, h) = mj_R 37 (30, [l0, l1, l2, l3], .int (x ||| y) :: st, h) := mj_R_next rfl rfl
theorem mq_37_30 {l0 l1 l2 l3 : Value} {x : Int32} {st : List Value} {h : mj_H} : mj_R 37 (30, [l0, l1, l2, l3], .int x :: st, h) = mj_R 37 (31, [l0, l1, .int x, l3], st, h) := mj_R_next rfl rfl
theorem mq_37_31 {l0 l1 l2 : Value} {x : Int32} {st : List Value} {h : mj_H} : mj_R 37 (31, [l0, l1, l2, .int x], st, h) = mj_R 37 (34, [l0, l1, l2, .int (x + (nI 1))], st, h) := mj_R_next rfl rfl
theorem mq_37_34 {l0 l1 l2 l3 : Value} {st : List Value} {h : mj_H} : mj_R 37 (34, [l0, l1, l2, l3], st, h) = mj_R 37 (4, [l0, l1, l2, l3], st, h) := mj_R_next rfl rfl
theorem mq_37_37 {l0 l1 l3 : Value} {x : Int32} {st : List Value} {h : mj_H} : mj_R 37 (37, [l0, l1, .int x, l3], st, h) = mj_R 37 (38, [l0, l1, .int x, l3], .int x :: st, h) := mj_R_next rfl rfl
theorem mq_37_38 {l0 l1 l2 l3 : Value} {x : Int32} {h : mj_H} : mj_R 37 (38, [l0, l1, l2, l3], [.int x], h) = some (some (.int x), h) := mj_R_ret rfl rfl
theorem mc_38 {a0 : Nat} {a1 : Int32} {h : mj_H} : mj_C 38 [.ref a0, .int a1] h = mj_R 38 (0, [.ref a0, .int a1], [], h) := rfl
theorem mq_38_0 {l1 : Value} {x : Nat} {st : List Value} {h : mj_H} : mj_R 38 (0, [.ref x, l1], st, h) = mj_R 38 (1, [.ref x, l1], .ref x :: st, h) := mj_R_next rfl rfl
theorem mq_38_1 {l0 : Value} {x : Int32} {st : List Value} {h : mj_H} : mj_R 38 (1, [l0, .int x], st, h) = mj_R 38 (2, [l0, .int x], .int x :: st, h) := mj_R_next rfl rfl
theorem mq_38_2 {l0 l1 : Value} {a0 : Nat} {a1 : Int32} {h : mj_H} : mj_R 38 (2, [l0, l1], [.int a1, .ref a0], h) = if mj_isC h a0 3 = true then mj_bd (mj_C 31 [.ref a0, .int a1] h) (fun r => mj_R 38 (5, [l0, l1], r.1.toList ++ [], r.2)) else none := mj_R_cv rfl rfl
theorem mq_38_5 {l0 l1 : Value} {x : Int32} {st : List Value} {h : mj_H} : mj_R 38 (5, [l0, l1], .int x :: st, h) = if x = nI 0 then mj_R 38 (8, [l0, l1], st, h) else mj_R 38 (10, [l0, l1], st, h) := mj_R_ine rfl
theorem mq_38_8 {l0 l1 : Value} {st : List Value} {h : mj_H} : mj_R 38 (8, [l0, l1], st, h) = mj_R 38 (9, [l0, l1], .int (nI 0) :: st, h) := mj_R_next rfl rfl
theorem mq_38_9 {l0 l1 : Value} {x : Int32} {h : mj_H} : mj_R 38 (9, [l0, l1], [.int x], h) = some (some (.int x), h) := mj_R_ret rfl rfl
theorem mq_38_10 {l1 : Value} {x : Nat} {st : List Value} {h : mj_H} : mj_R 38 (10, [.ref x, l1], st, h) = mj_R 38 (11, [.ref x, l1], .ref x :: st, h) := mj_R_next rfl rfl
theorem mq_38_11 {l0 l1 : Value} {x : Nat} {st : List Value} {h : mj_H} : mj_R 38 (11, [l0, l1], .ref x :: st, h) = mj_bd (mj_gf h x 3 3) (fun v => mj_R 38 (14, [l0, l1], v :: st, h)) := mj_R_gf rfl
theorem mq_38_14 {l0 : Value} {x : Int32} {st : List Value} {h : mj_H} : mj_R 38 (14, [l0, .int x], st, h) = mj_R 38 (15, [l0, .int x], .int x :: st, h) := mj_R_next rfl rfl
theorem mq_38_15 {l0 l1 : Value} {x : Nat} {j : Int32} {st : List Value} {h : mj_H} : mj_R 38 (15, [l0, l1], .int j :: .ref x :: st, h) = mj_bd (mj_gi h x j) (fun v => mj_R 38 (16, [l0, l1], .int v :: st, h)) := mj_R_gi rfl
theorem mq_38_16 {l0 l1 : Value} {st : List Value} {h : mj_H} : mj_R 38 (16, [l0, l1], st, h) = mj_R 38 (17, [l0, l1], .int (nI 1) :: st, h) := mj_R_next rfl rfl
theorem mq_38_17 {l0 l1 : Value} {x y : Int32} {st : List Value} {h : mj_H} : mj_R 38 (17, [l0, l1], .int y :: .int x :: st, h) = if x = y then mj_R 38 (20, [l0, l1], st, h) else mj_R 38 (33, [l0, l1], st, h) := mj_R_jne rfl
theorem mq_38_20 {l1 : Value} {x : Nat} {st : List Value} {h : mj_H} : mj_R 38 (20, [.ref x, l1], st, h) = mj_R 38 (21, [.ref x, l1], .ref x :: st, h) := mj_R_next rfl rfl
theorem mq_38_21 {l0 l1 : Value} {x : Nat} {st : List Value} {h : mj_H} : mj_R 38 (21, [l0, l1], .ref x :: st, h) = mj_bd (mj_gf h x 3 4) (fun v => mj_R 38 (24, [l0, l1], v :: st, h)) := mj_R_gf rfl
theorem mq_38_24 {l0 : Value} {x : Int32} {st : List Value} {h : mj_H} : mj_R 38 (24, [l0, .int x], st, h) = mj_R 38 (25, [l0, .int x], .int x :: st, h) := mj_R_next rfl rfl
theorem mq_38_25 {l0 l1 : Value} {x : Nat} {j : Int32} {st : List Value} {h : mj_H} : mj_R 38 (25, [l0, l1], .int j :: .ref x :: st, h) = mj_bd (mj_gi h x j) (fun v => mj_R 38 (26, [l0, l1], .int v :: st, h)) := mj_R_gi rfl
theorem mq_38_26 {l0 l1 : Value} {st : List Value} {h : mj_H} : mj_R 38 (26, [l0, l1], st, h) = mj_R 38 (27, [l0, l1], .int (nI 1) :: st, h) := mj_R_next rfl rfl
theorem mq_38_27 {l0 l1 : Value} {x y : Int32} {st : List Value} {h : mj_H} : mj_R 38 (27, [l0, l1], .int y :: .int x :: st, h) = mj_R 38 (28, [l0, l1], .int (x + y) :: st, h) := mj_R_next rfl rfl
theorem mq_38_28 {l0 l1 : Value} {st : List Value} {h : mj_H} : mj_R 38 (28, [l0, l1], st, h) = mj_R 38 (29, [l0, l1], .int (nI 2) :: st, h) := mj_R_next rfl rfl
theorem mq_38_29 {l0 l1 : Value} {x y : Int32} {st : List Value} {h : mj_H} : mj_R 38 (29, [l0, l1], .int y :: .int x :: st, h) = if y = 0 then none else mj_R 38 (30, [l0, l1], .int (x / y) :: st, h) := mj_R_div rfl rfl
theorem mq_38_30 {l0 l1 : Value} {st : List Value} {h : mj_H} : mj_R 38 (30, [l0, l1], st, h) = mj_R 38 (39, [l0, l1], st, h) := mj_R_next rfl rfl
theorem mq_38_33 {l1 : Value} {x : Nat} {st : List Value} {h : mj_H} : mj_R 38 (33, [.ref x, l1], st, h) = mj_R 38 (34, [.ref x, l1], .ref x :: st, h) := mj_R_next rfl rfl
theorem mq_38_34 {l0 l1 : Value} {x : Nat} {st : List Value} {h : mj_H} : mj_R 38 (34, [l0, l1], .ref x :: st, h) = mj_bd (mj_gf h x 3 4) (fun v => mj_R 38 (37, [l0, l1], v :: st, h)) := mj_R_gf rfl
theorem mq_38_37 {l0 : Value} {x : Int32} {st : List Value} {h : mj_H} : mj_R 38 (37, [l0, .int x], st, h) = mj_R 38 (38, [l0, .int x], .int x :: st, h) := mj_R_next rfl rfl
theorem mq_38_38 {l0 l1 : Value} {x : Nat} {j : Int32} {st : List Value} {h : mj_H} : mj_R 38 (38, [l0, l1], .int j :: .ref x :: st, h) = mj_bd (mj_gi h x j) (fun v => mj_R 38 (39, [l0, l1], .int v :: st, h)) := mj_R_gi rfl
theorem mq_38_39 {l0 l1 : Value} {x : Int32} {h : mj_H} : mj_R 38 (39, [l0, l1], [.int x], h) = some (some (.int x), h) := mj_R_ret rfl rfl
theorem mc_39 {a0 : Nat} {a1 : Int32} {h : mj_H} : mj_C 39 [.ref a0, .int a1] h = mj_R 39 (0, [.ref a0, .int a1], [], h) := rfl
theorem mq_39_0 {l0 : Value} {x : Int32} {st : List Value} {h : mj_H} : mj_R 39 (0, [l0, .int x], st, h) = mj_R 39 (1, [l0, .int x], .int x :: st, h) := mj_R_next rfl rfl
theorem mq_39_1 {l0 l1 : Value} {x : Int32} {st : List Value} {h : mj_H} : mj_R 39 (1, [l0, l1], .int x :: st, h) = if x < nI 0 then mj_R 39 (16, [l0, l1], st, h) else mj_R 39 (4, [l0, l1], st, h) := mj_R_ilt rfl
theorem mq_39_4 {l0 : Value} {x : Int32} {st : List Value} {h : mj_H} : mj_R 39 (4, [l0, .int x], st, h) = mj_R 39 (5, [l0, .int x], .int x :: st, h) := mj_R_next rfl rfl
theorem mq_39_5 {l1 : Value} {x : Nat} {st : List Value} {h : mj_H} : mj_R 39 (5, [.ref x, l1], st, h) = mj_R 39 (6, [.ref x, l1], .ref x :: st, h) := mj_R_next rfl rfl
theorem mq_39_6 {l0 l1 : Value} {x : Nat} {st : List Value} {h : mj_H} : mj_R 39 (6, [l0, l1], .ref x :: st, h) = mj_bd (mj_gf h x 3 2) (fun v => mj_R 39 (9, [l0, l1], v :: st, h)) := mj_R_gf rfl
theorem mq_39_9 {l0 l1 : Value} {x y : Int32} {st : List Value} {h : mj_H} : mj_R 39 (9, [l0, l1], .int y :: .int x :: st, h) = if y ≤ x then mj_R 39 (16, [l0, l1], st, h) else mj_R 39 (12, [l0, l1], st, h) := mj_R_jge rfl
theorem mq_39_12 {l0 l1 : Value} {st : List Value} {h : mj_H} : mj_R 39 (12, [l0, l1], st, h) = mj_R 39 (13, [l0, l1], .int (nI 1) :: st, h) := mj_R_next rfl rfl
theorem mq_39_13 {l0 l1 : Value} {st : List Value} {h : mj_H} : mj_R 39 (13, [l0, l1], st, h) = mj_R 39 (17, [l0, l1], st, h) := mj_R_next rfl rfl
theorem mq_39_16 {l0 l1 : Value} {st : List Value} {h : mj_H} : mj_R 39 (16, [l0, l1], st, h) = mj_R 39 (17, [l0, l1], .int (nI 0) :: st, h) := mj_R_next rfl rfl
theorem mq_39_17 {l0 l1 : Value} {x : Int32} {h : mj_H} : mj_R 39 (17, [l0, l1], [.int x], h) = if (x == 0 || x == 1) = true then some (some (.int x), h) else none := mj_R_rz rfl rfl
theorem mc_40 {a0 : Nat} {a1 : Int32} {a2 : Int32} {h : mj_H} : mj_C 40 [.ref a0, .int a1, .int a2] h = mj_R 40 (0, [.ref a0, .int a1, .int a2], [], h) := rfl
theorem mq_40_0 {l1 l2 : Value} {x : Nat} {st : List Value} {h : mj_H} : mj_R 40 (0, [.ref x, l1, l2], st, h) = mj_R 40 (1, [.ref x, l1, l2], .ref x :: st, h) := mj_R_next rfl rfl
theorem mq_40_1 {l0 l1 : Value} {x : Int32} {st : List Value} {h : mj_H} : mj_R 40 (1, [l0, l1, .int x], st, h) = mj_R 40 (2, [l0, l1, .int x], .int x :: st, h) := mj_R_next rfl rfl
theorem mq_40_2 {l0 l1 l2 : Value} {a0 : Nat} {a1 : Int32} {h : mj_H} : mj_R 40 (2, [l0, l1, l2], [.int a1, .ref a0], h) = if mj_isC h a0 3 = true then mj_bd (mj_C 39 [.ref a0, .int a1] h) (fun r => mj_R 40 (5, [l0, l1, l2], r.1.toList ++ [], r.2)) else none := mj_R_cv rfl rfl
theorem mq_40_5 {l0 l1 l2 : Value} {x : Int32} {st : List Value} {h : mj_H} : mj_R 40 (5, [l0, l1, l2], .int x :: st, h) = if x = nI 0 then mj_R 40 (43, [l0, l1, l2], st, h) else mj_R 40 (8, [l0, l1, l2], st, h) := mj_R_ieq rfl
theorem mq_40_8 {l1 l2 : Value} {x : Nat} {st : List Value} {h : mj_H} : mj_R 40 (8, [.ref x, l1, l2], st, h) = mj_R 40 (9, [.ref x, l1, l2], .ref x :: st, h) := mj_R_next rfl rfl
theorem mq_40_9 {l0 l2 : Value} {x : Int32} {st : List Value} {h : mj_H} : mj_R 40 (9, [l0, .int x, l2], st, h) = mj_R 40 (10, [l0, .int x, l2], .int x :: st, h) := mj_R_next rfl rfl
theorem mq_40_10 {l0 l1 l2 : Value} {a0 : Nat} {a1 : Int32} {h : mj_H} : mj_R 40 (10, [l0, l1, l2], [.int a1, .ref a0], h) = if mj_isC h a0 3 = true then mj_bd (mj_C 37 [.ref a0, .int a1] h) (fun r => mj_R 40 (13, [l0, l1, l2], r.1.toList ++ [], r.2)) else none := mj_R_cv rfl rfl
theorem mq_40_13 {l0 l1 l2 : Value} {st : List Value} {h : mj_H} : mj_R 40 (13, [l0, l1, l2], st, h) = mj_R 40 (14, [l0, l1, l2], .int (nI 1) :: st, h) := mj_R_next rfl rfl
theorem mq_40_14 {l1 l2 : Value} {x : Nat} {st : List Value} {h : mj_H} : mj_R 40 (14, [.ref x, l1, l2], st, h) = mj_R 40 (15, [.ref x, l1, l2], .ref x :: st, h) := mj_R_next rfl rfl
theorem mq_40_15 {l0 l1 l2 : Value} {x : Nat} {st : List Value} {h : mj_H} : mj_R 40 (15, [l0, l1, l2], .ref x :: st, h) = mj_bd (mj_gf h x 3 8) (fun v => mj_R 40 (18, [l0, l1, l2], v :: st, h)) := mj_R_gf rfl
theorem mq_40_18 {l0 l1 : Value} {x : Int32} {st : List Value} {h : mj_H} : mj_R 40 (18, [l0, l1, .int x], st, h) = mj_R 40 (19, [l0, l1, .int x], .int x :: st, h) := mj_R_next rfl rfl
theorem mq_40_19 {l0 l1 l2 : Value} {x : Nat} {j : Int32} {st : List Value} {h : mj_H} : mj_R 40 (19, [l0, l1, l2], .int j :: .ref x :: st, h) = mj_bd (mj_gi h x j) (fun v => mj_R 40 (20, [l0, l1, l2], .int v :: st, h)) := mj_R_gi rfl
theorem mq_40_20 {l0 l1 l2 : Value} {x y : Int32} {st : List Value} {h : mj_H} : mj_R 40 (20, [l0, l1, l2], .int y :: .int x :: st, h) = mj_R 40 (21, [l0, l1, l2], .int (x <<< (y &&& 31)) :: st, h) := mj_R_next rfl rfl
theorem mq_40_21 {l0 l1 l2 : Value} {x y : Int32} {st : List Value} {h : mj_H} : mj_R 40 (21, [l0, l1, l2], .int y :: .int x :: st, h) = mj_R 40 (22, [l0, l1, l2], .int (x &&& y) :: st, h) := mj_R_next rfl rfl
theorem mq_40_22 {l0 l1 l2 : Value} {x : Int32} {st : List Value} {h : mj_H} : mj_R 40 (22, [l0, l1, l2], .int x :: st, h) = if x = nI 0 then mj_R 40 (43, [l0, l1, l2], st, h) else mj_R 40 (25, [l0, l1, l2], st, h) := mj_R_ieq rfl
theorem mq_40_25 {l1 l2 : Value} {x : Nat} {st : List Value} {h : mj_H} : mj_R 40 (25, [.ref x, l1, l2], st, h) = mj_R 40 (26, [.ref x, l1, l2], .ref x :: st, h) := mj_R_next rfl rfl
theorem mq_40_26 {l0 l2 : Value} {x : Int32} {st : List Value} {h : mj_H} : mj_R 40 (26, [l0, .int x, l2], st, h) = mj_R 40 (27, [l0, .int x, l2], .int x :: st, h) := mj_R_next rfl rfl
theorem mq_40_27 {l0 l1 l2 : Value} {a0 : Nat} {a1 : Int32} {h : mj_H} : mj_R 40 (27, [l0, l1, l2], [.int a1, .ref a0], h) = if mj_isC h a0 3 = true then mj_bd (mj_C 35 [.ref a0, .int a1] h) (fun r => mj_R 40 (30, [l0, l1, l2], r.1.toList ++ [], r.2)) else none := mj_R_cv rfl rfl
theorem mq_40_30 {l1 l2 : Value} {x : Nat} {st : List Value} {h : mj_H} : mj_R 40 (30, [.ref x, l1, l2], st, h) = mj_R 40 (31, [.ref x, l1, l2], .ref x :: st, h) := mj_R_next rfl rfl
theorem mq_40_31 {l0 l1 l2 : Value} {x : Nat} {st : List Value} {h : mj_H} : mj_R 40 (31, [l0, l1, l2], .ref x :: st, h) = mj_bd (mj_gf h x 3 9) (fun v => mj_R 40 (34, [l0, l1, l2], v :: st, h)) := mj_R_gf rfl
theorem mq_40_34 {l0 l1 : Value} {x : Int32} {st : List Value} {h : mj_H} : mj_R 40 (34, [l0, l1, .int x], st, h) = mj_R 40 (35, [l0, l1, .int x], .int x :: st, h) := mj_R_next rfl rfl
theorem mq_40_35 {l0 l1 l2 : Value} {x : Nat} {j : Int32} {st : List Value} {h : mj_H} : mj_R 40 (35, [l0, l1, l2], .int j :: .ref x :: st, h) = mj_bd (mj_gi h x j) (fun v => mj_R 40 (36, [l0, l1, l2], .int v :: st, h)) := mj_R_gi rfl
theorem mq_40_36 {l0 l1 l2 : Value} {x y : Int32} {st : List Value} {h : mj_H} : mj_R 40 (36, [l0, l1, l2], .int y :: .int x :: st, h) = if x < y then mj_R 40 (43, [l0, l1, l2], st, h) else mj_R 40 (39, [l0, l1, l2], st, h) := mj_R_jlt rfl
theorem mq_40_39 {l0 l1 l2 : Value} {st : List Value} {h : mj_H} : mj_R 40 (39, [l0, l1, l2], st, h) = mj_R 40 (40, [l0, l1, l2], .int (nI 1) :: st, h) := mj_R_next rfl rfl
theorem mq_40_40 {l0 l1 l2 : Value} {st : List Value} {h : mj_H} : mj_R 40 (40, [l0, l1, l2], st, h) = mj_R 40 (44, [l0, l1, l2], st, h) := mj_R_next rfl rfl
theorem mq_40_43 {l0 l1 l2 : Value} {st : List Value} {h : mj_H} : mj_R 40 (43, [l0, l1, l2], st, h) = mj_R 40 (44, [l0, l1, l2], .int (nI 0) :: st, h) := mj_R_next rfl rfl
theorem mq_40_44 {l0 l1 l2 : Value} {x : Int32} {h : mj_H} : mj_R 40 (44, [l0, l1, l2], [.int x], h) = if (x == 0 || x == 1) = true then some (some (.int x), h) else none := mj_R_rz rfl rfl
theorem mc_41 {a0 : Nat} {a1 : Int32} {h : mj_H} : mj_C 41 [.ref a0, .int a1] h = mj_R 41 (0, [.ref a0, .int a1], [], h) := rfl
theorem mq_41_0 {l0 : Value} {x : Int32} {st : List Value} {h : mj_H} : mj_R 41 (0, [l0, .int x], st, h) = mj_R 41 (1, [l0, .int x], .int x :: st, h) := mj_R_next rfl rfl
theorem mq_41_1 {l1 : Value} {x : Nat} {st : List Value} {h : mj_H} : mj_R 41 (1, [.ref x, l1], st, h) = mj_R 41 (2, [.ref x, l1], .ref x :: st, h) := mj_R_next rfl rfl
theorem mq_41_2 {l0 l1 : Value} {a0 : Nat} {s0 : Value} {h : mj_H} : mj_R 41 (2, [l0, l1], [.ref a0, s0], h) = if mj_isC h a0 3 = true then mj_bd (mj_C 32 [.ref a0] h) (fun r => mj_R 41 (5, [l0, l1], r.1.toList ++ [s0], r.2)) else none := mj_R_cv rfl rfl
theorem mq_41_5 {l0 l1 : Value} {st : List Value} {h : mj_H} : mj_R 41 (5, [l0, l1], st, h) = mj_R 41 (6, [l0, l1], .int (-1) :: st, h) := mj_R_next rfl rfl
theorem mq_41_6 {l0 l1 : Value} {x y : Int32} {st : List Value} {h : mj_H} : mj_R 41 (6, [l0, l1], .int y :: .int x :: st, h) = mj_R 41 (7, [l0, l1], .int (x ^^^ y) :: st, h) := mj_R_next rfl rfl
theorem mq_41_7 {l0 l1 : Value} {x y : Int32} {st : List Value} {h : mj_H} : mj_R 41 (7, [l0, l1], .int y :: .int x :: st, h) = mj_R 41 (8, [l0, l1], .int (x &&& y) :: st, h) := mj_R_next rfl rfl
theorem mq_41_8 {l0 l1 : Value} {x : Int32} {st : List Value} {h : mj_H} : mj_R 41 (8, [l0, l1], .int x :: st, h) = if x = nI 0 then mj_R 41 (11, [l0, l1], st, h) else mj_R 41 (15, [l0, l1], st, h) := mj_R_ine rfl
theorem mq_41_11 {l0 l1 : Value} {st : List Value} {h : mj_H} : mj_R 41 (11, [l0, l1], st, h) = mj_R 41 (12, [l0, l1], .int (nI 1) :: st, h) := mj_R_next rfl rfl
theorem mq_41_12 {l0 l1 : Value} {st : List Value} {h : mj_H} : mj_R 41 (12, [l0, l1], st, h) = mj_R 41 (16, [l0, l1], st, h) := mj_R_next rfl rfl
theorem mq_41_15 {l0 l1 : Value} {st : List Value} {h : mj_H} : mj_R 41 (15, [l0, l1], st, h) = mj_R 41 (16, [l0, l1], .int (nI 0) :: st, h) := mj_R_next rfl rfl
theorem mq_41_16 {l0 l1 : Value} {x : Int32} {h : mj_H} : mj_R 41 (16, [l0, l1], [.int x], h) = if (x == 0 || x == 1) = true then some (some (.int x), h) else none := mj_R_rz rfl rfl
theorem mc_42 {a0 : Nat} {a1 : Int32} {h : mj_H} : mj_C 42 [.ref a0, .int a1] h = mj_R 42 (0, [.ref a0, .int a1, .null, .null], [], h) := rfl
theorem mq_42_0 {l0 l1 l2 l3 : Value} {st : List Value} {h : mj_H} : mj_R 42 (0, [l0, l1, l2, l3], st, h) = mj_R 42 (1, [l0, l1, l2, l3], .int (nI 0) :: st, h) := mj_R_next rfl rfl
theorem mq_42_1 {l0 l1 l2 l3 : Value} {x : Int32} {st : List Value} {h : mj_H} : mj_R 42 (1, [l0, l1, l2, l3], .int x :: st, h) = mj_R 42 (2, [l0, l1, .int x, l3], st, h) := mj_R_next rfl rfl
theorem mq_42_2 {l0 l1 l2 l3 : Value} {st : List Value} {h : mj_H} : mj_R 42 (2, [l0, l1, l2, l3], st, h) = mj_R 42 (3, [l0, l1, l2, l3], .int (nI 0) :: st, h) := mj_R_next rfl rfl
theorem mq_42_3 {l0 l1 l2 l3 : Value} {x : Int32} {st : List Value} {h : mj_H} : mj_R 42 (3, [l0, l1, l2, l3], .int x :: st, h) = mj_R 42 (4, [l0, l1, l2, .int x], st, h) := mj_R_next rfl rfl
theorem mq_42_4 {l0 l1 l2 : Value} {x : Int32} {st : List Value} {h : mj_H} : mj_R 42 (4, [l0, l1, l2, .int x], st, h) = mj_R 42 (5, [l0, l1, l2, .int x], .int x :: st, h) := mj_R_next rfl rfl
theorem mq_42_5 {l1 l2 l3 : Value} {x : Nat} {st : List Value} {h : mj_H} : mj_R 42 (5, [.ref x, l1, l2, l3], st, h) = mj_R 42 (6, [.ref x, l1, l2, l3], .ref x :: st, h) := mj_R_next rfl rfl
theorem mq_42_6 {l0 l1 l2 l3 : Value} {x : Nat} {st : List Value} {h : mj_H} : mj_R 42 (6, [l0, l1, l2, l3], .ref x :: st, h) = mj_bd (mj_gf h x 3 1) (fun v => mj_R 42 (9, [l0, l1, l2, l3], v :: st, h)) := mj_R_gf rfl
theorem mq_42_9 {l0 l1 l2 l3 : Value} {x y : Int32} {st : List Value} {h : mj_H} : mj_R 42 (9, [l0, l1, l2, l3], .int y :: .int x :: st, h) = if y ≤ x then mj_R 42 (35, [l0, l1, l2, l3], st, h) else mj_R 42 (12, [l0, l1, l2, l3], st, h) := mj_R_jge rfl
theorem mq_42_12 {l0 l2 l3 : Value} {x : Int32} {st : List Value} {h : mj_H} : mj_R 42 (12, [l0, .int x, l2, l3], st, h) = mj_R 42 (13, [l0, .int x, l2, l3], .int x :: st, h) := mj_R_next rfl rfl
theorem mq_42_13 {l0 l1 l2 l3 : Value} {st : List Value} {h : mj_H} : mj_R 42 (13, [l0, l1, l2, l3], st, h) = mj_R 42 (14, [l0, l1, l2, l3], .int (nI 1) :: st, h) := mj_R_next rfl rfl
theorem mq_42_14 {l0 l1 l2 : Value} {x : Int32} {st : List Value} {h : mj_H} : mj_R 42 (14, [l0, l1, l2, .int x], st, h) = mj_R 42 (15, [l0, l1, l2, .int x], .int x :: st, h) := mj_R_next rfl rfl
theorem mq_42_15 {l0 l1 l2 l3 : Value} {x y : Int32} {st : List Value} {h : mj_H} : mj_R 42 (15, [l0, l1, l2, l3], .int y :: .int x :: st, h) = mj_R 42 (16, [l0, l1, l2, l3], .int (x <<< (y &&& 31)) :: st, h) := mj_R_next rfl rfl
theorem mq_42_16 {l0 l1 l2 l3 : Value} {x y : Int32} {st : List Value} {h : mj_H} : mj_R 42 (16, [l0, l1, l2, l3], .int y :: .int x :: st, h) = mj_R 42 (17, [l0, l1, l2, l3], .int (x &&& y) :: st, h) := mj_R_next rfl rfl
theorem mq_42_17 {l0 l1 l2 l3 : Value} {x : Int32} {st : List Value} {h : mj_H} : mj_R 42 (17, [l0, l1, l2, l3], .int x :: st, h) = if x = nI 0 then mj_R 42 (29, [l0, l1, l2, l3], st, h) else mj_R 42 (20, [l0, l1, l2, l3], st, h) := mj_R_ieq rfl
theorem mq_42_20 {l0 l1 l3 : Value} {x : Int32} {st : List Value} {h : mj_H} : mj_R 42 (20, [l0, l1, .int x, l3], st, h) = mj_R 42 (21, [l0, l1, .int x, l3], .int x :: st, h) := mj_R_next rfl rfl
theorem mq_42_21 {l1 l2 l3 : Value} {x : Nat} {st : List Value} {h : mj_H} : mj_R 42 (21, [.ref x, l1, l2, l3], st, h) = mj_R 42 (22, [.ref x, l1, l2, l3], .ref x :: st, h) := mj_R_next rfl rfl
theorem mq_42_22 {l0 l1 l2 l3 : Value} {x : Nat} {st : List Value} {h : mj_H} : mj_R 42 (22, [l0, l1, l2, l3], .ref x :: st, h) = mj_bd (mj_gf h x 3 7) (fun v => mj_R 42 (25, [l0, l1, l2, l3], v :: st, h)) := mj_R_gf rfl
theorem mq_42_25 {l0 l1 l2 : Value} {x : Int32} {st : List Value} {h : mj_H} : mj_R 42 (25, [l0, l1, l2, .int x], st, h) = mj_R 42 (26, [l0, l1, l2, .int x], .int x :: st, h) := mj_R_next rfl rfl
theorem mq_42_26 {l0 l1 l2 l3 : Value} {x : Nat} {j : Int32} {st : List Value} {h : mj_H} : mj_R 42 (26, [l0, l1, l2, l3], .int j :: .ref x :: st, h) = mj_bd (mj_gi h x j) (fun v => mj_R 42 (27, [l0, l1, l2, l3], .int v :: st, h)) := mj_R_gi rfl
theorem mq_42_27 {l0 l1 l2 l3 : Value} {x y : Int32} {st : List Value} {h : mj_H} : mj_R 42 (27, [l0, l1, l2, l3], .int y :: .int x :: st, h) = mj_R 42 (28, [l0, l1, l2, l3], .int (x ||| y) :: st, h) := mj_R_next rfl rfl
theorem mq_42_28 {l0 l1 l2 l3 : Value} {x : Int32} {st : List Value} {h : mj_H} : mj_R 42 (28, [l0, l1, l2, l3], .int x :: st, h) = mj_R 42 (29, [l0, l1, .int x, l3], st, h) := mj_R_next rfl rfl
theorem mq_42_29 {l0 l1 l2 : Value} {x : Int32} {st : List Value} {h : mj_H} : mj_R 42 (29, [l0, l1, l2, .int x], st, h) = mj_R 42 (32, [l0, l1, l2, .int (x + (nI 1))], st, h) := mj_R_next rfl rfl
theorem mq_42_32 {l0 l1 l2 l3 : Value} {st : List Value} {h : mj_H} : mj_R 42 (32, [l0, l1, l2, l3], st, h) = mj_R 42 (4, [l0, l1, l2, l3], st, h) := mj_R_next rfl rfl
theorem mq_42_35 {l0 l2 l3 : Value} {x : Int32} {st : List Value} {h : mj_H} : mj_R 42 (35, [l0, .int x, l2, l3], st, h) = mj_R 42 (36, [l0, .int x, l2, l3], .int x :: st, h) := mj_R_next rfl rfl
theorem mq_42_36 {l0 l1 l3 : Value} {x : Int32} {st : List Value} {h : mj_H} : mj_R 42 (36, [l0, l1, .int x, l3], st, h) = mj_R 42 (37, [l0, l1, .int x, l3], .int x :: st, h) := mj_R_next rfl rfl
theorem mq_42_37 {l0 l1 l2 l3 : Value} {x y : Int32} {st : List Value} {h : mj_H} : mj_R 42 (37, [l0, l1, l2, l3], .int y :: .int x :: st, h) = mj_R 42 (38, [l0, l1, l2, l3], .int (x &&& y) :: st, h) := mj_R_next rfl rfl
theorem mq_42_38 {l0 l1 l2 l3 : Value} {x : Int32} {st : List Value} {h : mj_H} : mj_R 42 (38, [l0, l1, l2, l3], .int x :: st, h) = if x = nI 0 then mj_R 42 (45, [l0, l1, l2, l3], st, h) else mj_R 42 (41, [l0, l1, l2, l3], st, h) := mj_R_ieq rfl
theorem mq_42_41 {l0 l1 l2 l3 : Value} {st : List Value} {h : mj_H} : mj_R 42 (41, [l0, l1, l2, l3], st, h) = mj_R 42 (42, [l0, l1, l2, l3], .int (nI 1) :: st, h) := mj_R_next rfl rfl
theorem mq_42_42 {l0 l1 l2 l3 : Value} {st : List Value} {h : mj_H} : mj_R 42 (42, [l0, l1, l2, l3], st, h) = mj_R 42 (46, [l0, l1, l2, l3], st, h) := mj_R_next rfl rfl
theorem mq_42_45 {l0 l1 l2 l3 : Value} {st : List Value} {h : mj_H} : mj_R 42 (45, [l0, l1, l2, l3], st, h) = mj_R 42 (46, [l0, l1, l2, l3], .int (nI 0) :: st, h) := mj_R_next rfl rfl
theorem mq_42_46 {l0 l1 l2 l3 : Value} {x : Int32} {h : mj_H} : mj_R 42 (46, [l0, l1, l2, l3], [.int x], h) = if (x == 0 || x == 1) = true then some (some (.int x), h) else none := mj_R_rz rfl rfl
theorem mc_43 {a0 : Nat} {a1 : Int32} {h : mj_H} : mj_C 43 [.ref a0, .int a1] h = mj_R 43 (0, [.ref a0, .int a1], [], h) := rfl
theorem mq_43_0 {l1 : Value} {x : Nat} {st : List Value} {h : mj_H} : mj_R 43 (0, [.ref x, l1], st, h) = mj_R 43 (1, [.ref x, l1], .ref x :: st, h) := mj_R_next rfl rfl
theorem mq_43_1 {l1 : Value} {x : Nat} {st : List Value} {h : mj_H} : mj_R 43 (1, [.ref x, l1], st, h) = mj_R 43 (2, [.ref x, l1], .ref x :: st, h) := mj_R_next rfl rfl
theorem mq_43_2 {l0 l1 : Value} {x : Nat} {st : List Value} {h : mj_H} : mj_R 43 (2, [l0, l1], .ref x :: st, h) = mj_bd (mj_gf h x 3 4) (fun v => mj_R 43 (5, [l0, l1], v :: st, h)) := mj_R_gf rfl
theorem mq_43_5 {l0 : Value} {x : Int32} {st : List Value} {h : mj_H} : mj_R 43 (5, [l0, .int x], st, h) = mj_R 43 (6, [l0, .int x], .int x :: st, h) := mj_R_next rfl rfl
theorem mq_43_6 {l0 l1 : Value} {a0 : Nat} {a1 : Nat} {a2 : Int32} {h : mj_H} : mj_R 43 (6, [l0, l1], [.int a2, .ref a1, .ref a0], h) = if mj_isC h a0 3 = true then mj_bd (mj_C 36 [.ref a0, .ref a1, .int a2] h) (fun r => mj_R 43 (9, [l0, l1], r.1.toList ++ [], r.2)) else none := mj_R_cv rfl rfl
theorem mq_43_9 {l0 l1 : Value} {x : Int32} {h : mj_H} : mj_R 43 (9, [l0, l1], [.int x], h) = some (some (.int x), h) := mj_R_ret rfl rfl
theorem mc_44 {a0 : Nat} {h : mj_H} : mj_C 44 [.ref a0] h = mj_R 44 (0, [.ref a0], [], h) := rfl
theorem mq_44_0 {x : Nat} {st : List Value} {h : mj_H} : mj_R 44 (0, [.ref x], st, h) = mj_R 44 (1, [.ref x], .ref x :: st, h) := mj_R_next rfl rfl
theorem mq_44_1 {l0 : Value} {a0 : Nat} {h : mj_H} : mj_R 44 (1, [l0], [.ref a0], h) = mj_R 44 (4, [l0], [], h) := mj_R_next rfl rfl
theorem mq_44_4 {x : Nat} {st : List Value} {h : mj_H} : mj_R 44 (4, [.ref x], st, h) = mj_R 44 (5, [.ref x], .ref x :: st, h) := mj_R_next rfl rfl
theorem mq_44_5 {l0 : Value} {st : List Value} {h : mj_H} : mj_R 44 (5, [l0], st, h) = mj_R 44 (7, [l0], .int (nI 64) :: st, h) := mj_R_next rfl rfl
-- mq_44_7: .newarray .int
theorem mq_44_7 {l0 : Value} {st : List Value} {h : mj_H} : mj_R 44 (7, [l0], .int (nI 64) :: st, h) = mj_R 44 (9, [l0], .ref h.2.1 :: st, mj_new h (.inl (0, List.replicate 64 0))) := mj_R_next rfl rfl
theorem mq_44_9 {l0 : Value} {x : Nat} {v : Value} {st : List Value} {h : mj_H} : mj_R 44 (9, [l0], v :: .ref x :: st, h) = mj_bd (mj_pf h x 4 0 v) (fun h' => mj_R 44 (12, [l0], st, h')) := mj_R_pf rfl
theorem mq_44_12 {l0 : Value} {h : mj_H} : mj_R 44 (12, [l0], [], h) = some (none, h) := mj_R_ret rfl rfl
theorem mc_45 {a0 : Nat} {a1 : Nat} {a2 : Int32} {h : mj_H} : mj_C 45 [.ref a0, .ref a1, .int a2] h = mj_R 45 (0, [.ref a0, .ref a1, .int a2, .null], [], h) := rfl
theorem mq_45_0 {l0 l1 l3 : Value} {x : Int32} {st : List Value} {h : mj_H} : mj_R 45 (0, [l0, l1, .int x, l3], st, h) = mj_R 45 (1, [l0, l1, .int x, l3], .int x :: st, h) := mj_R_next rfl rfl
theorem mq_45_1 {l0 l1 l2 l3 : Value} {x : Int32} {st : List Value} {h : mj_H} : mj_R 45 (1, [l0, l1, l2, l3], .int x :: st, h) = if x < nI 0 then mj_R 45 (13, [l0, l1, l2, l3], st, h) else mj_R 45 (4, [l0, l1, l2, l3], st, h) := mj_R_ilt rfl
theorem mq_45_4 {l0 l1 l3 : Value} {x : Int32} {st : List Value} {h : mj_H} : mj_R 45 (4, [l0, l1, .int x, l3], st, h) = mj_R 45 (5, [l0, l1, .int x, l3], .int x :: st, h) := mj_R_next rfl rfl
theorem mq_45_5 {l1 l2 l3 : Value} {x : Nat} {st : List Value} {h : mj_H} : mj_R 45 (5, [.ref x, l1, l2, l3], st, h) = mj_R 45 (6, [.ref x, l1, l2, l3], .ref x :: st, h) := mj_R_next rfl rfl
theorem mq_45_6 {l0 l1 l2 l3 : Value} {x : Nat} {st : List Value} {h : mj_H} : mj_R 45 (6, [l0, l1, l2, l3], .ref x :: st, h) = mj_bd (mj_gf h x 4 0) (fun v => mj_R 45 (9, [l0, l1, l2, l3], v :: st, h)) := mj_R_gf rfl
theorem mq_45_9 {l0 l1 l2 l3 : Value} {x : Nat} {st : List Value} {h : mj_H} : mj_R 45 (9, [l0, l1, l2, l3], .ref x :: st, h) = mj_bd (mj_al h x) (fun v => mj_R 45 (10, [l0, l1, l2, l3], .int v :: st, h)) := mj_R_al rfl
theorem mq_45_10 {l0 l1 l2 l3 : Value} {x y : Int32} {st : List Value} {h : mj_H} : mj_R 45 (10, [l0, l1, l2, l3], .int y :: .int x :: st, h) = if x < y then mj_R 45 (15, [l0, l1, l2, l3], st, h) else mj_R 45 (13, [l0, l1, l2, l3], st, h) := mj_R_jlt rfl
theorem mq_45_13 {l0 l1 l2 l3 : Value} {st : List Value} {h : mj_H} : mj_R 45 (13, [l0, l1, l2, l3], st, h) = mj_R 45 (14, [l0, l1, l2, l3], .int (nI 0) :: st, h) := mj_R_next rfl rfl
theorem mq_45_14 {l0 l1 l2 l3 : Value} {x : Int32} {h : mj_H} : mj_R 45 (14, [l0, l1, l2, l3], [.int x], h) = some (some (.int x), h) := mj_R_ret rfl rfl
theorem mq_45_15 {l1 l2 l3 : Value} {x : Nat} {st : List Value} {h : mj_H} : mj_R 45 (15, [.ref x, l1, l2, l3], st, h) = mj_R 45 (16, [.ref x, l1, l2, l3], .ref x :: st, h) := mj_R_next rfl rfl
theorem mq_45_16 {l0 l1 l2 l3 : Value} {x : Nat} {st : List Value} {h : mj_H} : mj_R 45 (16, [l0, l1, l2, l3], .ref x :: st, h) = mj_bd (mj_gf h x 4 0) (fun v => mj_R 45 (19, [l0, l1, l2, l3], v :: st, h)) := mj_R_gf rfl
theorem mq_45_19 {l0 l1 l2 l3 : Value} {st : List Value} {h : mj_H} : mj_R 45 (19, [l0, l1, l2, l3], st, h) = mj_R 45 (20, [l0, l1, l2, l3], .int (nI 0) :: st, h) := mj_R_next rfl rfl
theorem mq_45_20 {l0 l1 l2 l3 : Value} {st : List Value} {h : mj_H} : mj_R 45 (20, [l0, l1, l2, l3], st, h) = mj_R 45 (21, [l0, l1, l2, l3], .int (nI 1) :: st, h) := mj_R_next rfl rfl
theorem mq_45_21 {l0 l1 l2 l3 : Value} {x : Nat} {j v : Int32} {st : List Value} {h : mj_H} : mj_R 45 (21, [l0, l1, l2, l3], .int v :: .int j :: .ref x :: st, h) = mj_bd (mj_pi h x j v) (fun h' => mj_R 45 (22, [l0, l1, l2, l3], st, h')) := mj_R_pi rfl
theorem mq_45_22 {l0 l1 l2 l3 : Value} {st : List Value} {h : mj_H} : mj_R 45 (22, [l0, l1, l2, l3], st, h) = mj_R 45 (23, [l0, l1, l2, l3], .int (nI 1) :: st, h) := mj_R_next rfl rfl
theorem mq_45_23 {l0 l1 l2 l3 : Value} {x : Int32} {st : List Value} {h : mj_H} : mj_R 45 (23, [l0, l1, l2, l3], .int x :: st, h) = mj_R 45 (24, [l0, l1, l2, .int x], st, h) := mj_R_next rfl rfl
theorem mq_45_24 {l0 l1 l2 : Value} {x : Int32} {st : List Value} {h : mj_H} : mj_R 45 (24, [l0, l1, l2, .int x], st, h) = mj_R 45 (25, [l0, l1, l2, .int x], .int x :: st, h) := mj_R_next rfl rfl
theorem mq_45_25 {l0 l1 l3 : Value} {x : Int32} {st : List Value} {h : mj_H} : mj_R 45 (25, [l0, l1, .int x, l3], st, h) = mj_R 45 (26, [l0, l1, .int x, l3], .int x :: st, h) := mj_R_next rfl rfl
theorem mq_45_26 {l0 l1 l2 l3 : Value} {x y : Int32} {st : List Value} {h : mj_H} : mj_R 45 (26, [l0, l1, l2, l3], .int y :: .int x :: st, h) = if y < x then mj_R 45 (59, [l0, l1, l2, l3], st, h) else mj_R 45 (29, [l0, l1, l2, l3], st, h) := mj_R_jgt rfl
theorem mq_45_29 {l1 l2 l3 : Value} {x : Nat} {st : List Value} {h : mj_H} : mj_R 45 (29, [.ref x, l1, l2, l3], st, h) = mj_R 45 (30, [.ref x, l1, l2, l3], .ref x :: st, h) := mj_R_next rfl rfl
theorem mq_45_30 {l0 l1 l2 l3 : Value} {x : Nat} {st : List Value} {h : mj_H} : mj_R 45 (30, [l0, l1, l2, l3], .ref x :: st, h) = mj_bd (mj_gf h x 4 0) (fun v => mj_R 45 (33, [l0, l1, l2, l3], v :: st, h)) := mj_R_gf rfl
theorem mq_45_33 {l0 l1 l2 : Value} {x : Int32} {st : List Value} {h : mj_H} : mj_R 45 (33, [l0, l1, l2, .int x], st, h) = mj_R 45 (34, [l0, l1, l2, .int x], .int x :: st, h) := mj_R_next rfl rfl
theorem mq_45_34 {l0 l1 l2 : Value} {x : Int32} {st : List Value} {h : mj_H} : mj_R 45 (34, [l0, l1, l2, .int x], st, h) = mj_R 45 (35, [l0, l1, l2, .int x], .int x :: st, h) := mj_R_next rfl rfl
theorem mq_45_35 {l0 l1 l3 : Value} {x : Int32} {st : List Value} {h : mj_H} : mj_R 45 (35, [l0, l1, .int x, l3], st, h) = mj_R 45 (36, [l0, l1, .int x, l3], .int x :: st, h) := mj_R_next rfl rfl
theorem mq_45_36 {l0 l1 l2 l3 : Value} {st : List Value} {h : mj_H} : mj_R 45 (36, [l0, l1, l2, l3], st, h) = mj_R 45 (37, [l0, l1, l2, l3], .int (-1) :: st, h) := mj_R_next rfl rfl
theorem mq_45_37 {l0 l1 l2 l3 : Value} {x y : Int32} {st : List Value} {h : mj_H} : mj_R 45 (37, [l0, l1, l2, l3], .int y :: .int x :: st, h) = mj_R 45 (38, [l0, l1, l2, l3], .int (x ^^^ y) :: st, h) := mj_R_next rfl rfl
theorem mq_45_38 {l0 l1 l2 l3 : Value} {x y : Int32} {st : List Value} {h : mj_H} : mj_R 45 (38, [l0, l1, l2, l3], .int y :: .int x :: st, h) = mj_R 45 (39, [l0, l1, l2, l3], .int (x &&& y) :: st, h) := mj_R_next rfl rfl
theorem mq_45_39 {l0 l1 l2 l3 : Value} {x : Int32} {st : List Value} {h : mj_H} : mj_R 45 (39, [l0, l1, l2, l3], .int x :: st, h) = if x = nI 0 then mj_R 45 (42, [l0, l1, l2, l3], st, h) else mj_R 45 (51, [l0, l1, l2, l3], st, h) := mj_R_ine rfl
theorem mq_45_42 {l1 l2 l3 : Value} {x : Nat} {st : List Value} {h : mj_H} : mj_R 45 (42, [.ref x, l1, l2, l3], st, h) = mj_R 45 (43, [.ref x, l1, l2, l3], .ref x :: st, h) := mj_R_next rfl rfl
theorem mq_45_43 {l0 l2 l3 : Value} {x : Nat} {st : List Value} {h : mj_H} : mj_R 45 (43, [l0, .ref x, l2, l3], st, h) = mj_R 45 (44, [l0, .ref x, l2, l3], .ref x :: st, h) := mj_R_next rfl rfl
theorem mq_45_44 {l0 l1 l2 : Value} {x : Int32} {st : List Value} {h : mj_H} : mj_R 45 (44, [l0, l1, l2, .int x], st, h) = mj_R 45 (45, [l0, l1, l2, .int x], .int x :: st, h) := mj_R_next rfl rfl
theorem mq_45_45 {l0 l1 l2 l3 : Value} {a0 : Nat} {a1 : Nat} {a2 : Int32} {s0 : Value} {s1 : Value} {h : mj_H} : mj_R 45 (45, [l0, l1, l2, l3], [.int a2, .ref a1, .ref a0, s0, s1], h) = if mj_isC h a0 4 = true then mj_bd (mj_C 46 [.ref a0, .ref a1, .int a2] h) (fun r => mj_R 45 (48, [l0, l1, l2, l3], r.1.toList ++ [s0, s1], r.2)) else none := mj_R_cv rfl rfl
theorem mq_45_48 {l0 l1 l2 l3 : Value} {st : List Value} {h : mj_H} : mj_R 45 (48, [l0, l1, l2, l3], st, h) = mj_R 45 (52, [l0, l1, l2, l3], st, h) := mj_R_next rfl rfl
theorem mq_45_51 {l0 l1 l2 l3 : Value} {st : List Value} {h : mj_H} : mj_R 45 (51, [l0, l1, l2, l3], st, h) = mj_R 45 (52, [l0, l1, l2, l3], .int (nI 0) :: st, h) := mj_R_next rfl rfl
theorem mq_45_52 {l0 l1 l2 l3 : Value} {x : Nat} {j v : Int32} {st : List Value} {h : mj_H} : mj_R 45 (52, [l0, l1, l2, l3], .int v :: .int j :: .ref x :: st, h) = mj_bd (mj_pi h x j v) (fun h' => mj_R 45 (53, [l0, l1, l2, l3], st, h')) := mj_R_pi rfl
theorem mq_45_53 {l0 l1 l2 : Value} {x : Int32} {st : List Value} {h : mj_H} : mj_R 45 (53, [l0, l1, l2, .int x], st, h) = mj_R 45 (56, [l0, l1, l2, .int (x + (nI 1))], st, h) := mj_R_next rfl rfl
theorem mq_45_56 {l0 l1 l2 l3 : Value} {st : List Value} {h : mj_H} : mj_R 45 (56, [l0, l1, l2, l3], st, h) = mj_R 45 (24, [l0, l1, l2, l3], st, h) := mj_R_next rfl rfl
theorem mq_45_59 {l1 l2 l3 : Value} {x : Nat} {st : List Value} {h : mj_H} : mj_R 45 (59, [.ref x, l1, l2, l3], st, h) = mj_R 45 (60, [.ref x, l1, l2, l3], .ref x :: st, h) := mj_R_next rfl rfl
theorem mq_45_60 {l0 l1 l2 l3 : Value} {x : Nat} {st : List Value} {h : mj_H} : mj_R 45 (60, [l0, l1, l2, l3], .ref x :: st, h) = mj_bd (mj_gf h x 4 0) (fun v => mj_R 45 (63, [l0, l1, l2, l3], v :: st, h)) := mj_R_gf rfl
theorem mq_45_63 {l0 l1 l3 : Value} {x : Int32} {st : List Value} {h : mj_H} : mj_R 45 (63, [l0, l1, .int x, l3], st, h) = mj_R 45 (64, [l0, l1, .int x, l3], .int x :: st, h) := mj_R_next rfl rfl
theorem mq_45_64 {l0 l1 l2 l3 : Value} {x : Nat} {j : Int32} {st : List Value} {h : mj_H} : mj_R 45 (64, [l0, l1, l2, l3], .int j :: .ref x :: st, h) = mj_bd (mj_gi h x j) (fun v => mj_R 45 (65, [l0, l1, l2, l3], .int v :: st, h)) := mj_R_gi rfl
theorem mq_45_65 {l0 l1 l2 l3 : Value} {x : Int32} {h : mj_H} : mj_R 45 (65, [l0, l1, l2, l3], [.int x], h) = some (some (.int x), h) := mj_R_ret rfl rfl
theorem mc_46 {a0 : Nat} {a1 : Nat} {a2 : Int32} {h : mj_H} : mj_C 46 [.ref a0, .ref a1, .int a2] h = mj_R 46 (0, [.ref a0, .ref a1, .int a2, .null, .null, .null], [], h) := rfl
theorem mq_46_0 {l0 l1 l2 l3 l4 l5 : Value} {st : List Value} {h : mj_H} : mj_R 46 (0, [l0, l1, l2, l3, l4, l5], st, h) = mj_R 46 (1, [l0, l1, l2, l3, l4, l5], .int (nI 0) :: st, h) := mj_R_next rfl rfl
theorem mq_46_1 {l0 l1 l2 l3 l4 l5 : Value} {x : Int32} {st : List Value} {h : mj_H} : mj_R 46 (1, [l0, l1, l2, l3, l4, l5], .int x :: st, h) = mj_R 46 (2, [l0, l1, l2, .int x, l4, l5], st, h) := mj_R_next rfl rfl
theorem mq_46_2 {l0 l1 l2 l3 l4 l5 : Value} {st : List Value} {h : mj_H} : mj_R 46 (2, [l0, l1, l2, l3, l4, l5], st, h) = mj_R 46 (3, [l0, l1, l2, l3, l4, l5], .int (nI 0) :: st, h) := mj_R_next rfl rfl
theorem mq_46_3 {l0 l1 l2 l3 l4 l5 : Value} {x : Int32} {st : List Value} {h : mj_H} : mj_R 46 (3, [l0, l1, l2, l3, l4, l5], .int x :: st, h) = mj_R 46 (5, [l0, l1, l2, l3, .int x, l5], st, h) := mj_R_next rfl rfl
theorem mq_46_5 {l0 l1 l2 l3 l5 : Value} {x : Int32} {st : List Value} {h : mj_H} : mj_R 46 (5, [l0, l1, l2, l3, .int x, l5], st, h) = mj_R 46 (7, [l0, l1, l2, l3, .int x, l5], .int x :: st, h) := mj_R_next rfl rfl
theorem mq_46_7 {l0 l2 l3 l4 l5 : Value} {x : Nat} {st : List Value} {h : mj_H} : mj_R 46 (7, [l0, .ref x, l2, l3, l4, l5], st, h) = mj_R 46 (8, [l0, .ref x, l2, l3, l4, l5], .ref x :: st, h) := mj_R_next rfl rfl
theorem mq_46_8 {l0 l1 l2 l3 l4 l5 : Value} {x : Nat} {st : List Value} {h : mj_H} : mj_R 46 (8, [l0, l1, l2, l3, l4, l5], .ref x :: st, h) = mj_bd (mj_gf h x 3 1) (fun v => mj_R 46 (11, [l0, l1, l2, l3, l4, l5], v :: st, h)) := mj_R_gf rfl
theorem mq_46_11 {l0 l1 l2 l3 l4 l5 : Value} {x y : Int32} {st : List Value} {h : mj_H} : mj_R 46 (11, [l0, l1, l2, l3, l4, l5], .int y :: .int x :: st, h) = if y ≤ x then mj_R 46 (58, [l0, l1, l2, l3, l4, l5], st, h) else mj_R 46 (14, [l0, l1, l2, l3, l4, l5], st, h) := mj_R_jge rfl
theorem mq_46_14 {l0 l1 l3 l4 l5 : Value} {x : Int32} {st : List Value} {h : mj_H} : mj_R 46 (14, [l0, l1, .int x, l3, l4, l5], st, h) = mj_R 46 (15, [l0, l1, .int x, l3, l4, l5], .int x :: st, h) := mj_R_next rfl rfl
theorem mq_46_15 {l0 l1 l2 l3 l4 l5 : Value} {st : List Value} {h : mj_H} : mj_R 46 (15, [l0, l1, l2, l3, l4, l5], st, h) = mj_R 46 (16, [l0, l1, l2, l3, l4, l5], .int (nI 1) :: st, h) := mj_R_next rfl rfl
theorem mq_46_16 {l0 l1 l2 l3 l5 : Value} {x : Int32} {st : List Value} {h : mj_H} : mj_R 46 (16, [l0, l1, l2, l3, .int x, l5], st, h) = mj_R 46 (18, [l0, l1, l2, l3, .int x, l5], .int x :: st, h) := mj_R_next rfl rfl
theorem mq_46_18 {l0 l1 l2 l3 l4 l5 : Value} {x y : Int32} {st : List Value} {h : mj_H} : mj_R 46 (18, [l0, l1, l2, l3, l4, l5], .int y :: .int x :: st, h) = mj_R 46 (19, [l0, l1, l2, l3, l4, l5], .int (x <<< (y &&& 31)) :: st, h) := mj_R_next rfl rfl
theorem mq_46_19 {l0 l1 l2 l3 l4 l5 : Value} {st : List Value} {h : mj_H} : mj_R 46 (19, [l0, l1, l2, l3, l4, l5], st, h) = mj_R 46 (20, [l0, l1, l2, l3, l4, l5], .int (-1) :: st, h) := mj_R_next rfl rfl
theorem mq_46_20 {l0 l1 l2 l3 l4 l5 : Value} {x y : Int32} {st : List Value} {h : mj_H} : mj_R 46 (20, [l0, l1, l2, l3, l4, l5], .int y :: .int x :: st, h) = mj_R 46 (21, [l0, l1, l2, l3, l4, l5], .int (x ^^^ y) :: st, h) := mj_R_next rfl rfl
theorem mq_46_21 {l0 l1 l2 l3 l4 l5 : Value} {x y : Int32} {st : List Value} {h : mj_H} : mj_R 46 (21, [l0, l1, l2, l3, l4, l5], .int y :: .int x :: st, h) = mj_R 46 (22, [l0, l1, l2, l3, l4, l5], .int (x &&& y) :: st, h) := mj_R_next rfl rfl
theorem mq_46_22 {l0 l1 l2 l3 l4 l5 : Value} {x : Int32} {st : List Value} {h : mj_H} : mj_R 46 (22, [l0, l1, l2, l3, l4, l5], .int x :: st, h) = mj_R 46 (24, [l0, l1, l2, l3, l4, .int x], st, h) := mj_R_next rfl rfl
theorem mq_46_24 {l0 l1 l2 l3 l4 : Value} {x : Int32} {st : List Value} {h : mj_H} : mj_R 46 (24, [l0, l1, l2, l3, l4, .int x], st, h) = mj_R 46 (26, [l0, l1, l2, l3, l4, .int x], .int x :: st, h) := mj_R_next rfl rfl
theorem mq_46_26 {l0 l1 l3 l4 l5 : Value} {x : Int32} {st : List Value} {h : mj_H} : mj_R 46 (26, [l0, l1, .int x, l3, l4, l5], st, h) = mj_R 46 (27, [l0, l1, .int x, l3, l4, l5], .int x :: st, h) := mj_R_next rfl rfl
theorem mq_46_27 {l0 l1 l2 l3 l4 l5 : Value} {x y : Int32} {st : List Value} {h : mj_H} : mj_R 46 (27, [l0, l1, l2, l3, l4, l5], .int y :: .int x :: st, h) = if x = y then mj_R 46 (52, [l0, l1, l2, l3, l4, l5], st, h) else mj_R 46 (30, [l0, l1, l2, l3, l4, l5], st, h) := mj_R_jeq rfl
theorem mq_46_30 {l1 l2 l3 l4 l5 : Value} {x : Nat} {st : List Value} {h : mj_H} : mj_R 46 (30, [.ref x, l1, l2, l3, l4, l5], st, h) = mj_R 46 (31, [.ref x, l1, l2, l3, l4, l5], .ref x :: st, h) := mj_R_next rfl rfl
theorem mq_46_31 {l0 l2 l3 l4 l5 : Value} {x : Nat} {st : List Value} {h : mj_H} : mj_R 46 (31, [l0, .ref x, l2, l3, l4, l5], st, h) = mj_R 46 (32, [l0, .ref x, l2, l3, l4, l5], .ref x :: st, h) := mj_R_next rfl rfl
theorem mq_46_32 {l0 l1 l2 l3 l5 : Value} {x : Int32} {st : List Value} {h : mj_H} : mj_R 46 (32, [l0, l1, l2, l3, .int x, l5], st, h) = mj_R 46 (34, [l0, l1, l2, l3, .int x, l5], .int x :: st, h) := mj_R_next rfl rfl
theorem mq_46_34 {l0 l1 l2 l3 l4 : Value} {x : Int32} {st : List Value} {h : mj_H} : mj_R 46 (34, [l0, l1, l2, l3, l4, .int x], st, h) = mj_R 46 (36, [l0, l1, l2, l3, l4, .int x], .int x :: st, h) := mj_R_next rfl rfl
theorem mq_46_36 {l0 l1 l2 l3 l4 l5 : Value} {a0 : Nat} {a1 : Nat} {a2 : Int32} {a3 : Int32} {h : mj_H} : mj_R 46 (36, [l0, l1, l2, l3, l4, l5], [.int a3, .int a2, .ref a1, .ref a0], h) = if mj_isC h a0 4 = true then mj_bd (mj_C 47 [.ref a0, .ref a1, .int a2, .int a3] h) (fun r => mj_R 46 (39, [l0, l1, l2, l3, l4, l5], r.1.toList ++ [], r.2)) else none := mj_R_cv rfl rfl
theorem mq_46_39 {l0 l1 l2 l3 l4 l5 : Value} {x : Int32} {st : List Value} {h : mj_H} : mj_R 46 (39, [l0, l1, l2, l3, l4, l5], .int x :: st, h) = if x = nI 0 then mj_R 46 (52, [l0, l1, l2, l3, l4, l5], st, h) else mj_R 46 (42, [l0, l1, l2, l3, l4, l5], st, h) := mj_R_ieq rfl
theorem mq_46_42 {l0 l1 l2 l4 l5 : Value} {x : Int32} {st : List Value} {h : mj_H} : mj_R 46 (42, [l0, l1, l2, .int x, l4, l5], st, h) = mj_R 46 (43, [l0, l1, l2, .int x, l4, l5], .int x :: st, h) := mj_R_next rfl rfl
theorem mq_46_43 {l1 l2 l3 l4 l5 : Value} {x : Nat} {st : List Value} {h : mj_H} : mj_R 46 (43, [.ref x, l1, l2, l3, l4, l5], st, h) = mj_R 46 (44, [.ref x, l1, l2, l3, l4, l5], .ref x :: st, h) := mj_R_next rfl rfl
theorem mq_46_44 {l0 l1 l2 l3 l4 l5 : Value} {x : Nat} {st : List Value} {h : mj_H} : mj_R 46 (44, [l0, l1, l2, l3, l4, l5], .ref x :: st, h) = mj_bd (mj_gf h x 4 0) (fun v => mj_R 46 (47, [l0, l1, l2, l3, l4, l5], v :: st, h)) := mj_R_gf rfl
theorem mq_46_47 {l0 l1 l2 l3 l4 : Value} {x : Int32} {st : List Value} {h : mj_H} : mj_R 46 (47, [l0, l1, l2, l3, l4, .int x], st, h) = mj_R 46 (49, [l0, l1, l2, l3, l4, .int x], .int x :: st, h) := mj_R_next rfl rfl
theorem mq_46_49 {l0 l1 l2 l3 l4 l5 : Value} {x : Nat} {j : Int32} {st : List Value} {h : mj_H} : mj_R 46 (49, [l0, l1, l2, l3, l4, l5], .int j :: .ref x :: st, h) = mj_bd (mj_gi h x j) (fun v => mj_R 46 (50, [l0, l1, l2, l3, l4, l5], .int v :: st, h)) := mj_R_gi rfl
theorem mq_46_50 {l0 l1 l2 l3 l4 l5 : Value} {x y : Int32} {st : List Value} {h : mj_H} : mj_R 46 (50, [l0, l1, l2, l3, l4, l5], .int y :: .int x :: st, h) = mj_R 46 (51, [l0, l1, l2, l3, l4, l5], .int (x + y) :: st, h) := mj_R_next rfl rfl
theorem mq_46_51 {l0 l1 l2 l3 l4 l5 : Value} {x : Int32} {st : List Value} {h : mj_H} : mj_R 46 (51, [l0, l1, l2, l3, l4, l5], .int x :: st, h) = mj_R 46 (52, [l0, l1, l2, .int x, l4, l5], st, h) := mj_R_next rfl rfl
theorem mq_46_52 {l0 l1 l2 l3 l5 : Value} {x : Int32} {st : List Value} {h : mj_H} : mj_R 46 (52, [l0, l1, l2, l3, .int x, l5], st, h) = mj_R 46 (55, [l0, l1, l2, l3, .int (x + (nI 1)), l5], st, h) := mj_R_next rfl rfl
theorem mq_46_55 {l0 l1 l2 l3 l4 l5 : Value} {st : List Value} {h : mj_H} : mj_R 46 (55, [l0, l1, l2, l3, l4, l5], st, h) = mj_R 46 (5, [l0, l1, l2, l3, l4, l5], st, h) := mj_R_next rfl rfl
theorem mq_46_58 {l0 l1 l2 l4 l5 : Value} {x : Int32} {st : List Value} {h : mj_H} : mj_R 46 (58, [l0, l1, l2, .int x, l4, l5], st, h) = mj_R 46 (59, [l0, l1, l2, .int x, l4, l5], .int x :: st, h) := mj_R_next rfl rfl
theorem mq_46_59 {l0 l1 l2 l3 l4 l5 : Value} {x : Int32} {h : mj_H} : mj_R 46 (59, [l0, l1, l2, l3, l4, l5], [.int x], h) = some (some (.int x), h) := mj_R_ret rfl rfl
theorem mc_47 {a0 : Nat} {a1 : Nat} {a2 : Int32} {a3 : Int32} {h : mj_H} : mj_C 47 [.ref a0, .ref a1, .int a2, .int a3] h = mj_R 47 (0, [.ref a0, .ref a1, .int a2, .int a3, .null], [], h) := rfl
theorem mq_47_0 {l0 l2 l3 l4 : Value} {x : Nat} {st : List Value} {h : mj_H} : mj_R 47 (0, [l0, .ref x, l2, l3, l4], st, h) = mj_R 47 (1, [l0, .ref x, l2, l3, l4], .ref x :: st, h) := mj_R_next rfl rfl
theorem mq_47_1 {l0 l1 l2 l3 l4 : Value} {x : Nat} {st : List Value} {h : mj_H} : mj_R 47 (1, [l0, l1, l2, l3, l4], .ref x :: st, h) = mj_bd (mj_gf h x 3 3) (fun v => mj_R 47 (4, [l0, l1, l2, l3, l4], v :: st, h)) := mj_R_gf rfl
theorem mq_47_4 {l0 l1 l3 l4 : Value} {x : Int32} {st : List Value} {h : mj_H} : mj_R 47 (4, [l0, l1, .int x, l3, l4], st, h) = mj_R 47 (5, [l0, l1, .int x, l3, l4], .int x :: st, h) := mj_R_next rfl rfl
theorem mq_47_5 {l0 l1 l2 l3 l4 : Value} {x : Nat} {j : Int32} {st : List Value} {h : mj_H} : mj_R 47 (5, [l0, l1, l2, l3, l4], .int j :: .ref x :: st, h) = mj_bd (mj_gi h x j) (fun v => mj_R 47 (6, [l0, l1, l2, l3, l4], .int v :: st, h)) := mj_R_gi rfl
theorem mq_47_6 {l0 l1 l2 l3 l4 : Value} {st : List Value} {h : mj_H} : mj_R 47 (6, [l0, l1, l2, l3, l4], st, h) = mj_R 47 (7, [l0, l1, l2, l3, l4], .int (nI 2) :: st, h) := mj_R_next rfl rfl
theorem mq_47_7 {l0 l1 l2 l3 l4 : Value} {x y : Int32} {st : List Value} {h : mj_H} : mj_R 47 (7, [l0, l1, l2, l3, l4], .int y :: .int x :: st, h) = if x = y then mj_R 47 (12, [l0, l1, l2, l3, l4], st, h) else mj_R 47 (10, [l0, l1, l2, l3, l4], st, h) := mj_R_jeq rfl
theorem mq_47_10 {l0 l1 l2 l3 l4 : Value} {st : List Value} {h : mj_H} : mj_R 47 (10, [l0, l1, l2, l3, l4], st, h) = mj_R 47 (11, [l0, l1, l2, l3, l4], .int (nI 1) :: st, h) := mj_R_next rfl rfl
theorem mq_47_11 {l0 l1 l2 l3 l4 : Value} {x : Int32} {h : mj_H} : mj_R 47 (11, [l0, l1, l2, l3, l4], [.int x], h) = if (x == 0 || x == 1) = true then some (some (.int x), h) else none := mj_R_rz rfl rfl
theorem mq_47_12 {l0 l1 l2 l3 l4 : Value} {st : List Value} {h : mj_H} : mj_R 47 (12, [l0, l1, l2, l3, l4], st, h) = mj_R 47 (13, [l0, l1, l2, l3, l4], .int (nI 0) :: st, h) := mj_R_next rfl rfl
theorem mq_47_13 {l0 l1 l2 l3 l4 : Value} {x : Int32} {st : List Value} {h : mj_H} : mj_R 47 (13, [l0, l1, l2, l3, l4], .int x :: st, h) = mj_R 47 (15, [l0, l1, l2, l3, .int x], st, h) := mj_R_next rfl rfl
theorem mq_47_15 {l0 l1 l2 l3 : Value} {x : Int32} {st : List Value} {h : mj_H} : mj_R 47 (15, [l0, l1, l2, l3, .int x], st, h) = mj_R 47 (17, [l0, l1, l2, l3, .int x], .int x :: st, h) := mj_R_next rfl rfl
theorem mq_47_17 {l0 l2 l3 l4 : Value} {x : Nat} {st : List Value} {h : mj_H} : mj_R 47 (17, [l0, .ref x, l2, l3, l4], st, h) = mj_R 47 (18, [l0, .ref x, l2, l3, l4], .ref x :: st, h) := mj_R_next rfl rfl
theorem mq_47_18 {l0 l1 l2 l3 l4 : Value} {x : Nat} {st : List Value} {h : mj_H} : mj_R 47 (18, [l0, l1, l2, l3, l4], .ref x :: st, h) = mj_bd (mj_gf h x 3 1) (fun v => mj_R 47 (21, [l0, l1, l2, l3, l4], v :: st, h)) := mj_R_gf rfl
theorem mq_47_21 {l0 l1 l2 l3 l4 : Value} {x y : Int32} {st : List Value} {h : mj_H} : mj_R 47 (21, [l0, l1, l2, l3, l4], .int y :: .int x :: st, h) = if y ≤ x then mj_R 47 (56, [l0, l1, l2, l3, l4], st, h) else mj_R 47 (24, [l0, l1, l2, l3, l4], st, h) := mj_R_jge rfl
theorem mq_47_24 {l0 l1 l2 l4 : Value} {x : Int32} {st : List Value} {h : mj_H} : mj_R 47 (24, [l0, l1, l2, .int x, l4], st, h) = mj_R 47 (25, [l0, l1, l2, .int x, l4], .int x :: st, h) := mj_R_next rfl rfl
theorem mq_47_25 {l0 l1 l2 l3 l4 : Value} {st : List Value} {h : mj_H} : mj_R 47 (25, [l0, l1, l2, l3, l4], st, h) = mj_R 47 (26, [l0, l1, l2, l3, l4], .int (nI 1) :: st, h) := mj_R_next rfl rfl
theorem mq_47_26 {l0 l1 l2 l3 : Value} {x : Int32} {st : List Value} {h : mj_H} : mj_R 47 (26, [l0, l1, l2, l3, .int x], st, h) = mj_R 47 (28, [l0, l1, l2, l3, .int x], .int x :: st, h) := mj_R_next rfl rfl
theorem mq_47_28 {l0 l1 l2 l3 l4 : Value} {x y : Int32} {st : List Value} {h : mj_H} : mj_R 47 (28, [l0, l1, l2, l3, l4], .int y :: .int x :: st, h) = mj_R 47 (29, [l0, l1, l2, l3, l4], .int (x <<< (y &&& 31)) :: st, h) := mj_R_next rfl rfl
theorem mq_47_29 {l0 l1 l2 l3 l4 : Value} {x y : Int32} {st : List Value} {h : mj_H} : mj_R 47 (29, [l0, l1, l2, l3, l4], .int y :: .int x :: st, h) = mj_R 47 (30, [l0, l1, l2, l3, l4], .int (x &&& y) :: st, h) := mj_R_next rfl rfl
theorem mq_47_30 {l0 l1 l2 l3 l4 : Value} {x : Int32} {st : List Value} {h : mj_H} : mj_R 47 (30, [l0, l1, l2, l3, l4], .int x :: st, h) = if x = nI 0 then mj_R 47 (50, [l0, l1, l2, l3, l4], st, h) else mj_R 47 (33, [l0, l1, l2, l3, l4], st, h) := mj_R_ieq rfl
theorem mq_47_33 {l0 l2 l3 l4 : Value} {x : Nat} {st : List Value} {h : mj_H} : mj_R 47 (33, [l0, .ref x, l2, l3, l4], st, h) = mj_R 47 (34, [l0, .ref x, l2, l3, l4], .ref x :: st, h) := mj_R_next rfl rfl
theorem mq_47_34 {l0 l1 l2 l3 : Value} {x : Int32} {st : List Value} {h : mj_H} : mj_R 47 (34, [l0, l1, l2, l3, .int x], st, h) = mj_R 47 (36, [l0, l1, l2, l3, .int x], .int x :: st, h) := mj_R_next rfl rfl
theorem mq_47_36 {l0 l1 l2 l3 l4 : Value} {a0 : Nat} {a1 : Int32} {h : mj_H} : mj_R 47 (36, [l0, l1, l2, l3, l4], [.int a1, .ref a0], h) = if mj_isC h a0 3 = true then mj_bd (mj_C 38 [.ref a0, .int a1] h) (fun r => mj_R 47 (39, [l0, l1, l2, l3, l4], r.1.toList ++ [], r.2)) else none := mj_R_cv rfl rfl
theorem mq_47_39 {l0 l2 l3 l4 : Value} {x : Nat} {st : List Value} {h : mj_H} : mj_R 47 (39, [l0, .ref x, l2, l3, l4], st, h) = mj_R 47 (40, [l0, .ref x, l2, l3, l4], .ref x :: st, h) := mj_R_next rfl rfl
theorem mq_47_40 {l0 l1 l2 l3 l4 : Value} {x : Nat} {st : List Value} {h : mj_H} : mj_R 47 (40, [l0, l1, l2, l3, l4], .ref x :: st, h) = mj_bd (mj_gf h x 3 4) (fun v => mj_R 47 (43, [l0, l1, l2, l3, l4], v :: st, h)) := mj_R_gf rfl
theorem mq_47_43 {l0 l1 l3 l4 : Value} {x : Int32} {st : List Value} {h : mj_H} : mj_R 47 (43, [l0, l1, .int x, l3, l4], st, h) = mj_R 47 (44, [l0, l1, .int x, l3, l4], .int x :: st, h) := mj_R_next rfl rfl
theorem mq_47_44 {l0 l1 l2 l3 l4 : Value} {x : Nat} {j : Int32} {st : List Value} {h : mj_H} : mj_R 47 (44, [l0, l1, l2, l3, l4], .int j :: .ref x :: st, h) = mj_bd (mj_gi h x j) (fun v => mj_R 47 (45, [l0, l1, l2, l3, l4], .int v :: st, h)) := mj_R_gi rfl
theorem mq_47_45 {l0 l1 l2 l3 l4 : Value} {x y : Int32} {st : List Value} {h : mj_H} : mj_R 47 (45, [l0, l1, l2, l3, l4], .int y :: .int x :: st, h) = if x ≤ y then mj_R 47 (50, [l0, l1, l2, l3, l4], st, h) else mj_R 47 (48, [l0, l1, l2, l3, l4], st, h) := mj_R_jle rfl
theorem mq_47_48 {l0 l1 l2 l3 l4 : Value} {st : List Value} {h : mj_H} : mj_R 47 (48, [l0, l1, l2, l3, l4], st, h) = mj_R 47 (49, [l0, l1, l2, l3, l4], .int (nI 0) :: st, h) := mj_R_next rfl rfl
theorem mq_47_49 {l0 l1 l2 l3 l4 : Value} {x : Int32} {h : mj_H} : mj_R 47 (49, [l0, l1, l2, l3, l4], [.int x], h) = if (x == 0 || x == 1) = true then some (some (.int x), h) else none := mj_R_rz rfl rfl
theorem mq_47_50 {l0 l1 l2 l3 : Value} {x : Int32} {st : List Value} {h : mj_H} : mj_R 47 (50, [l0, l1, l2, l3, .int x], st, h) = mj_R 47 (53, [l0, l1, l2, l3, .int (x + (nI 1))], st, h) := mj_R_next rfl rfl
theorem mq_47_53 {l0 l1 l2 l3 l4 : Value} {st : List Value} {h : mj_H} : mj_R 47 (53, [l0, l1, l2, l3, l4], st, h) = mj_R 47 (15, [l0, l1, l2, l3, l4], st, h) := mj_R_next rfl rfl
theorem mq_47_56 {l0 l1 l2 l3 l4 : Value} {st : List Value} {h : mj_H} : mj_R 47 (56, [l0, l1, l2, l3, l4], st, h) = mj_R 47 (57, [l0, l1, l2, l3, l4], .int (nI 1) :: st, h) := mj_R_next rfl rfl
theorem mq_47_57 {l0 l1 l2 l3 l4 : Value} {x : Int32} {h : mj_H} : mj_R 47 (57, [l0, l1, l2, l3, l4], [.int x], h) = if (x == 0 || x == 1) = true then some (some (.int x), h) else none := mj_R_rz rfl rfl
theorem mc_48 {a0 : Nat} {h : mj_H} : mj_C 48 [.ref a0] h = mj_R 48 (0, [.ref a0], [], h) := rfl
theorem mq_48_0 {x : Nat} {st : List Value} {h : mj_H} : mj_R 48 (0, [.ref x], st, h) = mj_R 48 (1, [.ref x], .ref x :: st, h) := mj_R_next rfl rfl
theorem mq_48_1 {l0 : Value} {a0 : Nat} {h : mj_H} : mj_R 48 (1, [l0], [.ref a0], h) = mj_R 48 (4, [l0], [], h) := mj_R_next rfl rfl
theorem mq_48_4 {x : Nat} {st : List Value} {h : mj_H} : mj_R 48 (4, [.ref x], st, h) = mj_R 48 (5, [.ref x], .ref x :: st, h) := mj_R_next rfl rfl
theorem mq_48_5 {l0 : Value} {st : List Value} {h : mj_H} : mj_R 48 (5, [l0], st, h) = mj_R 48 (7, [l0], .int (nI 64) :: st, h) := mj_R_next rfl rfl
-- mq_48_7: .newarray .int
theorem mq_48_7 {l0 : Value} {st : List Value} {h : mj_H} : mj_R 48 (7, [l0], .int (nI 64) :: st, h) = mj_R 48 (9, [l0], .ref h.2.1 :: st, mj_new h (.inl (0, List.replicate 64 0))) := mj_R_next rfl rfl
theorem mq_48_9 {l0 : Value} {x : Nat} {v : Value} {st : List Value} {h : mj_H} : mj_R 48 (9, [l0], v :: .ref x :: st, h) = mj_bd (mj_pf h x 5 0 v) (fun h' => mj_R 48 (12, [l0], st, h')) := mj_R_pf rfl
theorem mq_48_12 {l0 : Value} {h : mj_H} : mj_R 48 (12, [l0], [], h) = some (none, h) := mj_R_ret rfl rfl
theorem mc_49 {a0 : Nat} {a1 : Int32} {h : mj_H} : mj_C 49 [.ref a0, .int a1] h = mj_R 49 (0, [.ref a0, .int a1], [], h) := rfl
theorem mq_49_0 {l1 : Value} {x : Nat} {st : List Value} {h : mj_H} : mj_R 49 (0, [.ref x, l1], st, h) = mj_R 49 (1, [.ref x, l1], .ref x :: st, h) := mj_R_next rfl rfl
theorem mq_49_1 {l0 l1 : Value} {x : Nat} {st : List Value} {h : mj_H} : mj_R 49 (1, [l0, l1], .ref x :: st, h) = mj_bd (mj_gf h x 5 1) (fun v => mj_R 49 (4, [l0, l1], v :: st, h)) := mj_R_gf rfl
theorem mq_49_4 {l0 l1 : Value} {st : List Value} {h : mj_H} : mj_R 49 (4, [l0, l1], st, h) = mj_R 49 (6, [l0, l1], .int (nI 64) :: st, h) := mj_R_next rfl rfl
theorem mq_49_6 {l0 l1 : Value} {x y : Int32} {st : List Value} {h : mj_H} : mj_R 49 (6, [l0, l1], .int y :: .int x :: st, h) = if x < y then mj_R 49 (11, [l0, l1], st, h) else mj_R 49 (9, [l0, l1], st, h) := mj_R_jlt rfl
theorem mq_49_9 {l0 l1 : Value} {st : List Value} {h : mj_H} : mj_R 49 (9, [l0, l1], st, h) = mj_R 49 (10, [l0, l1], .int (nI 0) :: st, h) := mj_R_next rfl rfl
theorem mq_49_10 {l0 l1 : Value} {x : Int32} {h : mj_H} : mj_R 49 (10, [l0, l1], [.int x], h) = if (x == 0 || x == 1) = true then some (some (.int x), h) else none := mj_R_rz rfl rfl
theorem mq_49_11 {l1 : Value} {x : Nat} {st : List Value} {h : mj_H} : mj_R 49 (11, [.ref x, l1], st, h) = mj_R 49 (12, [.ref x, l1], .ref x :: st, h) := mj_R_next rfl rfl
theorem mq_49_12 {l0 l1 : Value} {x : Nat} {st : List Value} {h : mj_H} : mj_R 49 (12, [l0, l1], .ref x :: st, h) = mj_bd (mj_gf h x 5 0) (fun v => mj_R 49 (15, [l0, l1], v :: st, h)) := mj_R_gf rfl
theorem mq_49_15 {l1 : Value} {x : Nat} {st : List Value} {h : mj_H} : mj_R 49 (15, [.ref x, l1], st, h) = mj_R 49 (16, [.ref x, l1], .ref x :: st, h) := mj_R_next rfl rfl
theorem mq_49_16 {l0 l1 : Value} {x : Nat} {st : List Value} {h : mj_H} : mj_R 49 (16, [l0, l1], .ref x :: st, h) = mj_bd (mj_gf h x 5 1) (fun v => mj_R 49 (19, [l0, l1], v :: st, h)) := mj_R_gf rfl
theorem mq_49_19 {l0 : Value} {x : Int32} {st : List Value} {h : mj_H} : mj_R 49 (19, [l0, .int x], st, h) = mj_R 49 (20, [l0, .int x], .int x :: st, h) := mj_R_next rfl rfl
theorem mq_49_20 {l0 l1 : Value} {x : Nat} {j v : Int32} {st : List Value} {h : mj_H} : mj_R 49 (20, [l0, l1], .int v :: .int j :: .ref x :: st, h) = mj_bd (mj_pi h x j v) (fun h' => mj_R 49 (21, [l0, l1], st, h')) := mj_R_pi rfl
theorem mq_49_21 {l1 : Value} {x : Nat} {st : List Value} {h : mj_H} : mj_R 49 (21, [.ref x, l1], st, h) = mj_R 49 (22, [.ref x, l1], .ref x :: st, h) := mj_R_next rfl rfl
theorem mq_49_22 {l0 l1 : Value} {x : Nat} {st : List Value} {h : mj_H} : mj_R 49 (22, [l0, l1], .ref x :: st, h) = mj_R 49 (23, [l0, l1], .ref x :: .ref x :: st, h) := mj_R_next rfl rfl
theorem mq_49_23 {l0 l1 : Value} {x : Nat} {st : List Value} {h : mj_H} : mj_R 49 (23, [l0, l1], .ref x :: st, h) = mj_bd (mj_gf h x 5 1) (fun v => mj_R 49 (26, [l0, l1], v :: st, h)) := mj_R_gf rfl
theorem mq_49_26 {l0 l1 : Value} {st : List Value} {h : mj_H} : mj_R 49 (26, [l0, l1], st, h) = mj_R 49 (27, [l0, l1], .int (nI 1) :: st, h) := mj_R_next rfl rfl
theorem mq_49_27 {l0 l1 : Value} {x y : Int32} {st : List Value} {h : mj_H} : mj_R 49 (27, [l0, l1], .int y :: .int x :: st, h) = mj_R 49 (28, [l0, l1], .int (x + y) :: st, h) := mj_R_next rfl rfl
theorem mq_49_28 {l0 l1 : Value} {x : Nat} {v : Value} {st : List Value} {h : mj_H} : mj_R 49 (28, [l0, l1], v :: .ref x :: st, h) = mj_bd (mj_pf h x 5 1 v) (fun h' => mj_R 49 (31, [l0, l1], st, h')) := mj_R_pf rfl
theorem mq_49_31 {l0 l1 : Value} {st : List Value} {h : mj_H} : mj_R 49 (31, [l0, l1], st, h) = mj_R 49 (32, [l0, l1], .int (nI 1) :: st, h) := mj_R_next rfl rfl
theorem mq_49_32 {l0 l1 : Value} {x : Int32} {h : mj_H} : mj_R 49 (32, [l0, l1], [.int x], h) = if (x == 0 || x == 1) = true then some (some (.int x), h) else none := mj_R_rz rfl rfl
theorem mc_50 {a0 : Nat} {a1 : Nat} {h : mj_H} : mj_C 50 [.ref a0, .ref a1] h = mj_R 50 (0, [.ref a0, .ref a1, .null, .null, .null], [], h) := rfl
theorem mq_50_0 {l1 l2 l3 l4 : Value} {x : Nat} {st : List Value} {h : mj_H} : mj_R 50 (0, [.ref x, l1, l2, l3, l4], st, h) = mj_R 50 (1, [.ref x, l1, l2, l3, l4], .ref x :: st, h) := mj_R_next rfl rfl
theorem mq_50_1 {l0 l1 l2 l3 l4 : Value} {st : List Value} {h : mj_H} : mj_R 50 (1, [l0, l1, l2, l3, l4], st, h) = mj_R 50 (2, [l0, l1, l2, l3, l4], .int (nI 0) :: st, h) := mj_R_next rfl rfl
theorem mq_50_2 {l0 l1 l2 l3 l4 : Value} {x : Nat} {v : Value} {st : List Value} {h : mj_H} : mj_R 50 (2, [l0, l1, l2, l3, l4], v :: .ref x :: st, h) = mj_bd (mj_pf h x 5 2 v) (fun h' => mj_R 50 (5, [l0, l1, l2, l3, l4], st, h')) := mj_R_pf rfl
theorem mq_50_5 {l1 l2 l3 l4 : Value} {x : Nat} {st : List Value} {h : mj_H} : mj_R 50 (5, [.ref x, l1, l2, l3, l4], st, h) = mj_R 50 (6, [.ref x, l1, l2, l3, l4], .ref x :: st, h) := mj_R_next rfl rfl
theorem mq_50_6 {l0 l1 l2 l3 l4 : Value} {st : List Value} {h : mj_H} : mj_R 50 (6, [l0, l1, l2, l3, l4], st, h) = mj_R 50 (7, [l0, l1, l2, l3, l4], .int (nI 0) :: st, h) := mj_R_next rfl rfl
theorem mq_50_7 {l0 l1 l2 l3 l4 : Value} {x : Nat} {v : Value} {st : List Value} {h : mj_H} : mj_R 50 (7, [l0, l1, l2, l3, l4], v :: .ref x :: st, h) = mj_bd (mj_pf h x 5 3 v) (fun h' => mj_R 50 (10, [l0, l1, l2, l3, l4], st, h')) := mj_R_pf rfl
theorem mq_50_10 {l0 l2 l3 l4 : Value} {x : Nat} {st : List Value} {h : mj_H} : mj_R 50 (10, [l0, .ref x, l2, l3, l4], st, h) = mj_R 50 (11, [l0, .ref x, l2, l3, l4], .ref x :: st, h) := mj_R_next rfl rfl
theorem mq_50_11 {l0 l1 l2 l3 l4 : Value} {a0 : Nat} {h : mj_H} : mj_R 50 (11, [l0, l1, l2, l3, l4], [.ref a0], h) = if mj_isC h a0 3 = true then mj_bd (mj_C 26 [.ref a0] h) (fun r => mj_R 50 (14, [l0, l1, l2, l3, l4], r.1.toList ++ [], r.2)) else none := mj_R_cv rfl rfl
theorem mq_50_14 {l1 l2 l3 l4 : Value} {x : Nat} {st : List Value} {h : mj_H} : mj_R 50 (14, [.ref x, l1, l2, l3, l4], st, h) = mj_R 50 (15, [.ref x, l1, l2, l3, l4], .ref x :: st, h) := mj_R_next rfl rfl
theorem mq_50_15 {l0 l1 l2 l3 l4 : Value} {st : List Value} {h : mj_H} : mj_R 50 (15, [l0, l1, l2, l3, l4], st, h) = mj_R 50 (17, [l0, l1, l2, l3, l4], .int (nI 82) :: st, h) := mj_R_next rfl rfl
theorem mq_50_17 {l0 l1 l2 l3 l4 : Value} {a0 : Nat} {a1 : Int32} {h : mj_H} : mj_R 50 (17, [l0, l1, l2, l3, l4], [.int a1, .ref a0], h) = if mj_isC h a0 5 = true then mj_bd (mj_C 51 [.ref a0, .int a1] h) (fun r => mj_R 50 (20, [l0, l1, l2, l3, l4], r.1.toList ++ [], r.2)) else none := mj_R_cv rfl rfl
theorem mq_50_20 {l1 l2 l3 l4 : Value} {x : Nat} {st : List Value} {h : mj_H} : mj_R 50 (20, [.ref x, l1, l2, l3, l4], st, h) = mj_R 50 (21, [.ref x, l1, l2, l3, l4], .ref x :: st, h) := mj_R_next rfl rfl
theorem mq_50_21 {l0 l1 l2 l3 l4 : Value} {st : List Value} {h : mj_H} : mj_R 50 (21, [l0, l1, l2, l3, l4], st, h) = mj_R 50 (22, [l0, l1, l2, l3, l4], .int (nI 0) :: st, h) := mj_R_next rfl rfl
theorem mq_50_22 {l0 l1 l2 l3 l4 : Value} {st : List Value} {h : mj_H} : mj_R 50 (22, [l0, l1, l2, l3, l4], st, h) = mj_R 50 (24, [l0, l1, l2, l3, l4], .int (nI 9) :: st, h) := mj_R_next rfl rfl
theorem mq_50_24 {l0 l1 l2 l3 l4 : Value} {a0 : Nat} {a1 : Int32} {a2 : Int32} {h : mj_H} : mj_R 50 (24, [l0, l1, l2, l3, l4], [.int a2, .int a1, .ref a0], h) = if mj_isC h a0 5 = true then mj_bd (mj_C 53 [.ref a0, .int a1, .int a2] h) (fun r => mj_R 50 (27, [l0, l1, l2, l3, l4], r.1.toList ++ [], r.2)) else none := mj_R_cv rfl rfl
theorem mq_50_27 {l0 l1 l2 l3 l4 : Value} {x : Int32} {st : List Value} {h : mj_H} : mj_R 50 (27, [l0, l1, l2, l3, l4], .int x :: st, h) = mj_R 50 (28, [l0, l1, .int x, l3, l4], st, h) := mj_R_next rfl rfl
theorem mq_50_28 {l1 l2 l3 l4 : Value} {x : Nat} {st : List Value} {h : mj_H} : mj_R 50 (28, [.ref x, l1, l2, l3, l4], st, h) = mj_R 50 (29, [.ref x, l1, l2, l3, l4], .ref x :: st, h) := mj_R_next rfl rfl
theorem mq_50_29 {l0 l1 l2 l3 l4 : Value} {st : List Value} {h : mj_H} : mj_R 50 (29, [l0, l1, l2, l3, l4], st, h) = mj_R 50 (30, [l0, l1, l2, l3, l4], .int (nI 0) :: st, h) := mj_R_next rfl rfl
theorem mq_50_30 {l0 l1 l2 l3 l4 : Value} {st : List Value} {h : mj_H} : mj_R 50 (30, [l0, l1, l2, l3, l4], st, h) = mj_R 50 (32, [l0, l1, l2, l3, l4], .int (nI 9) :: st, h) := mj_R_next rfl rfl
theorem mq_50_32 {l0 l1 l2 l3 l4 : Value} {a0 : Nat} {a1 : Int32} {a2 : Int32} {h : mj_H} : mj_R 50 (32, [l0, l1, l2, l3, l4], [.int a2, .int a1, .ref a0], h) = if mj_isC h a0 5 = true then mj_bd (mj_C 53 [.ref a0, .int a1, .int a2] h) (fun r => mj_R 50 (35, [l0, l1, l2, l3, l4], r.1.toList ++ [], r.2)) else none := mj_R_cv rfl rfl
theorem mq_50_35 {l0 l1 l2 l3 l4 : Value} {x : Int32} {st : List Value} {h : mj_H} : mj_R 50 (35, [l0, l1, l2, l3, l4], .int x :: st, h) = mj_R 50 (36, [l0, l1, l2, .int x, l4], st, h) := mj_R_next rfl rfl
theorem mq_50_36 {l0 l2 l3 l4 : Value} {x : Nat} {st : List Value} {h : mj_H} : mj_R 50 (36, [l0, .ref x, l2, l3, l4], st, h) = mj_R 50 (37, [l0, .ref x, l2, l3, l4], .ref x :: st, h) := mj_R_next rfl rfl
theorem mq_50_37 {l0 l1 l2 l3 l4 : Value} {st : List Value} {h : mj_H} : mj_R 50 (37, [l0, l1, l2, l3, l4], st, h) = mj_R 50 (39, [l0, l1, l2, l3, l4], .int (nI 10) :: st, h) := mj_R_next rfl rfl
theorem mq_50_39 {l0 l1 l3 l4 : Value} {x : Int32} {st : List Value} {h : mj_H} : mj_R 50 (39, [l0, l1, .int x, l3, l4], st, h) = mj_R 50 (40, [l0, l1, .int x, l3, l4], .int x :: st, h) := mj_R_next rfl rfl
theorem mq_50_40 {l0 l1 l2 l3 l4 : Value} {x y : Int32} {st : List Value} {h : mj_H} : mj_R 50 (40, [l0, l1, l2, l3, l4], .int y :: .int x :: st, h) = mj_R 50 (41, [l0, l1, l2, l3, l4], .int (x * y) :: st, h) := mj_R_next rfl rfl
theorem mq_50_41 {l0 l1 l2 l4 : Value} {x : Int32} {st : List Value} {h : mj_H} : mj_R 50 (41, [l0, l1, l2, .int x, l4], st, h) = mj_R 50 (42, [l0, l1, l2, .int x, l4], .int x :: st, h) := mj_R_next rfl rfl
theorem mq_50_42 {l0 l1 l2 l3 l4 : Value} {x y : Int32} {st : List Value} {h : mj_H} : mj_R 50 (42, [l0, l1, l2, l3, l4], .int y :: .int x :: st, h) = mj_R 50 (43, [l0, l1, l2, l3, l4], .int (x + y) :: st, h) := mj_R_next rfl rfl
theorem mq_50_43 {l0 l1 l2 l3 l4 : Value} {x : Nat} {v : Value} {st : List Value} {h : mj_H} : mj_R 50 (43, [l0, l1, l2, l3, l4], v :: .ref x :: st, h) = mj_bd (mj_pf h x 3 0 v) (fun h' => mj_R 50 (46, [l0, l1, l2, l3, l4], st, h')) := mj_R_pf rfl
theorem mq_50_46 {l0 l1 l2 l3 l4 : Value} {st : List Value} {h : mj_H} : mj_R 50 (46, [l0, l1, l2, l3, l4], st, h) = mj_R 50 (47, [l0, l1, l2, l3, l4], .int (nI 0) :: st, h) := mj_R_next rfl rfl
theorem mq_50_47 {l0 l1 l2 l3 l4 : Value} {x : Int32} {st : List Value} {h : mj_H} : mj_R 50 (47, [l0, l1, l2, l3, l4], .int x :: st, h) = mj_R 50 (49, [l0, l1, l2, l3, .int x], st, h) := mj_R_next rfl rfl
theorem mq_50_49 {l0 l1 l2 l3 : Value} {x : Int32} {st : List Value} {h : mj_H} : mj_R 50 (49, [l0, l1, l2, l3, .int x], st, h) = mj_R 50 (51, [l0, l1, l2, l3, .int x], .int x :: st, h) := mj_R_next rfl rfl
theorem mq_50_51 {l0 l1 l2 l3 l4 : Value} {st : List Value} {h : mj_H} : mj_R 50 (51, [l0, l1, l2, l3, l4], st, h) = mj_R 50 (53, [l0, l1, l2, l3, l4], .int (nI 64) :: st, h) := mj_R_next rfl rfl
theorem mq_50_53 {l0 l1 l2 l3 l4 : Value} {x y : Int32} {st : List Value} {h : mj_H} : mj_R 50 (53, [l0, l1, l2, l3, l4], .int y :: .int x :: st, h) = if y ≤ x then mj_R 50 (85, [l0, l1, l2, l3, l4], st, h) else mj_R 50 (56, [l0, l1, l2, l3, l4], st, h) := mj_R_jge rfl
theorem mq_50_56 {l1 l2 l3 l4 : Value} {x : Nat} {st : List Value} {h : mj_H} : mj_R 50 (56, [.ref x, l1, l2, l3, l4], st, h) = mj_R 50 (57, [.ref x, l1, l2, l3, l4], .ref x :: st, h) := mj_R_next rfl rfl
theorem mq_50_57 {l0 l1 l2 l3 l4 : Value} {x : Nat} {st : List Value} {h : mj_H} : mj_R 50 (57, [l0, l1, l2, l3, l4], .ref x :: st, h) = mj_bd (mj_gf h x 5 3) (fun v => mj_R 50 (60, [l0, l1, l2, l3, l4], v :: st, h)) := mj_R_gf rfl
theorem mq_50_60 {l0 l1 l2 l3 l4 : Value} {x : Int32} {st : List Value} {h : mj_H} : mj_R 50 (60, [l0, l1, l2, l3, l4], .int x :: st, h) = if x = nI 0 then mj_R 50 (63, [l0, l1, l2, l3, l4], st, h) else mj_R 50 (85, [l0, l1, l2, l3, l4], st, h) := mj_R_ine rfl
theorem mq_50_63 {l1 l2 l3 l4 : Value} {x : Nat} {st : List Value} {h : mj_H} : mj_R 50 (63, [.ref x, l1, l2, l3, l4], st, h) = mj_R 50 (64, [.ref x, l1, l2, l3, l4], .ref x :: st, h) := mj_R_next rfl rfl
theorem mq_50_64 {l0 l1 l2 l3 l4 : Value} {x : Nat} {st : List Value} {h : mj_H} : mj_R 50 (64, [l0, l1, l2, l3, l4], .ref x :: st, h) = mj_bd (mj_gf h x 5 2) (fun v => mj_R 50 (67, [l0, l1, l2, l3, l4], v :: st, h)) := mj_R_gf rfl
theorem mq_50_67 {l1 l2 l3 l4 : Value} {x : Nat} {st : List Value} {h : mj_H} : mj_R 50 (67, [.ref x, l1, l2, l3, l4], st, h) = mj_R 50 (68, [.ref x, l1, l2, l3, l4], .ref x :: st, h) := mj_R_next rfl rfl
theorem mq_50_68 {l0 l1 l2 l3 l4 : Value} {x : Nat} {st : List Value} {h : mj_H} : mj_R 50 (68, [l0, l1, l2, l3, l4], .ref x :: st, h) = mj_bd (mj_gf h x 5 1) (fun v => mj_R 50 (71, [l0, l1, l2, l3, l4], v :: st, h)) := mj_R_gf rfl
theorem mq_50_71 {l0 l1 l2 l3 l4 : Value} {x y : Int32} {st : List Value} {h : mj_H} : mj_R 50 (71, [l0, l1, l2, l3, l4], .int y :: .int x :: st, h) = if y ≤ x then mj_R 50 (85, [l0, l1, l2, l3, l4], st, h) else mj_R 50 (74, [l0, l1, l2, l3, l4], st, h) := mj_R_jge rfl
theorem mq_50_74 {l1 l2 l3 l4 : Value} {x : Nat} {st : List Value} {h : mj_H} : mj_R 50 (74, [.ref x, l1, l2, l3, l4], st, h) = mj_R 50 (75, [.ref x, l1, l2, l3, l4], .ref x :: st, h) := mj_R_next rfl rfl
theorem mq_50_75 {l0 l2 l3 l4 : Value} {x : Nat} {st : List Value} {h : mj_H} : mj_R 50 (75, [l0, .ref x, l2, l3, l4], st, h) = mj_R 50 (76, [l0, .ref x, l2, l3, l4], .ref x :: st, h) := mj_R_next rfl rfl
theorem mq_50_76 {l0 l1 l2 l3 l4 : Value} {a0 : Nat} {a1 : Nat} {h : mj_H} : mj_R 50 (76, [l0, l1, l2, l3, l4], [.ref a1, .ref a0], h) = if mj_isC h a0 5 = true then mj_bd (mj_C 54 [.ref a0, .ref a1] h) (fun r => mj_R 50 (79, [l0, l1, l2, l3, l4], r.1.toList ++ [], r.2)) else none := mj_R_cv rfl rfl
theorem mq_50_79 {l0 l1 l2 l3 : Value} {x : Int32} {st : List Value} {h : mj_H} : mj_R 50 (79, [l0, l1, l2, l3, .int x], st, h) = mj_R 50 (82, [l0, l1, l2, l3, .int (x + (nI 1))], st, h) := mj_R_next rfl rfl
theorem mq_50_82 {l0 l1 l2 l3 l4 : Value} {st : List Value} {h : mj_H} : mj_R 50 (82, [l0, l1, l2, l3, l4], st, h) = mj_R 50 (49, [l0, l1, l2, l3, l4], st, h) := mj_R_next rfl rfl
theorem mq_50_85 {l1 l2 l3 l4 : Value} {x : Nat} {st : List Value} {h : mj_H} : mj_R 50 (85, [.ref x, l1, l2, l3, l4], st, h) = mj_R 50 (86, [.ref x, l1, l2, l3, l4], .ref x :: st, h) := mj_R_next rfl rfl
theorem mq_50_86 {l0 l1 l2 l3 l4 : Value} {x : Nat} {st : List Value} {h : mj_H} : mj_R 50 (86, [l0, l1, l2, l3, l4], .ref x :: st, h) = mj_bd (mj_gf h x 5 3) (fun v => mj_R 50 (89, [l0, l1, l2, l3, l4], v :: st, h)) := mj_R_gf rfl
theorem mq_50_89 {l0 l1 l2 l3 l4 : Value} {x : Int32} {st : List Value} {h : mj_H} : mj_R 50 (89, [l0, l1, l2, l3, l4], .int x :: st, h) = if x = nI 0 then mj_R 50 (99, [l0, l1, l2, l3, l4], st, h) else mj_R 50 (92, [l0, l1, l2, l3, l4], st, h) := mj_R_ieq rfl
theorem mq_50_92 {l1 l2 l3 l4 : Value} {x : Nat} {st : List Value} {h : mj_H} : mj_R 50 (92, [.ref x, l1, l2, l3, l4], st, h) = mj_R 50 (93, [.ref x, l1, l2, l3, l4], .ref x :: st, h) := mj_R_next rfl rfl
theorem mq_50_93 {l0 l1 l2 l3 l4 : Value} {x : Nat} {st : List Value} {h : mj_H} : mj_R 50 (93, [l0, l1, l2, l3, l4], .ref x :: st, h) = mj_bd (mj_gf h x 5 2) (fun v => mj_R 50 (96, [l0, l1, l2, l3, l4], v :: st, h)) := mj_R_gf rfl
theorem mq_50_96 {l0 l1 l2 l3 l4 : Value} {st : List Value} {h : mj_H} : mj_R 50 (96, [l0, l1, l2, l3, l4], st, h) = mj_R 50 (101, [l0, l1, l2, l3, l4], st, h) := mj_R_next rfl rfl
theorem mq_50_99 {l0 l1 l2 l3 l4 : Value} {st : List Value} {h : mj_H} : mj_R 50 (99, [l0, l1, l2, l3, l4], st, h) = mj_R 50 (101, [l0, l1, l2, l3, l4], .int (-9) :: st, h) := mj_R_next rfl rfl
theorem mq_50_101 {l0 l1 l2 l3 l4 : Value} {x : Int32} {h : mj_H} : mj_R 50 (101, [l0, l1, l2, l3, l4], [.int x], h) = some (some (.int x), h) := mj_R_ret rfl rfl
theorem mc_51 {a0 : Nat} {a1 : Int32} {h : mj_H} : mj_C 51 [.ref a0, .int a1] h = mj_R 51 (0, [.ref a0, .int a1], [], h) := rfl
theorem mq_51_0 {l1 : Value} {x : Nat} {st : List Value} {h : mj_H} : mj_R 51 (0, [.ref x, l1], st, h) = mj_R 51 (1, [.ref x, l1], .ref x :: st, h) := mj_R_next rfl rfl
theorem mq_51_1 {l0 l1 : Value} {x : Nat} {st : List Value} {h : mj_H} : mj_R 51 (1, [l0, l1], .ref x :: st, h) = mj_bd (mj_gf h x 5 3) (fun v => mj_R 51 (4, [l0, l1], v :: st, h)) := mj_R_gf rfl
theorem mq_51_4 {l0 l1 : Value} {x : Int32} {st : List Value} {h : mj_H} : mj_R 51 (4, [l0, l1], .int x :: st, h) = if x = nI 0 then mj_R 51 (7, [l0, l1], st, h) else mj_R 51 (28, [l0, l1], st, h) := mj_R_ine rfl
theorem mq_51_7 {l1 : Value} {x : Nat} {st : List Value} {h : mj_H} : mj_R 51 (7, [.ref x, l1], st, h) = mj_R 51 (8, [.ref x, l1], .ref x :: st, h) := mj_R_next rfl rfl
theorem mq_51_8 {l0 l1 : Value} {a0 : Nat} {h : mj_H} : mj_R 51 (8, [l0, l1], [.ref a0], h) = if mj_isC h a0 5 = true then mj_bd (mj_C 52 [.ref a0] h) (fun r => mj_R 51 (11, [l0, l1], r.1.toList ++ [], r.2)) else none := mj_R_cv rfl rfl
theorem mq_51_11 {l0 : Value} {x : Int32} {st : List Value} {h : mj_H} : mj_R 51 (11, [l0, .int x], st, h) = mj_R 51 (12, [l0, .int x], .int x :: st, h) := mj_R_next rfl rfl
theorem mq_51_12 {l0 l1 : Value} {x y : Int32} {st : List Value} {h : mj_H} : mj_R 51 (12, [l0, l1], .int y :: .int x :: st, h) = if x = y then mj_R 51 (15, [l0, l1], st, h) else mj_R 51 (28, [l0, l1], st, h) := mj_R_jne rfl
theorem mq_51_15 {l1 : Value} {x : Nat} {st : List Value} {h : mj_H} : mj_R 51 (15, [.ref x, l1], st, h) = mj_R 51 (16, [.ref x, l1], .ref x :: st, h) := mj_R_next rfl rfl
theorem mq_51_16 {l0 l1 : Value} {x : Nat} {st : List Value} {h : mj_H} : mj_R 51 (16, [l0, l1], .ref x :: st, h) = mj_R 51 (17, [l0, l1], .ref x :: .ref x :: st, h) := mj_R_next rfl rfl
theorem mq_51_17 {l0 l1 : Value} {x : Nat} {st : List Value} {h : mj_H} : mj_R 51 (17, [l0, l1], .ref x :: st, h) = mj_bd (mj_gf h x 5 2) (fun v => mj_R 51 (20, [l0, l1], v :: st, h)) := mj_R_gf rfl
theorem mq_51_20 {l0 l1 : Value} {st : List Value} {h : mj_H} : mj_R 51 (20, [l0, l1], st, h) = mj_R 51 (21, [l0, l1], .int (nI 1) :: st, h) := mj_R_next rfl rfl
theorem mq_51_21 {l0 l1 : Value} {x y : Int32} {st : List Value} {h : mj_H} : mj_R 51 (21, [l0, l1], .int y :: .int x :: st, h) = mj_R 51 (22, [l0, l1], .int (x + y) :: st, h) := mj_R_next rfl rfl
theorem mq_51_22 {l0 l1 : Value} {x : Nat} {v : Value} {st : List Value} {h : mj_H} : mj_R 51 (22, [l0, l1], v :: .ref x :: st, h) = mj_bd (mj_pf h x 5 2 v) (fun h' => mj_R 51 (25, [l0, l1], st, h')) := mj_R_pf rfl
theorem mq_51_25 {l0 l1 : Value} {st : List Value} {h : mj_H} : mj_R 51 (25, [l0, l1], st, h) = mj_R 51 (33, [l0, l1], st, h) := mj_R_next rfl rfl
theorem mq_51_28 {l1 : Value} {x : Nat} {st : List Value} {h : mj_H} : mj_R 51 (28, [.ref x, l1], st, h) = mj_R 51 (29, [.ref x, l1], .ref x :: st, h) := mj_R_next rfl rfl
theorem mq_51_29 {l0 l1 : Value} {st : List Value} {h : mj_H} : mj_R 51 (29, [l0, l1], st, h) = mj_R 51 (30, [l0, l1], .int (nI 1) :: st, h) := mj_R_next rfl rfl
theorem mq_51_30 {l0 l1 : Value} {x : Nat} {v : Value} {st : List Value} {h : mj_H} : mj_R 51 (30, [l0, l1], v :: .ref x :: st, h) = mj_bd (mj_pf h x 5 3 v) (fun h' => mj_R 51 (33, [l0, l1], st, h')) := mj_R_pf rfl
theorem mq_51_33 {l0 l1 : Value} {h : mj_H} : mj_R 51 (33, [l0, l1], [], h) = some (none, h) := mj_R_ret rfl rfl
theorem mc_52 {a0 : Nat} {h : mj_H} : mj_C 52 [.ref a0] h = mj_R 52 (0, [.ref a0], [], h) := rfl
theorem mq_52_0 {x : Nat} {st : List Value} {h : mj_H} : mj_R 52 (0, [.ref x], st, h) = mj_R 52 (1, [.ref x], .ref x :: st, h) := mj_R_next rfl rfl
theorem mq_52_1 {l0 : Value} {x : Nat} {st : List Value} {h : mj_H} : mj_R 52 (1, [l0], .ref x :: st, h) = mj_bd (mj_gf h x 5 2) (fun v => mj_R 52 (4, [l0], v :: st, h)) := mj_R_gf rfl
theorem mq_52_4 {l0 : Value} {x : Int32} {st : List Value} {h : mj_H} : mj_R 52 (4, [l0], .int x :: st, h) = if x < nI 0 then mj_R 52 (39, [l0], st, h) else mj_R 52 (7, [l0], st, h) := mj_R_ilt rfl
theorem mq_52_7 {x : Nat} {st : List Value} {h : mj_H} : mj_R 52 (7, [.ref x], st, h) = mj_R 52 (8, [.ref x], .ref x :: st, h) := mj_R_next rfl rfl
theorem mq_52_8 {l0 : Value} {x : Nat} {st : List Value} {h : mj_H} : mj_R 52 (8, [l0], .ref x :: st, h) = mj_bd (mj_gf h x 5 2) (fun v => mj_R 52 (11, [l0], v :: st, h)) := mj_R_gf rfl
theorem mq_52_11 {x : Nat} {st : List Value} {h : mj_H} : mj_R 52 (11, [.ref x], st, h) = mj_R 52 (12, [.ref x], .ref x :: st, h) := mj_R_next rfl rfl
theorem mq_52_12 {l0 : Value} {x : Nat} {st : List Value} {h : mj_H} : mj_R 52 (12, [l0], .ref x :: st, h) = mj_bd (mj_gf h x 5 1) (fun v => mj_R 52 (15, [l0], v :: st, h)) := mj_R_gf rfl
theorem mq_52_15 {l0 : Value} {x y : Int32} {st : List Value} {h : mj_H} : mj_R 52 (15, [l0], .int y :: .int x :: st, h) = if y ≤ x then mj_R 52 (39, [l0], st, h) else mj_R 52 (18, [l0], st, h) := mj_R_jge rfl
theorem mq_52_18 {x : Nat} {st : List Value} {h : mj_H} : mj_R 52 (18, [.ref x], st, h) = mj_R 52 (19, [.ref x], .ref x :: st, h) := mj_R_next rfl rfl
theorem mq_52_19 {l0 : Value} {x : Nat} {st : List Value} {h : mj_H} : mj_R 52 (19, [l0], .ref x :: st, h) = mj_bd (mj_gf h x 5 2) (fun v => mj_R 52 (22, [l0], v :: st, h)) := mj_R_gf rfl
theorem mq_52_22 {l0 : Value} {st : List Value} {h : mj_H} : mj_R 52 (22, [l0], st, h) = mj_R 52 (24, [l0], .int (nI 64) :: st, h) := mj_R_next rfl rfl
theorem mq_52_24 {l0 : Value} {x y : Int32} {st : List Value} {h : mj_H} : mj_R 52 (24, [l0], .int y :: .int x :: st, h) = if y ≤ x then mj_R 52 (39, [l0], st, h) else mj_R 52 (27, [l0], st, h) := mj_R_jge rfl
theorem mq_52_27 {x : Nat} {st : List Value} {h : mj_H} : mj_R 52 (27, [.ref x], st, h) = mj_R 52 (28, [.ref x], .ref x :: st, h) := mj_R_next rfl rfl
theorem mq_52_28 {l0 : Value} {x : Nat} {st : List Value} {h : mj_H} : mj_R 52 (28, [l0], .ref x :: st, h) = mj_bd (mj_gf h x 5 0) (fun v => mj_R 52 (31, [l0], v :: st, h)) := mj_R_gf rfl
theorem mq_52_31 {x : Nat} {st : List Value} {h : mj_H} : mj_R 52 (31, [.ref x], st, h) = mj_R 52 (32, [.ref x], .ref x :: st, h) := mj_R_next rfl rfl
theorem mq_52_32 {l0 : Value} {x : Nat} {st : List Value} {h : mj_H} : mj_R 52 (32, [l0], .ref x :: st, h) = mj_bd (mj_gf h x 5 2) (fun v => mj_R 52 (35, [l0], v :: st, h)) := mj_R_gf rfl
theorem mq_52_35 {l0 : Value} {x : Nat} {j : Int32} {st : List Value} {h : mj_H} : mj_R 52 (35, [l0], .int j :: .ref x :: st, h) = mj_bd (mj_gi h x j) (fun v => mj_R 52 (36, [l0], .int v :: st, h)) := mj_R_gi rfl
theorem mq_52_36 {l0 : Value} {st : List Value} {h : mj_H} : mj_R 52 (36, [l0], st, h) = mj_R 52 (41, [l0], st, h) := mj_R_next rfl rfl
theorem mq_52_39 {l0 : Value} {st : List Value} {h : mj_H} : mj_R 52 (39, [l0], st, h) = mj_R 52 (41, [l0], .int (-9) :: st, h) := mj_R_next rfl rfl
theorem mq_52_41 {l0 : Value} {x : Int32} {h : mj_H} : mj_R 52 (41, [l0], [.int x], h) = some (some (.int x), h) := mj_R_ret rfl rfl
theorem mc_53 {a0 : Nat} {a1 : Int32} {a2 : Int32} {h : mj_H} : mj_C 53 [.ref a0, .int a1, .int a2] h = mj_R 53 (0, [.ref a0, .int a1, .int a2, .null], [], h) := rfl
theorem mq_53_0 {l1 l2 l3 : Value} {x : Nat} {st : List Value} {h : mj_H} : mj_R 53 (0, [.ref x, l1, l2, l3], st, h) = mj_R 53 (1, [.ref x, l1, l2, l3], .ref x :: st, h) := mj_R_next rfl rfl
theorem mq_53_1 {l0 l1 l2 l3 : Value} {a0 : Nat} {h : mj_H} : mj_R 53 (1, [l0, l1, l2, l3], [.ref a0], h) = if mj_isC h a0 5 = true then mj_bd (mj_C 52 [.ref a0] h) (fun r => mj_R 53 (4, [l0, l1, l2, l3], r.1.toList ++ [], r.2)) else none := mj_R_cv rfl rfl
theorem mq_53_4 {l0 l1 l2 l3 : Value} {st : List Value} {h : mj_H} : mj_R 53 (4, [l0, l1, l2, l3], st, h) = mj_R 53 (6, [l0, l1, l2, l3], .int (nI 48) :: st, h) := mj_R_next rfl rfl
theorem mq_53_6 {l0 l1 l2 l3 : Value} {x y : Int32} {st : List Value} {h : mj_H} : mj_R 53 (6, [l0, l1, l2, l3], .int y :: .int x :: st, h) = mj_R 53 (7, [l0, l1, l2, l3], .int (x - y) :: st, h) := mj_R_next rfl rfl
theorem mq_53_7 {l0 l1 l2 l3 : Value} {x : Int32} {st : List Value} {h : mj_H} : mj_R 53 (7, [l0, l1, l2, l3], .int x :: st, h) = mj_R 53 (8, [l0, l1, l2, .int x], st, h) := mj_R_next rfl rfl
theorem mq_53_8 {l1 l2 l3 : Value} {x : Nat} {st : List Value} {h : mj_H} : mj_R 53 (8, [.ref x, l1, l2, l3], st, h) = mj_R 53 (9, [.ref x, l1, l2, l3], .ref x :: st, h) := mj_R_next rfl rfl
theorem mq_53_9 {l0 l1 l2 l3 : Value} {x : Nat} {st : List Value} {h : mj_H} : mj_R 53 (9, [l0, l1, l2, l3], .ref x :: st, h) = mj_bd (mj_gf h x 5 3) (fun v => mj_R 53 (12, [l0, l1, l2, l3], v :: st, h)) := mj_R_gf rfl
theorem mq_53_12 {l0 l1 l2 l3 : Value} {x : Int32} {st : List Value} {h : mj_H} : mj_R 53 (12, [l0, l1, l2, l3], .int x :: st, h) = if x = nI 0 then mj_R 53 (15, [l0, l1, l2, l3], st, h) else mj_R 53 (25, [l0, l1, l2, l3], st, h) := mj_R_ine rfl
theorem mq_53_15 {l0 l1 l2 : Value} {x : Int32} {st : List Value} {h : mj_H} : mj_R 53 (15, [l0, l1, l2, .int x], st, h) = mj_R 53 (16, [l0, l1, l2, .int x], .int x :: st, h) := mj_R_next rfl rfl
theorem mq_53_16 {l0 l2 l3 : Value} {x : Int32} {st : List Value} {h : mj_H} : mj_R 53 (16, [l0, .int x, l2, l3], st, h) = mj_R 53 (17, [l0, .int x, l2, l3], .int x :: st, h) := mj_R_next rfl rfl
theorem mq_53_17 {l0 l1 l2 l3 : Value} {x y : Int32} {st : List Value} {h : mj_H} : mj_R 53 (17, [l0, l1, l2, l3], .int y :: .int x :: st, h) = if x < y then mj_R 53 (25, [l0, l1, l2, l3], st, h) else mj_R 53 (20, [l0, l1, l2, l3], st, h) := mj_R_jlt rfl
theorem mq_53_20 {l0 l1 l2 : Value} {x : Int32} {st : List Value} {h : mj_H} : mj_R 53 (20, [l0, l1, l2, .int x], st, h) = mj_R 53 (21, [l0, l1, l2, .int x], .int x :: st, h) := mj_R_next rfl rfl
theorem mq_53_21 {l0 l1 l3 : Value} {x : Int32} {st : List Value} {h : mj_H} : mj_R 53 (21, [l0, l1, .int x, l3], st, h) = mj_R 53 (22, [l0, l1, .int x, l3], .int x :: st, h) := mj_R_next rfl rfl
theorem mq_53_22 {l0 l1 l2 l3 : Value} {x y : Int32} {st : List Value} {h : mj_H} : mj_R 53 (22, [l0, l1, l2, l3], .int y :: .int x :: st, h) = if x ≤ y then mj_R 53 (32, [l0, l1, l2, l3], st, h) else mj_R 53 (25, [l0, l1, l2, l3], st, h) := mj_R_jle rfl
theorem mq_53_25 {l1 l2 l3 : Value} {x : Nat} {st : List Value} {h : mj_H} : mj_R 53 (25, [.ref x, l1, l2, l3], st, h) = mj_R 53 (26, [.ref x, l1, l2, l3], .ref x :: st, h) := mj_R_next rfl rfl
theorem mq_53_26 {l0 l1 l2 l3 : Value} {st : List Value} {h : mj_H} : mj_R 53 (26, [l0, l1, l2, l3], st, h) = mj_R 53 (27, [l0, l1, l2, l3], .int (nI 1) :: st, h) := mj_R_next rfl rfl
theorem mq_53_27 {l0 l1 l2 l3 : Value} {x : Nat} {v : Value} {st : List Value} {h : mj_H} : mj_R 53 (27, [l0, l1, l2, l3], v :: .ref x :: st, h) = mj_bd (mj_pf h x 5 3 v) (fun h' => mj_R 53 (30, [l0, l1, l2, l3], st, h')) := mj_R_pf rfl
theorem mq_53_30 {l0 l2 l3 : Value} {x : Int32} {st : List Value} {h : mj_H} : mj_R 53 (30, [l0, .int x, l2, l3], st, h) = mj_R 53 (31, [l0, .int x, l2, l3], .int x :: st, h) := mj_R_next rfl rfl
theorem mq_53_31 {l0 l1 l2 l3 : Value} {x : Int32} {h : mj_H} : mj_R 53 (31, [l0, l1, l2, l3], [.int x], h) = some (some (.int x), h) := mj_R_ret rfl rfl
theorem mq_53_32 {l1 l2 l3 : Value} {x : Nat} {st : List Value} {h : mj_H} : mj_R 53 (32, [.ref x, l1, l2, l3], st, h) = mj_R 53 (33, [.ref x, l1, l2, l3], .ref x :: st, h) := mj_R_next rfl rfl
theorem mq_53_33 {l0 l1 l2 l3 : Value} {x : Nat} {st : List Value} {h : mj_H} : mj_R 53 (33, [l0, l1, l2, l3], .ref x :: st, h) = mj_R 53 (34, [l0, l1, l2, l3], .ref x :: .ref x :: st, h) := mj_R_next rfl rfl
theorem mq_53_34 {l0 l1 l2 l3 : Value} {x : Nat} {st : List Value} {h : mj_H} : mj_R 53 (34, [l0, l1, l2, l3], .ref x :: st, h) = mj_bd (mj_gf h x 5 2) (fun v => mj_R 53 (37, [l0, l1, l2, l3], v :: st, h)) := mj_R_gf rfl
theorem mq_53_37 {l0 l1 l2 l3 : Value} {st : List Value} {h : mj_H} : mj_R 53 (37, [l0, l1, l2, l3], st, h) = mj_R 53 (38, [l0, l1, l2, l3], .int (nI 1) :: st, h) := mj_R_next rfl rfl
theorem mq_53_38 {l0 l1 l2 l3 : Value} {x y : Int32} {st : List Value} {h : mj_H} : mj_R 53 (38, [l0, l1, l2, l3], .int y :: .int x :: st, h) = mj_R 53 (39, [l0, l1, l2, l3], .int (x + y) :: st, h) := mj_R_next rfl rfl
theorem mq_53_39 {l0 l1 l2 l3 : Value} {x : Nat} {v : Value} {st : List Value} {h : mj_H} : mj_R 53 (39, [l0, l1, l2, l3], v :: .ref x :: st, h) = mj_bd (mj_pf h x 5 2 v) (fun h' => mj_R 53 (42, [l0, l1, l2, l3], st, h')) := mj_R_pf rfl
theorem mq_53_42 {l0 l1 l2 : Value} {x : Int32} {st : List Value} {h : mj_H} : mj_R 53 (42, [l0, l1, l2, .int x], st, h) = mj_R 53 (43, [l0, l1, l2, .int x], .int x :: st, h) := mj_R_next rfl rfl
theorem mq_53_43 {l0 l1 l2 l3 : Value} {x : Int32} {h : mj_H} : mj_R 53 (43, [l0, l1, l2, l3], [.int x], h) = some (some (.int x), h) := mj_R_ret rfl rfl
theorem mc_54 {a0 : Nat} {a1 : Nat} {h : mj_H} : mj_C 54 [.ref a0, .ref a1] h = mj_R 54 (0, [.ref a0, .ref a1, .null], [], h) := rfl
theorem mq_54_0 {l1 l2 : Value} {x : Nat} {st : List Value} {h : mj_H} : mj_R 54 (0, [.ref x, l1, l2], st, h) = mj_R 54 (1, [.ref x, l1, l2], .ref x :: st, h) := mj_R_next rfl rfl
theorem mq_54_1 {l0 l1 l2 : Value} {a0 : Nat} {h : mj_H} : mj_R 54 (1, [l0, l1, l2], [.ref a0], h) = if mj_isC h a0 5 = true then mj_bd (mj_C 52 [.ref a0] h) (fun r => mj_R 54 (4, [l0, l1, l2], r.1.toList ++ [], r.2)) else none := mj_R_cv rfl rfl
theorem mq_54_4 {l0 l1 l2 : Value} {x : Int32} {st : List Value} {h : mj_H} : mj_R 54 (4, [l0, l1, l2], .int x :: st, h) = mj_R 54 (5, [l0, l1, .int x], st, h) := mj_R_next rfl rfl
theorem mq_54_5 {l0 l1 : Value} {x : Int32} {st : List Value} {h : mj_H} : mj_R 54 (5, [l0, l1, .int x], st, h) = mj_R 54 (6, [l0, l1, .int x], .int x :: st, h) := mj_R_next rfl rfl
theorem mq_54_6 {l0 l1 l2 : Value} {st : List Value} {h : mj_H} : mj_R 54 (6, [l0, l1, l2], st, h) = mj_R 54 (8, [l0, l1, l2], .int (nI 66) :: st, h) := mj_R_next rfl rfl
theorem mq_54_8 {l0 l1 l2 : Value} {x y : Int32} {st : List Value} {h : mj_H} : mj_R 54 (8, [l0, l1, l2], .int y :: .int x :: st, h) = if x = y then mj_R 54 (11, [l0, l1, l2], st, h) else mj_R 54 (28, [l0, l1, l2], st, h) := mj_R_jne rfl
theorem mq_54_11 {l0 l2 : Value} {x : Nat} {st : List Value} {h : mj_H} : mj_R 54 (11, [l0, .ref x, l2], st, h) = mj_R 54 (12, [l0, .ref x, l2], .ref x :: st, h) := mj_R_next rfl rfl
theorem mq_54_12 {l0 l1 l2 : Value} {x : Nat} {st : List Value} {h : mj_H} : mj_R 54 (12, [l0, l1, l2], .ref x :: st, h) = mj_bd (mj_gf h x 3 1) (fun v => mj_R 54 (15, [l0, l1, l2], v :: st, h)) := mj_R_gf rfl
theorem mq_54_15 {l0 l1 l2 : Value} {st : List Value} {h : mj_H} : mj_R 54 (15, [l0, l1, l2], st, h) = mj_R 54 (17, [l0, l1, l2], .int (nI 6) :: st, h) := mj_R_next rfl rfl
theorem mq_54_17 {l0 l1 l2 : Value} {x y : Int32} {st : List Value} {h : mj_H} : mj_R 54 (17, [l0, l1, l2], .int y :: .int x :: st, h) = if y ≤ x then mj_R 54 (28, [l0, l1, l2], st, h) else mj_R 54 (20, [l0, l1, l2], st, h) := mj_R_jge rfl
theorem mq_54_20 {l1 l2 : Value} {x : Nat} {st : List Value} {h : mj_H} : mj_R 54 (20, [.ref x, l1, l2], st, h) = mj_R 54 (21, [.ref x, l1, l2], .ref x :: st, h) := mj_R_next rfl rfl
theorem mq_54_21 {l0 l2 : Value} {x : Nat} {st : List Value} {h : mj_H} : mj_R 54 (21, [l0, .ref x, l2], st, h) = mj_R 54 (22, [l0, .ref x, l2], .ref x :: st, h) := mj_R_next rfl rfl
theorem mq_54_22 {l0 l1 l2 : Value} {a0 : Nat} {a1 : Nat} {h : mj_H} : mj_R 54 (22, [l0, l1, l2], [.ref a1, .ref a0], h) = if mj_isC h a0 5 = true then mj_bd (mj_C 55 [.ref a0, .ref a1] h) (fun r => mj_R 54 (25, [l0, l1, l2], r.1.toList ++ [], r.2)) else none := mj_R_cv rfl rfl
theorem mq_54_25 {l0 l1 l2 : Value} {st : List Value} {h : mj_H} : mj_R 54 (25, [l0, l1, l2], st, h) = mj_R 54 (76, [l0, l1, l2], st, h) := mj_R_next rfl rfl
theorem mq_54_28 {l0 l1 : Value} {x : Int32} {st : List Value} {h : mj_H} : mj_R 54 (28, [l0, l1, .int x], st, h) = mj_R 54 (29, [l0, l1, .int x], .int x :: st, h) := mj_R_next rfl rfl
theorem mq_54_29 {l0 l1 l2 : Value} {st : List Value} {h : mj_H} : mj_R 54 (29, [l0, l1, l2], st, h) = mj_R 54 (31, [l0, l1, l2], .int (nI 69) :: st, h) := mj_R_next rfl rfl
theorem mq_54_31 {l0 l1 l2 : Value} {x y : Int32} {st : List Value} {h : mj_H} : mj_R 54 (31, [l0, l1, l2], .int y :: .int x :: st, h) = if x = y then mj_R 54 (34, [l0, l1, l2], st, h) else mj_R 54 (49, [l0, l1, l2], st, h) := mj_R_jne rfl
theorem mq_54_34 {l0 l2 : Value} {x : Nat} {st : List Value} {h : mj_H} : mj_R 54 (34, [l0, .ref x, l2], st, h) = mj_R 54 (35, [l0, .ref x, l2], .ref x :: st, h) := mj_R_next rfl rfl
theorem mq_54_35 {l0 l1 l2 : Value} {a0 : Nat} {h : mj_H} : mj_R 54 (35, [l0, l1, l2], [.ref a0], h) = if mj_isC h a0 3 = true then mj_bd (mj_C 28 [.ref a0] h) (fun r => mj_R 54 (38, [l0, l1, l2], r.1.toList ++ [], r.2)) else none := mj_R_cv rfl rfl
theorem mq_54_38 {l0 l1 l2 : Value} {x : Int32} {st : List Value} {h : mj_H} : mj_R 54 (38, [l0, l1, l2], .int x :: st, h) = if x = nI 0 then mj_R 54 (49, [l0, l1, l2], st, h) else mj_R 54 (41, [l0, l1, l2], st, h) := mj_R_ieq rfl
theorem mq_54_41 {l1 l2 : Value} {x : Nat} {st : List Value} {h : mj_H} : mj_R 54 (41, [.ref x, l1, l2], st, h) = mj_R 54 (42, [.ref x, l1, l2], .ref x :: st, h) := mj_R_next rfl rfl
theorem mq_54_42 {l0 l2 : Value} {x : Nat} {st : List Value} {h : mj_H} : mj_R 54 (42, [l0, .ref x, l2], st, h) = mj_R 54 (43, [l0, .ref x, l2], .ref x :: st, h) := mj_R_next rfl rfl
theorem mq_54_43 {l0 l1 l2 : Value} {a0 : Nat} {a1 : Nat} {h : mj_H} : mj_R 54 (43, [l0, l1, l2], [.ref a1, .ref a0], h) = if mj_isC h a0 5 = true then mj_bd (mj_C 56 [.ref a0, .ref a1] h) (fun r => mj_R 54 (46, [l0, l1, l2], r.1.toList ++ [], r.2)) else none := mj_R_cv rfl rfl
theorem mq_54_46 {l0 l1 l2 : Value} {st : List Value} {h : mj_H} : mj_R 54 (46, [l0, l1, l2], st, h) = mj_R 54 (76, [l0, l1, l2], st, h) := mj_R_next rfl rfl
theorem mq_54_49 {l0 l1 : Value} {x : Int32} {st : List Value} {h : mj_H} : mj_R 54 (49, [l0, l1, .int x], st, h) = mj_R 54 (50, [l0, l1, .int x], .int x :: st, h) := mj_R_next rfl rfl
theorem mq_54_50 {l0 l1 l2 : Value} {st : List Value} {h : mj_H} : mj_R 54 (50, [l0, l1, l2], st, h) = mj_R 54 (52, [l0, l1, l2], .int (nI 71) :: st, h) := mj_R_next rfl rfl
theorem mq_54_52 {l0 l1 l2 : Value} {x y : Int32} {st : List Value} {h : mj_H} : mj_R 54 (52, [l0, l1, l2], .int y :: .int x :: st, h) = if x = y then mj_R 54 (55, [l0, l1, l2], st, h) else mj_R 54 (71, [l0, l1, l2], st, h) := mj_R_jne rfl
theorem mq_54_55 {l0 l2 : Value} {x : Nat} {st : List Value} {h : mj_H} : mj_R 54 (55, [l0, .ref x, l2], st, h) = mj_R 54 (56, [l0, .ref x, l2], .ref x :: st, h) := mj_R_next rfl rfl
theorem mq_54_56 {l0 l1 l2 : Value} {x : Nat} {st : List Value} {h : mj_H} : mj_R 54 (56, [l0, l1, l2], .ref x :: st, h) = mj_bd (mj_gf h x 3 2) (fun v => mj_R 54 (59, [l0, l1, l2], v :: st, h)) := mj_R_gf rfl
theorem mq_54_59 {l0 l1 l2 : Value} {st : List Value} {h : mj_H} : mj_R 54 (59, [l0, l1, l2], st, h) = mj_R 54 (60, [l0, l1, l2], .int (nI 3) :: st, h) := mj_R_next rfl rfl
theorem mq_54_60 {l0 l1 l2 : Value} {x y : Int32} {st : List Value} {h : mj_H} : mj_R 54 (60, [l0, l1, l2], .int y :: .int x :: st, h) = if y ≤ x then mj_R 54 (71, [l0, l1, l2], st, h) else mj_R 54 (63, [l0, l1, l2], st, h) := mj_R_jge rfl
theorem mq_54_63 {l1 l2 : Value} {x : Nat} {st : List Value} {h : mj_H} : mj_R 54 (63, [.ref x, l1, l2], st, h) = mj_R 54 (64, [.ref x, l1, l2], .ref x :: st, h) := mj_R_next rfl rfl
theorem mq_54_64 {l0 l2 : Value} {x : Nat} {st : List Value} {h : mj_H} : mj_R 54 (64, [l0, .ref x, l2], st, h) = mj_R 54 (65, [l0, .ref x, l2], .ref x :: st, h) := mj_R_next rfl rfl
theorem mq_54_65 {l0 l1 l2 : Value} {a0 : Nat} {a1 : Nat} {h : mj_H} : mj_R 54 (65, [l0, l1, l2], [.ref a1, .ref a0], h) = if mj_isC h a0 5 = true then mj_bd (mj_C 58 [.ref a0, .ref a1] h) (fun r => mj_R 54 (68, [l0, l1, l2], r.1.toList ++ [], r.2)) else none := mj_R_cv rfl rfl
theorem mq_54_68 {l0 l1 l2 : Value} {st : List Value} {h : mj_H} : mj_R 54 (68, [l0, l1, l2], st, h) = mj_R 54 (76, [l0, l1, l2], st, h) := mj_R_next rfl rfl
theorem mq_54_71 {l1 l2 : Value} {x : Nat} {st : List Value} {h : mj_H} : mj_R 54 (71, [.ref x, l1, l2], st, h) = mj_R 54 (72, [.ref x, l1, l2], .ref x :: st, h) := mj_R_next rfl rfl
theorem mq_54_72 {l0 l1 l2 : Value} {st : List Value} {h : mj_H} : mj_R 54 (72, [l0, l1, l2], st, h) = mj_R 54 (73, [l0, l1, l2], .int (nI 1) :: st, h) := mj_R_next rfl rfl
theorem mq_54_73 {l0 l1 l2 : Value} {x : Nat} {v : Value} {st : List Value} {h : mj_H} : mj_R 54 (73, [l0, l1, l2], v :: .ref x :: st, h) = mj_bd (mj_pf h x 5 3 v) (fun h' => mj_R 54 (76, [l0, l1, l2], st, h')) := mj_R_pf rfl
theorem mq_54_76 {l0 l1 l2 : Value} {h : mj_H} : mj_R 54 (76, [l0, l1, l2], [], h) = some (none, h) := mj_R_ret rfl rfl
theorem mc_55 {a0 : Nat} {a1 : Nat} {h : mj_H} : mj_C 55 [.ref a0, .ref a1] h = mj_R 55 (0, [.ref a0, .ref a1, .null, .null, .null, .null], [], h) := rfl
theorem mq_55_0 {l1 l2 l3 l4 l5 : Value} {x : Nat} {st : List Value} {h : mj_H} : mj_R 55 (0, [.ref x, l1, l2, l3, l4, l5], st, h) = mj_R 55 (1, [.ref x, l1, l2, l3, l4, l5], .ref x :: st, h) := mj_R_next rfl rfl
theorem mq_55_1 {l0 l1 l2 l3 l4 l5 : Value} {st : List Value} {h : mj_H} : mj_R 55 (1, [l0, l1, l2, l3, l4, l5], st, h) = mj_R 55 (3, [l0, l1, l2, l3, l4, l5], .int (nI 66) :: st, h) := mj_R_next rfl rfl
theorem mq_55_3 {l0 l1 l2 l3 l4 l5 : Value} {a0 : Nat} {a1 : Int32} {h : mj_H} : mj_R 55 (3, [l0, l1, l2, l3, l4, l5], [.int a1, .ref a0], h) = if mj_isC h a0 5 = true then mj_bd (mj_C 51 [.ref a0, .int a1] h) (fun r => mj_R 55 (6, [l0, l1, l2, l3, l4, l5], r.1.toList ++ [], r.2)) else none := mj_R_cv rfl rfl
theorem mq_55_6 {l1 l2 l3 l4 l5 : Value} {x : Nat} {st : List Value} {h : mj_H} : mj_R 55 (6, [.ref x, l1, l2, l3, l4, l5], st, h) = mj_R 55 (7, [.ref x, l1, l2, l3, l4, l5], .ref x :: st, h) := mj_R_next rfl rfl
theorem mq_55_7 {l0 l1 l2 l3 l4 l5 : Value} {st : List Value} {h : mj_H} : mj_R 55 (7, [l0, l1, l2, l3, l4, l5], st, h) = mj_R 55 (8, [l0, l1, l2, l3, l4, l5], .int (nI 0) :: st, h) := mj_R_next rfl rfl
theorem mq_55_8 {l0 l1 l2 l3 l4 l5 : Value} {st : List Value} {h : mj_H} : mj_R 55 (8, [l0, l1, l2, l3, l4, l5], st, h) = mj_R 55 (9, [l0, l1, l2, l3, l4, l5], .int (nI 3) :: st, h) := mj_R_next rfl rfl
theorem mq_55_9 {l0 l1 l2 l3 l4 l5 : Value} {a0 : Nat} {a1 : Int32} {a2 : Int32} {h : mj_H} : mj_R 55 (9, [l0, l1, l2, l3, l4, l5], [.int a2, .int a1, .ref a0], h) = if mj_isC h a0 5 = true then mj_bd (mj_C 53 [.ref a0, .int a1, .int a2] h) (fun r => mj_R 55 (12, [l0, l1, l2, l3, l4, l5], r.1.toList ++ [], r.2)) else none := mj_R_cv rfl rfl
theorem mq_55_12 {l0 l1 l2 l3 l4 l5 : Value} {x : Int32} {st : List Value} {h : mj_H} : mj_R 55 (12, [l0, l1, l2, l3, l4, l5], .int x :: st, h) = mj_R 55 (13, [l0, l1, .int x, l3, l4, l5], st, h) := mj_R_next rfl rfl
theorem mq_55_13 {l1 l2 l3 l4 l5 : Value} {x : Nat} {st : List Value} {h : mj_H} : mj_R 55 (13, [.ref x, l1, l2, l3, l4, l5], st, h) = mj_R 55 (14, [.ref x, l1, l2, l3, l4, l5], .ref x :: st, h) := mj_R_next rfl rfl
theorem mq_55_14 {l0 l1 l2 l3 l4 l5 : Value} {st : List Value} {h : mj_H} : mj_R 55 (14, [l0, l1, l2, l3, l4, l5], st, h) = mj_R 55 (15, [l0, l1, l2, l3, l4, l5], .int (nI 1) :: st, h) := mj_R_next rfl rfl
theorem mq_55_15 {l0 l1 l2 l3 l4 l5 : Value} {st : List Value} {h : mj_H} : mj_R 55 (15, [l0, l1, l2, l3, l4, l5], st, h) = mj_R 55 (17, [l0, l1, l2, l3, l4, l5], .int (nI 9) :: st, h) := mj_R_next rfl rfl
theorem mq_55_17 {l0 l1 l2 l3 l4 l5 : Value} {a0 : Nat} {a1 : Int32} {a2 : Int32} {h : mj_H} : mj_R 55 (17, [l0, l1, l2, l3, l4, l5], [.int a2, .int a1, .ref a0], h) = if mj_isC h a0 5 = true then mj_bd (mj_C 53 [.ref a0, .int a1, .int a2] h) (fun r => mj_R 55 (20, [l0, l1, l2, l3, l4, l5], r.1.toList ++ [], r.2)) else none := mj_R_cv rfl rfl
theorem mq_55_20 {l0 l1 l2 l3 l4 l5 : Value} {x : Int32} {st : List Value} {h : mj_H} : mj_R 55 (20, [l0, l1, l2, l3, l4, l5], .int x :: st, h) = mj_R 55 (21, [l0, l1, l2, .int x, l4, l5], st, h) := mj_R_next rfl rfl
theorem mq_55_21 {l1 l2 l3 l4 l5 : Value} {x : Nat} {st : List Value} {h : mj_H} : mj_R 55 (21, [.ref x, l1, l2, l3, l4, l5], st, h) = mj_R 55 (22, [.ref x, l1, l2, l3, l4, l5], .ref x :: st, h) := mj_R_next rfl rfl
theorem mq_55_22 {l0 l1 l2 l3 l4 l5 : Value} {st : List Value} {h : mj_H} : mj_R 55 (22, [l0, l1, l2, l3, l4, l5], st, h) = mj_R 55 (23, [l0, l1, l2, l3, l4, l5], .int (nI 1) :: st, h) := mj_R_next rfl rfl
theorem mq_55_23 {l0 l1 l2 l3 l4 l5 : Value} {st : List Value} {h : mj_H} : mj_R 55 (23, [l0, l1, l2, l3, l4, l5], st, h) = mj_R 55 (25, [l0, l1, l2, l3, l4, l5], .int (nI 9) :: st, h) := mj_R_next rfl rfl
theorem mq_55_25 {l0 l1 l2 l3 l4 l5 : Value} {a0 : Nat} {a1 : Int32} {a2 : Int32} {h : mj_H} : mj_R 55 (25, [l0, l1, l2, l3, l4, l5], [.int a2, .int a1, .ref a0], h) = if mj_isC h a0 5 = true then mj_bd (mj_C 53 [.ref a0, .int a1, .int a2] h) (fun r => mj_R 55 (28, [l0, l1, l2, l3, l4, l5], r.1.toList ++ [], r.2)) else none := mj_R_cv rfl rfl
theorem mq_55_28 {l0 l1 l2 l3 l4 l5 : Value} {x : Int32} {st : List Value} {h : mj_H} : mj_R 55 (28, [l0, l1, l2, l3, l4, l5], .int x :: st, h) = mj_R 55 (30, [l0, l1, l2, l3, .int x, l5], st, h) := mj_R_next rfl rfl
theorem mq_55_30 {l1 l2 l3 l4 l5 : Value} {x : Nat} {st : List Value} {h : mj_H} : mj_R 55 (30, [.ref x, l1, l2, l3, l4, l5], st, h) = mj_R 55 (31, [.ref x, l1, l2, l3, l4, l5], .ref x :: st, h) := mj_R_next rfl rfl
theorem mq_55_31 {l0 l1 l2 l3 l4 l5 : Value} {st : List Value} {h : mj_H} : mj_R 55 (31, [l0, l1, l2, l3, l4, l5], st, h) = mj_R 55 (32, [l0, l1, l2, l3, l4, l5], .int (nI 0) :: st, h) := mj_R_next rfl rfl
theorem mq_55_32 {l0 l1 l2 l3 l4 l5 : Value} {st : List Value} {h : mj_H} : mj_R 55 (32, [l0, l1, l2, l3, l4, l5], st, h) = mj_R 55 (33, [l0, l1, l2, l3, l4, l5], .int (nI 3) :: st, h) := mj_R_next rfl rfl
theorem mq_55_33 {l0 l1 l2 l3 l4 l5 : Value} {a0 : Nat} {a1 : Int32} {a2 : Int32} {h : mj_H} : mj_R 55 (33, [l0, l1, l2, l3, l4, l5], [.int a2, .int a1, .ref a0], h) = if mj_isC h a0 5 = true then mj_bd (mj_C 53 [.ref a0, .int a1, .int a2] h) (fun r => mj_R 55 (36, [l0, l1, l2, l3, l4, l5], r.1.toList ++ [], r.2)) else none := mj_R_cv rfl rfl
theorem mq_55_36 {l0 l1 l2 l3 l4 l5 : Value} {x : Int32} {st : List Value} {h : mj_H} : mj_R 55 (36, [l0, l1, l2, l3, l4, l5], .int x :: st, h) = mj_R 55 (38, [l0, l1, l2, l3, l4, .int x], st, h) := mj_R_next rfl rfl
theorem mq_55_38 {l1 l2 l3 l4 l5 : Value} {x : Nat} {st : List Value} {h : mj_H} : mj_R 55 (38, [.ref x, l1, l2, l3, l4, l5], st, h) = mj_R 55 (39, [.ref x, l1, l2, l3, l4, l5], .ref x :: st, h) := mj_R_next rfl rfl
theorem mq_55_39 {l0 l1 l2 l3 l4 l5 : Value} {x : Nat} {st : List Value} {h : mj_H} : mj_R 55 (39, [l0, l1, l2, l3, l4, l5], .ref x :: st, h) = mj_bd (mj_gf h x 5 3) (fun v => mj_R 55 (42, [l0, l1, l2, l3, l4, l5], v :: st, h)) := mj_R_gf rfl
theorem mq_55_42 {l0 l1 l2 l3 l4 l5 : Value} {x : Int32} {st : List Value} {h : mj_H} : mj_R 55 (42, [l0, l1, l2, l3, l4, l5], .int x :: st, h) = if x = nI 0 then mj_R 55 (45, [l0, l1, l2, l3, l4, l5], st, h) else mj_R 55 (55, [l0, l1, l2, l3, l4, l5], st, h) := mj_R_ine rfl
theorem mq_55_45 {l0 l2 l3 l4 l5 : Value} {x : Nat} {st : List Value} {h : mj_H} : mj_R 55 (45, [l0, .ref x, l2, l3, l4, l5], st, h) = mj_R 55 (46, [l0, .ref x, l2, l3, l4, l5], .ref x :: st, h) := mj_R_next rfl rfl
theorem mq_55_46 {l0 l1 l3 l4 l5 : Value} {x : Int32} {st : List Value} {h : mj_H} : mj_R 55 (46, [l0, l1, .int x, l3, l4, l5], st, h) = mj_R 55 (47, [l0, l1, .int x, l3, l4, l5], .int x :: st, h) := mj_R_next rfl rfl
theorem mq_55_47 {l0 l1 l2 l4 l5 : Value} {x : Int32} {st : List Value} {h : mj_H} : mj_R 55 (47, [l0, l1, l2, .int x, l4, l5], st, h) = mj_R 55 (48, [l0, l1, l2, .int x, l4, l5], .int x :: st, h) := mj_R_next rfl rfl
theorem mq_55_48 {l0 l1 l2 l3 l5 : Value} {x : Int32} {st : List Value} {h : mj_H} : mj_R 55 (48, [l0, l1, l2, l3, .int x, l5], st, h) = mj_R 55 (50, [l0, l1, l2, l3, .int x, l5], .int x :: st, h) := mj_R_next rfl rfl
theorem mq_55_50 {l0 l1 l2 l3 l4 : Value} {x : Int32} {st : List Value} {h : mj_H} : mj_R 55 (50, [l0, l1, l2, l3, l4, .int x], st, h) = mj_R 55 (52, [l0, l1, l2, l3, l4, .int x], .int x :: st, h) := mj_R_next rfl rfl
theorem mq_55_52 {l0 l1 l2 l3 l4 l5 : Value} {a0 : Nat} {a1 : Int32} {a2 : Int32} {a3 : Int32} {a4 : Int32} {h : mj_H} : mj_R 55 (52, [l0, l1, l2, l3, l4, l5], [.int a4, .int a3, .int a2, .int a1, .ref a0], h) = if mj_isC h a0 3 = true then mj_bd (mj_C 27 [.ref a0, .int a1, .int a2, .int a3, .int a4] h) (fun r => mj_R 55 (55, [l0, l1, l2, l3, l4, l5], r.1.toList ++ [], r.2)) else none := mj_R_cv rfl rfl
theorem mq_55_55 {l0 l1 l2 l3 l4 l5 : Value} {h : mj_H} : mj_R 55 (55, [l0, l1, l2, l3, l4, l5], [], h) = some (none, h) := mj_R_ret rfl rfl
theorem mc_56 {a0 : Nat} {a1 : Nat} {h : mj_H} : mj_C 56 [.ref a0, .ref a1] h = mj_R 56 (0, [.ref a0, .ref a1, .null, .null], [], h) := rfl
theorem mq_56_0 {l1 l2 l3 : Value} {x : Nat} {st : List Value} {h : mj_H} : mj_R 56 (0, [.ref x, l1, l2, l3], st, h) = mj_R 56 (1, [.ref x, l1, l2, l3], .ref x :: st, h) := mj_R_next rfl rfl
theorem mq_56_1 {l0 l1 l2 l3 : Value} {st : List Value} {h : mj_H} : mj_R 56 (1, [l0, l1, l2, l3], st, h) = mj_R 56 (3, [l0, l1, l2, l3], .int (nI 69) :: st, h) := mj_R_next rfl rfl
theorem mq_56_3 {l0 l1 l2 l3 : Value} {a0 : Nat} {a1 : Int32} {h : mj_H} : mj_R 56 (3, [l0, l1, l2, l3], [.int a1, .ref a0], h) = if mj_isC h a0 5 = true then mj_bd (mj_C 51 [.ref a0, .int a1] h) (fun r => mj_R 56 (6, [l0, l1, l2, l3], r.1.toList ++ [], r.2)) else none := mj_R_cv rfl rfl
theorem mq_56_6 {l1 l2 l3 : Value} {x : Nat} {st : List Value} {h : mj_H} : mj_R 56 (6, [.ref x, l1, l2, l3], st, h) = mj_R 56 (7, [.ref x, l1, l2, l3], .ref x :: st, h) := mj_R_next rfl rfl
theorem mq_56_7 {l0 l2 l3 : Value} {x : Nat} {st : List Value} {h : mj_H} : mj_R 56 (7, [l0, .ref x, l2, l3], st, h) = mj_R 56 (8, [l0, .ref x, l2, l3], .ref x :: st, h) := mj_R_next rfl rfl
theorem mq_56_8 {l0 l1 l2 l3 : Value} {a0 : Nat} {s0 : Value} {h : mj_H} : mj_R 56 (8, [l0, l1, l2, l3], [.ref a0, s0], h) = if mj_isC h a0 3 = true then mj_bd (mj_C 29 [.ref a0] h) (fun r => mj_R 56 (11, [l0, l1, l2, l3], r.1.toList ++ [s0], r.2)) else none := mj_R_cv rfl rfl
theorem mq_56_11 {l0 l1 l2 l3 : Value} {a0 : Nat} {a1 : Int32} {h : mj_H} : mj_R 56 (11, [l0, l1, l2, l3], [.int a1, .ref a0], h) = if mj_isC h a0 5 = true then mj_bd (mj_C 57 [.ref a0, .int a1] h) (fun r => mj_R 56 (14, [l0, l1, l2, l3], r.1.toList ++ [], r.2)) else none := mj_R_cv rfl rfl
theorem mq_56_14 {l0 l1 l2 l3 : Value} {x : Int32} {st : List Value} {h : mj_H} : mj_R 56 (14, [l0, l1, l2, l3], .int x :: st, h) = mj_R 56 (15, [l0, l1, .int x, l3], st, h) := mj_R_next rfl rfl
theorem mq_56_15 {l1 l2 l3 : Value} {x : Nat} {st : List Value} {h : mj_H} : mj_R 56 (15, [.ref x, l1, l2, l3], st, h) = mj_R 56 (16, [.ref x, l1, l2, l3], .ref x :: st, h) := mj_R_next rfl rfl
theorem mq_56_16 {l0 l2 l3 : Value} {x : Nat} {st : List Value} {h : mj_H} : mj_R 56 (16, [l0, .ref x, l2, l3], st, h) = mj_R 56 (17, [l0, .ref x, l2, l3], .ref x :: st, h) := mj_R_next rfl rfl
theorem mq_56_17 {l0 l1 l3 : Value} {x : Int32} {st : List Value} {h : mj_H} : mj_R 56 (17, [l0, l1, .int x, l3], st, h) = mj_R 56 (18, [l0, l1, .int x, l3], .int x :: st, h) := mj_R_next rfl rfl
theorem mq_56_18 {l0 l1 l2 l3 : Value} {a0 : Nat} {a1 : Int32} {s0 : Value} {h : mj_H} : mj_R 56 (18, [l0, l1, l2, l3], [.int a1, .ref a0, s0], h) = if mj_isC h a0 3 = true then mj_bd (mj_C 30 [.ref a0, .int a1] h) (fun r => mj_R 56 (21, [l0, l1, l2, l3], r.1.toList ++ [s0], r.2)) else none := mj_R_cv rfl rfl
theorem mq_56_21 {l0 l1 l2 l3 : Value} {a0 : Nat} {a1 : Int32} {h : mj_H} : mj_R 56 (21, [l0, l1, l2, l3], [.int a1, .ref a0], h) = if mj_isC h a0 5 = true then mj_bd (mj_C 57 [.ref a0, .int a1] h) (fun r => mj_R 56 (24, [l0, l1, l2, l3], r.1.toList ++ [], r.2)) else none := mj_R_cv rfl rfl
theorem mq_56_24 {l0 l1 l2 l3 : Value} {x : Int32} {st : List Value} {h : mj_H} : mj_R 56 (24, [l0, l1, l2, l3], .int x :: st, h) = mj_R 56 (25, [l0, l1, l2, .int x], st, h) := mj_R_next rfl rfl
theorem mq_56_25 {l1 l2 l3 : Value} {x : Nat} {st : List Value} {h : mj_H} : mj_R 56 (25, [.ref x, l1, l2, l3], st, h) = mj_R 56 (26, [.ref x, l1, l2, l3], .ref x :: st, h) := mj_R_next rfl rfl
theorem mq_56_26 {l0 l1 l2 l3 : Value} {x : Nat} {st : List Value} {h : mj_H} : mj_R 56 (26, [l0, l1, l2, l3], .ref x :: st, h) = mj_bd (mj_gf h x 5 3) (fun v => mj_R 56 (29, [l0, l1, l2, l3], v :: st, h)) := mj_R_gf rfl
theorem mq_56_29 {l0 l1 l2 l3 : Value} {x : Int32} {st : List Value} {h : mj_H} : mj_R 56 (29, [l0, l1, l2, l3], .int x :: st, h) = if x = nI 0 then mj_R 56 (32, [l0, l1, l2, l3], st, h) else mj_R 56 (38, [l0, l1, l2, l3], st, h) := mj_R_ine rfl
theorem mq_56_32 {l0 l2 l3 : Value} {x : Nat} {st : List Value} {h : mj_H} : mj_R 56 (32, [l0, .ref x, l2, l3], st, h) = mj_R 56 (33, [l0, .ref x, l2, l3], .ref x :: st, h) := mj_R_next rfl rfl
theorem mq_56_33 {l0 l1 l3 : Value} {x : Int32} {st : List Value} {h : mj_H} : mj_R 56 (33, [l0, l1, .int x, l3], st, h) = mj_R 56 (34, [l0, l1, .int x, l3], .int x :: st, h) := mj_R_next rfl rfl
theorem mq_56_34 {l0 l1 l2 : Value} {x : Int32} {st : List Value} {h : mj_H} : mj_R 56 (34, [l0, l1, l2, .int x], st, h) = mj_R 56 (35, [l0, l1, l2, .int x], .int x :: st, h) := mj_R_next rfl rfl
theorem mq_56_35 {l0 l1 l2 l3 : Value} {a0 : Nat} {a1 : Int32} {a2 : Int32} {h : mj_H} : mj_R 56 (35, [l0, l1, l2, l3], [.int a2, .int a1, .ref a0], h) = if mj_isC h a0 3 = true then mj_bd (mj_C 33 [.ref a0, .int a1, .int a2] h) (fun r => mj_R 56 (38, [l0, l1, l2, l3], r.1.toList ++ [], r.2)) else none := mj_R_cv rfl rfl
theorem mq_56_38 {l0 l1 l2 l3 : Value} {h : mj_H} : mj_R 56 (38, [l0, l1, l2, l3], [], h) = some (none, h) := mj_R_ret rfl rfl
theorem mc_57 {a0 : Nat} {a1 : Int32} {h : mj_H} : mj_C 57 [.ref a0, .int a1] h = mj_R 57 (0, [.ref a0, .int a1, .null], [], h) := rfl
theorem mq_57_0 {l1 l2 : Value} {x : Nat} {st : List Value} {h : mj_H} : mj_R 57 (0, [.ref x, l1, l2], st, h) = mj_R 57 (1, [.ref x, l1, l2], .ref x :: st, h) := mj_R_next rfl rfl
theorem mq_57_1 {l0 l1 l2 : Value} {a0 : Nat} {h : mj_H} : mj_R 57 (1, [l0, l1, l2], [.ref a0], h) = if mj_isC h a0 5 = true then mj_bd (mj_C 52 [.ref a0] h) (fun r => mj_R 57 (4, [l0, l1, l2], r.1.toList ++ [], r.2)) else none := mj_R_cv rfl rfl
theorem mq_57_4 {l0 l1 l2 : Value} {st : List Value} {h : mj_H} : mj_R 57 (4, [l0, l1, l2], st, h) = mj_R 57 (6, [l0, l1, l2], .int (nI 48) :: st, h) := mj_R_next rfl rfl
theorem mq_57_6 {l0 l1 l2 : Value} {x y : Int32} {st : List Value} {h : mj_H} : mj_R 57 (6, [l0, l1, l2], .int y :: .int x :: st, h) = mj_R 57 (7, [l0, l1, l2], .int (x - y) :: st, h) := mj_R_next rfl rfl
theorem mq_57_7 {l0 l1 l2 : Value} {x : Int32} {st : List Value} {h : mj_H} : mj_R 57 (7, [l0, l1, l2], .int x :: st, h) = mj_R 57 (8, [l0, l1, .int x], st, h) := mj_R_next rfl rfl
theorem mq_57_8 {l1 l2 : Value} {x : Nat} {st : List Value} {h : mj_H} : mj_R 57 (8, [.ref x, l1, l2], st, h) = mj_R 57 (9, [.ref x, l1, l2], .ref x :: st, h) := mj_R_next rfl rfl
theorem mq_57_9 {l0 l1 l2 : Value} {x : Nat} {st : List Value} {h : mj_H} : mj_R 57 (9, [l0, l1, l2], .ref x :: st, h) = mj_bd (mj_gf h x 5 3) (fun v => mj_R 57 (12, [l0, l1, l2], v :: st, h)) := mj_R_gf rfl
theorem mq_57_12 {l0 l1 l2 : Value} {x : Int32} {st : List Value} {h : mj_H} : mj_R 57 (12, [l0, l1, l2], .int x :: st, h) = if x = nI 0 then mj_R 57 (15, [l0, l1, l2], st, h) else mj_R 57 (33, [l0, l1, l2], st, h) := mj_R_ine rfl
theorem mq_57_15 {l0 l1 : Value} {x : Int32} {st : List Value} {h : mj_H} : mj_R 57 (15, [l0, l1, .int x], st, h) = mj_R 57 (16, [l0, l1, .int x], .int x :: st, h) := mj_R_next rfl rfl
theorem mq_57_16 {l0 l1 l2 : Value} {x : Int32} {st : List Value} {h : mj_H} : mj_R 57 (16, [l0, l1, l2], .int x :: st, h) = if x < nI 0 then mj_R 57 (33, [l0, l1, l2], st, h) else mj_R 57 (19, [l0, l1, l2], st, h) := mj_R_ilt rfl
theorem mq_57_19 {l0 l1 : Value} {x : Int32} {st : List Value} {h : mj_H} : mj_R 57 (19, [l0, l1, .int x], st, h) = mj_R 57 (20, [l0, l1, .int x], .int x :: st, h) := mj_R_next rfl rfl
theorem mq_57_20 {l0 l1 l2 : Value} {st : List Value} {h : mj_H} : mj_R 57 (20, [l0, l1, l2], st, h) = mj_R 57 (22, [l0, l1, l2], .int (nI 6) :: st, h) := mj_R_next rfl rfl
theorem mq_57_22 {l0 l1 l2 : Value} {x y : Int32} {st : List Value} {h : mj_H} : mj_R 57 (22, [l0, l1, l2], .int y :: .int x :: st, h) = if y ≤ x then mj_R 57 (33, [l0, l1, l2], st, h) else mj_R 57 (25, [l0, l1, l2], st, h) := mj_R_jge rfl
theorem mq_57_25 {l0 l2 : Value} {x : Int32} {st : List Value} {h : mj_H} : mj_R 57 (25, [l0, .int x, l2], st, h) = mj_R 57 (26, [l0, .int x, l2], .int x :: st, h) := mj_R_next rfl rfl
theorem mq_57_26 {l0 l1 l2 : Value} {st : List Value} {h : mj_H} : mj_R 57 (26, [l0, l1, l2], st, h) = mj_R 57 (27, [l0, l1, l2], .int (nI 1) :: st, h) := mj_R_next rfl rfl
theorem mq_57_27 {l0 l1 : Value} {x : Int32} {st : List Value} {h : mj_H} : mj_R 57 (27, [l0, l1, .int x], st, h) = mj_R 57 (28, [l0, l1, .int x], .int x :: st, h) := mj_R_next rfl rfl
theorem mq_57_28 {l0 l1 l2 : Value} {x y : Int32} {st : List Value} {h : mj_H} : mj_R 57 (28, [l0, l1, l2], .int y :: .int x :: st, h) = mj_R 57 (29, [l0, l1, l2], .int (x <<< (y &&& 31)) :: st, h) := mj_R_next rfl rfl
theorem mq_57_29 {l0 l1 l2 : Value} {x y : Int32} {st : List Value} {h : mj_H} : mj_R 57 (29, [l0, l1, l2], .int y :: .int x :: st, h) = mj_R 57 (30, [l0, l1, l2], .int (x &&& y) :: st, h) := mj_R_next rfl rfl
theorem mq_57_30 {l0 l1 l2 : Value} {x : Int32} {st : List Value} {h : mj_H} : mj_R 57 (30, [l0, l1, l2], .int x :: st, h) = if x = nI 0 then mj_R 57 (33, [l0, l1, l2], st, h) else mj_R 57 (40, [l0, l1, l2], st, h) := mj_R_ine rfl
theorem mq_57_33 {l1 l2 : Value} {x : Nat} {st : List Value} {h : mj_H} : mj_R 57 (33, [.ref x, l1, l2], st, h) = mj_R 57 (34, [.ref x, l1, l2], .ref x :: st, h) := mj_R_next rfl rfl
theorem mq_57_34 {l0 l1 l2 : Value} {st : List Value} {h : mj_H} : mj_R 57 (34, [l0, l1, l2], st, h) = mj_R 57 (35, [l0, l1, l2], .int (nI 1) :: st, h) := mj_R_next rfl rfl
theorem mq_57_35 {l0 l1 l2 : Value} {x : Nat} {v : Value} {st : List Value} {h : mj_H} : mj_R 57 (35, [l0, l1, l2], v :: .ref x :: st, h) = mj_bd (mj_pf h x 5 3 v) (fun h' => mj_R 57 (38, [l0, l1, l2], st, h')) := mj_R_pf rfl
theorem mq_57_38 {l0 l1 l2 : Value} {st : List Value} {h : mj_H} : mj_R 57 (38, [l0, l1, l2], st, h) = mj_R 57 (39, [l0, l1, l2], .int (nI 0) :: st, h) := mj_R_next rfl rfl
theorem mq_57_39 {l0 l1 l2 : Value} {x : Int32} {h : mj_H} : mj_R 57 (39, [l0, l1, l2], [.int x], h) = some (some (.int x), h) := mj_R_ret rfl rfl
theorem mq_57_40 {l1 l2 : Value} {x : Nat} {st : List Value} {h : mj_H} : mj_R 57 (40, [.ref x, l1, l2], st, h) = mj_R 57 (41, [.ref x, l1, l2], .ref x :: st, h) := mj_R_next rfl rfl
theorem mq_57_41 {l0 l1 l2 : Value} {x : Nat} {st : List Value} {h : mj_H} : mj_R 57 (41, [l0, l1, l2], .ref x :: st, h) = mj_R 57 (42, [l0, l1, l2], .ref x :: .ref x :: st, h) := mj_R_next rfl rfl
theorem mq_57_42 {l0 l1 l2 : Value} {x : Nat} {st : List Value} {h : mj_H} : mj_R 57 (42, [l0, l1, l2], .ref x :: st, h) = mj_bd (mj_gf h x 5 2) (fun v => mj_R 57 (45, [l0, l1, l2], v :: st, h)) := mj_R_gf rfl
theorem mq_57_45 {l0 l1 l2 : Value} {st : List Value} {h : mj_H} : mj_R 57 (45, [l0, l1, l2], st, h) = mj_R 57 (46, [l0, l1, l2], .int (nI 1) :: st, h) := mj_R_next rfl rfl
theorem mq_57_46 {l0 l1 l2 : Value} {x y : Int32} {st : List Value} {h : mj_H} : mj_R 57 (46, [l0, l1, l2], .int y :: .int x :: st, h) = mj_R 57 (47, [l0, l1, l2], .int (x + y) :: st, h) := mj_R_next rfl rfl
theorem mq_57_47 {l0 l1 l2 : Value} {x : Nat} {v : Value} {st : List Value} {h : mj_H} : mj_R 57 (47, [l0, l1, l2], v :: .ref x :: st, h) = mj_bd (mj_pf h x 5 2 v) (fun h' => mj_R 57 (50, [l0, l1, l2], st, h')) := mj_R_pf rfl
theorem mq_57_50 {l0 l1 : Value} {x : Int32} {st : List Value} {h : mj_H} : mj_R 57 (50, [l0, l1, .int x], st, h) = mj_R 57 (51, [l0, l1, .int x], .int x :: st, h) := mj_R_next rfl rfl
theorem mq_57_51 {l0 l1 l2 : Value} {x : Int32} {h : mj_H} : mj_R 57 (51, [l0, l1, l2], [.int x], h) = some (some (.int x), h) := mj_R_ret rfl rfl
theorem mc_58 {a0 : Nat} {a1 : Nat} {h : mj_H} : mj_C 58 [.ref a0, .ref a1] h = mj_R 58 (0, [.ref a0, .ref a1, .null, .null, .null], [], h) := rfl
theorem mq_58_0 {l1 l2 l3 l4 : Value} {x : Nat} {st : List Value} {h : mj_H} : mj_R 58 (0, [.ref x, l1, l2, l3, l4], st, h) = mj_R 58 (1, [.ref x, l1, l2, l3, l4], .ref x :: st, h) := mj_R_next rfl rfl
theorem mq_58_1 {l0 l1 l2 l3 l4 : Value} {st : List Value} {h : mj_H} : mj_R 58 (1, [l0, l1, l2, l3, l4], st, h) = mj_R 58 (3, [l0, l1, l2, l3, l4], .int (nI 71) :: st, h) := mj_R_next rfl rfl
theorem mq_58_3 {l0 l1 l2 l3 l4 : Value} {a0 : Nat} {a1 : Int32} {h : mj_H} : mj_R 58 (3, [l0, l1, l2, l3, l4], [.int a1, .ref a0], h) = if mj_isC h a0 5 = true then mj_bd (mj_C 51 [.ref a0, .int a1] h) (fun r => mj_R 58 (6, [l0, l1, l2, l3, l4], r.1.toList ++ [], r.2)) else none := mj_R_cv rfl rfl
theorem mq_58_6 {l1 l2 l3 l4 : Value} {x : Nat} {st : List Value} {h : mj_H} : mj_R 58 (6, [.ref x, l1, l2, l3, l4], st, h) = mj_R 58 (7, [.ref x, l1, l2, l3, l4], .ref x :: st, h) := mj_R_next rfl rfl
theorem mq_58_7 {l0 l1 l2 l3 l4 : Value} {st : List Value} {h : mj_H} : mj_R 58 (7, [l0, l1, l2, l3, l4], st, h) = mj_R 58 (8, [l0, l1, l2, l3, l4], .int (nI 0) :: st, h) := mj_R_next rfl rfl
theorem mq_58_8 {l0 l1 l2 l3 l4 : Value} {st : List Value} {h : mj_H} : mj_R 58 (8, [l0, l1, l2, l3, l4], st, h) = mj_R 58 (9, [l0, l1, l2, l3, l4], .int (nI 3) :: st, h) := mj_R_next rfl rfl
theorem mq_58_9 {l0 l1 l2 l3 l4 : Value} {a0 : Nat} {a1 : Int32} {a2 : Int32} {h : mj_H} : mj_R 58 (9, [l0, l1, l2, l3, l4], [.int a2, .int a1, .ref a0], h) = if mj_isC h a0 5 = true then mj_bd (mj_C 53 [.ref a0, .int a1, .int a2] h) (fun r => mj_R 58 (12, [l0, l1, l2, l3, l4], r.1.toList ++ [], r.2)) else none := mj_R_cv rfl rfl
theorem mq_58_12 {l0 l1 l2 l3 l4 : Value} {x : Int32} {st : List Value} {h : mj_H} : mj_R 58 (12, [l0, l1, l2, l3, l4], .int x :: st, h) = mj_R 58 (13, [l0, l1, .int x, l3, l4], st, h) := mj_R_next rfl rfl
theorem mq_58_13 {l1 l2 l3 l4 : Value} {x : Nat} {st : List Value} {h : mj_H} : mj_R 58 (13, [.ref x, l1, l2, l3, l4], st, h) = mj_R 58 (14, [.ref x, l1, l2, l3, l4], .ref x :: st, h) := mj_R_next rfl rfl
theorem mq_58_14 {l0 l1 l2 l3 l4 : Value} {st : List Value} {h : mj_H} : mj_R 58 (14, [l0, l1, l2, l3, l4], st, h) = mj_R 58 (15, [l0, l1, l2, l3, l4], .int (nI 0) :: st, h) := mj_R_next rfl rfl
theorem mq_58_15 {l0 l1 l2 l3 l4 : Value} {st : List Value} {h : mj_H} : mj_R 58 (15, [l0, l1, l2, l3, l4], st, h) = mj_R 58 (16, [l0, l1, l2, l3, l4], .int (nI 5) :: st, h) := mj_R_next rfl rfl
theorem mq_58_16 {l0 l1 l2 l3 l4 : Value} {a0 : Nat} {a1 : Int32} {a2 : Int32} {h : mj_H} : mj_R 58 (16, [l0, l1, l2, l3, l4], [.int a2, .int a1, .ref a0], h) = if mj_isC h a0 5 = true then mj_bd (mj_C 53 [.ref a0, .int a1, .int a2] h) (fun r => mj_R 58 (19, [l0, l1, l2, l3, l4], r.1.toList ++ [], r.2)) else none := mj_R_cv rfl rfl
theorem mq_58_19 {l0 l1 l2 l3 l4 : Value} {x : Int32} {st : List Value} {h : mj_H} : mj_R 58 (19, [l0, l1, l2, l3, l4], .int x :: st, h) = mj_R 58 (20, [l0, l1, l2, .int x, l4], st, h) := mj_R_next rfl rfl
theorem mq_58_20 {l1 l2 l3 l4 : Value} {x : Nat} {st : List Value} {h : mj_H} : mj_R 58 (20, [.ref x, l1, l2, l3, l4], st, h) = mj_R 58 (21, [.ref x, l1, l2, l3, l4], .ref x :: st, h) := mj_R_next rfl rfl
theorem mq_58_21 {l0 l1 l2 l4 : Value} {x : Int32} {st : List Value} {h : mj_H} : mj_R 58 (21, [l0, l1, l2, .int x, l4], st, h) = mj_R 58 (22, [l0, l1, l2, .int x, l4], .int x :: st, h) := mj_R_next rfl rfl
theorem mq_58_22 {l0 l1 l2 l3 l4 : Value} {x : Int32} {st : List Value} {h : mj_H} : mj_R 58 (22, [l0, l1, l2, l3, l4], .int x :: st, h) = if x = nI 0 then mj_R 58 (25, [l0, l1, l2, l3, l4], st, h) else mj_R 58 (29, [l0, l1, l2, l3, l4], st, h) := mj_R_ine rfl
theorem mq_58_25 {l0 l1 l2 l3 l4 : Value} {st : List Value} {h : mj_H} : mj_R 58 (25, [l0, l1, l2, l3, l4], st, h) = mj_R 58 (26, [l0, l1, l2, l3, l4], .int (nI 1) :: st, h) := mj_R_next rfl rfl
theorem mq_58_26 {l0 l1 l2 l3 l4 : Value} {st : List Value} {h : mj_H} : mj_R 58 (26, [l0, l1, l2, l3, l4], st, h) = mj_R 58 (30, [l0, l1, l2, l3, l4], st, h) := mj_R_next rfl rfl
theorem mq_58_29 {l0 l1 l2 l3 l4 : Value} {st : List Value} {h : mj_H} : mj_R 58 (29, [l0, l1, l2, l3, l4], st, h) = mj_R 58 (30, [l0, l1, l2, l3, l4], .int (nI 0) :: st, h) := mj_R_next rfl rfl
theorem mq_58_30 {l0 l1 l2 l4 : Value} {x : Int32} {st : List Value} {h : mj_H} : mj_R 58 (30, [l0, l1, l2, .int x, l4], st, h) = mj_R 58 (31, [l0, l1, l2, .int x, l4], .int x :: st, h) := mj_R_next rfl rfl
theorem mq_58_31 {l0 l1 l2 l3 l4 : Value} {st : List Value} {h : mj_H} : mj_R 58 (31, [l0, l1, l2, l3, l4], st, h) = mj_R 58 (32, [l0, l1, l2, l3, l4], .int (nI 5) :: st, h) := mj_R_next rfl rfl
theorem mq_58_32 {l0 l1 l2 l3 l4 : Value} {x y : Int32} {st : List Value} {h : mj_H} : mj_R 58 (32, [l0, l1, l2, l3, l4], .int y :: .int x :: st, h) = if x = y then mj_R 58 (35, [l0, l1, l2, l3, l4], st, h) else mj_R 58 (39, [l0, l1, l2, l3, l4], st, h) := mj_R_jne rfl
theorem mq_58_35 {l0 l1 l2 l3 l4 : Value} {st : List Value} {h : mj_H} : mj_R 58 (35, [l0, l1, l2, l3, l4], st, h) = mj_R 58 (36, [l0, l1, l2, l3, l4], .int (nI 4) :: st, h) := mj_R_next rfl rfl
theorem mq_58_36 {l0 l1 l2 l3 l4 : Value} {st : List Value} {h : mj_H} : mj_R 58 (36, [l0, l1, l2, l3, l4], st, h) = mj_R 58 (41, [l0, l1, l2, l3, l4], st, h) := mj_R_next rfl rfl
theorem mq_58_39 {l0 l1 l2 l3 l4 : Value} {st : List Value} {h : mj_H} : mj_R 58 (39, [l0, l1, l2, l3, l4], st, h) = mj_R 58 (41, [l0, l1, l2, l3, l4], .int (nI 9) :: st, h) := mj_R_next rfl rfl
theorem mq_58_41 {l0 l1 l2 l3 l4 : Value} {a0 : Nat} {a1 : Int32} {a2 : Int32} {h : mj_H} : mj_R 58 (41, [l0, l1, l2, l3, l4], [.int a2, .int a1, .ref a0], h) = if mj_isC h a0 5 = true then mj_bd (mj_C 53 [.ref a0, .int a1, .int a2] h) (fun r => mj_R 58 (44, [l0, l1, l2, l3, l4], r.1.toList ++ [], r.2)) else none := mj_R_cv rfl rfl
theorem mq_58_44 {l0 l1 l2 l3 l4 : Value} {x : Int32} {st : List Value} {h : mj_H} : mj_R 58 (44, [l0, l1, l2, l3, l4], .int x :: st, h) = mj_R 58 (46, [l0, l1, l2, l3, .int x], st, h) := mj_R_next rfl rfl
theorem mq_58_46 {l1 l2 l3 l4 : Value} {x : Nat} {st : List Value} {h : mj_H} : mj_R 58 (46, [.ref x, l1, l2, l3, l4], st, h) = mj_R 58 (47, [.ref x, l1, l2, l3, l4], .ref x :: st, h) := mj_R_next rfl rfl
theorem mq_58_47 {l0 l1 l2 l3 l4 : Value} {x : Nat} {st : List Value} {h : mj_H} : mj_R 58 (47, [l0, l1, l2, l3, l4], .ref x :: st, h) = mj_bd (mj_gf h x 5 3) (fun v => mj_R 58 (50, [l0, l1, l2, l3, l4], v :: st, h)) := mj_R_gf rfl
theorem mq_58_50 {l0 l1 l2 l3 l4 : Value} {x : Int32} {st : List Value} {h : mj_H} : mj_R 58 (50, [l0, l1, l2, l3, l4], .int x :: st, h) = if x = nI 0 then mj_R 58 (53, [l0, l1, l2, l3, l4], st, h) else mj_R 58 (65, [l0, l1, l2, l3, l4], st, h) := mj_R_ine rfl
theorem mq_58_53 {l0 l2 l3 l4 : Value} {x : Nat} {st : List Value} {h : mj_H} : mj_R 58 (53, [l0, .ref x, l2, l3, l4], st, h) = mj_R 58 (54, [l0, .ref x, l2, l3, l4], .ref x :: st, h) := mj_R_next rfl rfl
theorem mq_58_54 {l0 l1 l3 l4 : Value} {x : Int32} {st : List Value} {h : mj_H} : mj_R 58 (54, [l0, l1, .int x, l3, l4], st, h) = mj_R 58 (55, [l0, l1, .int x, l3, l4], .int x :: st, h) := mj_R_next rfl rfl
theorem mq_58_55 {l0 l1 l2 l3 l4 : Value} {st : List Value} {h : mj_H} : mj_R 58 (55, [l0, l1, l2, l3, l4], st, h) = mj_R 58 (57, [l0, l1, l2, l3, l4], .int (nI 10) :: st, h) := mj_R_next rfl rfl
theorem mq_58_57 {l0 l1 l2 l4 : Value} {x : Int32} {st : List Value} {h : mj_H} : mj_R 58 (57, [l0, l1, l2, .int x, l4], st, h) = mj_R 58 (58, [l0, l1, l2, .int x, l4], .int x :: st, h) := mj_R_next rfl rfl
theorem mq_58_58 {l0 l1 l2 l3 l4 : Value} {x y : Int32} {st : List Value} {h : mj_H} : mj_R 58 (58, [l0, l1, l2, l3, l4], .int y :: .int x :: st, h) = mj_R 58 (59, [l0, l1, l2, l3, l4], .int (x * y) :: st, h) := mj_R_next rfl rfl
theorem mq_58_59 {l0 l1 l2 l3 : Value} {x : Int32} {st : List Value} {h : mj_H} : mj_R 58 (59, [l0, l1, l2, l3, .int x], st, h) = mj_R 58 (61, [l0, l1, l2, l3, .int x], .int x :: st, h) := mj_R_next rfl rfl
theorem mq_58_61 {l0 l1 l2 l3 l4 : Value} {x y : Int32} {st : List Value} {h : mj_H} : mj_R 58 (61, [l0, l1, l2, l3, l4], .int y :: .int x :: st, h) = mj_R 58 (62, [l0, l1, l2, l3, l4], .int (x + y) :: st, h) := mj_R_next rfl rfl
theorem mq_58_62 {l0 l1 l2 l3 l4 : Value} {a0 : Nat} {a1 : Int32} {a2 : Int32} {h : mj_H} : mj_R 58 (62, [l0, l1, l2, l3, l4], [.int a2, .int a1, .ref a0], h) = if mj_isC h a0 3 = true then mj_bd (mj_C 34 [.ref a0, .int a1, .int a2] h) (fun r => mj_R 58 (65, [l0, l1, l2, l3, l4], r.1.toList ++ [], r.2)) else none := mj_R_cv rfl rfl
theorem mq_58_65 {l0 l1 l2 l3 l4 : Value} {h : mj_H} : mj_R 58 (65, [l0, l1, l2, l3, l4], [], h) = some (none, h) := mj_R_ret rfl rfl
