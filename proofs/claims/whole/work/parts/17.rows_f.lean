set_option maxRecDepth 100000 in
theorem mc_167 {a0 : Nat} {h : mj_H} : mj_C 167 [.ref a0] h = mj_R 167 (0, [.ref a0, .null, .null, .null], [], h) := rfl
set_option maxRecDepth 100000 in
theorem mq_167_0 {l0 l1 l2 l3 : Value} {st : List Value} {h : mj_H} : mj_R 167 (0, [l0, l1, l2, l3], st, h) = mj_R 167 (3, [l0, l1, l2, l3], .ref h.2.1 :: st, mj_new h (.inr (6, mj_dfl 6))) := mj_R_next rfl rfl
set_option maxRecDepth 100000 in
theorem mq_167_3 {l0 l1 l2 l3 : Value} {x : Nat} {st : List Value} {h : mj_H} : mj_R 167 (3, [l0, l1, l2, l3], .ref x :: st, h) = mj_R 167 (4, [l0, l1, l2, l3], .ref x :: .ref x :: st, h) := mj_R_next rfl rfl
set_option maxRecDepth 100000 in
theorem mq_167_4 {l0 l1 l2 l3 : Value} {a0 : Nat} {s0 : Value} {h : mj_H} : mj_R 167 (4, [l0, l1, l2, l3], [.ref a0, s0], h) = mj_bd (mj_C 59 [.ref a0] h) (fun r => mj_R 167 (7, [l0, l1, l2, l3], r.1.toList ++ [s0], r.2)) := mj_R_cs rfl rfl
set_option maxRecDepth 100000 in
theorem mq_167_7 {l0 l1 l2 l3 : Value} {x : Nat} {st : List Value} {h : mj_H} : mj_R 167 (7, [l0, l1, l2, l3], .ref x :: st, h) = mj_R 167 (8, [l0, .ref x, l2, l3], st, h) := mj_R_next rfl rfl
set_option maxRecDepth 100000 in
theorem mq_167_8 {l0 l1 l2 l3 : Value} {st : List Value} {h : mj_H} : mj_R 167 (8, [l0, l1, l2, l3], st, h) = mj_R 167 (11, [l0, l1, l2, l3], .ref h.2.1 :: st, mj_new h (.inr (7, mj_dfl 7))) := mj_R_next rfl rfl
set_option maxRecDepth 100000 in
theorem mq_167_11 {l0 l1 l2 l3 : Value} {x : Nat} {st : List Value} {h : mj_H} : mj_R 167 (11, [l0, l1, l2, l3], .ref x :: st, h) = mj_R 167 (12, [l0, l1, l2, l3], .ref x :: .ref x :: st, h) := mj_R_next rfl rfl
set_option maxRecDepth 100000 in
theorem mq_167_12 {l0 l1 l2 l3 : Value} {a0 : Nat} {s0 : Value} {h : mj_H} : mj_R 167 (12, [l0, l1, l2, l3], [.ref a0, s0], h) = mj_bd (mj_C 101 [.ref a0] h) (fun r => mj_R 167 (15, [l0, l1, l2, l3], r.1.toList ++ [s0], r.2)) := mj_R_cs rfl rfl
set_option maxRecDepth 100000 in
theorem mq_167_15 {l0 l1 l2 l3 : Value} {x : Nat} {st : List Value} {h : mj_H} : mj_R 167 (15, [l0, l1, l2, l3], .ref x :: st, h) = mj_R 167 (16, [l0, l1, .ref x, l3], st, h) := mj_R_next rfl rfl
set_option maxRecDepth 100000 in
theorem mq_167_16 {l0 l1 l2 l3 : Value} {st : List Value} {h : mj_H} : mj_R 167 (16, [l0, l1, l2, l3], st, h) = mj_R 167 (17, [l0, l1, l2, l3], .int (nI 0) :: st, h) := mj_R_next rfl rfl
set_option maxRecDepth 100000 in
theorem mq_167_17 {l0 l1 l2 l3 : Value} {x : Int32} {st : List Value} {h : mj_H} : mj_R 167 (17, [l0, l1, l2, l3], .int x :: st, h) = mj_R 167 (18, [l0, l1, l2, .int x], st, h) := mj_R_next rfl rfl
set_option maxRecDepth 100000 in
theorem mq_167_18 {l0 l1 l2 : Value} {x : Int32} {st : List Value} {h : mj_H} : mj_R 167 (18, [l0, l1, l2, .int x], st, h) = mj_R 167 (19, [l0, l1, l2, .int x], .int x :: st, h) := mj_R_next rfl rfl
set_option maxRecDepth 100000 in
theorem mq_167_19 {l1 l2 l3 : Value} {x : Nat} {st : List Value} {h : mj_H} : mj_R 167 (19, [.ref x, l1, l2, l3], st, h) = mj_R 167 (20, [.ref x, l1, l2, l3], .ref x :: st, h) := mj_R_next rfl rfl
set_option maxRecDepth 100000 in
theorem mq_167_20 {l0 l1 l2 l3 : Value} {x : Nat} {st : List Value} {h : mj_H} : mj_R 167 (20, [l0, l1, l2, l3], .ref x :: st, h) = mj_bd (mj_al h x) (fun v => mj_R 167 (21, [l0, l1, l2, l3], .int v :: st, h)) := mj_R_al rfl
set_option maxRecDepth 100000 in
theorem mq_167_21 {l0 l1 l2 l3 : Value} {st : List Value} {h : mj_H} : mj_R 167 (21, [l0, l1, l2, l3], st, h) = mj_R 167 (22, [l0, l1, l2, l3], .int (nI 4) :: st, h) := mj_R_next rfl rfl
set_option maxRecDepth 100000 in
theorem mq_167_22 {l0 l1 l2 l3 : Value} {x y : Int32} {st : List Value} {h : mj_H} : mj_R 167 (22, [l0, l1, l2, l3], .int y :: .int x :: st, h) = mj_R 167 (23, [l0, l1, l2, l3], .int (x - y) :: st, h) := mj_R_next rfl rfl
set_option maxRecDepth 100000 in
theorem mq_167_23 {l0 l1 l2 l3 : Value} {x y : Int32} {st : List Value} {h : mj_H} : mj_R 167 (23, [l0, l1, l2, l3], .int y :: .int x :: st, h) = if y < x then mj_R 167 (987, [l0, l1, l2, l3], st, h) else mj_R 167 (26, [l0, l1, l2, l3], st, h) := mj_R_jgt rfl
set_option maxRecDepth 100000 in
theorem mq_167_26 {l1 l2 l3 : Value} {x : Nat} {st : List Value} {h : mj_H} : mj_R 167 (26, [.ref x, l1, l2, l3], st, h) = mj_R 167 (27, [.ref x, l1, l2, l3], .ref x :: st, h) := mj_R_next rfl rfl
set_option maxRecDepth 100000 in
theorem mq_167_27 {l0 l1 l2 : Value} {x : Int32} {st : List Value} {h : mj_H} : mj_R 167 (27, [l0, l1, l2, .int x], st, h) = mj_R 167 (28, [l0, l1, l2, .int x], .int x :: st, h) := mj_R_next rfl rfl
set_option maxRecDepth 100000 in
theorem mq_167_28 {l0 l1 l2 l3 : Value} {x : Nat} {j : Int32} {st : List Value} {h : mj_H} : mj_R 167 (28, [l0, l1, l2, l3], .int j :: .ref x :: st, h) = mj_bd (mj_gi h x j) (fun v => mj_R 167 (29, [l0, l1, l2, l3], .int v :: st, h)) := mj_R_gi rfl
set_option maxRecDepth 100000 in
theorem mq_167_29 {l0 l1 l2 l3 : Value} {st : List Value} {h : mj_H} : mj_R 167 (29, [l0, l1, l2, l3], st, h) = mj_R 167 (31, [l0, l1, l2, l3], .int (nI 31) :: st, h) := mj_R_next rfl rfl
set_option maxRecDepth 100000 in
theorem mq_167_31 {l0 l1 l2 l3 : Value} {x y : Int32} {st : List Value} {h : mj_H} : mj_R 167 (31, [l0, l1, l2, l3], .int y :: .int x :: st, h) = mj_R 167 (32, [l0, l1, l2, l3], .int (x &&& y) :: st, h) := mj_R_next rfl rfl
set_option maxRecDepth 100000 in
theorem mq_167_32_0 {l0 l1 l2 l3 : Value} {st : List Value} {h : mj_H} : mj_R 167 (32, [l0, l1, l2, l3], .int (nI 0) :: st, h) = mj_R 167 (176, [l0, l1, l2, l3], st, h) := mj_R_next rfl rfl
set_option maxRecDepth 100000 in
theorem mq_167_32_1 {l0 l1 l2 l3 : Value} {st : List Value} {h : mj_H} : mj_R 167 (32, [l0, l1, l2, l3], .int (nI 1) :: st, h) = mj_R 167 (199, [l0, l1, l2, l3], st, h) := mj_R_next rfl rfl
set_option maxRecDepth 100000 in
theorem mq_167_32_2 {l0 l1 l2 l3 : Value} {st : List Value} {h : mj_H} : mj_R 167 (32, [l0, l1, l2, l3], .int (nI 2) :: st, h) = mj_R 167 (212, [l0, l1, l2, l3], st, h) := mj_R_next rfl rfl
set_option maxRecDepth 100000 in
theorem mq_167_32_3 {l0 l1 l2 l3 : Value} {st : List Value} {h : mj_H} : mj_R 167 (32, [l0, l1, l2, l3], .int (nI 3) :: st, h) = mj_R 167 (225, [l0, l1, l2, l3], st, h) := mj_R_next rfl rfl
set_option maxRecDepth 100000 in
theorem mq_167_32_4 {l0 l1 l2 l3 : Value} {st : List Value} {h : mj_H} : mj_R 167 (32, [l0, l1, l2, l3], .int (nI 4) :: st, h) = mj_R 167 (238, [l0, l1, l2, l3], st, h) := mj_R_next rfl rfl
set_option maxRecDepth 100000 in
theorem mq_167_32_5 {l0 l1 l2 l3 : Value} {st : List Value} {h : mj_H} : mj_R 167 (32, [l0, l1, l2, l3], .int (nI 5) :: st, h) = mj_R 167 (261, [l0, l1, l2, l3], st, h) := mj_R_next rfl rfl
set_option maxRecDepth 100000 in
theorem mq_167_32_6 {l0 l1 l2 l3 : Value} {st : List Value} {h : mj_H} : mj_R 167 (32, [l0, l1, l2, l3], .int (nI 6) :: st, h) = mj_R 167 (294, [l0, l1, l2, l3], st, h) := mj_R_next rfl rfl
set_option maxRecDepth 100000 in
theorem mq_167_32_7 {l0 l1 l2 l3 : Value} {st : List Value} {h : mj_H} : mj_R 167 (32, [l0, l1, l2, l3], .int (nI 7) :: st, h) = mj_R 167 (327, [l0, l1, l2, l3], st, h) := mj_R_next rfl rfl
set_option maxRecDepth 100000 in
theorem mq_167_32_8 {l0 l1 l2 l3 : Value} {st : List Value} {h : mj_H} : mj_R 167 (32, [l0, l1, l2, l3], .int (nI 8) :: st, h) = mj_R 167 (340, [l0, l1, l2, l3], st, h) := mj_R_next rfl rfl
set_option maxRecDepth 100000 in
theorem mq_167_32_9 {l0 l1 l2 l3 : Value} {st : List Value} {h : mj_H} : mj_R 167 (32, [l0, l1, l2, l3], .int (nI 9) :: st, h) = mj_R 167 (353, [l0, l1, l2, l3], st, h) := mj_R_next rfl rfl
set_option maxRecDepth 100000 in
theorem mq_167_32_10 {l0 l1 l2 l3 : Value} {st : List Value} {h : mj_H} : mj_R 167 (32, [l0, l1, l2, l3], .int (nI 10) :: st, h) = mj_R 167 (366, [l0, l1, l2, l3], st, h) := mj_R_next rfl rfl
set_option maxRecDepth 100000 in
theorem mq_167_32_11 {l0 l1 l2 l3 : Value} {st : List Value} {h : mj_H} : mj_R 167 (32, [l0, l1, l2, l3], .int (nI 11) :: st, h) = mj_R 167 (379, [l0, l1, l2, l3], st, h) := mj_R_next rfl rfl
set_option maxRecDepth 100000 in
theorem mq_167_32_12 {l0 l1 l2 l3 : Value} {st : List Value} {h : mj_H} : mj_R 167 (32, [l0, l1, l2, l3], .int (nI 12) :: st, h) = mj_R 167 (392, [l0, l1, l2, l3], st, h) := mj_R_next rfl rfl
set_option maxRecDepth 100000 in
theorem mq_167_32_13 {l0 l1 l2 l3 : Value} {st : List Value} {h : mj_H} : mj_R 167 (32, [l0, l1, l2, l3], .int (nI 13) :: st, h) = mj_R 167 (425, [l0, l1, l2, l3], st, h) := mj_R_next rfl rfl
set_option maxRecDepth 100000 in
theorem mq_167_32_14 {l0 l1 l2 l3 : Value} {st : List Value} {h : mj_H} : mj_R 167 (32, [l0, l1, l2, l3], .int (nI 14) :: st, h) = mj_R 167 (448, [l0, l1, l2, l3], st, h) := mj_R_next rfl rfl
set_option maxRecDepth 100000 in
theorem mq_167_32_15 {l0 l1 l2 l3 : Value} {st : List Value} {h : mj_H} : mj_R 167 (32, [l0, l1, l2, l3], .int (nI 15) :: st, h) = mj_R 167 (471, [l0, l1, l2, l3], st, h) := mj_R_next rfl rfl
set_option maxRecDepth 100000 in
theorem mq_167_32_16 {l0 l1 l2 l3 : Value} {st : List Value} {h : mj_H} : mj_R 167 (32, [l0, l1, l2, l3], .int (nI 16) :: st, h) = mj_R 167 (504, [l0, l1, l2, l3], st, h) := mj_R_next rfl rfl
set_option maxRecDepth 100000 in
theorem mq_167_32_17 {l0 l1 l2 l3 : Value} {st : List Value} {h : mj_H} : mj_R 167 (32, [l0, l1, l2, l3], .int (nI 17) :: st, h) = mj_R 167 (527, [l0, l1, l2, l3], st, h) := mj_R_next rfl rfl
set_option maxRecDepth 100000 in
theorem mq_167_32_18 {l0 l1 l2 l3 : Value} {st : List Value} {h : mj_H} : mj_R 167 (32, [l0, l1, l2, l3], .int (nI 18) :: st, h) = mj_R 167 (540, [l0, l1, l2, l3], st, h) := mj_R_next rfl rfl
set_option maxRecDepth 100000 in
theorem mq_167_32_19 {l0 l1 l2 l3 : Value} {st : List Value} {h : mj_H} : mj_R 167 (32, [l0, l1, l2, l3], .int (nI 19) :: st, h) = mj_R 167 (553, [l0, l1, l2, l3], st, h) := mj_R_next rfl rfl
set_option maxRecDepth 100000 in
theorem mq_167_32_20 {l0 l1 l2 l3 : Value} {st : List Value} {h : mj_H} : mj_R 167 (32, [l0, l1, l2, l3], .int (nI 20) :: st, h) = mj_R 167 (602, [l0, l1, l2, l3], st, h) := mj_R_next rfl rfl
set_option maxRecDepth 100000 in
theorem mq_167_32_21 {l0 l1 l2 l3 : Value} {st : List Value} {h : mj_H} : mj_R 167 (32, [l0, l1, l2, l3], .int (nI 21) :: st, h) = mj_R 167 (625, [l0, l1, l2, l3], st, h) := mj_R_next rfl rfl
set_option maxRecDepth 100000 in
theorem mq_167_32_22 {l0 l1 l2 l3 : Value} {st : List Value} {h : mj_H} : mj_R 167 (32, [l0, l1, l2, l3], .int (nI 22) :: st, h) = mj_R 167 (648, [l0, l1, l2, l3], st, h) := mj_R_next rfl rfl
set_option maxRecDepth 100000 in
theorem mq_167_32_23 {l0 l1 l2 l3 : Value} {st : List Value} {h : mj_H} : mj_R 167 (32, [l0, l1, l2, l3], .int (nI 23) :: st, h) = mj_R 167 (681, [l0, l1, l2, l3], st, h) := mj_R_next rfl rfl
set_option maxRecDepth 100000 in
theorem mq_167_32_24 {l0 l1 l2 l3 : Value} {st : List Value} {h : mj_H} : mj_R 167 (32, [l0, l1, l2, l3], .int (nI 24) :: st, h) = mj_R 167 (704, [l0, l1, l2, l3], st, h) := mj_R_next rfl rfl
set_option maxRecDepth 100000 in
theorem mq_167_32_25 {l0 l1 l2 l3 : Value} {st : List Value} {h : mj_H} : mj_R 167 (32, [l0, l1, l2, l3], .int (nI 25) :: st, h) = mj_R 167 (737, [l0, l1, l2, l3], st, h) := mj_R_next rfl rfl
set_option maxRecDepth 100000 in
theorem mq_167_32_26 {l0 l1 l2 l3 : Value} {st : List Value} {h : mj_H} : mj_R 167 (32, [l0, l1, l2, l3], .int (nI 26) :: st, h) = mj_R 167 (786, [l0, l1, l2, l3], st, h) := mj_R_next rfl rfl
set_option maxRecDepth 100000 in
theorem mq_167_32_27 {l0 l1 l2 l3 : Value} {st : List Value} {h : mj_H} : mj_R 167 (32, [l0, l1, l2, l3], .int (nI 27) :: st, h) = mj_R 167 (799, [l0, l1, l2, l3], st, h) := mj_R_next rfl rfl
set_option maxRecDepth 100000 in
theorem mq_167_32_28 {l0 l1 l2 l3 : Value} {st : List Value} {h : mj_H} : mj_R 167 (32, [l0, l1, l2, l3], .int (nI 28) :: st, h) = mj_R 167 (858, [l0, l1, l2, l3], st, h) := mj_R_next rfl rfl
set_option maxRecDepth 100000 in
theorem mq_167_32_29 {l0 l1 l2 l3 : Value} {st : List Value} {h : mj_H} : mj_R 167 (32, [l0, l1, l2, l3], .int (nI 29) :: st, h) = mj_R 167 (912, [l0, l1, l2, l3], st, h) := mj_R_next rfl rfl
set_option maxRecDepth 100000 in
theorem mq_167_32_30 {l0 l1 l2 l3 : Value} {st : List Value} {h : mj_H} : mj_R 167 (32, [l0, l1, l2, l3], .int (nI 30) :: st, h) = mj_R 167 (935, [l0, l1, l2, l3], st, h) := mj_R_next rfl rfl
set_option maxRecDepth 100000 in
theorem mq_167_32_31 {l0 l1 l2 l3 : Value} {st : List Value} {h : mj_H} : mj_R 167 (32, [l0, l1, l2, l3], .int (nI 31) :: st, h) = mj_R 167 (958, [l0, l1, l2, l3], st, h) := mj_R_next rfl rfl
set_option maxRecDepth 100000 in
theorem mq_167_32_d {l0 l1 l2 l3 : Value} {st : List Value} {h : mj_H} {x : Int32} (hx : ∀ j, j < 32 → x ≠ nI j) : mj_R 167 (32, [l0, l1, l2, l3], .int x :: st, h) = mj_R 167 (981, [l0, l1, l2, l3], st, h) := mj_R_dfl (k := 32) rfl rfl rfl rfl hx
set_option maxRecDepth 100000 in
theorem mq_167_176 {l0 l2 l3 : Value} {x : Nat} {st : List Value} {h : mj_H} : mj_R 167 (176, [l0, .ref x, l2, l3], st, h) = mj_R 167 (177, [l0, .ref x, l2, l3], .ref x :: st, h) := mj_R_next rfl rfl
set_option maxRecDepth 100000 in
theorem mq_167_177 {l1 l2 l3 : Value} {x : Nat} {st : List Value} {h : mj_H} : mj_R 167 (177, [.ref x, l1, l2, l3], st, h) = mj_R 167 (178, [.ref x, l1, l2, l3], .ref x :: st, h) := mj_R_next rfl rfl
set_option maxRecDepth 100000 in
theorem mq_167_178 {l0 l1 l2 : Value} {x : Int32} {st : List Value} {h : mj_H} : mj_R 167 (178, [l0, l1, l2, .int x], st, h) = mj_R 167 (179, [l0, l1, l2, .int x], .int x :: st, h) := mj_R_next rfl rfl
set_option maxRecDepth 100000 in
theorem mq_167_179 {l0 l1 l2 l3 : Value} {st : List Value} {h : mj_H} : mj_R 167 (179, [l0, l1, l2, l3], st, h) = mj_R 167 (180, [l0, l1, l2, l3], .int (nI 1) :: st, h) := mj_R_next rfl rfl
set_option maxRecDepth 100000 in
theorem mq_167_180 {l0 l1 l2 l3 : Value} {x y : Int32} {st : List Value} {h : mj_H} : mj_R 167 (180, [l0, l1, l2, l3], .int y :: .int x :: st, h) = mj_R 167 (181, [l0, l1, l2, l3], .int (x + y) :: st, h) := mj_R_next rfl rfl
set_option maxRecDepth 100000 in
theorem mq_167_181 {l0 l1 l2 l3 : Value} {x : Nat} {j : Int32} {st : List Value} {h : mj_H} : mj_R 167 (181, [l0, l1, l2, l3], .int j :: .ref x :: st, h) = mj_bd (mj_gi h x j) (fun v => mj_R 167 (182, [l0, l1, l2, l3], .int v :: st, h)) := mj_R_gi rfl
set_option maxRecDepth 100000 in
theorem mq_167_182 {l0 l1 l2 l3 : Value} {a0 : Nat} {a1 : Int32} {h : mj_H} : mj_R 167 (182, [l0, l1, l2, l3], [.int a1, .ref a0], h) = if mj_isC h a0 6 = true then mj_bd (mj_C 60 [.ref a0, .int a1] h) (fun r => mj_R 167 (185, [l0, l1, l2, l3], r.1.toList ++ [], r.2)) else none := mj_R_cv rfl rfl
set_option maxRecDepth 100000 in
theorem mq_167_185 {l0 l1 l3 : Value} {x : Nat} {st : List Value} {h : mj_H} : mj_R 167 (185, [l0, l1, .ref x, l3], st, h) = mj_R 167 (186, [l0, l1, .ref x, l3], .ref x :: st, h) := mj_R_next rfl rfl
set_option maxRecDepth 100000 in
theorem mq_167_186 {l1 l2 l3 : Value} {x : Nat} {st : List Value} {h : mj_H} : mj_R 167 (186, [.ref x, l1, l2, l3], st, h) = mj_R 167 (187, [.ref x, l1, l2, l3], .ref x :: st, h) := mj_R_next rfl rfl
set_option maxRecDepth 100000 in
theorem mq_167_187 {l0 l1 l2 : Value} {x : Int32} {st : List Value} {h : mj_H} : mj_R 167 (187, [l0, l1, l2, .int x], st, h) = mj_R 167 (188, [l0, l1, l2, .int x], .int x :: st, h) := mj_R_next rfl rfl
set_option maxRecDepth 100000 in
theorem mq_167_188 {l0 l1 l2 l3 : Value} {st : List Value} {h : mj_H} : mj_R 167 (188, [l0, l1, l2, l3], st, h) = mj_R 167 (189, [l0, l1, l2, l3], .int (nI 1) :: st, h) := mj_R_next rfl rfl
set_option maxRecDepth 100000 in
theorem mq_167_189 {l0 l1 l2 l3 : Value} {x y : Int32} {st : List Value} {h : mj_H} : mj_R 167 (189, [l0, l1, l2, l3], .int y :: .int x :: st, h) = mj_R 167 (190, [l0, l1, l2, l3], .int (x + y) :: st, h) := mj_R_next rfl rfl
set_option maxRecDepth 100000 in
theorem mq_167_190 {l0 l1 l2 l3 : Value} {x : Nat} {j : Int32} {st : List Value} {h : mj_H} : mj_R 167 (190, [l0, l1, l2, l3], .int j :: .ref x :: st, h) = mj_bd (mj_gi h x j) (fun v => mj_R 167 (191, [l0, l1, l2, l3], .int v :: st, h)) := mj_R_gi rfl
set_option maxRecDepth 100000 in
theorem mq_167_191 {l0 l1 l2 l3 : Value} {a0 : Nat} {a1 : Int32} {s0 : Value} {h : mj_H} : mj_R 167 (191, [l0, l1, l2, l3], [.int a1, .ref a0, s0], h) = if mj_isC h a0 7 = true then mj_bd (mj_C 102 [.ref a0, .int a1] h) (fun r => mj_R 167 (194, [l0, l1, l2, l3], r.1.toList ++ [s0], r.2)) else none := mj_R_cv rfl rfl
set_option maxRecDepth 100000 in
theorem mq_167_194 {l0 l1 l2 l3 : Value} {x y : Int32} {st : List Value} {h : mj_H} : mj_R 167 (194, [l0, l1, l2, l3], .int y :: .int x :: st, h) = if x = y then mj_R 167 (981, [l0, l1, l2, l3], st, h) else mj_R 167 (197, [l0, l1, l2, l3], st, h) := mj_R_jeq rfl
set_option maxRecDepth 100000 in
theorem mq_167_197 {l0 l1 l2 l3 : Value} {st : List Value} {h : mj_H} : mj_R 167 (197, [l0, l1, l2, l3], st, h) = mj_R 167 (198, [l0, l1, l2, l3], .int (nI 0) :: st, h) := mj_R_next rfl rfl
set_option maxRecDepth 100000 in
theorem mq_167_198 {l0 l1 l2 l3 : Value} {x : Int32} {h : mj_H} : mj_R 167 (198, [l0, l1, l2, l3], [.int x], h) = if (x == 0 || x == 1) = true then some (some (.int x), h) else none := mj_R_rz rfl rfl
set_option maxRecDepth 100000 in
theorem mq_167_199 {l0 l2 l3 : Value} {x : Nat} {st : List Value} {h : mj_H} : mj_R 167 (199, [l0, .ref x, l2, l3], st, h) = mj_R 167 (200, [l0, .ref x, l2, l3], .ref x :: st, h) := mj_R_next rfl rfl
set_option maxRecDepth 100000 in
theorem mq_167_200 {l0 l1 l2 l3 : Value} {a0 : Nat} {h : mj_H} : mj_R 167 (200, [l0, l1, l2, l3], [.ref a0], h) = if mj_isC h a0 6 = true then mj_bd (mj_C 61 [.ref a0] h) (fun r => mj_R 167 (203, [l0, l1, l2, l3], r.1.toList ++ [], r.2)) else none := mj_R_cv rfl rfl
set_option maxRecDepth 100000 in
theorem mq_167_203 {l0 l1 l3 : Value} {x : Nat} {st : List Value} {h : mj_H} : mj_R 167 (203, [l0, l1, .ref x, l3], st, h) = mj_R 167 (204, [l0, l1, .ref x, l3], .ref x :: st, h) := mj_R_next rfl rfl
set_option maxRecDepth 100000 in
theorem mq_167_204 {l0 l1 l2 l3 : Value} {a0 : Nat} {s0 : Value} {h : mj_H} : mj_R 167 (204, [l0, l1, l2, l3], [.ref a0, s0], h) = if mj_isC h a0 7 = true then mj_bd (mj_C 104 [.ref a0] h) (fun r => mj_R 167 (207, [l0, l1, l2, l3], r.1.toList ++ [s0], r.2)) else none := mj_R_cv rfl rfl
set_option maxRecDepth 100000 in
theorem mq_167_207 {l0 l1 l2 l3 : Value} {x y : Int32} {st : List Value} {h : mj_H} : mj_R 167 (207, [l0, l1, l2, l3], .int y :: .int x :: st, h) = if x = y then mj_R 167 (981, [l0, l1, l2, l3], st, h) else mj_R 167 (210, [l0, l1, l2, l3], st, h) := mj_R_jeq rfl
set_option maxRecDepth 100000 in
theorem mq_167_210 {l0 l1 l2 l3 : Value} {st : List Value} {h : mj_H} : mj_R 167 (210, [l0, l1, l2, l3], st, h) = mj_R 167 (211, [l0, l1, l2, l3], .int (nI 0) :: st, h) := mj_R_next rfl rfl
set_option maxRecDepth 100000 in
theorem mq_167_211 {l0 l1 l2 l3 : Value} {x : Int32} {h : mj_H} : mj_R 167 (211, [l0, l1, l2, l3], [.int x], h) = if (x == 0 || x == 1) = true then some (some (.int x), h) else none := mj_R_rz rfl rfl
set_option maxRecDepth 100000 in
theorem mq_167_212 {l0 l2 l3 : Value} {x : Nat} {st : List Value} {h : mj_H} : mj_R 167 (212, [l0, .ref x, l2, l3], st, h) = mj_R 167 (213, [l0, .ref x, l2, l3], .ref x :: st, h) := mj_R_next rfl rfl
set_option maxRecDepth 100000 in
theorem mq_167_213 {l0 l1 l2 l3 : Value} {a0 : Nat} {h : mj_H} : mj_R 167 (213, [l0, l1, l2, l3], [.ref a0], h) = if mj_isC h a0 6 = true then mj_bd (mj_C 62 [.ref a0] h) (fun r => mj_R 167 (216, [l0, l1, l2, l3], r.1.toList ++ [], r.2)) else none := mj_R_cv rfl rfl
set_option maxRecDepth 100000 in
theorem mq_167_216 {l0 l1 l3 : Value} {x : Nat} {st : List Value} {h : mj_H} : mj_R 167 (216, [l0, l1, .ref x, l3], st, h) = mj_R 167 (217, [l0, l1, .ref x, l3], .ref x :: st, h) := mj_R_next rfl rfl
set_option maxRecDepth 100000 in
theorem mq_167_217 {l0 l1 l2 l3 : Value} {a0 : Nat} {s0 : Value} {h : mj_H} : mj_R 167 (217, [l0, l1, l2, l3], [.ref a0, s0], h) = if mj_isC h a0 7 = true then mj_bd (mj_C 105 [.ref a0] h) (fun r => mj_R 167 (220, [l0, l1, l2, l3], r.1.toList ++ [s0], r.2)) else none := mj_R_cv rfl rfl
set_option maxRecDepth 100000 in
theorem mq_167_220 {l0 l1 l2 l3 : Value} {x y : Int32} {st : List Value} {h : mj_H} : mj_R 167 (220, [l0, l1, l2, l3], .int y :: .int x :: st, h) = if x = y then mj_R 167 (981, [l0, l1, l2, l3], st, h) else mj_R 167 (223, [l0, l1, l2, l3], st, h) := mj_R_jeq rfl
set_option maxRecDepth 100000 in
theorem mq_167_223 {l0 l1 l2 l3 : Value} {st : List Value} {h : mj_H} : mj_R 167 (223, [l0, l1, l2, l3], st, h) = mj_R 167 (224, [l0, l1, l2, l3], .int (nI 0) :: st, h) := mj_R_next rfl rfl
set_option maxRecDepth 100000 in
theorem mq_167_224 {l0 l1 l2 l3 : Value} {x : Int32} {h : mj_H} : mj_R 167 (224, [l0, l1, l2, l3], [.int x], h) = if (x == 0 || x == 1) = true then some (some (.int x), h) else none := mj_R_rz rfl rfl
set_option maxRecDepth 100000 in
theorem mq_167_225 {l0 l2 l3 : Value} {x : Nat} {st : List Value} {h : mj_H} : mj_R 167 (225, [l0, .ref x, l2, l3], st, h) = mj_R 167 (226, [l0, .ref x, l2, l3], .ref x :: st, h) := mj_R_next rfl rfl
set_option maxRecDepth 100000 in
theorem mq_167_226 {l0 l1 l2 l3 : Value} {a0 : Nat} {h : mj_H} : mj_R 167 (226, [l0, l1, l2, l3], [.ref a0], h) = if mj_isC h a0 6 = true then mj_bd (mj_C 63 [.ref a0] h) (fun r => mj_R 167 (229, [l0, l1, l2, l3], r.1.toList ++ [], r.2)) else none := mj_R_cv rfl rfl
set_option maxRecDepth 100000 in
theorem mq_167_229 {l0 l1 l3 : Value} {x : Nat} {st : List Value} {h : mj_H} : mj_R 167 (229, [l0, l1, .ref x, l3], st, h) = mj_R 167 (230, [l0, l1, .ref x, l3], .ref x :: st, h) := mj_R_next rfl rfl
set_option maxRecDepth 100000 in
theorem mq_167_230 {l0 l1 l2 l3 : Value} {a0 : Nat} {s0 : Value} {h : mj_H} : mj_R 167 (230, [l0, l1, l2, l3], [.ref a0, s0], h) = if mj_isC h a0 7 = true then mj_bd (mj_C 115 [.ref a0] h) (fun r => mj_R 167 (233, [l0, l1, l2, l3], r.1.toList ++ [s0], r.2)) else none := mj_R_cv rfl rfl
set_option maxRecDepth 100000 in
theorem mq_167_233 {l0 l1 l2 l3 : Value} {x y : Int32} {st : List Value} {h : mj_H} : mj_R 167 (233, [l0, l1, l2, l3], .int y :: .int x :: st, h) = if x = y then mj_R 167 (981, [l0, l1, l2, l3], st, h) else mj_R 167 (236, [l0, l1, l2, l3], st, h) := mj_R_jeq rfl
set_option maxRecDepth 100000 in
theorem mq_167_236 {l0 l1 l2 l3 : Value} {st : List Value} {h : mj_H} : mj_R 167 (236, [l0, l1, l2, l3], st, h) = mj_R 167 (237, [l0, l1, l2, l3], .int (nI 0) :: st, h) := mj_R_next rfl rfl
set_option maxRecDepth 100000 in
theorem mq_167_237 {l0 l1 l2 l3 : Value} {x : Int32} {h : mj_H} : mj_R 167 (237, [l0, l1, l2, l3], [.int x], h) = if (x == 0 || x == 1) = true then some (some (.int x), h) else none := mj_R_rz rfl rfl
set_option maxRecDepth 100000 in
theorem mq_167_238 {l0 l2 l3 : Value} {x : Nat} {st : List Value} {h : mj_H} : mj_R 167 (238, [l0, .ref x, l2, l3], st, h) = mj_R 167 (239, [l0, .ref x, l2, l3], .ref x :: st, h) := mj_R_next rfl rfl
set_option maxRecDepth 100000 in
theorem mq_167_239 {l1 l2 l3 : Value} {x : Nat} {st : List Value} {h : mj_H} : mj_R 167 (239, [.ref x, l1, l2, l3], st, h) = mj_R 167 (240, [.ref x, l1, l2, l3], .ref x :: st, h) := mj_R_next rfl rfl
set_option maxRecDepth 100000 in
theorem mq_167_240 {l0 l1 l2 : Value} {x : Int32} {st : List Value} {h : mj_H} : mj_R 167 (240, [l0, l1, l2, .int x], st, h) = mj_R 167 (241, [l0, l1, l2, .int x], .int x :: st, h) := mj_R_next rfl rfl
set_option maxRecDepth 100000 in
theorem mq_167_241 {l0 l1 l2 l3 : Value} {st : List Value} {h : mj_H} : mj_R 167 (241, [l0, l1, l2, l3], st, h) = mj_R 167 (242, [l0, l1, l2, l3], .int (nI 1) :: st, h) := mj_R_next rfl rfl
set_option maxRecDepth 100000 in
theorem mq_167_242 {l0 l1 l2 l3 : Value} {x y : Int32} {st : List Value} {h : mj_H} : mj_R 167 (242, [l0, l1, l2, l3], .int y :: .int x :: st, h) = mj_R 167 (243, [l0, l1, l2, l3], .int (x + y) :: st, h) := mj_R_next rfl rfl
set_option maxRecDepth 100000 in
theorem mq_167_243 {l0 l1 l2 l3 : Value} {x : Nat} {j : Int32} {st : List Value} {h : mj_H} : mj_R 167 (243, [l0, l1, l2, l3], .int j :: .ref x :: st, h) = mj_bd (mj_gi h x j) (fun v => mj_R 167 (244, [l0, l1, l2, l3], .int v :: st, h)) := mj_R_gi rfl
set_option maxRecDepth 100000 in
theorem mq_167_244 {l0 l1 l2 l3 : Value} {a0 : Nat} {a1 : Int32} {h : mj_H} : mj_R 167 (244, [l0, l1, l2, l3], [.int a1, .ref a0], h) = if mj_isC h a0 6 = true then mj_bd (mj_C 64 [.ref a0, .int a1] h) (fun r => mj_R 167 (247, [l0, l1, l2, l3], r.1.toList ++ [], r.2)) else none := mj_R_cv rfl rfl
set_option maxRecDepth 100000 in
theorem mq_167_247 {l0 l1 l3 : Value} {x : Nat} {st : List Value} {h : mj_H} : mj_R 167 (247, [l0, l1, .ref x, l3], st, h) = mj_R 167 (248, [l0, l1, .ref x, l3], .ref x :: st, h) := mj_R_next rfl rfl
set_option maxRecDepth 100000 in
theorem mq_167_248 {l1 l2 l3 : Value} {x : Nat} {st : List Value} {h : mj_H} : mj_R 167 (248, [.ref x, l1, l2, l3], st, h) = mj_R 167 (249, [.ref x, l1, l2, l3], .ref x :: st, h) := mj_R_next rfl rfl
set_option maxRecDepth 100000 in
theorem mq_167_249 {l0 l1 l2 : Value} {x : Int32} {st : List Value} {h : mj_H} : mj_R 167 (249, [l0, l1, l2, .int x], st, h) = mj_R 167 (250, [l0, l1, l2, .int x], .int x :: st, h) := mj_R_next rfl rfl
set_option maxRecDepth 100000 in
theorem mq_167_250 {l0 l1 l2 l3 : Value} {st : List Value} {h : mj_H} : mj_R 167 (250, [l0, l1, l2, l3], st, h) = mj_R 167 (251, [l0, l1, l2, l3], .int (nI 1) :: st, h) := mj_R_next rfl rfl
set_option maxRecDepth 100000 in
theorem mq_167_251 {l0 l1 l2 l3 : Value} {x y : Int32} {st : List Value} {h : mj_H} : mj_R 167 (251, [l0, l1, l2, l3], .int y :: .int x :: st, h) = mj_R 167 (252, [l0, l1, l2, l3], .int (x + y) :: st, h) := mj_R_next rfl rfl
set_option maxRecDepth 100000 in
theorem mq_167_252 {l0 l1 l2 l3 : Value} {x : Nat} {j : Int32} {st : List Value} {h : mj_H} : mj_R 167 (252, [l0, l1, l2, l3], .int j :: .ref x :: st, h) = mj_bd (mj_gi h x j) (fun v => mj_R 167 (253, [l0, l1, l2, l3], .int v :: st, h)) := mj_R_gi rfl
set_option maxRecDepth 100000 in
theorem mq_167_253 {l0 l1 l2 l3 : Value} {a0 : Nat} {a1 : Int32} {s0 : Value} {h : mj_H} : mj_R 167 (253, [l0, l1, l2, l3], [.int a1, .ref a0, s0], h) = if mj_isC h a0 7 = true then mj_bd (mj_C 116 [.ref a0, .int a1] h) (fun r => mj_R 167 (256, [l0, l1, l2, l3], r.1.toList ++ [s0], r.2)) else none := mj_R_cv rfl rfl
set_option maxRecDepth 100000 in
theorem mq_167_256 {l0 l1 l2 l3 : Value} {x y : Int32} {st : List Value} {h : mj_H} : mj_R 167 (256, [l0, l1, l2, l3], .int y :: .int x :: st, h) = if x = y then mj_R 167 (981, [l0, l1, l2, l3], st, h) else mj_R 167 (259, [l0, l1, l2, l3], st, h) := mj_R_jeq rfl
set_option maxRecDepth 100000 in
theorem mq_167_259 {l0 l1 l2 l3 : Value} {st : List Value} {h : mj_H} : mj_R 167 (259, [l0, l1, l2, l3], st, h) = mj_R 167 (260, [l0, l1, l2, l3], .int (nI 0) :: st, h) := mj_R_next rfl rfl
set_option maxRecDepth 100000 in
theorem mq_167_260 {l0 l1 l2 l3 : Value} {x : Int32} {h : mj_H} : mj_R 167 (260, [l0, l1, l2, l3], [.int x], h) = if (x == 0 || x == 1) = true then some (some (.int x), h) else none := mj_R_rz rfl rfl
set_option maxRecDepth 100000 in
theorem mq_167_261 {l0 l2 l3 : Value} {x : Nat} {st : List Value} {h : mj_H} : mj_R 167 (261, [l0, .ref x, l2, l3], st, h) = mj_R 167 (262, [l0, .ref x, l2, l3], .ref x :: st, h) := mj_R_next rfl rfl
set_option maxRecDepth 100000 in
theorem mq_167_262 {l1 l2 l3 : Value} {x : Nat} {st : List Value} {h : mj_H} : mj_R 167 (262, [.ref x, l1, l2, l3], st, h) = mj_R 167 (263, [.ref x, l1, l2, l3], .ref x :: st, h) := mj_R_next rfl rfl
set_option maxRecDepth 100000 in
theorem mq_167_263 {l0 l1 l2 : Value} {x : Int32} {st : List Value} {h : mj_H} : mj_R 167 (263, [l0, l1, l2, .int x], st, h) = mj_R 167 (264, [l0, l1, l2, .int x], .int x :: st, h) := mj_R_next rfl rfl
set_option maxRecDepth 100000 in
theorem mq_167_264 {l0 l1 l2 l3 : Value} {st : List Value} {h : mj_H} : mj_R 167 (264, [l0, l1, l2, l3], st, h) = mj_R 167 (265, [l0, l1, l2, l3], .int (nI 1) :: st, h) := mj_R_next rfl rfl
set_option maxRecDepth 100000 in
theorem mq_167_265 {l0 l1 l2 l3 : Value} {x y : Int32} {st : List Value} {h : mj_H} : mj_R 167 (265, [l0, l1, l2, l3], .int y :: .int x :: st, h) = mj_R 167 (266, [l0, l1, l2, l3], .int (x + y) :: st, h) := mj_R_next rfl rfl
set_option maxRecDepth 100000 in
theorem mq_167_266 {l0 l1 l2 l3 : Value} {x : Nat} {j : Int32} {st : List Value} {h : mj_H} : mj_R 167 (266, [l0, l1, l2, l3], .int j :: .ref x :: st, h) = mj_bd (mj_gi h x j) (fun v => mj_R 167 (267, [l0, l1, l2, l3], .int v :: st, h)) := mj_R_gi rfl
set_option maxRecDepth 100000 in
theorem mq_167_267 {l1 l2 l3 : Value} {x : Nat} {st : List Value} {h : mj_H} : mj_R 167 (267, [.ref x, l1, l2, l3], st, h) = mj_R 167 (268, [.ref x, l1, l2, l3], .ref x :: st, h) := mj_R_next rfl rfl
set_option maxRecDepth 100000 in
theorem mq_167_268 {l0 l1 l2 : Value} {x : Int32} {st : List Value} {h : mj_H} : mj_R 167 (268, [l0, l1, l2, .int x], st, h) = mj_R 167 (269, [l0, l1, l2, .int x], .int x :: st, h) := mj_R_next rfl rfl
set_option maxRecDepth 100000 in
theorem mq_167_269 {l0 l1 l2 l3 : Value} {st : List Value} {h : mj_H} : mj_R 167 (269, [l0, l1, l2, l3], st, h) = mj_R 167 (270, [l0, l1, l2, l3], .int (nI 2) :: st, h) := mj_R_next rfl rfl
set_option maxRecDepth 100000 in
theorem mq_167_270 {l0 l1 l2 l3 : Value} {x y : Int32} {st : List Value} {h : mj_H} : mj_R 167 (270, [l0, l1, l2, l3], .int y :: .int x :: st, h) = mj_R 167 (271, [l0, l1, l2, l3], .int (x + y) :: st, h) := mj_R_next rfl rfl
set_option maxRecDepth 100000 in
theorem mq_167_271 {l0 l1 l2 l3 : Value} {x : Nat} {j : Int32} {st : List Value} {h : mj_H} : mj_R 167 (271, [l0, l1, l2, l3], .int j :: .ref x :: st, h) = mj_bd (mj_gi h x j) (fun v => mj_R 167 (272, [l0, l1, l2, l3], .int v :: st, h)) := mj_R_gi rfl
set_option maxRecDepth 100000 in
theorem mq_167_272 {l0 l1 l2 l3 : Value} {a0 : Nat} {a1 : Int32} {a2 : Int32} {h : mj_H} : mj_R 167 (272, [l0, l1, l2, l3], [.int a2, .int a1, .ref a0], h) = if mj_isC h a0 6 = true then mj_bd (mj_C 65 [.ref a0, .int a1, .int a2] h) (fun r => mj_R 167 (275, [l0, l1, l2, l3], r.1.toList ++ [], r.2)) else none := mj_R_cv rfl rfl
set_option maxRecDepth 100000 in
theorem mq_167_275 {l0 l1 l3 : Value} {x : Nat} {st : List Value} {h : mj_H} : mj_R 167 (275, [l0, l1, .ref x, l3], st, h) = mj_R 167 (276, [l0, l1, .ref x, l3], .ref x :: st, h) := mj_R_next rfl rfl
set_option maxRecDepth 100000 in
theorem mq_167_276 {l1 l2 l3 : Value} {x : Nat} {st : List Value} {h : mj_H} : mj_R 167 (276, [.ref x, l1, l2, l3], st, h) = mj_R 167 (277, [.ref x, l1, l2, l3], .ref x :: st, h) := mj_R_next rfl rfl
set_option maxRecDepth 100000 in
theorem mq_167_277 {l0 l1 l2 : Value} {x : Int32} {st : List Value} {h : mj_H} : mj_R 167 (277, [l0, l1, l2, .int x], st, h) = mj_R 167 (278, [l0, l1, l2, .int x], .int x :: st, h) := mj_R_next rfl rfl
set_option maxRecDepth 100000 in
theorem mq_167_278 {l0 l1 l2 l3 : Value} {st : List Value} {h : mj_H} : mj_R 167 (278, [l0, l1, l2, l3], st, h) = mj_R 167 (279, [l0, l1, l2, l3], .int (nI 1) :: st, h) := mj_R_next rfl rfl
set_option maxRecDepth 100000 in
theorem mq_167_279 {l0 l1 l2 l3 : Value} {x y : Int32} {st : List Value} {h : mj_H} : mj_R 167 (279, [l0, l1, l2, l3], .int y :: .int x :: st, h) = mj_R 167 (280, [l0, l1, l2, l3], .int (x + y) :: st, h) := mj_R_next rfl rfl
set_option maxRecDepth 100000 in
theorem mq_167_280 {l0 l1 l2 l3 : Value} {x : Nat} {j : Int32} {st : List Value} {h : mj_H} : mj_R 167 (280, [l0, l1, l2, l3], .int j :: .ref x :: st, h) = mj_bd (mj_gi h x j) (fun v => mj_R 167 (281, [l0, l1, l2, l3], .int v :: st, h)) := mj_R_gi rfl
set_option maxRecDepth 100000 in
theorem mq_167_281 {l1 l2 l3 : Value} {x : Nat} {st : List Value} {h : mj_H} : mj_R 167 (281, [.ref x, l1, l2, l3], st, h) = mj_R 167 (282, [.ref x, l1, l2, l3], .ref x :: st, h) := mj_R_next rfl rfl
set_option maxRecDepth 100000 in
theorem mq_167_282 {l0 l1 l2 : Value} {x : Int32} {st : List Value} {h : mj_H} : mj_R 167 (282, [l0, l1, l2, .int x], st, h) = mj_R 167 (283, [l0, l1, l2, .int x], .int x :: st, h) := mj_R_next rfl rfl
set_option maxRecDepth 100000 in
theorem mq_167_283 {l0 l1 l2 l3 : Value} {st : List Value} {h : mj_H} : mj_R 167 (283, [l0, l1, l2, l3], st, h) = mj_R 167 (284, [l0, l1, l2, l3], .int (nI 2) :: st, h) := mj_R_next rfl rfl
set_option maxRecDepth 100000 in
theorem mq_167_284 {l0 l1 l2 l3 : Value} {x y : Int32} {st : List Value} {h : mj_H} : mj_R 167 (284, [l0, l1, l2, l3], .int y :: .int x :: st, h) = mj_R 167 (285, [l0, l1, l2, l3], .int (x + y) :: st, h) := mj_R_next rfl rfl
set_option maxRecDepth 100000 in
theorem mq_167_285 {l0 l1 l2 l3 : Value} {x : Nat} {j : Int32} {st : List Value} {h : mj_H} : mj_R 167 (285, [l0, l1, l2, l3], .int j :: .ref x :: st, h) = mj_bd (mj_gi h x j) (fun v => mj_R 167 (286, [l0, l1, l2, l3], .int v :: st, h)) := mj_R_gi rfl
set_option maxRecDepth 100000 in
theorem mq_167_286 {l0 l1 l2 l3 : Value} {a0 : Nat} {a1 : Int32} {a2 : Int32} {s0 : Value} {h : mj_H} : mj_R 167 (286, [l0, l1, l2, l3], [.int a2, .int a1, .ref a0, s0], h) = if mj_isC h a0 7 = true then mj_bd (mj_C 119 [.ref a0, .int a1, .int a2] h) (fun r => mj_R 167 (289, [l0, l1, l2, l3], r.1.toList ++ [s0], r.2)) else none := mj_R_cv rfl rfl
set_option maxRecDepth 100000 in
theorem mq_167_289 {l0 l1 l2 l3 : Value} {x y : Int32} {st : List Value} {h : mj_H} : mj_R 167 (289, [l0, l1, l2, l3], .int y :: .int x :: st, h) = if x = y then mj_R 167 (981, [l0, l1, l2, l3], st, h) else mj_R 167 (292, [l0, l1, l2, l3], st, h) := mj_R_jeq rfl
set_option maxRecDepth 100000 in
theorem mq_167_292 {l0 l1 l2 l3 : Value} {st : List Value} {h : mj_H} : mj_R 167 (292, [l0, l1, l2, l3], st, h) = mj_R 167 (293, [l0, l1, l2, l3], .int (nI 0) :: st, h) := mj_R_next rfl rfl
set_option maxRecDepth 100000 in
theorem mq_167_293 {l0 l1 l2 l3 : Value} {x : Int32} {h : mj_H} : mj_R 167 (293, [l0, l1, l2, l3], [.int x], h) = if (x == 0 || x == 1) = true then some (some (.int x), h) else none := mj_R_rz rfl rfl
set_option maxRecDepth 100000 in
theorem mq_167_294 {l0 l2 l3 : Value} {x : Nat} {st : List Value} {h : mj_H} : mj_R 167 (294, [l0, .ref x, l2, l3], st, h) = mj_R 167 (295, [l0, .ref x, l2, l3], .ref x :: st, h) := mj_R_next rfl rfl
set_option maxRecDepth 100000 in
theorem mq_167_295 {l1 l2 l3 : Value} {x : Nat} {st : List Value} {h : mj_H} : mj_R 167 (295, [.ref x, l1, l2, l3], st, h) = mj_R 167 (296, [.ref x, l1, l2, l3], .ref x :: st, h) := mj_R_next rfl rfl
set_option maxRecDepth 100000 in
theorem mq_167_296 {l0 l1 l2 : Value} {x : Int32} {st : List Value} {h : mj_H} : mj_R 167 (296, [l0, l1, l2, .int x], st, h) = mj_R 167 (297, [l0, l1, l2, .int x], .int x :: st, h) := mj_R_next rfl rfl
set_option maxRecDepth 100000 in
theorem mq_167_297 {l0 l1 l2 l3 : Value} {st : List Value} {h : mj_H} : mj_R 167 (297, [l0, l1, l2, l3], st, h) = mj_R 167 (298, [l0, l1, l2, l3], .int (nI 1) :: st, h) := mj_R_next rfl rfl
set_option maxRecDepth 100000 in
theorem mq_167_298 {l0 l1 l2 l3 : Value} {x y : Int32} {st : List Value} {h : mj_H} : mj_R 167 (298, [l0, l1, l2, l3], .int y :: .int x :: st, h) = mj_R 167 (299, [l0, l1, l2, l3], .int (x + y) :: st, h) := mj_R_next rfl rfl
set_option maxRecDepth 100000 in
theorem mq_167_299 {l0 l1 l2 l3 : Value} {x : Nat} {j : Int32} {st : List Value} {h : mj_H} : mj_R 167 (299, [l0, l1, l2, l3], .int j :: .ref x :: st, h) = mj_bd (mj_gi h x j) (fun v => mj_R 167 (300, [l0, l1, l2, l3], .int v :: st, h)) := mj_R_gi rfl
set_option maxRecDepth 100000 in
theorem mq_167_300 {l1 l2 l3 : Value} {x : Nat} {st : List Value} {h : mj_H} : mj_R 167 (300, [.ref x, l1, l2, l3], st, h) = mj_R 167 (301, [.ref x, l1, l2, l3], .ref x :: st, h) := mj_R_next rfl rfl
set_option maxRecDepth 100000 in
theorem mq_167_301 {l0 l1 l2 : Value} {x : Int32} {st : List Value} {h : mj_H} : mj_R 167 (301, [l0, l1, l2, .int x], st, h) = mj_R 167 (302, [l0, l1, l2, .int x], .int x :: st, h) := mj_R_next rfl rfl
set_option maxRecDepth 100000 in
theorem mq_167_302 {l0 l1 l2 l3 : Value} {st : List Value} {h : mj_H} : mj_R 167 (302, [l0, l1, l2, l3], st, h) = mj_R 167 (303, [l0, l1, l2, l3], .int (nI 2) :: st, h) := mj_R_next rfl rfl
set_option maxRecDepth 100000 in
theorem mq_167_303 {l0 l1 l2 l3 : Value} {x y : Int32} {st : List Value} {h : mj_H} : mj_R 167 (303, [l0, l1, l2, l3], .int y :: .int x :: st, h) = mj_R 167 (304, [l0, l1, l2, l3], .int (x + y) :: st, h) := mj_R_next rfl rfl
set_option maxRecDepth 100000 in
theorem mq_167_304 {l0 l1 l2 l3 : Value} {x : Nat} {j : Int32} {st : List Value} {h : mj_H} : mj_R 167 (304, [l0, l1, l2, l3], .int j :: .ref x :: st, h) = mj_bd (mj_gi h x j) (fun v => mj_R 167 (305, [l0, l1, l2, l3], .int v :: st, h)) := mj_R_gi rfl
set_option maxRecDepth 100000 in
theorem mq_167_305 {l0 l1 l2 l3 : Value} {a0 : Nat} {a1 : Int32} {a2 : Int32} {h : mj_H} : mj_R 167 (305, [l0, l1, l2, l3], [.int a2, .int a1, .ref a0], h) = if mj_isC h a0 6 = true then mj_bd (mj_C 66 [.ref a0, .int a1, .int a2] h) (fun r => mj_R 167 (308, [l0, l1, l2, l3], r.1.toList ++ [], r.2)) else none := mj_R_cv rfl rfl
set_option maxRecDepth 100000 in
theorem mq_167_308 {l0 l1 l3 : Value} {x : Nat} {st : List Value} {h : mj_H} : mj_R 167 (308, [l0, l1, .ref x, l3], st, h) = mj_R 167 (309, [l0, l1, .ref x, l3], .ref x :: st, h) := mj_R_next rfl rfl
set_option maxRecDepth 100000 in
theorem mq_167_309 {l1 l2 l3 : Value} {x : Nat} {st : List Value} {h : mj_H} : mj_R 167 (309, [.ref x, l1, l2, l3], st, h) = mj_R 167 (310, [.ref x, l1, l2, l3], .ref x :: st, h) := mj_R_next rfl rfl
set_option maxRecDepth 100000 in
theorem mq_167_310 {l0 l1 l2 : Value} {x : Int32} {st : List Value} {h : mj_H} : mj_R 167 (310, [l0, l1, l2, .int x], st, h) = mj_R 167 (311, [l0, l1, l2, .int x], .int x :: st, h) := mj_R_next rfl rfl
set_option maxRecDepth 100000 in
theorem mq_167_311 {l0 l1 l2 l3 : Value} {st : List Value} {h : mj_H} : mj_R 167 (311, [l0, l1, l2, l3], st, h) = mj_R 167 (312, [l0, l1, l2, l3], .int (nI 1) :: st, h) := mj_R_next rfl rfl
set_option maxRecDepth 100000 in
theorem mq_167_312 {l0 l1 l2 l3 : Value} {x y : Int32} {st : List Value} {h : mj_H} : mj_R 167 (312, [l0, l1, l2, l3], .int y :: .int x :: st, h) = mj_R 167 (313, [l0, l1, l2, l3], .int (x + y) :: st, h) := mj_R_next rfl rfl
set_option maxRecDepth 100000 in
theorem mq_167_313 {l0 l1 l2 l3 : Value} {x : Nat} {j : Int32} {st : List Value} {h : mj_H} : mj_R 167 (313, [l0, l1, l2, l3], .int j :: .ref x :: st, h) = mj_bd (mj_gi h x j) (fun v => mj_R 167 (314, [l0, l1, l2, l3], .int v :: st, h)) := mj_R_gi rfl
set_option maxRecDepth 100000 in
theorem mq_167_314 {l1 l2 l3 : Value} {x : Nat} {st : List Value} {h : mj_H} : mj_R 167 (314, [.ref x, l1, l2, l3], st, h) = mj_R 167 (315, [.ref x, l1, l2, l3], .ref x :: st, h) := mj_R_next rfl rfl
set_option maxRecDepth 100000 in
theorem mq_167_315 {l0 l1 l2 : Value} {x : Int32} {st : List Value} {h : mj_H} : mj_R 167 (315, [l0, l1, l2, .int x], st, h) = mj_R 167 (316, [l0, l1, l2, .int x], .int x :: st, h) := mj_R_next rfl rfl
set_option maxRecDepth 100000 in
theorem mq_167_316 {l0 l1 l2 l3 : Value} {st : List Value} {h : mj_H} : mj_R 167 (316, [l0, l1, l2, l3], st, h) = mj_R 167 (317, [l0, l1, l2, l3], .int (nI 2) :: st, h) := mj_R_next rfl rfl
set_option maxRecDepth 100000 in
theorem mq_167_317 {l0 l1 l2 l3 : Value} {x y : Int32} {st : List Value} {h : mj_H} : mj_R 167 (317, [l0, l1, l2, l3], .int y :: .int x :: st, h) = mj_R 167 (318, [l0, l1, l2, l3], .int (x + y) :: st, h) := mj_R_next rfl rfl
set_option maxRecDepth 100000 in
theorem mq_167_318 {l0 l1 l2 l3 : Value} {x : Nat} {j : Int32} {st : List Value} {h : mj_H} : mj_R 167 (318, [l0, l1, l2, l3], .int j :: .ref x :: st, h) = mj_bd (mj_gi h x j) (fun v => mj_R 167 (319, [l0, l1, l2, l3], .int v :: st, h)) := mj_R_gi rfl
set_option maxRecDepth 100000 in
theorem mq_167_319 {l0 l1 l2 l3 : Value} {a0 : Nat} {a1 : Int32} {a2 : Int32} {s0 : Value} {h : mj_H} : mj_R 167 (319, [l0, l1, l2, l3], [.int a2, .int a1, .ref a0, s0], h) = if mj_isC h a0 7 = true then mj_bd (mj_C 122 [.ref a0, .int a1, .int a2] h) (fun r => mj_R 167 (322, [l0, l1, l2, l3], r.1.toList ++ [s0], r.2)) else none := mj_R_cv rfl rfl
set_option maxRecDepth 100000 in
theorem mq_167_322 {l0 l1 l2 l3 : Value} {x y : Int32} {st : List Value} {h : mj_H} : mj_R 167 (322, [l0, l1, l2, l3], .int y :: .int x :: st, h) = if x = y then mj_R 167 (981, [l0, l1, l2, l3], st, h) else mj_R 167 (325, [l0, l1, l2, l3], st, h) := mj_R_jeq rfl
set_option maxRecDepth 100000 in
theorem mq_167_325 {l0 l1 l2 l3 : Value} {st : List Value} {h : mj_H} : mj_R 167 (325, [l0, l1, l2, l3], st, h) = mj_R 167 (326, [l0, l1, l2, l3], .int (nI 0) :: st, h) := mj_R_next rfl rfl
set_option maxRecDepth 100000 in
theorem mq_167_326 {l0 l1 l2 l3 : Value} {x : Int32} {h : mj_H} : mj_R 167 (326, [l0, l1, l2, l3], [.int x], h) = if (x == 0 || x == 1) = true then some (some (.int x), h) else none := mj_R_rz rfl rfl
set_option maxRecDepth 100000 in
theorem mq_167_327 {l0 l2 l3 : Value} {x : Nat} {st : List Value} {h : mj_H} : mj_R 167 (327, [l0, .ref x, l2, l3], st, h) = mj_R 167 (328, [l0, .ref x, l2, l3], .ref x :: st, h) := mj_R_next rfl rfl
set_option maxRecDepth 100000 in
theorem mq_167_328 {l0 l1 l2 l3 : Value} {a0 : Nat} {h : mj_H} : mj_R 167 (328, [l0, l1, l2, l3], [.ref a0], h) = if mj_isC h a0 6 = true then mj_bd (mj_C 67 [.ref a0] h) (fun r => mj_R 167 (331, [l0, l1, l2, l3], r.1.toList ++ [], r.2)) else none := mj_R_cv rfl rfl
set_option maxRecDepth 100000 in
theorem mq_167_331 {l0 l1 l3 : Value} {x : Nat} {st : List Value} {h : mj_H} : mj_R 167 (331, [l0, l1, .ref x, l3], st, h) = mj_R 167 (332, [l0, l1, .ref x, l3], .ref x :: st, h) := mj_R_next rfl rfl
set_option maxRecDepth 100000 in
theorem mq_167_332 {l0 l1 l2 l3 : Value} {a0 : Nat} {s0 : Value} {h : mj_H} : mj_R 167 (332, [l0, l1, l2, l3], [.ref a0, s0], h) = if mj_isC h a0 7 = true then mj_bd (mj_C 124 [.ref a0] h) (fun r => mj_R 167 (335, [l0, l1, l2, l3], r.1.toList ++ [s0], r.2)) else none := mj_R_cv rfl rfl
set_option maxRecDepth 100000 in
theorem mq_167_335 {l0 l1 l2 l3 : Value} {x y : Int32} {st : List Value} {h : mj_H} : mj_R 167 (335, [l0, l1, l2, l3], .int y :: .int x :: st, h) = if x = y then mj_R 167 (981, [l0, l1, l2, l3], st, h) else mj_R 167 (338, [l0, l1, l2, l3], st, h) := mj_R_jeq rfl
set_option maxRecDepth 100000 in
theorem mq_167_338 {l0 l1 l2 l3 : Value} {st : List Value} {h : mj_H} : mj_R 167 (338, [l0, l1, l2, l3], st, h) = mj_R 167 (339, [l0, l1, l2, l3], .int (nI 0) :: st, h) := mj_R_next rfl rfl
set_option maxRecDepth 100000 in
theorem mq_167_339 {l0 l1 l2 l3 : Value} {x : Int32} {h : mj_H} : mj_R 167 (339, [l0, l1, l2, l3], [.int x], h) = if (x == 0 || x == 1) = true then some (some (.int x), h) else none := mj_R_rz rfl rfl
set_option maxRecDepth 100000 in
theorem mq_167_340 {l0 l2 l3 : Value} {x : Nat} {st : List Value} {h : mj_H} : mj_R 167 (340, [l0, .ref x, l2, l3], st, h) = mj_R 167 (341, [l0, .ref x, l2, l3], .ref x :: st, h) := mj_R_next rfl rfl
set_option maxRecDepth 100000 in
theorem mq_167_341 {l0 l1 l2 l3 : Value} {a0 : Nat} {h : mj_H} : mj_R 167 (341, [l0, l1, l2, l3], [.ref a0], h) = if mj_isC h a0 6 = true then mj_bd (mj_C 68 [.ref a0] h) (fun r => mj_R 167 (344, [l0, l1, l2, l3], r.1.toList ++ [], r.2)) else none := mj_R_cv rfl rfl
set_option maxRecDepth 100000 in
theorem mq_167_344 {l0 l1 l3 : Value} {x : Nat} {st : List Value} {h : mj_H} : mj_R 167 (344, [l0, l1, .ref x, l3], st, h) = mj_R 167 (345, [l0, l1, .ref x, l3], .ref x :: st, h) := mj_R_next rfl rfl
set_option maxRecDepth 100000 in
theorem mq_167_345 {l0 l1 l2 l3 : Value} {a0 : Nat} {s0 : Value} {h : mj_H} : mj_R 167 (345, [l0, l1, l2, l3], [.ref a0, s0], h) = if mj_isC h a0 7 = true then mj_bd (mj_C 128 [.ref a0] h) (fun r => mj_R 167 (348, [l0, l1, l2, l3], r.1.toList ++ [s0], r.2)) else none := mj_R_cv rfl rfl
set_option maxRecDepth 100000 in
theorem mq_167_348 {l0 l1 l2 l3 : Value} {x y : Int32} {st : List Value} {h : mj_H} : mj_R 167 (348, [l0, l1, l2, l3], .int y :: .int x :: st, h) = if x = y then mj_R 167 (981, [l0, l1, l2, l3], st, h) else mj_R 167 (351, [l0, l1, l2, l3], st, h) := mj_R_jeq rfl
set_option maxRecDepth 100000 in
theorem mq_167_351 {l0 l1 l2 l3 : Value} {st : List Value} {h : mj_H} : mj_R 167 (351, [l0, l1, l2, l3], st, h) = mj_R 167 (352, [l0, l1, l2, l3], .int (nI 0) :: st, h) := mj_R_next rfl rfl
set_option maxRecDepth 100000 in
theorem mq_167_352 {l0 l1 l2 l3 : Value} {x : Int32} {h : mj_H} : mj_R 167 (352, [l0, l1, l2, l3], [.int x], h) = if (x == 0 || x == 1) = true then some (some (.int x), h) else none := mj_R_rz rfl rfl
set_option maxRecDepth 100000 in
theorem mq_167_353 {l0 l2 l3 : Value} {x : Nat} {st : List Value} {h : mj_H} : mj_R 167 (353, [l0, .ref x, l2, l3], st, h) = mj_R 167 (354, [l0, .ref x, l2, l3], .ref x :: st, h) := mj_R_next rfl rfl
set_option maxRecDepth 100000 in
theorem mq_167_354 {l0 l1 l2 l3 : Value} {a0 : Nat} {h : mj_H} : mj_R 167 (354, [l0, l1, l2, l3], [.ref a0], h) = if mj_isC h a0 6 = true then mj_bd (mj_C 69 [.ref a0] h) (fun r => mj_R 167 (357, [l0, l1, l2, l3], r.1.toList ++ [], r.2)) else none := mj_R_cv rfl rfl
set_option maxRecDepth 100000 in
theorem mq_167_357 {l0 l1 l3 : Value} {x : Nat} {st : List Value} {h : mj_H} : mj_R 167 (357, [l0, l1, .ref x, l3], st, h) = mj_R 167 (358, [l0, l1, .ref x, l3], .ref x :: st, h) := mj_R_next rfl rfl
set_option maxRecDepth 100000 in
theorem mq_167_358 {l0 l1 l2 l3 : Value} {a0 : Nat} {s0 : Value} {h : mj_H} : mj_R 167 (358, [l0, l1, l2, l3], [.ref a0, s0], h) = if mj_isC h a0 7 = true then mj_bd (mj_C 129 [.ref a0] h) (fun r => mj_R 167 (361, [l0, l1, l2, l3], r.1.toList ++ [s0], r.2)) else none := mj_R_cv rfl rfl
set_option maxRecDepth 100000 in
theorem mq_167_361 {l0 l1 l2 l3 : Value} {x y : Int32} {st : List Value} {h : mj_H} : mj_R 167 (361, [l0, l1, l2, l3], .int y :: .int x :: st, h) = if x = y then mj_R 167 (981, [l0, l1, l2, l3], st, h) else mj_R 167 (364, [l0, l1, l2, l3], st, h) := mj_R_jeq rfl
set_option maxRecDepth 100000 in
theorem mq_167_364 {l0 l1 l2 l3 : Value} {st : List Value} {h : mj_H} : mj_R 167 (364, [l0, l1, l2, l3], st, h) = mj_R 167 (365, [l0, l1, l2, l3], .int (nI 0) :: st, h) := mj_R_next rfl rfl
set_option maxRecDepth 100000 in
theorem mq_167_365 {l0 l1 l2 l3 : Value} {x : Int32} {h : mj_H} : mj_R 167 (365, [l0, l1, l2, l3], [.int x], h) = if (x == 0 || x == 1) = true then some (some (.int x), h) else none := mj_R_rz rfl rfl
set_option maxRecDepth 100000 in
theorem mq_167_366 {l0 l2 l3 : Value} {x : Nat} {st : List Value} {h : mj_H} : mj_R 167 (366, [l0, .ref x, l2, l3], st, h) = mj_R 167 (367, [l0, .ref x, l2, l3], .ref x :: st, h) := mj_R_next rfl rfl
set_option maxRecDepth 100000 in
theorem mq_167_367 {l0 l1 l2 l3 : Value} {a0 : Nat} {h : mj_H} : mj_R 167 (367, [l0, l1, l2, l3], [.ref a0], h) = if mj_isC h a0 6 = true then mj_bd (mj_C 70 [.ref a0] h) (fun r => mj_R 167 (370, [l0, l1, l2, l3], r.1.toList ++ [], r.2)) else none := mj_R_cv rfl rfl
set_option maxRecDepth 100000 in
theorem mq_167_370 {l0 l1 l3 : Value} {x : Nat} {st : List Value} {h : mj_H} : mj_R 167 (370, [l0, l1, .ref x, l3], st, h) = mj_R 167 (371, [l0, l1, .ref x, l3], .ref x :: st, h) := mj_R_next rfl rfl
set_option maxRecDepth 100000 in
theorem mq_167_371 {l0 l1 l2 l3 : Value} {a0 : Nat} {s0 : Value} {h : mj_H} : mj_R 167 (371, [l0, l1, l2, l3], [.ref a0, s0], h) = if mj_isC h a0 7 = true then mj_bd (mj_C 131 [.ref a0] h) (fun r => mj_R 167 (374, [l0, l1, l2, l3], r.1.toList ++ [s0], r.2)) else none := mj_R_cv rfl rfl
set_option maxRecDepth 100000 in
theorem mq_167_374 {l0 l1 l2 l3 : Value} {x y : Int32} {st : List Value} {h : mj_H} : mj_R 167 (374, [l0, l1, l2, l3], .int y :: .int x :: st, h) = if x = y then mj_R 167 (981, [l0, l1, l2, l3], st, h) else mj_R 167 (377, [l0, l1, l2, l3], st, h) := mj_R_jeq rfl
set_option maxRecDepth 100000 in
theorem mq_167_377 {l0 l1 l2 l3 : Value} {st : List Value} {h : mj_H} : mj_R 167 (377, [l0, l1, l2, l3], st, h) = mj_R 167 (378, [l0, l1, l2, l3], .int (nI 0) :: st, h) := mj_R_next rfl rfl
set_option maxRecDepth 100000 in
theorem mq_167_378 {l0 l1 l2 l3 : Value} {x : Int32} {h : mj_H} : mj_R 167 (378, [l0, l1, l2, l3], [.int x], h) = if (x == 0 || x == 1) = true then some (some (.int x), h) else none := mj_R_rz rfl rfl
set_option maxRecDepth 100000 in
theorem mq_167_379 {l0 l2 l3 : Value} {x : Nat} {st : List Value} {h : mj_H} : mj_R 167 (379, [l0, .ref x, l2, l3], st, h) = mj_R 167 (380, [l0, .ref x, l2, l3], .ref x :: st, h) := mj_R_next rfl rfl
set_option maxRecDepth 100000 in
theorem mq_167_380 {l0 l1 l2 l3 : Value} {a0 : Nat} {h : mj_H} : mj_R 167 (380, [l0, l1, l2, l3], [.ref a0], h) = if mj_isC h a0 6 = true then mj_bd (mj_C 71 [.ref a0] h) (fun r => mj_R 167 (383, [l0, l1, l2, l3], r.1.toList ++ [], r.2)) else none := mj_R_cv rfl rfl
set_option maxRecDepth 100000 in
theorem mq_167_383 {l0 l1 l3 : Value} {x : Nat} {st : List Value} {h : mj_H} : mj_R 167 (383, [l0, l1, .ref x, l3], st, h) = mj_R 167 (384, [l0, l1, .ref x, l3], .ref x :: st, h) := mj_R_next rfl rfl
set_option maxRecDepth 100000 in
theorem mq_167_384 {l0 l1 l2 l3 : Value} {a0 : Nat} {s0 : Value} {h : mj_H} : mj_R 167 (384, [l0, l1, l2, l3], [.ref a0, s0], h) = if mj_isC h a0 7 = true then mj_bd (mj_C 134 [.ref a0] h) (fun r => mj_R 167 (387, [l0, l1, l2, l3], r.1.toList ++ [s0], r.2)) else none := mj_R_cv rfl rfl
set_option maxRecDepth 100000 in
theorem mq_167_387 {l0 l1 l2 l3 : Value} {x y : Int32} {st : List Value} {h : mj_H} : mj_R 167 (387, [l0, l1, l2, l3], .int y :: .int x :: st, h) = if x = y then mj_R 167 (981, [l0, l1, l2, l3], st, h) else mj_R 167 (390, [l0, l1, l2, l3], st, h) := mj_R_jeq rfl
set_option maxRecDepth 100000 in
theorem mq_167_390 {l0 l1 l2 l3 : Value} {st : List Value} {h : mj_H} : mj_R 167 (390, [l0, l1, l2, l3], st, h) = mj_R 167 (391, [l0, l1, l2, l3], .int (nI 0) :: st, h) := mj_R_next rfl rfl
set_option maxRecDepth 100000 in
theorem mq_167_391 {l0 l1 l2 l3 : Value} {x : Int32} {h : mj_H} : mj_R 167 (391, [l0, l1, l2, l3], [.int x], h) = if (x == 0 || x == 1) = true then some (some (.int x), h) else none := mj_R_rz rfl rfl
set_option maxRecDepth 100000 in
theorem mq_167_392 {l0 l2 l3 : Value} {x : Nat} {st : List Value} {h : mj_H} : mj_R 167 (392, [l0, .ref x, l2, l3], st, h) = mj_R 167 (393, [l0, .ref x, l2, l3], .ref x :: st, h) := mj_R_next rfl rfl
set_option maxRecDepth 100000 in
theorem mq_167_393 {l1 l2 l3 : Value} {x : Nat} {st : List Value} {h : mj_H} : mj_R 167 (393, [.ref x, l1, l2, l3], st, h) = mj_R 167 (394, [.ref x, l1, l2, l3], .ref x :: st, h) := mj_R_next rfl rfl
set_option maxRecDepth 100000 in
theorem mq_167_394 {l0 l1 l2 : Value} {x : Int32} {st : List Value} {h : mj_H} : mj_R 167 (394, [l0, l1, l2, .int x], st, h) = mj_R 167 (395, [l0, l1, l2, .int x], .int x :: st, h) := mj_R_next rfl rfl
set_option maxRecDepth 100000 in
theorem mq_167_395 {l0 l1 l2 l3 : Value} {st : List Value} {h : mj_H} : mj_R 167 (395, [l0, l1, l2, l3], st, h) = mj_R 167 (396, [l0, l1, l2, l3], .int (nI 1) :: st, h) := mj_R_next rfl rfl
set_option maxRecDepth 100000 in
theorem mq_167_396 {l0 l1 l2 l3 : Value} {x y : Int32} {st : List Value} {h : mj_H} : mj_R 167 (396, [l0, l1, l2, l3], .int y :: .int x :: st, h) = mj_R 167 (397, [l0, l1, l2, l3], .int (x + y) :: st, h) := mj_R_next rfl rfl
set_option maxRecDepth 100000 in
theorem mq_167_397 {l0 l1 l2 l3 : Value} {x : Nat} {j : Int32} {st : List Value} {h : mj_H} : mj_R 167 (397, [l0, l1, l2, l3], .int j :: .ref x :: st, h) = mj_bd (mj_gi h x j) (fun v => mj_R 167 (398, [l0, l1, l2, l3], .int v :: st, h)) := mj_R_gi rfl
set_option maxRecDepth 100000 in
theorem mq_167_398 {l1 l2 l3 : Value} {x : Nat} {st : List Value} {h : mj_H} : mj_R 167 (398, [.ref x, l1, l2, l3], st, h) = mj_R 167 (399, [.ref x, l1, l2, l3], .ref x :: st, h) := mj_R_next rfl rfl
set_option maxRecDepth 100000 in
theorem mq_167_399 {l0 l1 l2 : Value} {x : Int32} {st : List Value} {h : mj_H} : mj_R 167 (399, [l0, l1, l2, .int x], st, h) = mj_R 167 (400, [l0, l1, l2, .int x], .int x :: st, h) := mj_R_next rfl rfl
set_option maxRecDepth 100000 in
theorem mq_167_400 {l0 l1 l2 l3 : Value} {st : List Value} {h : mj_H} : mj_R 167 (400, [l0, l1, l2, l3], st, h) = mj_R 167 (401, [l0, l1, l2, l3], .int (nI 2) :: st, h) := mj_R_next rfl rfl
set_option maxRecDepth 100000 in
theorem mq_167_401 {l0 l1 l2 l3 : Value} {x y : Int32} {st : List Value} {h : mj_H} : mj_R 167 (401, [l0, l1, l2, l3], .int y :: .int x :: st, h) = mj_R 167 (402, [l0, l1, l2, l3], .int (x + y) :: st, h) := mj_R_next rfl rfl
set_option maxRecDepth 100000 in
theorem mq_167_402 {l0 l1 l2 l3 : Value} {x : Nat} {j : Int32} {st : List Value} {h : mj_H} : mj_R 167 (402, [l0, l1, l2, l3], .int j :: .ref x :: st, h) = mj_bd (mj_gi h x j) (fun v => mj_R 167 (403, [l0, l1, l2, l3], .int v :: st, h)) := mj_R_gi rfl
set_option maxRecDepth 100000 in
theorem mq_167_403 {l0 l1 l2 l3 : Value} {a0 : Nat} {a1 : Int32} {a2 : Int32} {h : mj_H} : mj_R 167 (403, [l0, l1, l2, l3], [.int a2, .int a1, .ref a0], h) = if mj_isC h a0 6 = true then mj_bd (mj_C 72 [.ref a0, .int a1, .int a2] h) (fun r => mj_R 167 (406, [l0, l1, l2, l3], r.1.toList ++ [], r.2)) else none := mj_R_cv rfl rfl
set_option maxRecDepth 100000 in
theorem mq_167_406 {l0 l1 l3 : Value} {x : Nat} {st : List Value} {h : mj_H} : mj_R 167 (406, [l0, l1, .ref x, l3], st, h) = mj_R 167 (407, [l0, l1, .ref x, l3], .ref x :: st, h) := mj_R_next rfl rfl
set_option maxRecDepth 100000 in
theorem mq_167_407 {l1 l2 l3 : Value} {x : Nat} {st : List Value} {h : mj_H} : mj_R 167 (407, [.ref x, l1, l2, l3], st, h) = mj_R 167 (408, [.ref x, l1, l2, l3], .ref x :: st, h) := mj_R_next rfl rfl
set_option maxRecDepth 100000 in
theorem mq_167_408 {l0 l1 l2 : Value} {x : Int32} {st : List Value} {h : mj_H} : mj_R 167 (408, [l0, l1, l2, .int x], st, h) = mj_R 167 (409, [l0, l1, l2, .int x], .int x :: st, h) := mj_R_next rfl rfl
set_option maxRecDepth 100000 in
theorem mq_167_409 {l0 l1 l2 l3 : Value} {st : List Value} {h : mj_H} : mj_R 167 (409, [l0, l1, l2, l3], st, h) = mj_R 167 (410, [l0, l1, l2, l3], .int (nI 1) :: st, h) := mj_R_next rfl rfl
set_option maxRecDepth 100000 in
theorem mq_167_410 {l0 l1 l2 l3 : Value} {x y : Int32} {st : List Value} {h : mj_H} : mj_R 167 (410, [l0, l1, l2, l3], .int y :: .int x :: st, h) = mj_R 167 (411, [l0, l1, l2, l3], .int (x + y) :: st, h) := mj_R_next rfl rfl
set_option maxRecDepth 100000 in
theorem mq_167_411 {l0 l1 l2 l3 : Value} {x : Nat} {j : Int32} {st : List Value} {h : mj_H} : mj_R 167 (411, [l0, l1, l2, l3], .int j :: .ref x :: st, h) = mj_bd (mj_gi h x j) (fun v => mj_R 167 (412, [l0, l1, l2, l3], .int v :: st, h)) := mj_R_gi rfl
set_option maxRecDepth 100000 in
theorem mq_167_412 {l1 l2 l3 : Value} {x : Nat} {st : List Value} {h : mj_H} : mj_R 167 (412, [.ref x, l1, l2, l3], st, h) = mj_R 167 (413, [.ref x, l1, l2, l3], .ref x :: st, h) := mj_R_next rfl rfl
set_option maxRecDepth 100000 in
theorem mq_167_413 {l0 l1 l2 : Value} {x : Int32} {st : List Value} {h : mj_H} : mj_R 167 (413, [l0, l1, l2, .int x], st, h) = mj_R 167 (414, [l0, l1, l2, .int x], .int x :: st, h) := mj_R_next rfl rfl
set_option maxRecDepth 100000 in
theorem mq_167_414 {l0 l1 l2 l3 : Value} {st : List Value} {h : mj_H} : mj_R 167 (414, [l0, l1, l2, l3], st, h) = mj_R 167 (415, [l0, l1, l2, l3], .int (nI 2) :: st, h) := mj_R_next rfl rfl
set_option maxRecDepth 100000 in
theorem mq_167_415 {l0 l1 l2 l3 : Value} {x y : Int32} {st : List Value} {h : mj_H} : mj_R 167 (415, [l0, l1, l2, l3], .int y :: .int x :: st, h) = mj_R 167 (416, [l0, l1, l2, l3], .int (x + y) :: st, h) := mj_R_next rfl rfl
set_option maxRecDepth 100000 in
theorem mq_167_416 {l0 l1 l2 l3 : Value} {x : Nat} {j : Int32} {st : List Value} {h : mj_H} : mj_R 167 (416, [l0, l1, l2, l3], .int j :: .ref x :: st, h) = mj_bd (mj_gi h x j) (fun v => mj_R 167 (417, [l0, l1, l2, l3], .int v :: st, h)) := mj_R_gi rfl
set_option maxRecDepth 100000 in
theorem mq_167_417 {l0 l1 l2 l3 : Value} {a0 : Nat} {a1 : Int32} {a2 : Int32} {s0 : Value} {h : mj_H} : mj_R 167 (417, [l0, l1, l2, l3], [.int a2, .int a1, .ref a0, s0], h) = if mj_isC h a0 7 = true then mj_bd (mj_C 135 [.ref a0, .int a1, .int a2] h) (fun r => mj_R 167 (420, [l0, l1, l2, l3], r.1.toList ++ [s0], r.2)) else none := mj_R_cv rfl rfl
set_option maxRecDepth 100000 in
theorem mq_167_420 {l0 l1 l2 l3 : Value} {x y : Int32} {st : List Value} {h : mj_H} : mj_R 167 (420, [l0, l1, l2, l3], .int y :: .int x :: st, h) = if x = y then mj_R 167 (981, [l0, l1, l2, l3], st, h) else mj_R 167 (423, [l0, l1, l2, l3], st, h) := mj_R_jeq rfl
set_option maxRecDepth 100000 in
theorem mq_167_423 {l0 l1 l2 l3 : Value} {st : List Value} {h : mj_H} : mj_R 167 (423, [l0, l1, l2, l3], st, h) = mj_R 167 (424, [l0, l1, l2, l3], .int (nI 0) :: st, h) := mj_R_next rfl rfl
set_option maxRecDepth 100000 in
theorem mq_167_424 {l0 l1 l2 l3 : Value} {x : Int32} {h : mj_H} : mj_R 167 (424, [l0, l1, l2, l3], [.int x], h) = if (x == 0 || x == 1) = true then some (some (.int x), h) else none := mj_R_rz rfl rfl
set_option maxRecDepth 100000 in
theorem mq_167_425 {l0 l2 l3 : Value} {x : Nat} {st : List Value} {h : mj_H} : mj_R 167 (425, [l0, .ref x, l2, l3], st, h) = mj_R 167 (426, [l0, .ref x, l2, l3], .ref x :: st, h) := mj_R_next rfl rfl
set_option maxRecDepth 100000 in
theorem mq_167_426 {l1 l2 l3 : Value} {x : Nat} {st : List Value} {h : mj_H} : mj_R 167 (426, [.ref x, l1, l2, l3], st, h) = mj_R 167 (427, [.ref x, l1, l2, l3], .ref x :: st, h) := mj_R_next rfl rfl
set_option maxRecDepth 100000 in
theorem mq_167_427 {l0 l1 l2 : Value} {x : Int32} {st : List Value} {h : mj_H} : mj_R 167 (427, [l0, l1, l2, .int x], st, h) = mj_R 167 (428, [l0, l1, l2, .int x], .int x :: st, h) := mj_R_next rfl rfl
set_option maxRecDepth 100000 in
theorem mq_167_428 {l0 l1 l2 l3 : Value} {st : List Value} {h : mj_H} : mj_R 167 (428, [l0, l1, l2, l3], st, h) = mj_R 167 (429, [l0, l1, l2, l3], .int (nI 1) :: st, h) := mj_R_next rfl rfl
set_option maxRecDepth 100000 in
theorem mq_167_429 {l0 l1 l2 l3 : Value} {x y : Int32} {st : List Value} {h : mj_H} : mj_R 167 (429, [l0, l1, l2, l3], .int y :: .int x :: st, h) = mj_R 167 (430, [l0, l1, l2, l3], .int (x + y) :: st, h) := mj_R_next rfl rfl
set_option maxRecDepth 100000 in
theorem mq_167_430 {l0 l1 l2 l3 : Value} {x : Nat} {j : Int32} {st : List Value} {h : mj_H} : mj_R 167 (430, [l0, l1, l2, l3], .int j :: .ref x :: st, h) = mj_bd (mj_gi h x j) (fun v => mj_R 167 (431, [l0, l1, l2, l3], .int v :: st, h)) := mj_R_gi rfl
set_option maxRecDepth 100000 in
theorem mq_167_431 {l0 l1 l2 l3 : Value} {a0 : Nat} {a1 : Int32} {h : mj_H} : mj_R 167 (431, [l0, l1, l2, l3], [.int a1, .ref a0], h) = if mj_isC h a0 6 = true then mj_bd (mj_C 75 [.ref a0, .int a1] h) (fun r => mj_R 167 (434, [l0, l1, l2, l3], r.1.toList ++ [], r.2)) else none := mj_R_cv rfl rfl
set_option maxRecDepth 100000 in
theorem mq_167_434 {l0 l1 l3 : Value} {x : Nat} {st : List Value} {h : mj_H} : mj_R 167 (434, [l0, l1, .ref x, l3], st, h) = mj_R 167 (435, [l0, l1, .ref x, l3], .ref x :: st, h) := mj_R_next rfl rfl
set_option maxRecDepth 100000 in
theorem mq_167_435 {l1 l2 l3 : Value} {x : Nat} {st : List Value} {h : mj_H} : mj_R 167 (435, [.ref x, l1, l2, l3], st, h) = mj_R 167 (436, [.ref x, l1, l2, l3], .ref x :: st, h) := mj_R_next rfl rfl
set_option maxRecDepth 100000 in
theorem mq_167_436 {l0 l1 l2 : Value} {x : Int32} {st : List Value} {h : mj_H} : mj_R 167 (436, [l0, l1, l2, .int x], st, h) = mj_R 167 (437, [l0, l1, l2, .int x], .int x :: st, h) := mj_R_next rfl rfl
set_option maxRecDepth 100000 in
theorem mq_167_437 {l0 l1 l2 l3 : Value} {st : List Value} {h : mj_H} : mj_R 167 (437, [l0, l1, l2, l3], st, h) = mj_R 167 (438, [l0, l1, l2, l3], .int (nI 1) :: st, h) := mj_R_next rfl rfl
set_option maxRecDepth 100000 in
theorem mq_167_438 {l0 l1 l2 l3 : Value} {x y : Int32} {st : List Value} {h : mj_H} : mj_R 167 (438, [l0, l1, l2, l3], .int y :: .int x :: st, h) = mj_R 167 (439, [l0, l1, l2, l3], .int (x + y) :: st, h) := mj_R_next rfl rfl
set_option maxRecDepth 100000 in
theorem mq_167_439 {l0 l1 l2 l3 : Value} {x : Nat} {j : Int32} {st : List Value} {h : mj_H} : mj_R 167 (439, [l0, l1, l2, l3], .int j :: .ref x :: st, h) = mj_bd (mj_gi h x j) (fun v => mj_R 167 (440, [l0, l1, l2, l3], .int v :: st, h)) := mj_R_gi rfl
set_option maxRecDepth 100000 in
theorem mq_167_440 {l0 l1 l2 l3 : Value} {a0 : Nat} {a1 : Int32} {s0 : Value} {h : mj_H} : mj_R 167 (440, [l0, l1, l2, l3], [.int a1, .ref a0, s0], h) = if mj_isC h a0 7 = true then mj_bd (mj_C 139 [.ref a0, .int a1] h) (fun r => mj_R 167 (443, [l0, l1, l2, l3], r.1.toList ++ [s0], r.2)) else none := mj_R_cv rfl rfl
set_option maxRecDepth 100000 in
theorem mq_167_443 {l0 l1 l2 l3 : Value} {x y : Int32} {st : List Value} {h : mj_H} : mj_R 167 (443, [l0, l1, l2, l3], .int y :: .int x :: st, h) = if x = y then mj_R 167 (981, [l0, l1, l2, l3], st, h) else mj_R 167 (446, [l0, l1, l2, l3], st, h) := mj_R_jeq rfl
set_option maxRecDepth 100000 in
theorem mq_167_446 {l0 l1 l2 l3 : Value} {st : List Value} {h : mj_H} : mj_R 167 (446, [l0, l1, l2, l3], st, h) = mj_R 167 (447, [l0, l1, l2, l3], .int (nI 0) :: st, h) := mj_R_next rfl rfl
set_option maxRecDepth 100000 in
theorem mq_167_447 {l0 l1 l2 l3 : Value} {x : Int32} {h : mj_H} : mj_R 167 (447, [l0, l1, l2, l3], [.int x], h) = if (x == 0 || x == 1) = true then some (some (.int x), h) else none := mj_R_rz rfl rfl
set_option maxRecDepth 100000 in
theorem mq_167_448 {l0 l2 l3 : Value} {x : Nat} {st : List Value} {h : mj_H} : mj_R 167 (448, [l0, .ref x, l2, l3], st, h) = mj_R 167 (449, [l0, .ref x, l2, l3], .ref x :: st, h) := mj_R_next rfl rfl
set_option maxRecDepth 100000 in
theorem mq_167_449 {l1 l2 l3 : Value} {x : Nat} {st : List Value} {h : mj_H} : mj_R 167 (449, [.ref x, l1, l2, l3], st, h) = mj_R 167 (450, [.ref x, l1, l2, l3], .ref x :: st, h) := mj_R_next rfl rfl
set_option maxRecDepth 100000 in
theorem mq_167_450 {l0 l1 l2 : Value} {x : Int32} {st : List Value} {h : mj_H} : mj_R 167 (450, [l0, l1, l2, .int x], st, h) = mj_R 167 (451, [l0, l1, l2, .int x], .int x :: st, h) := mj_R_next rfl rfl
set_option maxRecDepth 100000 in
theorem mq_167_451 {l0 l1 l2 l3 : Value} {st : List Value} {h : mj_H} : mj_R 167 (451, [l0, l1, l2, l3], st, h) = mj_R 167 (452, [l0, l1, l2, l3], .int (nI 1) :: st, h) := mj_R_next rfl rfl
set_option maxRecDepth 100000 in
theorem mq_167_452 {l0 l1 l2 l3 : Value} {x y : Int32} {st : List Value} {h : mj_H} : mj_R 167 (452, [l0, l1, l2, l3], .int y :: .int x :: st, h) = mj_R 167 (453, [l0, l1, l2, l3], .int (x + y) :: st, h) := mj_R_next rfl rfl
set_option maxRecDepth 100000 in
theorem mq_167_453 {l0 l1 l2 l3 : Value} {x : Nat} {j : Int32} {st : List Value} {h : mj_H} : mj_R 167 (453, [l0, l1, l2, l3], .int j :: .ref x :: st, h) = mj_bd (mj_gi h x j) (fun v => mj_R 167 (454, [l0, l1, l2, l3], .int v :: st, h)) := mj_R_gi rfl
set_option maxRecDepth 100000 in
theorem mq_167_454 {l0 l1 l2 l3 : Value} {a0 : Nat} {a1 : Int32} {h : mj_H} : mj_R 167 (454, [l0, l1, l2, l3], [.int a1, .ref a0], h) = if mj_isC h a0 6 = true then mj_bd (mj_C 76 [.ref a0, .int a1] h) (fun r => mj_R 167 (457, [l0, l1, l2, l3], r.1.toList ++ [], r.2)) else none := mj_R_cv rfl rfl
set_option maxRecDepth 100000 in
theorem mq_167_457 {l0 l1 l3 : Value} {x : Nat} {st : List Value} {h : mj_H} : mj_R 167 (457, [l0, l1, .ref x, l3], st, h) = mj_R 167 (458, [l0, l1, .ref x, l3], .ref x :: st, h) := mj_R_next rfl rfl
set_option maxRecDepth 100000 in
theorem mq_167_458 {l1 l2 l3 : Value} {x : Nat} {st : List Value} {h : mj_H} : mj_R 167 (458, [.ref x, l1, l2, l3], st, h) = mj_R 167 (459, [.ref x, l1, l2, l3], .ref x :: st, h) := mj_R_next rfl rfl
set_option maxRecDepth 100000 in
theorem mq_167_459 {l0 l1 l2 : Value} {x : Int32} {st : List Value} {h : mj_H} : mj_R 167 (459, [l0, l1, l2, .int x], st, h) = mj_R 167 (460, [l0, l1, l2, .int x], .int x :: st, h) := mj_R_next rfl rfl
set_option maxRecDepth 100000 in
theorem mq_167_460 {l0 l1 l2 l3 : Value} {st : List Value} {h : mj_H} : mj_R 167 (460, [l0, l1, l2, l3], st, h) = mj_R 167 (461, [l0, l1, l2, l3], .int (nI 1) :: st, h) := mj_R_next rfl rfl
set_option maxRecDepth 100000 in
theorem mq_167_461 {l0 l1 l2 l3 : Value} {x y : Int32} {st : List Value} {h : mj_H} : mj_R 167 (461, [l0, l1, l2, l3], .int y :: .int x :: st, h) = mj_R 167 (462, [l0, l1, l2, l3], .int (x + y) :: st, h) := mj_R_next rfl rfl
set_option maxRecDepth 100000 in
theorem mq_167_462 {l0 l1 l2 l3 : Value} {x : Nat} {j : Int32} {st : List Value} {h : mj_H} : mj_R 167 (462, [l0, l1, l2, l3], .int j :: .ref x :: st, h) = mj_bd (mj_gi h x j) (fun v => mj_R 167 (463, [l0, l1, l2, l3], .int v :: st, h)) := mj_R_gi rfl
set_option maxRecDepth 100000 in
theorem mq_167_463 {l0 l1 l2 l3 : Value} {a0 : Nat} {a1 : Int32} {s0 : Value} {h : mj_H} : mj_R 167 (463, [l0, l1, l2, l3], [.int a1, .ref a0, s0], h) = if mj_isC h a0 7 = true then mj_bd (mj_C 140 [.ref a0, .int a1] h) (fun r => mj_R 167 (466, [l0, l1, l2, l3], r.1.toList ++ [s0], r.2)) else none := mj_R_cv rfl rfl
set_option maxRecDepth 100000 in
theorem mq_167_466 {l0 l1 l2 l3 : Value} {x y : Int32} {st : List Value} {h : mj_H} : mj_R 167 (466, [l0, l1, l2, l3], .int y :: .int x :: st, h) = if x = y then mj_R 167 (981, [l0, l1, l2, l3], st, h) else mj_R 167 (469, [l0, l1, l2, l3], st, h) := mj_R_jeq rfl
set_option maxRecDepth 100000 in
theorem mq_167_469 {l0 l1 l2 l3 : Value} {st : List Value} {h : mj_H} : mj_R 167 (469, [l0, l1, l2, l3], st, h) = mj_R 167 (470, [l0, l1, l2, l3], .int (nI 0) :: st, h) := mj_R_next rfl rfl
set_option maxRecDepth 100000 in
theorem mq_167_470 {l0 l1 l2 l3 : Value} {x : Int32} {h : mj_H} : mj_R 167 (470, [l0, l1, l2, l3], [.int x], h) = if (x == 0 || x == 1) = true then some (some (.int x), h) else none := mj_R_rz rfl rfl
set_option maxRecDepth 100000 in
theorem mq_167_471 {l0 l2 l3 : Value} {x : Nat} {st : List Value} {h : mj_H} : mj_R 167 (471, [l0, .ref x, l2, l3], st, h) = mj_R 167 (472, [l0, .ref x, l2, l3], .ref x :: st, h) := mj_R_next rfl rfl
set_option maxRecDepth 100000 in
theorem mq_167_472 {l1 l2 l3 : Value} {x : Nat} {st : List Value} {h : mj_H} : mj_R 167 (472, [.ref x, l1, l2, l3], st, h) = mj_R 167 (473, [.ref x, l1, l2, l3], .ref x :: st, h) := mj_R_next rfl rfl
set_option maxRecDepth 100000 in
theorem mq_167_473 {l0 l1 l2 : Value} {x : Int32} {st : List Value} {h : mj_H} : mj_R 167 (473, [l0, l1, l2, .int x], st, h) = mj_R 167 (474, [l0, l1, l2, .int x], .int x :: st, h) := mj_R_next rfl rfl
set_option maxRecDepth 100000 in
theorem mq_167_474 {l0 l1 l2 l3 : Value} {st : List Value} {h : mj_H} : mj_R 167 (474, [l0, l1, l2, l3], st, h) = mj_R 167 (475, [l0, l1, l2, l3], .int (nI 1) :: st, h) := mj_R_next rfl rfl
set_option maxRecDepth 100000 in
theorem mq_167_475 {l0 l1 l2 l3 : Value} {x y : Int32} {st : List Value} {h : mj_H} : mj_R 167 (475, [l0, l1, l2, l3], .int y :: .int x :: st, h) = mj_R 167 (476, [l0, l1, l2, l3], .int (x + y) :: st, h) := mj_R_next rfl rfl
set_option maxRecDepth 100000 in
theorem mq_167_476 {l0 l1 l2 l3 : Value} {x : Nat} {j : Int32} {st : List Value} {h : mj_H} : mj_R 167 (476, [l0, l1, l2, l3], .int j :: .ref x :: st, h) = mj_bd (mj_gi h x j) (fun v => mj_R 167 (477, [l0, l1, l2, l3], .int v :: st, h)) := mj_R_gi rfl
set_option maxRecDepth 100000 in
theorem mq_167_477 {l1 l2 l3 : Value} {x : Nat} {st : List Value} {h : mj_H} : mj_R 167 (477, [.ref x, l1, l2, l3], st, h) = mj_R 167 (478, [.ref x, l1, l2, l3], .ref x :: st, h) := mj_R_next rfl rfl
set_option maxRecDepth 100000 in
theorem mq_167_478 {l0 l1 l2 : Value} {x : Int32} {st : List Value} {h : mj_H} : mj_R 167 (478, [l0, l1, l2, .int x], st, h) = mj_R 167 (479, [l0, l1, l2, .int x], .int x :: st, h) := mj_R_next rfl rfl
set_option maxRecDepth 100000 in
theorem mq_167_479 {l0 l1 l2 l3 : Value} {st : List Value} {h : mj_H} : mj_R 167 (479, [l0, l1, l2, l3], st, h) = mj_R 167 (480, [l0, l1, l2, l3], .int (nI 2) :: st, h) := mj_R_next rfl rfl
set_option maxRecDepth 100000 in
theorem mq_167_480 {l0 l1 l2 l3 : Value} {x y : Int32} {st : List Value} {h : mj_H} : mj_R 167 (480, [l0, l1, l2, l3], .int y :: .int x :: st, h) = mj_R 167 (481, [l0, l1, l2, l3], .int (x + y) :: st, h) := mj_R_next rfl rfl
set_option maxRecDepth 100000 in
theorem mq_167_481 {l0 l1 l2 l3 : Value} {x : Nat} {j : Int32} {st : List Value} {h : mj_H} : mj_R 167 (481, [l0, l1, l2, l3], .int j :: .ref x :: st, h) = mj_bd (mj_gi h x j) (fun v => mj_R 167 (482, [l0, l1, l2, l3], .int v :: st, h)) := mj_R_gi rfl
set_option maxRecDepth 100000 in
theorem mq_167_482 {l0 l1 l2 l3 : Value} {a0 : Nat} {a1 : Int32} {a2 : Int32} {h : mj_H} : mj_R 167 (482, [l0, l1, l2, l3], [.int a2, .int a1, .ref a0], h) = if mj_isC h a0 6 = true then mj_bd (mj_C 77 [.ref a0, .int a1, .int a2] h) (fun r => mj_R 167 (485, [l0, l1, l2, l3], r.1.toList ++ [], r.2)) else none := mj_R_cv rfl rfl
set_option maxRecDepth 100000 in
theorem mq_167_485 {l0 l1 l3 : Value} {x : Nat} {st : List Value} {h : mj_H} : mj_R 167 (485, [l0, l1, .ref x, l3], st, h) = mj_R 167 (486, [l0, l1, .ref x, l3], .ref x :: st, h) := mj_R_next rfl rfl
set_option maxRecDepth 100000 in
theorem mq_167_486 {l1 l2 l3 : Value} {x : Nat} {st : List Value} {h : mj_H} : mj_R 167 (486, [.ref x, l1, l2, l3], st, h) = mj_R 167 (487, [.ref x, l1, l2, l3], .ref x :: st, h) := mj_R_next rfl rfl
set_option maxRecDepth 100000 in
theorem mq_167_487 {l0 l1 l2 : Value} {x : Int32} {st : List Value} {h : mj_H} : mj_R 167 (487, [l0, l1, l2, .int x], st, h) = mj_R 167 (488, [l0, l1, l2, .int x], .int x :: st, h) := mj_R_next rfl rfl
set_option maxRecDepth 100000 in
theorem mq_167_488 {l0 l1 l2 l3 : Value} {st : List Value} {h : mj_H} : mj_R 167 (488, [l0, l1, l2, l3], st, h) = mj_R 167 (489, [l0, l1, l2, l3], .int (nI 1) :: st, h) := mj_R_next rfl rfl
set_option maxRecDepth 100000 in
theorem mq_167_489 {l0 l1 l2 l3 : Value} {x y : Int32} {st : List Value} {h : mj_H} : mj_R 167 (489, [l0, l1, l2, l3], .int y :: .int x :: st, h) = mj_R 167 (490, [l0, l1, l2, l3], .int (x + y) :: st, h) := mj_R_next rfl rfl
set_option maxRecDepth 100000 in
theorem mq_167_490 {l0 l1 l2 l3 : Value} {x : Nat} {j : Int32} {st : List Value} {h : mj_H} : mj_R 167 (490, [l0, l1, l2, l3], .int j :: .ref x :: st, h) = mj_bd (mj_gi h x j) (fun v => mj_R 167 (491, [l0, l1, l2, l3], .int v :: st, h)) := mj_R_gi rfl
set_option maxRecDepth 100000 in
theorem mq_167_491 {l1 l2 l3 : Value} {x : Nat} {st : List Value} {h : mj_H} : mj_R 167 (491, [.ref x, l1, l2, l3], st, h) = mj_R 167 (492, [.ref x, l1, l2, l3], .ref x :: st, h) := mj_R_next rfl rfl
set_option maxRecDepth 100000 in
theorem mq_167_492 {l0 l1 l2 : Value} {x : Int32} {st : List Value} {h : mj_H} : mj_R 167 (492, [l0, l1, l2, .int x], st, h) = mj_R 167 (493, [l0, l1, l2, .int x], .int x :: st, h) := mj_R_next rfl rfl
set_option maxRecDepth 100000 in
theorem mq_167_493 {l0 l1 l2 l3 : Value} {st : List Value} {h : mj_H} : mj_R 167 (493, [l0, l1, l2, l3], st, h) = mj_R 167 (494, [l0, l1, l2, l3], .int (nI 2) :: st, h) := mj_R_next rfl rfl
set_option maxRecDepth 100000 in
theorem mq_167_494 {l0 l1 l2 l3 : Value} {x y : Int32} {st : List Value} {h : mj_H} : mj_R 167 (494, [l0, l1, l2, l3], .int y :: .int x :: st, h) = mj_R 167 (495, [l0, l1, l2, l3], .int (x + y) :: st, h) := mj_R_next rfl rfl
set_option maxRecDepth 100000 in
theorem mq_167_495 {l0 l1 l2 l3 : Value} {x : Nat} {j : Int32} {st : List Value} {h : mj_H} : mj_R 167 (495, [l0, l1, l2, l3], .int j :: .ref x :: st, h) = mj_bd (mj_gi h x j) (fun v => mj_R 167 (496, [l0, l1, l2, l3], .int v :: st, h)) := mj_R_gi rfl
set_option maxRecDepth 100000 in
theorem mq_167_496 {l0 l1 l2 l3 : Value} {a0 : Nat} {a1 : Int32} {a2 : Int32} {s0 : Value} {h : mj_H} : mj_R 167 (496, [l0, l1, l2, l3], [.int a2, .int a1, .ref a0, s0], h) = if mj_isC h a0 7 = true then mj_bd (mj_C 141 [.ref a0, .int a1, .int a2] h) (fun r => mj_R 167 (499, [l0, l1, l2, l3], r.1.toList ++ [s0], r.2)) else none := mj_R_cv rfl rfl
set_option maxRecDepth 100000 in
theorem mq_167_499 {l0 l1 l2 l3 : Value} {x y : Int32} {st : List Value} {h : mj_H} : mj_R 167 (499, [l0, l1, l2, l3], .int y :: .int x :: st, h) = if x = y then mj_R 167 (981, [l0, l1, l2, l3], st, h) else mj_R 167 (502, [l0, l1, l2, l3], st, h) := mj_R_jeq rfl
set_option maxRecDepth 100000 in
theorem mq_167_502 {l0 l1 l2 l3 : Value} {st : List Value} {h : mj_H} : mj_R 167 (502, [l0, l1, l2, l3], st, h) = mj_R 167 (503, [l0, l1, l2, l3], .int (nI 0) :: st, h) := mj_R_next rfl rfl
set_option maxRecDepth 100000 in
theorem mq_167_503 {l0 l1 l2 l3 : Value} {x : Int32} {h : mj_H} : mj_R 167 (503, [l0, l1, l2, l3], [.int x], h) = if (x == 0 || x == 1) = true then some (some (.int x), h) else none := mj_R_rz rfl rfl
set_option maxRecDepth 100000 in
theorem mq_167_504 {l0 l2 l3 : Value} {x : Nat} {st : List Value} {h : mj_H} : mj_R 167 (504, [l0, .ref x, l2, l3], st, h) = mj_R 167 (505, [l0, .ref x, l2, l3], .ref x :: st, h) := mj_R_next rfl rfl
set_option maxRecDepth 100000 in
theorem mq_167_505 {l1 l2 l3 : Value} {x : Nat} {st : List Value} {h : mj_H} : mj_R 167 (505, [.ref x, l1, l2, l3], st, h) = mj_R 167 (506, [.ref x, l1, l2, l3], .ref x :: st, h) := mj_R_next rfl rfl
set_option maxRecDepth 100000 in
theorem mq_167_506 {l0 l1 l2 : Value} {x : Int32} {st : List Value} {h : mj_H} : mj_R 167 (506, [l0, l1, l2, .int x], st, h) = mj_R 167 (507, [l0, l1, l2, .int x], .int x :: st, h) := mj_R_next rfl rfl
set_option maxRecDepth 100000 in
theorem mq_167_507 {l0 l1 l2 l3 : Value} {st : List Value} {h : mj_H} : mj_R 167 (507, [l0, l1, l2, l3], st, h) = mj_R 167 (508, [l0, l1, l2, l3], .int (nI 1) :: st, h) := mj_R_next rfl rfl
set_option maxRecDepth 100000 in
theorem mq_167_508 {l0 l1 l2 l3 : Value} {x y : Int32} {st : List Value} {h : mj_H} : mj_R 167 (508, [l0, l1, l2, l3], .int y :: .int x :: st, h) = mj_R 167 (509, [l0, l1, l2, l3], .int (x + y) :: st, h) := mj_R_next rfl rfl
set_option maxRecDepth 100000 in
theorem mq_167_509 {l0 l1 l2 l3 : Value} {x : Nat} {j : Int32} {st : List Value} {h : mj_H} : mj_R 167 (509, [l0, l1, l2, l3], .int j :: .ref x :: st, h) = mj_bd (mj_gi h x j) (fun v => mj_R 167 (510, [l0, l1, l2, l3], .int v :: st, h)) := mj_R_gi rfl
set_option maxRecDepth 100000 in
theorem mq_167_510 {l0 l1 l2 l3 : Value} {a0 : Nat} {a1 : Int32} {h : mj_H} : mj_R 167 (510, [l0, l1, l2, l3], [.int a1, .ref a0], h) = if mj_isC h a0 6 = true then mj_bd (mj_C 79 [.ref a0, .int a1] h) (fun r => mj_R 167 (513, [l0, l1, l2, l3], r.1.toList ++ [], r.2)) else none := mj_R_cv rfl rfl
set_option maxRecDepth 100000 in
theorem mq_167_513 {l0 l1 l3 : Value} {x : Nat} {st : List Value} {h : mj_H} : mj_R 167 (513, [l0, l1, .ref x, l3], st, h) = mj_R 167 (514, [l0, l1, .ref x, l3], .ref x :: st, h) := mj_R_next rfl rfl
set_option maxRecDepth 100000 in
theorem mq_167_514 {l1 l2 l3 : Value} {x : Nat} {st : List Value} {h : mj_H} : mj_R 167 (514, [.ref x, l1, l2, l3], st, h) = mj_R 167 (515, [.ref x, l1, l2, l3], .ref x :: st, h) := mj_R_next rfl rfl
set_option maxRecDepth 100000 in
theorem mq_167_515 {l0 l1 l2 : Value} {x : Int32} {st : List Value} {h : mj_H} : mj_R 167 (515, [l0, l1, l2, .int x], st, h) = mj_R 167 (516, [l0, l1, l2, .int x], .int x :: st, h) := mj_R_next rfl rfl
set_option maxRecDepth 100000 in
theorem mq_167_516 {l0 l1 l2 l3 : Value} {st : List Value} {h : mj_H} : mj_R 167 (516, [l0, l1, l2, l3], st, h) = mj_R 167 (517, [l0, l1, l2, l3], .int (nI 1) :: st, h) := mj_R_next rfl rfl
set_option maxRecDepth 100000 in
theorem mq_167_517 {l0 l1 l2 l3 : Value} {x y : Int32} {st : List Value} {h : mj_H} : mj_R 167 (517, [l0, l1, l2, l3], .int y :: .int x :: st, h) = mj_R 167 (518, [l0, l1, l2, l3], .int (x + y) :: st, h) := mj_R_next rfl rfl
set_option maxRecDepth 100000 in
theorem mq_167_518 {l0 l1 l2 l3 : Value} {x : Nat} {j : Int32} {st : List Value} {h : mj_H} : mj_R 167 (518, [l0, l1, l2, l3], .int j :: .ref x :: st, h) = mj_bd (mj_gi h x j) (fun v => mj_R 167 (519, [l0, l1, l2, l3], .int v :: st, h)) := mj_R_gi rfl
set_option maxRecDepth 100000 in
theorem mq_167_519 {l0 l1 l2 l3 : Value} {a0 : Nat} {a1 : Int32} {s0 : Value} {h : mj_H} : mj_R 167 (519, [l0, l1, l2, l3], [.int a1, .ref a0, s0], h) = if mj_isC h a0 7 = true then mj_bd (mj_C 143 [.ref a0, .int a1] h) (fun r => mj_R 167 (522, [l0, l1, l2, l3], r.1.toList ++ [s0], r.2)) else none := mj_R_cv rfl rfl
set_option maxRecDepth 100000 in
theorem mq_167_522 {l0 l1 l2 l3 : Value} {x y : Int32} {st : List Value} {h : mj_H} : mj_R 167 (522, [l0, l1, l2, l3], .int y :: .int x :: st, h) = if x = y then mj_R 167 (981, [l0, l1, l2, l3], st, h) else mj_R 167 (525, [l0, l1, l2, l3], st, h) := mj_R_jeq rfl
set_option maxRecDepth 100000 in
theorem mq_167_525 {l0 l1 l2 l3 : Value} {st : List Value} {h : mj_H} : mj_R 167 (525, [l0, l1, l2, l3], st, h) = mj_R 167 (526, [l0, l1, l2, l3], .int (nI 0) :: st, h) := mj_R_next rfl rfl
set_option maxRecDepth 100000 in
theorem mq_167_526 {l0 l1 l2 l3 : Value} {x : Int32} {h : mj_H} : mj_R 167 (526, [l0, l1, l2, l3], [.int x], h) = if (x == 0 || x == 1) = true then some (some (.int x), h) else none := mj_R_rz rfl rfl
set_option maxRecDepth 100000 in
theorem mq_167_527 {l0 l2 l3 : Value} {x : Nat} {st : List Value} {h : mj_H} : mj_R 167 (527, [l0, .ref x, l2, l3], st, h) = mj_R 167 (528, [l0, .ref x, l2, l3], .ref x :: st, h) := mj_R_next rfl rfl
set_option maxRecDepth 100000 in
theorem mq_167_528 {l0 l1 l2 l3 : Value} {a0 : Nat} {h : mj_H} : mj_R 167 (528, [l0, l1, l2, l3], [.ref a0], h) = if mj_isC h a0 6 = true then mj_bd (mj_C 80 [.ref a0] h) (fun r => mj_R 167 (531, [l0, l1, l2, l3], r.1.toList ++ [], r.2)) else none := mj_R_cv rfl rfl
set_option maxRecDepth 100000 in
theorem mq_167_531 {l0 l1 l3 : Value} {x : Nat} {st : List Value} {h : mj_H} : mj_R 167 (531, [l0, l1, .ref x, l3], st, h) = mj_R 167 (532, [l0, l1, .ref x, l3], .ref x :: st, h) := mj_R_next rfl rfl
set_option maxRecDepth 100000 in
theorem mq_167_532 {l0 l1 l2 l3 : Value} {a0 : Nat} {s0 : Value} {h : mj_H} : mj_R 167 (532, [l0, l1, l2, l3], [.ref a0, s0], h) = if mj_isC h a0 7 = true then mj_bd (mj_C 146 [.ref a0] h) (fun r => mj_R 167 (535, [l0, l1, l2, l3], r.1.toList ++ [s0], r.2)) else none := mj_R_cv rfl rfl
set_option maxRecDepth 100000 in
theorem mq_167_535 {l0 l1 l2 l3 : Value} {x y : Int32} {st : List Value} {h : mj_H} : mj_R 167 (535, [l0, l1, l2, l3], .int y :: .int x :: st, h) = if x = y then mj_R 167 (981, [l0, l1, l2, l3], st, h) else mj_R 167 (538, [l0, l1, l2, l3], st, h) := mj_R_jeq rfl
set_option maxRecDepth 100000 in
theorem mq_167_538 {l0 l1 l2 l3 : Value} {st : List Value} {h : mj_H} : mj_R 167 (538, [l0, l1, l2, l3], st, h) = mj_R 167 (539, [l0, l1, l2, l3], .int (nI 0) :: st, h) := mj_R_next rfl rfl
set_option maxRecDepth 100000 in
theorem mq_167_539 {l0 l1 l2 l3 : Value} {x : Int32} {h : mj_H} : mj_R 167 (539, [l0, l1, l2, l3], [.int x], h) = if (x == 0 || x == 1) = true then some (some (.int x), h) else none := mj_R_rz rfl rfl
set_option maxRecDepth 100000 in
theorem mq_167_540 {l0 l2 l3 : Value} {x : Nat} {st : List Value} {h : mj_H} : mj_R 167 (540, [l0, .ref x, l2, l3], st, h) = mj_R 167 (541, [l0, .ref x, l2, l3], .ref x :: st, h) := mj_R_next rfl rfl
set_option maxRecDepth 100000 in
theorem mq_167_541 {l0 l1 l2 l3 : Value} {a0 : Nat} {h : mj_H} : mj_R 167 (541, [l0, l1, l2, l3], [.ref a0], h) = if mj_isC h a0 6 = true then mj_bd (mj_C 81 [.ref a0] h) (fun r => mj_R 167 (544, [l0, l1, l2, l3], r.1.toList ++ [], r.2)) else none := mj_R_cv rfl rfl
set_option maxRecDepth 100000 in
theorem mq_167_544 {l0 l1 l3 : Value} {x : Nat} {st : List Value} {h : mj_H} : mj_R 167 (544, [l0, l1, .ref x, l3], st, h) = mj_R 167 (545, [l0, l1, .ref x, l3], .ref x :: st, h) := mj_R_next rfl rfl
set_option maxRecDepth 100000 in
theorem mq_167_545 {l0 l1 l2 l3 : Value} {a0 : Nat} {s0 : Value} {h : mj_H} : mj_R 167 (545, [l0, l1, l2, l3], [.ref a0, s0], h) = if mj_isC h a0 7 = true then mj_bd (mj_C 147 [.ref a0] h) (fun r => mj_R 167 (548, [l0, l1, l2, l3], r.1.toList ++ [s0], r.2)) else none := mj_R_cv rfl rfl
set_option maxRecDepth 100000 in
theorem mq_167_548 {l0 l1 l2 l3 : Value} {x y : Int32} {st : List Value} {h : mj_H} : mj_R 167 (548, [l0, l1, l2, l3], .int y :: .int x :: st, h) = if x = y then mj_R 167 (981, [l0, l1, l2, l3], st, h) else mj_R 167 (551, [l0, l1, l2, l3], st, h) := mj_R_jeq rfl
set_option maxRecDepth 100000 in
theorem mq_167_551 {l0 l1 l2 l3 : Value} {st : List Value} {h : mj_H} : mj_R 167 (551, [l0, l1, l2, l3], st, h) = mj_R 167 (552, [l0, l1, l2, l3], .int (nI 0) :: st, h) := mj_R_next rfl rfl
set_option maxRecDepth 100000 in
theorem mq_167_552 {l0 l1 l2 l3 : Value} {x : Int32} {h : mj_H} : mj_R 167 (552, [l0, l1, l2, l3], [.int x], h) = if (x == 0 || x == 1) = true then some (some (.int x), h) else none := mj_R_rz rfl rfl
set_option maxRecDepth 100000 in
theorem mq_167_553 {l0 l2 l3 : Value} {x : Nat} {st : List Value} {h : mj_H} : mj_R 167 (553, [l0, .ref x, l2, l3], st, h) = mj_R 167 (554, [l0, .ref x, l2, l3], .ref x :: st, h) := mj_R_next rfl rfl
set_option maxRecDepth 100000 in
theorem mq_167_554 {l1 l2 l3 : Value} {x : Nat} {st : List Value} {h : mj_H} : mj_R 167 (554, [.ref x, l1, l2, l3], st, h) = mj_R 167 (555, [.ref x, l1, l2, l3], .ref x :: st, h) := mj_R_next rfl rfl
set_option maxRecDepth 100000 in
theorem mq_167_555 {l0 l1 l2 : Value} {x : Int32} {st : List Value} {h : mj_H} : mj_R 167 (555, [l0, l1, l2, .int x], st, h) = mj_R 167 (556, [l0, l1, l2, .int x], .int x :: st, h) := mj_R_next rfl rfl
set_option maxRecDepth 100000 in
theorem mq_167_556 {l0 l1 l2 l3 : Value} {st : List Value} {h : mj_H} : mj_R 167 (556, [l0, l1, l2, l3], st, h) = mj_R 167 (557, [l0, l1, l2, l3], .int (nI 1) :: st, h) := mj_R_next rfl rfl
set_option maxRecDepth 100000 in
theorem mq_167_557 {l0 l1 l2 l3 : Value} {x y : Int32} {st : List Value} {h : mj_H} : mj_R 167 (557, [l0, l1, l2, l3], .int y :: .int x :: st, h) = mj_R 167 (558, [l0, l1, l2, l3], .int (x + y) :: st, h) := mj_R_next rfl rfl
set_option maxRecDepth 100000 in
theorem mq_167_558 {l0 l1 l2 l3 : Value} {x : Nat} {j : Int32} {st : List Value} {h : mj_H} : mj_R 167 (558, [l0, l1, l2, l3], .int j :: .ref x :: st, h) = mj_bd (mj_gi h x j) (fun v => mj_R 167 (559, [l0, l1, l2, l3], .int v :: st, h)) := mj_R_gi rfl
set_option maxRecDepth 100000 in
theorem mq_167_559 {l1 l2 l3 : Value} {x : Nat} {st : List Value} {h : mj_H} : mj_R 167 (559, [.ref x, l1, l2, l3], st, h) = mj_R 167 (560, [.ref x, l1, l2, l3], .ref x :: st, h) := mj_R_next rfl rfl
set_option maxRecDepth 100000 in
theorem mq_167_560 {l0 l1 l2 : Value} {x : Int32} {st : List Value} {h : mj_H} : mj_R 167 (560, [l0, l1, l2, .int x], st, h) = mj_R 167 (561, [l0, l1, l2, .int x], .int x :: st, h) := mj_R_next rfl rfl
set_option maxRecDepth 100000 in
theorem mq_167_561 {l0 l1 l2 l3 : Value} {st : List Value} {h : mj_H} : mj_R 167 (561, [l0, l1, l2, l3], st, h) = mj_R 167 (562, [l0, l1, l2, l3], .int (nI 2) :: st, h) := mj_R_next rfl rfl
set_option maxRecDepth 100000 in
theorem mq_167_562 {l0 l1 l2 l3 : Value} {x y : Int32} {st : List Value} {h : mj_H} : mj_R 167 (562, [l0, l1, l2, l3], .int y :: .int x :: st, h) = mj_R 167 (563, [l0, l1, l2, l3], .int (x + y) :: st, h) := mj_R_next rfl rfl
set_option maxRecDepth 100000 in
theorem mq_167_563 {l0 l1 l2 l3 : Value} {x : Nat} {j : Int32} {st : List Value} {h : mj_H} : mj_R 167 (563, [l0, l1, l2, l3], .int j :: .ref x :: st, h) = mj_bd (mj_gi h x j) (fun v => mj_R 167 (564, [l0, l1, l2, l3], .int v :: st, h)) := mj_R_gi rfl
set_option maxRecDepth 100000 in
theorem mq_167_564 {l0 l1 l2 l3 : Value} {x : Int32} {st : List Value} {h : mj_H} : mj_R 167 (564, [l0, l1, l2, l3], .int x :: st, h) = if x = nI 0 then mj_R 167 (571, [l0, l1, l2, l3], st, h) else mj_R 167 (567, [l0, l1, l2, l3], st, h) := mj_R_ieq rfl
set_option maxRecDepth 100000 in
theorem mq_167_567 {l0 l1 l2 l3 : Value} {st : List Value} {h : mj_H} : mj_R 167 (567, [l0, l1, l2, l3], st, h) = mj_R 167 (568, [l0, l1, l2, l3], .int (nI 1) :: st, h) := mj_R_next rfl rfl
set_option maxRecDepth 100000 in
theorem mq_167_568 {l0 l1 l2 l3 : Value} {st : List Value} {h : mj_H} : mj_R 167 (568, [l0, l1, l2, l3], st, h) = mj_R 167 (572, [l0, l1, l2, l3], st, h) := mj_R_next rfl rfl
set_option maxRecDepth 100000 in
theorem mq_167_571 {l0 l1 l2 l3 : Value} {st : List Value} {h : mj_H} : mj_R 167 (571, [l0, l1, l2, l3], st, h) = mj_R 167 (572, [l0, l1, l2, l3], .int (nI 0) :: st, h) := mj_R_next rfl rfl
set_option maxRecDepth 100000 in
theorem mq_167_572 {l0 l1 l2 l3 : Value} {a0 : Nat} {a1 : Int32} {a2 : Int32} {h : mj_H} : mj_R 167 (572, [l0, l1, l2, l3], [.int a2, .int a1, .ref a0], h) = if mj_isC h a0 6 = true then mj_bd (mj_C 82 [.ref a0, .int a1, .int a2] h) (fun r => mj_R 167 (575, [l0, l1, l2, l3], r.1.toList ++ [], r.2)) else none := mj_R_cv rfl rfl
set_option maxRecDepth 100000 in
theorem mq_167_575 {l0 l1 l3 : Value} {x : Nat} {st : List Value} {h : mj_H} : mj_R 167 (575, [l0, l1, .ref x, l3], st, h) = mj_R 167 (576, [l0, l1, .ref x, l3], .ref x :: st, h) := mj_R_next rfl rfl
set_option maxRecDepth 100000 in
theorem mq_167_576 {l1 l2 l3 : Value} {x : Nat} {st : List Value} {h : mj_H} : mj_R 167 (576, [.ref x, l1, l2, l3], st, h) = mj_R 167 (577, [.ref x, l1, l2, l3], .ref x :: st, h) := mj_R_next rfl rfl
set_option maxRecDepth 100000 in
theorem mq_167_577 {l0 l1 l2 : Value} {x : Int32} {st : List Value} {h : mj_H} : mj_R 167 (577, [l0, l1, l2, .int x], st, h) = mj_R 167 (578, [l0, l1, l2, .int x], .int x :: st, h) := mj_R_next rfl rfl
set_option maxRecDepth 100000 in
theorem mq_167_578 {l0 l1 l2 l3 : Value} {st : List Value} {h : mj_H} : mj_R 167 (578, [l0, l1, l2, l3], st, h) = mj_R 167 (579, [l0, l1, l2, l3], .int (nI 1) :: st, h) := mj_R_next rfl rfl
set_option maxRecDepth 100000 in
theorem mq_167_579 {l0 l1 l2 l3 : Value} {x y : Int32} {st : List Value} {h : mj_H} : mj_R 167 (579, [l0, l1, l2, l3], .int y :: .int x :: st, h) = mj_R 167 (580, [l0, l1, l2, l3], .int (x + y) :: st, h) := mj_R_next rfl rfl
set_option maxRecDepth 100000 in
theorem mq_167_580 {l0 l1 l2 l3 : Value} {x : Nat} {j : Int32} {st : List Value} {h : mj_H} : mj_R 167 (580, [l0, l1, l2, l3], .int j :: .ref x :: st, h) = mj_bd (mj_gi h x j) (fun v => mj_R 167 (581, [l0, l1, l2, l3], .int v :: st, h)) := mj_R_gi rfl
set_option maxRecDepth 100000 in
theorem mq_167_581 {l1 l2 l3 : Value} {x : Nat} {st : List Value} {h : mj_H} : mj_R 167 (581, [.ref x, l1, l2, l3], st, h) = mj_R 167 (582, [.ref x, l1, l2, l3], .ref x :: st, h) := mj_R_next rfl rfl
set_option maxRecDepth 100000 in
theorem mq_167_582 {l0 l1 l2 : Value} {x : Int32} {st : List Value} {h : mj_H} : mj_R 167 (582, [l0, l1, l2, .int x], st, h) = mj_R 167 (583, [l0, l1, l2, .int x], .int x :: st, h) := mj_R_next rfl rfl
set_option maxRecDepth 100000 in
theorem mq_167_583 {l0 l1 l2 l3 : Value} {st : List Value} {h : mj_H} : mj_R 167 (583, [l0, l1, l2, l3], st, h) = mj_R 167 (584, [l0, l1, l2, l3], .int (nI 2) :: st, h) := mj_R_next rfl rfl
set_option maxRecDepth 100000 in
theorem mq_167_584 {l0 l1 l2 l3 : Value} {x y : Int32} {st : List Value} {h : mj_H} : mj_R 167 (584, [l0, l1, l2, l3], .int y :: .int x :: st, h) = mj_R 167 (585, [l0, l1, l2, l3], .int (x + y) :: st, h) := mj_R_next rfl rfl
set_option maxRecDepth 100000 in
theorem mq_167_585 {l0 l1 l2 l3 : Value} {x : Nat} {j : Int32} {st : List Value} {h : mj_H} : mj_R 167 (585, [l0, l1, l2, l3], .int j :: .ref x :: st, h) = mj_bd (mj_gi h x j) (fun v => mj_R 167 (586, [l0, l1, l2, l3], .int v :: st, h)) := mj_R_gi rfl
set_option maxRecDepth 100000 in
theorem mq_167_586 {l0 l1 l2 l3 : Value} {x : Int32} {st : List Value} {h : mj_H} : mj_R 167 (586, [l0, l1, l2, l3], .int x :: st, h) = if x = nI 0 then mj_R 167 (593, [l0, l1, l2, l3], st, h) else mj_R 167 (589, [l0, l1, l2, l3], st, h) := mj_R_ieq rfl
set_option maxRecDepth 100000 in
theorem mq_167_589 {l0 l1 l2 l3 : Value} {st : List Value} {h : mj_H} : mj_R 167 (589, [l0, l1, l2, l3], st, h) = mj_R 167 (590, [l0, l1, l2, l3], .int (nI 1) :: st, h) := mj_R_next rfl rfl
set_option maxRecDepth 100000 in
theorem mq_167_590 {l0 l1 l2 l3 : Value} {st : List Value} {h : mj_H} : mj_R 167 (590, [l0, l1, l2, l3], st, h) = mj_R 167 (594, [l0, l1, l2, l3], st, h) := mj_R_next rfl rfl
set_option maxRecDepth 100000 in
theorem mq_167_593 {l0 l1 l2 l3 : Value} {st : List Value} {h : mj_H} : mj_R 167 (593, [l0, l1, l2, l3], st, h) = mj_R 167 (594, [l0, l1, l2, l3], .int (nI 0) :: st, h) := mj_R_next rfl rfl
set_option maxRecDepth 100000 in
theorem mq_167_594 {l0 l1 l2 l3 : Value} {a0 : Nat} {a1 : Int32} {a2 : Int32} {s0 : Value} {h : mj_H} : mj_R 167 (594, [l0, l1, l2, l3], [.int a2, .int a1, .ref a0, s0], h) = if mj_isC h a0 7 = true then mj_bd (mj_C 148 [.ref a0, .int a1, .int a2] h) (fun r => mj_R 167 (597, [l0, l1, l2, l3], r.1.toList ++ [s0], r.2)) else none := mj_R_cv rfl rfl
set_option maxRecDepth 100000 in
theorem mq_167_597 {l0 l1 l2 l3 : Value} {x y : Int32} {st : List Value} {h : mj_H} : mj_R 167 (597, [l0, l1, l2, l3], .int y :: .int x :: st, h) = if x = y then mj_R 167 (981, [l0, l1, l2, l3], st, h) else mj_R 167 (600, [l0, l1, l2, l3], st, h) := mj_R_jeq rfl
set_option maxRecDepth 100000 in
theorem mq_167_600 {l0 l1 l2 l3 : Value} {st : List Value} {h : mj_H} : mj_R 167 (600, [l0, l1, l2, l3], st, h) = mj_R 167 (601, [l0, l1, l2, l3], .int (nI 0) :: st, h) := mj_R_next rfl rfl
set_option maxRecDepth 100000 in
theorem mq_167_601 {l0 l1 l2 l3 : Value} {x : Int32} {h : mj_H} : mj_R 167 (601, [l0, l1, l2, l3], [.int x], h) = if (x == 0 || x == 1) = true then some (some (.int x), h) else none := mj_R_rz rfl rfl
set_option maxRecDepth 100000 in
theorem mq_167_602 {l0 l2 l3 : Value} {x : Nat} {st : List Value} {h : mj_H} : mj_R 167 (602, [l0, .ref x, l2, l3], st, h) = mj_R 167 (603, [l0, .ref x, l2, l3], .ref x :: st, h) := mj_R_next rfl rfl
set_option maxRecDepth 100000 in
theorem mq_167_603 {l1 l2 l3 : Value} {x : Nat} {st : List Value} {h : mj_H} : mj_R 167 (603, [.ref x, l1, l2, l3], st, h) = mj_R 167 (604, [.ref x, l1, l2, l3], .ref x :: st, h) := mj_R_next rfl rfl
set_option maxRecDepth 100000 in
theorem mq_167_604 {l0 l1 l2 : Value} {x : Int32} {st : List Value} {h : mj_H} : mj_R 167 (604, [l0, l1, l2, .int x], st, h) = mj_R 167 (605, [l0, l1, l2, .int x], .int x :: st, h) := mj_R_next rfl rfl
set_option maxRecDepth 100000 in
theorem mq_167_605 {l0 l1 l2 l3 : Value} {st : List Value} {h : mj_H} : mj_R 167 (605, [l0, l1, l2, l3], st, h) = mj_R 167 (606, [l0, l1, l2, l3], .int (nI 1) :: st, h) := mj_R_next rfl rfl
set_option maxRecDepth 100000 in
theorem mq_167_606 {l0 l1 l2 l3 : Value} {x y : Int32} {st : List Value} {h : mj_H} : mj_R 167 (606, [l0, l1, l2, l3], .int y :: .int x :: st, h) = mj_R 167 (607, [l0, l1, l2, l3], .int (x + y) :: st, h) := mj_R_next rfl rfl
set_option maxRecDepth 100000 in
theorem mq_167_607 {l0 l1 l2 l3 : Value} {x : Nat} {j : Int32} {st : List Value} {h : mj_H} : mj_R 167 (607, [l0, l1, l2, l3], .int j :: .ref x :: st, h) = mj_bd (mj_gi h x j) (fun v => mj_R 167 (608, [l0, l1, l2, l3], .int v :: st, h)) := mj_R_gi rfl
set_option maxRecDepth 100000 in
theorem mq_167_608 {l0 l1 l2 l3 : Value} {a0 : Nat} {a1 : Int32} {h : mj_H} : mj_R 167 (608, [l0, l1, l2, l3], [.int a1, .ref a0], h) = if mj_isC h a0 6 = true then mj_bd (mj_C 85 [.ref a0, .int a1] h) (fun r => mj_R 167 (611, [l0, l1, l2, l3], r.1.toList ++ [], r.2)) else none := mj_R_cv rfl rfl
set_option maxRecDepth 100000 in
theorem mq_167_611 {l0 l1 l3 : Value} {x : Nat} {st : List Value} {h : mj_H} : mj_R 167 (611, [l0, l1, .ref x, l3], st, h) = mj_R 167 (612, [l0, l1, .ref x, l3], .ref x :: st, h) := mj_R_next rfl rfl
set_option maxRecDepth 100000 in
theorem mq_167_612 {l1 l2 l3 : Value} {x : Nat} {st : List Value} {h : mj_H} : mj_R 167 (612, [.ref x, l1, l2, l3], st, h) = mj_R 167 (613, [.ref x, l1, l2, l3], .ref x :: st, h) := mj_R_next rfl rfl
set_option maxRecDepth 100000 in
theorem mq_167_613 {l0 l1 l2 : Value} {x : Int32} {st : List Value} {h : mj_H} : mj_R 167 (613, [l0, l1, l2, .int x], st, h) = mj_R 167 (614, [l0, l1, l2, .int x], .int x :: st, h) := mj_R_next rfl rfl
set_option maxRecDepth 100000 in
theorem mq_167_614 {l0 l1 l2 l3 : Value} {st : List Value} {h : mj_H} : mj_R 167 (614, [l0, l1, l2, l3], st, h) = mj_R 167 (615, [l0, l1, l2, l3], .int (nI 1) :: st, h) := mj_R_next rfl rfl
set_option maxRecDepth 100000 in
theorem mq_167_615 {l0 l1 l2 l3 : Value} {x y : Int32} {st : List Value} {h : mj_H} : mj_R 167 (615, [l0, l1, l2, l3], .int y :: .int x :: st, h) = mj_R 167 (616, [l0, l1, l2, l3], .int (x + y) :: st, h) := mj_R_next rfl rfl
set_option maxRecDepth 100000 in
theorem mq_167_616 {l0 l1 l2 l3 : Value} {x : Nat} {j : Int32} {st : List Value} {h : mj_H} : mj_R 167 (616, [l0, l1, l2, l3], .int j :: .ref x :: st, h) = mj_bd (mj_gi h x j) (fun v => mj_R 167 (617, [l0, l1, l2, l3], .int v :: st, h)) := mj_R_gi rfl
set_option maxRecDepth 100000 in
theorem mq_167_617 {l0 l1 l2 l3 : Value} {a0 : Nat} {a1 : Int32} {s0 : Value} {h : mj_H} : mj_R 167 (617, [l0, l1, l2, l3], [.int a1, .ref a0, s0], h) = if mj_isC h a0 7 = true then mj_bd (mj_C 152 [.ref a0, .int a1] h) (fun r => mj_R 167 (620, [l0, l1, l2, l3], r.1.toList ++ [s0], r.2)) else none := mj_R_cv rfl rfl
set_option maxRecDepth 100000 in
theorem mq_167_620 {l0 l1 l2 l3 : Value} {x y : Int32} {st : List Value} {h : mj_H} : mj_R 167 (620, [l0, l1, l2, l3], .int y :: .int x :: st, h) = if x = y then mj_R 167 (981, [l0, l1, l2, l3], st, h) else mj_R 167 (623, [l0, l1, l2, l3], st, h) := mj_R_jeq rfl
set_option maxRecDepth 100000 in
theorem mq_167_623 {l0 l1 l2 l3 : Value} {st : List Value} {h : mj_H} : mj_R 167 (623, [l0, l1, l2, l3], st, h) = mj_R 167 (624, [l0, l1, l2, l3], .int (nI 0) :: st, h) := mj_R_next rfl rfl
set_option maxRecDepth 100000 in
theorem mq_167_624 {l0 l1 l2 l3 : Value} {x : Int32} {h : mj_H} : mj_R 167 (624, [l0, l1, l2, l3], [.int x], h) = if (x == 0 || x == 1) = true then some (some (.int x), h) else none := mj_R_rz rfl rfl
set_option maxRecDepth 100000 in
theorem mq_167_625 {l0 l2 l3 : Value} {x : Nat} {st : List Value} {h : mj_H} : mj_R 167 (625, [l0, .ref x, l2, l3], st, h) = mj_R 167 (626, [l0, .ref x, l2, l3], .ref x :: st, h) := mj_R_next rfl rfl
set_option maxRecDepth 100000 in
theorem mq_167_626 {l1 l2 l3 : Value} {x : Nat} {st : List Value} {h : mj_H} : mj_R 167 (626, [.ref x, l1, l2, l3], st, h) = mj_R 167 (627, [.ref x, l1, l2, l3], .ref x :: st, h) := mj_R_next rfl rfl
set_option maxRecDepth 100000 in
theorem mq_167_627 {l0 l1 l2 : Value} {x : Int32} {st : List Value} {h : mj_H} : mj_R 167 (627, [l0, l1, l2, .int x], st, h) = mj_R 167 (628, [l0, l1, l2, .int x], .int x :: st, h) := mj_R_next rfl rfl
set_option maxRecDepth 100000 in
theorem mq_167_628 {l0 l1 l2 l3 : Value} {st : List Value} {h : mj_H} : mj_R 167 (628, [l0, l1, l2, l3], st, h) = mj_R 167 (629, [l0, l1, l2, l3], .int (nI 1) :: st, h) := mj_R_next rfl rfl
set_option maxRecDepth 100000 in
theorem mq_167_629 {l0 l1 l2 l3 : Value} {x y : Int32} {st : List Value} {h : mj_H} : mj_R 167 (629, [l0, l1, l2, l3], .int y :: .int x :: st, h) = mj_R 167 (630, [l0, l1, l2, l3], .int (x + y) :: st, h) := mj_R_next rfl rfl
set_option maxRecDepth 100000 in
theorem mq_167_630 {l0 l1 l2 l3 : Value} {x : Nat} {j : Int32} {st : List Value} {h : mj_H} : mj_R 167 (630, [l0, l1, l2, l3], .int j :: .ref x :: st, h) = mj_bd (mj_gi h x j) (fun v => mj_R 167 (631, [l0, l1, l2, l3], .int v :: st, h)) := mj_R_gi rfl
set_option maxRecDepth 100000 in
theorem mq_167_631 {l0 l1 l2 l3 : Value} {a0 : Nat} {a1 : Int32} {h : mj_H} : mj_R 167 (631, [l0, l1, l2, l3], [.int a1, .ref a0], h) = if mj_isC h a0 6 = true then mj_bd (mj_C 86 [.ref a0, .int a1] h) (fun r => mj_R 167 (634, [l0, l1, l2, l3], r.1.toList ++ [], r.2)) else none := mj_R_cv rfl rfl
set_option maxRecDepth 100000 in
theorem mq_167_634 {l0 l1 l3 : Value} {x : Nat} {st : List Value} {h : mj_H} : mj_R 167 (634, [l0, l1, .ref x, l3], st, h) = mj_R 167 (635, [l0, l1, .ref x, l3], .ref x :: st, h) := mj_R_next rfl rfl
set_option maxRecDepth 100000 in
theorem mq_167_635 {l1 l2 l3 : Value} {x : Nat} {st : List Value} {h : mj_H} : mj_R 167 (635, [.ref x, l1, l2, l3], st, h) = mj_R 167 (636, [.ref x, l1, l2, l3], .ref x :: st, h) := mj_R_next rfl rfl
set_option maxRecDepth 100000 in
theorem mq_167_636 {l0 l1 l2 : Value} {x : Int32} {st : List Value} {h : mj_H} : mj_R 167 (636, [l0, l1, l2, .int x], st, h) = mj_R 167 (637, [l0, l1, l2, .int x], .int x :: st, h) := mj_R_next rfl rfl
set_option maxRecDepth 100000 in
theorem mq_167_637 {l0 l1 l2 l3 : Value} {st : List Value} {h : mj_H} : mj_R 167 (637, [l0, l1, l2, l3], st, h) = mj_R 167 (638, [l0, l1, l2, l3], .int (nI 1) :: st, h) := mj_R_next rfl rfl
set_option maxRecDepth 100000 in
theorem mq_167_638 {l0 l1 l2 l3 : Value} {x y : Int32} {st : List Value} {h : mj_H} : mj_R 167 (638, [l0, l1, l2, l3], .int y :: .int x :: st, h) = mj_R 167 (639, [l0, l1, l2, l3], .int (x + y) :: st, h) := mj_R_next rfl rfl
set_option maxRecDepth 100000 in
theorem mq_167_639 {l0 l1 l2 l3 : Value} {x : Nat} {j : Int32} {st : List Value} {h : mj_H} : mj_R 167 (639, [l0, l1, l2, l3], .int j :: .ref x :: st, h) = mj_bd (mj_gi h x j) (fun v => mj_R 167 (640, [l0, l1, l2, l3], .int v :: st, h)) := mj_R_gi rfl
set_option maxRecDepth 100000 in
theorem mq_167_640 {l0 l1 l2 l3 : Value} {a0 : Nat} {a1 : Int32} {s0 : Value} {h : mj_H} : mj_R 167 (640, [l0, l1, l2, l3], [.int a1, .ref a0, s0], h) = if mj_isC h a0 7 = true then mj_bd (mj_C 153 [.ref a0, .int a1] h) (fun r => mj_R 167 (643, [l0, l1, l2, l3], r.1.toList ++ [s0], r.2)) else none := mj_R_cv rfl rfl
set_option maxRecDepth 100000 in
theorem mq_167_643 {l0 l1 l2 l3 : Value} {x y : Int32} {st : List Value} {h : mj_H} : mj_R 167 (643, [l0, l1, l2, l3], .int y :: .int x :: st, h) = if x = y then mj_R 167 (981, [l0, l1, l2, l3], st, h) else mj_R 167 (646, [l0, l1, l2, l3], st, h) := mj_R_jeq rfl
set_option maxRecDepth 100000 in
theorem mq_167_646 {l0 l1 l2 l3 : Value} {st : List Value} {h : mj_H} : mj_R 167 (646, [l0, l1, l2, l3], st, h) = mj_R 167 (647, [l0, l1, l2, l3], .int (nI 0) :: st, h) := mj_R_next rfl rfl
set_option maxRecDepth 100000 in
theorem mq_167_647 {l0 l1 l2 l3 : Value} {x : Int32} {h : mj_H} : mj_R 167 (647, [l0, l1, l2, l3], [.int x], h) = if (x == 0 || x == 1) = true then some (some (.int x), h) else none := mj_R_rz rfl rfl
set_option maxRecDepth 100000 in
theorem mq_167_648 {l0 l2 l3 : Value} {x : Nat} {st : List Value} {h : mj_H} : mj_R 167 (648, [l0, .ref x, l2, l3], st, h) = mj_R 167 (649, [l0, .ref x, l2, l3], .ref x :: st, h) := mj_R_next rfl rfl
set_option maxRecDepth 100000 in
theorem mq_167_649 {l1 l2 l3 : Value} {x : Nat} {st : List Value} {h : mj_H} : mj_R 167 (649, [.ref x, l1, l2, l3], st, h) = mj_R 167 (650, [.ref x, l1, l2, l3], .ref x :: st, h) := mj_R_next rfl rfl
set_option maxRecDepth 100000 in
theorem mq_167_650 {l0 l1 l2 : Value} {x : Int32} {st : List Value} {h : mj_H} : mj_R 167 (650, [l0, l1, l2, .int x], st, h) = mj_R 167 (651, [l0, l1, l2, .int x], .int x :: st, h) := mj_R_next rfl rfl
set_option maxRecDepth 100000 in
theorem mq_167_651 {l0 l1 l2 l3 : Value} {st : List Value} {h : mj_H} : mj_R 167 (651, [l0, l1, l2, l3], st, h) = mj_R 167 (652, [l0, l1, l2, l3], .int (nI 1) :: st, h) := mj_R_next rfl rfl
set_option maxRecDepth 100000 in
theorem mq_167_652 {l0 l1 l2 l3 : Value} {x y : Int32} {st : List Value} {h : mj_H} : mj_R 167 (652, [l0, l1, l2, l3], .int y :: .int x :: st, h) = mj_R 167 (653, [l0, l1, l2, l3], .int (x + y) :: st, h) := mj_R_next rfl rfl
set_option maxRecDepth 100000 in
theorem mq_167_653 {l0 l1 l2 l3 : Value} {x : Nat} {j : Int32} {st : List Value} {h : mj_H} : mj_R 167 (653, [l0, l1, l2, l3], .int j :: .ref x :: st, h) = mj_bd (mj_gi h x j) (fun v => mj_R 167 (654, [l0, l1, l2, l3], .int v :: st, h)) := mj_R_gi rfl
set_option maxRecDepth 100000 in
theorem mq_167_654 {l1 l2 l3 : Value} {x : Nat} {st : List Value} {h : mj_H} : mj_R 167 (654, [.ref x, l1, l2, l3], st, h) = mj_R 167 (655, [.ref x, l1, l2, l3], .ref x :: st, h) := mj_R_next rfl rfl
set_option maxRecDepth 100000 in
theorem mq_167_655 {l0 l1 l2 : Value} {x : Int32} {st : List Value} {h : mj_H} : mj_R 167 (655, [l0, l1, l2, .int x], st, h) = mj_R 167 (656, [l0, l1, l2, .int x], .int x :: st, h) := mj_R_next rfl rfl
set_option maxRecDepth 100000 in
theorem mq_167_656 {l0 l1 l2 l3 : Value} {st : List Value} {h : mj_H} : mj_R 167 (656, [l0, l1, l2, l3], st, h) = mj_R 167 (657, [l0, l1, l2, l3], .int (nI 2) :: st, h) := mj_R_next rfl rfl
set_option maxRecDepth 100000 in
theorem mq_167_657 {l0 l1 l2 l3 : Value} {x y : Int32} {st : List Value} {h : mj_H} : mj_R 167 (657, [l0, l1, l2, l3], .int y :: .int x :: st, h) = mj_R 167 (658, [l0, l1, l2, l3], .int (x + y) :: st, h) := mj_R_next rfl rfl
set_option maxRecDepth 100000 in
theorem mq_167_658 {l0 l1 l2 l3 : Value} {x : Nat} {j : Int32} {st : List Value} {h : mj_H} : mj_R 167 (658, [l0, l1, l2, l3], .int j :: .ref x :: st, h) = mj_bd (mj_gi h x j) (fun v => mj_R 167 (659, [l0, l1, l2, l3], .int v :: st, h)) := mj_R_gi rfl
set_option maxRecDepth 100000 in
theorem mq_167_659 {l0 l1 l2 l3 : Value} {a0 : Nat} {a1 : Int32} {a2 : Int32} {h : mj_H} : mj_R 167 (659, [l0, l1, l2, l3], [.int a2, .int a1, .ref a0], h) = if mj_isC h a0 6 = true then mj_bd (mj_C 87 [.ref a0, .int a1, .int a2] h) (fun r => mj_R 167 (662, [l0, l1, l2, l3], r.1.toList ++ [], r.2)) else none := mj_R_cv rfl rfl
set_option maxRecDepth 100000 in
theorem mq_167_662 {l0 l1 l3 : Value} {x : Nat} {st : List Value} {h : mj_H} : mj_R 167 (662, [l0, l1, .ref x, l3], st, h) = mj_R 167 (663, [l0, l1, .ref x, l3], .ref x :: st, h) := mj_R_next rfl rfl
set_option maxRecDepth 100000 in
theorem mq_167_663 {l1 l2 l3 : Value} {x : Nat} {st : List Value} {h : mj_H} : mj_R 167 (663, [.ref x, l1, l2, l3], st, h) = mj_R 167 (664, [.ref x, l1, l2, l3], .ref x :: st, h) := mj_R_next rfl rfl
set_option maxRecDepth 100000 in
theorem mq_167_664 {l0 l1 l2 : Value} {x : Int32} {st : List Value} {h : mj_H} : mj_R 167 (664, [l0, l1, l2, .int x], st, h) = mj_R 167 (665, [l0, l1, l2, .int x], .int x :: st, h) := mj_R_next rfl rfl
set_option maxRecDepth 100000 in
theorem mq_167_665 {l0 l1 l2 l3 : Value} {st : List Value} {h : mj_H} : mj_R 167 (665, [l0, l1, l2, l3], st, h) = mj_R 167 (666, [l0, l1, l2, l3], .int (nI 1) :: st, h) := mj_R_next rfl rfl
set_option maxRecDepth 100000 in
theorem mq_167_666 {l0 l1 l2 l3 : Value} {x y : Int32} {st : List Value} {h : mj_H} : mj_R 167 (666, [l0, l1, l2, l3], .int y :: .int x :: st, h) = mj_R 167 (667, [l0, l1, l2, l3], .int (x + y) :: st, h) := mj_R_next rfl rfl
set_option maxRecDepth 100000 in
theorem mq_167_667 {l0 l1 l2 l3 : Value} {x : Nat} {j : Int32} {st : List Value} {h : mj_H} : mj_R 167 (667, [l0, l1, l2, l3], .int j :: .ref x :: st, h) = mj_bd (mj_gi h x j) (fun v => mj_R 167 (668, [l0, l1, l2, l3], .int v :: st, h)) := mj_R_gi rfl
set_option maxRecDepth 100000 in
theorem mq_167_668 {l1 l2 l3 : Value} {x : Nat} {st : List Value} {h : mj_H} : mj_R 167 (668, [.ref x, l1, l2, l3], st, h) = mj_R 167 (669, [.ref x, l1, l2, l3], .ref x :: st, h) := mj_R_next rfl rfl
set_option maxRecDepth 100000 in
theorem mq_167_669 {l0 l1 l2 : Value} {x : Int32} {st : List Value} {h : mj_H} : mj_R 167 (669, [l0, l1, l2, .int x], st, h) = mj_R 167 (670, [l0, l1, l2, .int x], .int x :: st, h) := mj_R_next rfl rfl
set_option maxRecDepth 100000 in
theorem mq_167_670 {l0 l1 l2 l3 : Value} {st : List Value} {h : mj_H} : mj_R 167 (670, [l0, l1, l2, l3], st, h) = mj_R 167 (671, [l0, l1, l2, l3], .int (nI 2) :: st, h) := mj_R_next rfl rfl
set_option maxRecDepth 100000 in
theorem mq_167_671 {l0 l1 l2 l3 : Value} {x y : Int32} {st : List Value} {h : mj_H} : mj_R 167 (671, [l0, l1, l2, l3], .int y :: .int x :: st, h) = mj_R 167 (672, [l0, l1, l2, l3], .int (x + y) :: st, h) := mj_R_next rfl rfl
set_option maxRecDepth 100000 in
theorem mq_167_672 {l0 l1 l2 l3 : Value} {x : Nat} {j : Int32} {st : List Value} {h : mj_H} : mj_R 167 (672, [l0, l1, l2, l3], .int j :: .ref x :: st, h) = mj_bd (mj_gi h x j) (fun v => mj_R 167 (673, [l0, l1, l2, l3], .int v :: st, h)) := mj_R_gi rfl
set_option maxRecDepth 100000 in
theorem mq_167_673 {l0 l1 l2 l3 : Value} {a0 : Nat} {a1 : Int32} {a2 : Int32} {s0 : Value} {h : mj_H} : mj_R 167 (673, [l0, l1, l2, l3], [.int a2, .int a1, .ref a0, s0], h) = if mj_isC h a0 7 = true then mj_bd (mj_C 155 [.ref a0, .int a1, .int a2] h) (fun r => mj_R 167 (676, [l0, l1, l2, l3], r.1.toList ++ [s0], r.2)) else none := mj_R_cv rfl rfl
set_option maxRecDepth 100000 in
theorem mq_167_676 {l0 l1 l2 l3 : Value} {x y : Int32} {st : List Value} {h : mj_H} : mj_R 167 (676, [l0, l1, l2, l3], .int y :: .int x :: st, h) = if x = y then mj_R 167 (981, [l0, l1, l2, l3], st, h) else mj_R 167 (679, [l0, l1, l2, l3], st, h) := mj_R_jeq rfl
set_option maxRecDepth 100000 in
theorem mq_167_679 {l0 l1 l2 l3 : Value} {st : List Value} {h : mj_H} : mj_R 167 (679, [l0, l1, l2, l3], st, h) = mj_R 167 (680, [l0, l1, l2, l3], .int (nI 0) :: st, h) := mj_R_next rfl rfl
set_option maxRecDepth 100000 in
theorem mq_167_680 {l0 l1 l2 l3 : Value} {x : Int32} {h : mj_H} : mj_R 167 (680, [l0, l1, l2, l3], [.int x], h) = if (x == 0 || x == 1) = true then some (some (.int x), h) else none := mj_R_rz rfl rfl
set_option maxRecDepth 100000 in
theorem mq_167_681 {l0 l2 l3 : Value} {x : Nat} {st : List Value} {h : mj_H} : mj_R 167 (681, [l0, .ref x, l2, l3], st, h) = mj_R 167 (682, [l0, .ref x, l2, l3], .ref x :: st, h) := mj_R_next rfl rfl
set_option maxRecDepth 100000 in
theorem mq_167_682 {l1 l2 l3 : Value} {x : Nat} {st : List Value} {h : mj_H} : mj_R 167 (682, [.ref x, l1, l2, l3], st, h) = mj_R 167 (683, [.ref x, l1, l2, l3], .ref x :: st, h) := mj_R_next rfl rfl
set_option maxRecDepth 100000 in
theorem mq_167_683 {l0 l1 l2 : Value} {x : Int32} {st : List Value} {h : mj_H} : mj_R 167 (683, [l0, l1, l2, .int x], st, h) = mj_R 167 (684, [l0, l1, l2, .int x], .int x :: st, h) := mj_R_next rfl rfl
set_option maxRecDepth 100000 in
theorem mq_167_684 {l0 l1 l2 l3 : Value} {st : List Value} {h : mj_H} : mj_R 167 (684, [l0, l1, l2, l3], st, h) = mj_R 167 (685, [l0, l1, l2, l3], .int (nI 1) :: st, h) := mj_R_next rfl rfl
set_option maxRecDepth 100000 in
theorem mq_167_685 {l0 l1 l2 l3 : Value} {x y : Int32} {st : List Value} {h : mj_H} : mj_R 167 (685, [l0, l1, l2, l3], .int y :: .int x :: st, h) = mj_R 167 (686, [l0, l1, l2, l3], .int (x + y) :: st, h) := mj_R_next rfl rfl
set_option maxRecDepth 100000 in
theorem mq_167_686 {l0 l1 l2 l3 : Value} {x : Nat} {j : Int32} {st : List Value} {h : mj_H} : mj_R 167 (686, [l0, l1, l2, l3], .int j :: .ref x :: st, h) = mj_bd (mj_gi h x j) (fun v => mj_R 167 (687, [l0, l1, l2, l3], .int v :: st, h)) := mj_R_gi rfl
set_option maxRecDepth 100000 in
theorem mq_167_687 {l0 l1 l2 l3 : Value} {a0 : Nat} {a1 : Int32} {h : mj_H} : mj_R 167 (687, [l0, l1, l2, l3], [.int a1, .ref a0], h) = if mj_isC h a0 6 = true then mj_bd (mj_C 90 [.ref a0, .int a1] h) (fun r => mj_R 167 (690, [l0, l1, l2, l3], r.1.toList ++ [], r.2)) else none := mj_R_cv rfl rfl
set_option maxRecDepth 100000 in
theorem mq_167_690 {l0 l1 l3 : Value} {x : Nat} {st : List Value} {h : mj_H} : mj_R 167 (690, [l0, l1, .ref x, l3], st, h) = mj_R 167 (691, [l0, l1, .ref x, l3], .ref x :: st, h) := mj_R_next rfl rfl
set_option maxRecDepth 100000 in
theorem mq_167_691 {l1 l2 l3 : Value} {x : Nat} {st : List Value} {h : mj_H} : mj_R 167 (691, [.ref x, l1, l2, l3], st, h) = mj_R 167 (692, [.ref x, l1, l2, l3], .ref x :: st, h) := mj_R_next rfl rfl
set_option maxRecDepth 100000 in
theorem mq_167_692 {l0 l1 l2 : Value} {x : Int32} {st : List Value} {h : mj_H} : mj_R 167 (692, [l0, l1, l2, .int x], st, h) = mj_R 167 (693, [l0, l1, l2, .int x], .int x :: st, h) := mj_R_next rfl rfl
set_option maxRecDepth 100000 in
theorem mq_167_693 {l0 l1 l2 l3 : Value} {st : List Value} {h : mj_H} : mj_R 167 (693, [l0, l1, l2, l3], st, h) = mj_R 167 (694, [l0, l1, l2, l3], .int (nI 1) :: st, h) := mj_R_next rfl rfl
set_option maxRecDepth 100000 in
theorem mq_167_694 {l0 l1 l2 l3 : Value} {x y : Int32} {st : List Value} {h : mj_H} : mj_R 167 (694, [l0, l1, l2, l3], .int y :: .int x :: st, h) = mj_R 167 (695, [l0, l1, l2, l3], .int (x + y) :: st, h) := mj_R_next rfl rfl
set_option maxRecDepth 100000 in
theorem mq_167_695 {l0 l1 l2 l3 : Value} {x : Nat} {j : Int32} {st : List Value} {h : mj_H} : mj_R 167 (695, [l0, l1, l2, l3], .int j :: .ref x :: st, h) = mj_bd (mj_gi h x j) (fun v => mj_R 167 (696, [l0, l1, l2, l3], .int v :: st, h)) := mj_R_gi rfl
set_option maxRecDepth 100000 in
theorem mq_167_696 {l0 l1 l2 l3 : Value} {a0 : Nat} {a1 : Int32} {s0 : Value} {h : mj_H} : mj_R 167 (696, [l0, l1, l2, l3], [.int a1, .ref a0, s0], h) = if mj_isC h a0 7 = true then mj_bd (mj_C 157 [.ref a0, .int a1] h) (fun r => mj_R 167 (699, [l0, l1, l2, l3], r.1.toList ++ [s0], r.2)) else none := mj_R_cv rfl rfl
set_option maxRecDepth 100000 in
theorem mq_167_699 {l0 l1 l2 l3 : Value} {x y : Int32} {st : List Value} {h : mj_H} : mj_R 167 (699, [l0, l1, l2, l3], .int y :: .int x :: st, h) = if x = y then mj_R 167 (981, [l0, l1, l2, l3], st, h) else mj_R 167 (702, [l0, l1, l2, l3], st, h) := mj_R_jeq rfl
set_option maxRecDepth 100000 in
theorem mq_167_702 {l0 l1 l2 l3 : Value} {st : List Value} {h : mj_H} : mj_R 167 (702, [l0, l1, l2, l3], st, h) = mj_R 167 (703, [l0, l1, l2, l3], .int (nI 0) :: st, h) := mj_R_next rfl rfl
set_option maxRecDepth 100000 in
theorem mq_167_703 {l0 l1 l2 l3 : Value} {x : Int32} {h : mj_H} : mj_R 167 (703, [l0, l1, l2, l3], [.int x], h) = if (x == 0 || x == 1) = true then some (some (.int x), h) else none := mj_R_rz rfl rfl
set_option maxRecDepth 100000 in
theorem mq_167_704 {l0 l2 l3 : Value} {x : Nat} {st : List Value} {h : mj_H} : mj_R 167 (704, [l0, .ref x, l2, l3], st, h) = mj_R 167 (705, [l0, .ref x, l2, l3], .ref x :: st, h) := mj_R_next rfl rfl
set_option maxRecDepth 100000 in
theorem mq_167_705 {l1 l2 l3 : Value} {x : Nat} {st : List Value} {h : mj_H} : mj_R 167 (705, [.ref x, l1, l2, l3], st, h) = mj_R 167 (706, [.ref x, l1, l2, l3], .ref x :: st, h) := mj_R_next rfl rfl
set_option maxRecDepth 100000 in
theorem mq_167_706 {l0 l1 l2 : Value} {x : Int32} {st : List Value} {h : mj_H} : mj_R 167 (706, [l0, l1, l2, .int x], st, h) = mj_R 167 (707, [l0, l1, l2, .int x], .int x :: st, h) := mj_R_next rfl rfl
set_option maxRecDepth 100000 in
theorem mq_167_707 {l0 l1 l2 l3 : Value} {st : List Value} {h : mj_H} : mj_R 167 (707, [l0, l1, l2, l3], st, h) = mj_R 167 (708, [l0, l1, l2, l3], .int (nI 1) :: st, h) := mj_R_next rfl rfl
set_option maxRecDepth 100000 in
theorem mq_167_708 {l0 l1 l2 l3 : Value} {x y : Int32} {st : List Value} {h : mj_H} : mj_R 167 (708, [l0, l1, l2, l3], .int y :: .int x :: st, h) = mj_R 167 (709, [l0, l1, l2, l3], .int (x + y) :: st, h) := mj_R_next rfl rfl
set_option maxRecDepth 100000 in
theorem mq_167_709 {l0 l1 l2 l3 : Value} {x : Nat} {j : Int32} {st : List Value} {h : mj_H} : mj_R 167 (709, [l0, l1, l2, l3], .int j :: .ref x :: st, h) = mj_bd (mj_gi h x j) (fun v => mj_R 167 (710, [l0, l1, l2, l3], .int v :: st, h)) := mj_R_gi rfl
set_option maxRecDepth 100000 in
theorem mq_167_710 {l1 l2 l3 : Value} {x : Nat} {st : List Value} {h : mj_H} : mj_R 167 (710, [.ref x, l1, l2, l3], st, h) = mj_R 167 (711, [.ref x, l1, l2, l3], .ref x :: st, h) := mj_R_next rfl rfl
set_option maxRecDepth 100000 in
theorem mq_167_711 {l0 l1 l2 : Value} {x : Int32} {st : List Value} {h : mj_H} : mj_R 167 (711, [l0, l1, l2, .int x], st, h) = mj_R 167 (712, [l0, l1, l2, .int x], .int x :: st, h) := mj_R_next rfl rfl
set_option maxRecDepth 100000 in
theorem mq_167_712 {l0 l1 l2 l3 : Value} {st : List Value} {h : mj_H} : mj_R 167 (712, [l0, l1, l2, l3], st, h) = mj_R 167 (713, [l0, l1, l2, l3], .int (nI 2) :: st, h) := mj_R_next rfl rfl
set_option maxRecDepth 100000 in
theorem mq_167_713 {l0 l1 l2 l3 : Value} {x y : Int32} {st : List Value} {h : mj_H} : mj_R 167 (713, [l0, l1, l2, l3], .int y :: .int x :: st, h) = mj_R 167 (714, [l0, l1, l2, l3], .int (x + y) :: st, h) := mj_R_next rfl rfl
set_option maxRecDepth 100000 in
theorem mq_167_714 {l0 l1 l2 l3 : Value} {x : Nat} {j : Int32} {st : List Value} {h : mj_H} : mj_R 167 (714, [l0, l1, l2, l3], .int j :: .ref x :: st, h) = mj_bd (mj_gi h x j) (fun v => mj_R 167 (715, [l0, l1, l2, l3], .int v :: st, h)) := mj_R_gi rfl
set_option maxRecDepth 100000 in
theorem mq_167_715 {l0 l1 l2 l3 : Value} {a0 : Nat} {a1 : Int32} {a2 : Int32} {h : mj_H} : mj_R 167 (715, [l0, l1, l2, l3], [.int a2, .int a1, .ref a0], h) = if mj_isC h a0 6 = true then mj_bd (mj_C 91 [.ref a0, .int a1, .int a2] h) (fun r => mj_R 167 (718, [l0, l1, l2, l3], r.1.toList ++ [], r.2)) else none := mj_R_cv rfl rfl
set_option maxRecDepth 100000 in
theorem mq_167_718 {l0 l1 l3 : Value} {x : Nat} {st : List Value} {h : mj_H} : mj_R 167 (718, [l0, l1, .ref x, l3], st, h) = mj_R 167 (719, [l0, l1, .ref x, l3], .ref x :: st, h) := mj_R_next rfl rfl
set_option maxRecDepth 100000 in
theorem mq_167_719 {l1 l2 l3 : Value} {x : Nat} {st : List Value} {h : mj_H} : mj_R 167 (719, [.ref x, l1, l2, l3], st, h) = mj_R 167 (720, [.ref x, l1, l2, l3], .ref x :: st, h) := mj_R_next rfl rfl
set_option maxRecDepth 100000 in
theorem mq_167_720 {l0 l1 l2 : Value} {x : Int32} {st : List Value} {h : mj_H} : mj_R 167 (720, [l0, l1, l2, .int x], st, h) = mj_R 167 (721, [l0, l1, l2, .int x], .int x :: st, h) := mj_R_next rfl rfl
set_option maxRecDepth 100000 in
theorem mq_167_721 {l0 l1 l2 l3 : Value} {st : List Value} {h : mj_H} : mj_R 167 (721, [l0, l1, l2, l3], st, h) = mj_R 167 (722, [l0, l1, l2, l3], .int (nI 1) :: st, h) := mj_R_next rfl rfl
set_option maxRecDepth 100000 in
theorem mq_167_722 {l0 l1 l2 l3 : Value} {x y : Int32} {st : List Value} {h : mj_H} : mj_R 167 (722, [l0, l1, l2, l3], .int y :: .int x :: st, h) = mj_R 167 (723, [l0, l1, l2, l3], .int (x + y) :: st, h) := mj_R_next rfl rfl
set_option maxRecDepth 100000 in
theorem mq_167_723 {l0 l1 l2 l3 : Value} {x : Nat} {j : Int32} {st : List Value} {h : mj_H} : mj_R 167 (723, [l0, l1, l2, l3], .int j :: .ref x :: st, h) = mj_bd (mj_gi h x j) (fun v => mj_R 167 (724, [l0, l1, l2, l3], .int v :: st, h)) := mj_R_gi rfl
set_option maxRecDepth 100000 in
theorem mq_167_724 {l1 l2 l3 : Value} {x : Nat} {st : List Value} {h : mj_H} : mj_R 167 (724, [.ref x, l1, l2, l3], st, h) = mj_R 167 (725, [.ref x, l1, l2, l3], .ref x :: st, h) := mj_R_next rfl rfl
set_option maxRecDepth 100000 in
theorem mq_167_725 {l0 l1 l2 : Value} {x : Int32} {st : List Value} {h : mj_H} : mj_R 167 (725, [l0, l1, l2, .int x], st, h) = mj_R 167 (726, [l0, l1, l2, .int x], .int x :: st, h) := mj_R_next rfl rfl
set_option maxRecDepth 100000 in
theorem mq_167_726 {l0 l1 l2 l3 : Value} {st : List Value} {h : mj_H} : mj_R 167 (726, [l0, l1, l2, l3], st, h) = mj_R 167 (727, [l0, l1, l2, l3], .int (nI 2) :: st, h) := mj_R_next rfl rfl
set_option maxRecDepth 100000 in
theorem mq_167_727 {l0 l1 l2 l3 : Value} {x y : Int32} {st : List Value} {h : mj_H} : mj_R 167 (727, [l0, l1, l2, l3], .int y :: .int x :: st, h) = mj_R 167 (728, [l0, l1, l2, l3], .int (x + y) :: st, h) := mj_R_next rfl rfl
set_option maxRecDepth 100000 in
theorem mq_167_728 {l0 l1 l2 l3 : Value} {x : Nat} {j : Int32} {st : List Value} {h : mj_H} : mj_R 167 (728, [l0, l1, l2, l3], .int j :: .ref x :: st, h) = mj_bd (mj_gi h x j) (fun v => mj_R 167 (729, [l0, l1, l2, l3], .int v :: st, h)) := mj_R_gi rfl
set_option maxRecDepth 100000 in
theorem mq_167_729 {l0 l1 l2 l3 : Value} {a0 : Nat} {a1 : Int32} {a2 : Int32} {s0 : Value} {h : mj_H} : mj_R 167 (729, [l0, l1, l2, l3], [.int a2, .int a1, .ref a0, s0], h) = if mj_isC h a0 7 = true then mj_bd (mj_C 158 [.ref a0, .int a1, .int a2] h) (fun r => mj_R 167 (732, [l0, l1, l2, l3], r.1.toList ++ [s0], r.2)) else none := mj_R_cv rfl rfl
set_option maxRecDepth 100000 in
theorem mq_167_732 {l0 l1 l2 l3 : Value} {x y : Int32} {st : List Value} {h : mj_H} : mj_R 167 (732, [l0, l1, l2, l3], .int y :: .int x :: st, h) = if x = y then mj_R 167 (981, [l0, l1, l2, l3], st, h) else mj_R 167 (735, [l0, l1, l2, l3], st, h) := mj_R_jeq rfl
set_option maxRecDepth 100000 in
theorem mq_167_735 {l0 l1 l2 l3 : Value} {st : List Value} {h : mj_H} : mj_R 167 (735, [l0, l1, l2, l3], st, h) = mj_R 167 (736, [l0, l1, l2, l3], .int (nI 0) :: st, h) := mj_R_next rfl rfl
set_option maxRecDepth 100000 in
theorem mq_167_736 {l0 l1 l2 l3 : Value} {x : Int32} {h : mj_H} : mj_R 167 (736, [l0, l1, l2, l3], [.int x], h) = if (x == 0 || x == 1) = true then some (some (.int x), h) else none := mj_R_rz rfl rfl
set_option maxRecDepth 100000 in
theorem mq_167_737 {l0 l2 l3 : Value} {x : Nat} {st : List Value} {h : mj_H} : mj_R 167 (737, [l0, .ref x, l2, l3], st, h) = mj_R 167 (738, [l0, .ref x, l2, l3], .ref x :: st, h) := mj_R_next rfl rfl
set_option maxRecDepth 100000 in
theorem mq_167_738 {l1 l2 l3 : Value} {x : Nat} {st : List Value} {h : mj_H} : mj_R 167 (738, [.ref x, l1, l2, l3], st, h) = mj_R 167 (739, [.ref x, l1, l2, l3], .ref x :: st, h) := mj_R_next rfl rfl
set_option maxRecDepth 100000 in
theorem mq_167_739 {l0 l1 l2 : Value} {x : Int32} {st : List Value} {h : mj_H} : mj_R 167 (739, [l0, l1, l2, .int x], st, h) = mj_R 167 (740, [l0, l1, l2, .int x], .int x :: st, h) := mj_R_next rfl rfl
set_option maxRecDepth 100000 in
theorem mq_167_740 {l0 l1 l2 l3 : Value} {st : List Value} {h : mj_H} : mj_R 167 (740, [l0, l1, l2, l3], st, h) = mj_R 167 (741, [l0, l1, l2, l3], .int (nI 1) :: st, h) := mj_R_next rfl rfl
set_option maxRecDepth 100000 in
theorem mq_167_741 {l0 l1 l2 l3 : Value} {x y : Int32} {st : List Value} {h : mj_H} : mj_R 167 (741, [l0, l1, l2, l3], .int y :: .int x :: st, h) = mj_R 167 (742, [l0, l1, l2, l3], .int (x + y) :: st, h) := mj_R_next rfl rfl
set_option maxRecDepth 100000 in
theorem mq_167_742 {l0 l1 l2 l3 : Value} {x : Nat} {j : Int32} {st : List Value} {h : mj_H} : mj_R 167 (742, [l0, l1, l2, l3], .int j :: .ref x :: st, h) = mj_bd (mj_gi h x j) (fun v => mj_R 167 (743, [l0, l1, l2, l3], .int v :: st, h)) := mj_R_gi rfl
set_option maxRecDepth 100000 in
theorem mq_167_743 {l1 l2 l3 : Value} {x : Nat} {st : List Value} {h : mj_H} : mj_R 167 (743, [.ref x, l1, l2, l3], st, h) = mj_R 167 (744, [.ref x, l1, l2, l3], .ref x :: st, h) := mj_R_next rfl rfl
set_option maxRecDepth 100000 in
theorem mq_167_744 {l0 l1 l2 : Value} {x : Int32} {st : List Value} {h : mj_H} : mj_R 167 (744, [l0, l1, l2, .int x], st, h) = mj_R 167 (745, [l0, l1, l2, .int x], .int x :: st, h) := mj_R_next rfl rfl
set_option maxRecDepth 100000 in
theorem mq_167_745 {l0 l1 l2 l3 : Value} {st : List Value} {h : mj_H} : mj_R 167 (745, [l0, l1, l2, l3], st, h) = mj_R 167 (746, [l0, l1, l2, l3], .int (nI 2) :: st, h) := mj_R_next rfl rfl
set_option maxRecDepth 100000 in
theorem mq_167_746 {l0 l1 l2 l3 : Value} {x y : Int32} {st : List Value} {h : mj_H} : mj_R 167 (746, [l0, l1, l2, l3], .int y :: .int x :: st, h) = mj_R 167 (747, [l0, l1, l2, l3], .int (x + y) :: st, h) := mj_R_next rfl rfl
set_option maxRecDepth 100000 in
theorem mq_167_747 {l0 l1 l2 l3 : Value} {x : Nat} {j : Int32} {st : List Value} {h : mj_H} : mj_R 167 (747, [l0, l1, l2, l3], .int j :: .ref x :: st, h) = mj_bd (mj_gi h x j) (fun v => mj_R 167 (748, [l0, l1, l2, l3], .int v :: st, h)) := mj_R_gi rfl
set_option maxRecDepth 100000 in
theorem mq_167_748 {l0 l1 l2 l3 : Value} {x : Int32} {st : List Value} {h : mj_H} : mj_R 167 (748, [l0, l1, l2, l3], .int x :: st, h) = if x = nI 0 then mj_R 167 (755, [l0, l1, l2, l3], st, h) else mj_R 167 (751, [l0, l1, l2, l3], st, h) := mj_R_ieq rfl
set_option maxRecDepth 100000 in
theorem mq_167_751 {l0 l1 l2 l3 : Value} {st : List Value} {h : mj_H} : mj_R 167 (751, [l0, l1, l2, l3], st, h) = mj_R 167 (752, [l0, l1, l2, l3], .int (nI 1) :: st, h) := mj_R_next rfl rfl
set_option maxRecDepth 100000 in
theorem mq_167_752 {l0 l1 l2 l3 : Value} {st : List Value} {h : mj_H} : mj_R 167 (752, [l0, l1, l2, l3], st, h) = mj_R 167 (756, [l0, l1, l2, l3], st, h) := mj_R_next rfl rfl
set_option maxRecDepth 100000 in
theorem mq_167_755 {l0 l1 l2 l3 : Value} {st : List Value} {h : mj_H} : mj_R 167 (755, [l0, l1, l2, l3], st, h) = mj_R 167 (756, [l0, l1, l2, l3], .int (nI 0) :: st, h) := mj_R_next rfl rfl
set_option maxRecDepth 100000 in
theorem mq_167_756 {l0 l1 l2 l3 : Value} {a0 : Nat} {a1 : Int32} {a2 : Int32} {h : mj_H} : mj_R 167 (756, [l0, l1, l2, l3], [.int a2, .int a1, .ref a0], h) = if mj_isC h a0 6 = true then mj_bd (mj_C 93 [.ref a0, .int a1, .int a2] h) (fun r => mj_R 167 (759, [l0, l1, l2, l3], r.1.toList ++ [], r.2)) else none := mj_R_cv rfl rfl
set_option maxRecDepth 100000 in
theorem mq_167_759 {l0 l1 l3 : Value} {x : Nat} {st : List Value} {h : mj_H} : mj_R 167 (759, [l0, l1, .ref x, l3], st, h) = mj_R 167 (760, [l0, l1, .ref x, l3], .ref x :: st, h) := mj_R_next rfl rfl
set_option maxRecDepth 100000 in
theorem mq_167_760 {l1 l2 l3 : Value} {x : Nat} {st : List Value} {h : mj_H} : mj_R 167 (760, [.ref x, l1, l2, l3], st, h) = mj_R 167 (761, [.ref x, l1, l2, l3], .ref x :: st, h) := mj_R_next rfl rfl
set_option maxRecDepth 100000 in
theorem mq_167_761 {l0 l1 l2 : Value} {x : Int32} {st : List Value} {h : mj_H} : mj_R 167 (761, [l0, l1, l2, .int x], st, h) = mj_R 167 (762, [l0, l1, l2, .int x], .int x :: st, h) := mj_R_next rfl rfl
set_option maxRecDepth 100000 in
theorem mq_167_762 {l0 l1 l2 l3 : Value} {st : List Value} {h : mj_H} : mj_R 167 (762, [l0, l1, l2, l3], st, h) = mj_R 167 (763, [l0, l1, l2, l3], .int (nI 1) :: st, h) := mj_R_next rfl rfl
set_option maxRecDepth 100000 in
theorem mq_167_763 {l0 l1 l2 l3 : Value} {x y : Int32} {st : List Value} {h : mj_H} : mj_R 167 (763, [l0, l1, l2, l3], .int y :: .int x :: st, h) = mj_R 167 (764, [l0, l1, l2, l3], .int (x + y) :: st, h) := mj_R_next rfl rfl
set_option maxRecDepth 100000 in
theorem mq_167_764 {l0 l1 l2 l3 : Value} {x : Nat} {j : Int32} {st : List Value} {h : mj_H} : mj_R 167 (764, [l0, l1, l2, l3], .int j :: .ref x :: st, h) = mj_bd (mj_gi h x j) (fun v => mj_R 167 (765, [l0, l1, l2, l3], .int v :: st, h)) := mj_R_gi rfl
set_option maxRecDepth 100000 in
theorem mq_167_765 {l1 l2 l3 : Value} {x : Nat} {st : List Value} {h : mj_H} : mj_R 167 (765, [.ref x, l1, l2, l3], st, h) = mj_R 167 (766, [.ref x, l1, l2, l3], .ref x :: st, h) := mj_R_next rfl rfl
set_option maxRecDepth 100000 in
theorem mq_167_766 {l0 l1 l2 : Value} {x : Int32} {st : List Value} {h : mj_H} : mj_R 167 (766, [l0, l1, l2, .int x], st, h) = mj_R 167 (767, [l0, l1, l2, .int x], .int x :: st, h) := mj_R_next rfl rfl
set_option maxRecDepth 100000 in
theorem mq_167_767 {l0 l1 l2 l3 : Value} {st : List Value} {h : mj_H} : mj_R 167 (767, [l0, l1, l2, l3], st, h) = mj_R 167 (768, [l0, l1, l2, l3], .int (nI 2) :: st, h) := mj_R_next rfl rfl
set_option maxRecDepth 100000 in
theorem mq_167_768 {l0 l1 l2 l3 : Value} {x y : Int32} {st : List Value} {h : mj_H} : mj_R 167 (768, [l0, l1, l2, l3], .int y :: .int x :: st, h) = mj_R 167 (769, [l0, l1, l2, l3], .int (x + y) :: st, h) := mj_R_next rfl rfl
set_option maxRecDepth 100000 in
theorem mq_167_769 {l0 l1 l2 l3 : Value} {x : Nat} {j : Int32} {st : List Value} {h : mj_H} : mj_R 167 (769, [l0, l1, l2, l3], .int j :: .ref x :: st, h) = mj_bd (mj_gi h x j) (fun v => mj_R 167 (770, [l0, l1, l2, l3], .int v :: st, h)) := mj_R_gi rfl
set_option maxRecDepth 100000 in
theorem mq_167_770 {l0 l1 l2 l3 : Value} {x : Int32} {st : List Value} {h : mj_H} : mj_R 167 (770, [l0, l1, l2, l3], .int x :: st, h) = if x = nI 0 then mj_R 167 (777, [l0, l1, l2, l3], st, h) else mj_R 167 (773, [l0, l1, l2, l3], st, h) := mj_R_ieq rfl
set_option maxRecDepth 100000 in
theorem mq_167_773 {l0 l1 l2 l3 : Value} {st : List Value} {h : mj_H} : mj_R 167 (773, [l0, l1, l2, l3], st, h) = mj_R 167 (774, [l0, l1, l2, l3], .int (nI 1) :: st, h) := mj_R_next rfl rfl
set_option maxRecDepth 100000 in
theorem mq_167_774 {l0 l1 l2 l3 : Value} {st : List Value} {h : mj_H} : mj_R 167 (774, [l0, l1, l2, l3], st, h) = mj_R 167 (778, [l0, l1, l2, l3], st, h) := mj_R_next rfl rfl
set_option maxRecDepth 100000 in
theorem mq_167_777 {l0 l1 l2 l3 : Value} {st : List Value} {h : mj_H} : mj_R 167 (777, [l0, l1, l2, l3], st, h) = mj_R 167 (778, [l0, l1, l2, l3], .int (nI 0) :: st, h) := mj_R_next rfl rfl
set_option maxRecDepth 100000 in
theorem mq_167_778 {l0 l1 l2 l3 : Value} {a0 : Nat} {a1 : Int32} {a2 : Int32} {s0 : Value} {h : mj_H} : mj_R 167 (778, [l0, l1, l2, l3], [.int a2, .int a1, .ref a0, s0], h) = if mj_isC h a0 7 = true then mj_bd (mj_C 159 [.ref a0, .int a1, .int a2] h) (fun r => mj_R 167 (781, [l0, l1, l2, l3], r.1.toList ++ [s0], r.2)) else none := mj_R_cv rfl rfl
set_option maxRecDepth 100000 in
theorem mq_167_781 {l0 l1 l2 l3 : Value} {x y : Int32} {st : List Value} {h : mj_H} : mj_R 167 (781, [l0, l1, l2, l3], .int y :: .int x :: st, h) = if x = y then mj_R 167 (981, [l0, l1, l2, l3], st, h) else mj_R 167 (784, [l0, l1, l2, l3], st, h) := mj_R_jeq rfl
set_option maxRecDepth 100000 in
theorem mq_167_784 {l0 l1 l2 l3 : Value} {st : List Value} {h : mj_H} : mj_R 167 (784, [l0, l1, l2, l3], st, h) = mj_R 167 (785, [l0, l1, l2, l3], .int (nI 0) :: st, h) := mj_R_next rfl rfl
set_option maxRecDepth 100000 in
theorem mq_167_785 {l0 l1 l2 l3 : Value} {x : Int32} {h : mj_H} : mj_R 167 (785, [l0, l1, l2, l3], [.int x], h) = if (x == 0 || x == 1) = true then some (some (.int x), h) else none := mj_R_rz rfl rfl
set_option maxRecDepth 100000 in
theorem mq_167_786 {l0 l2 l3 : Value} {x : Nat} {st : List Value} {h : mj_H} : mj_R 167 (786, [l0, .ref x, l2, l3], st, h) = mj_R 167 (787, [l0, .ref x, l2, l3], .ref x :: st, h) := mj_R_next rfl rfl
set_option maxRecDepth 100000 in
theorem mq_167_787 {l0 l1 l2 l3 : Value} {a0 : Nat} {h : mj_H} : mj_R 167 (787, [l0, l1, l2, l3], [.ref a0], h) = if mj_isC h a0 6 = true then mj_bd (mj_C 94 [.ref a0] h) (fun r => mj_R 167 (790, [l0, l1, l2, l3], r.1.toList ++ [], r.2)) else none := mj_R_cv rfl rfl
set_option maxRecDepth 100000 in
theorem mq_167_790 {l0 l1 l3 : Value} {x : Nat} {st : List Value} {h : mj_H} : mj_R 167 (790, [l0, l1, .ref x, l3], st, h) = mj_R 167 (791, [l0, l1, .ref x, l3], .ref x :: st, h) := mj_R_next rfl rfl
set_option maxRecDepth 100000 in
theorem mq_167_791 {l0 l1 l2 l3 : Value} {a0 : Nat} {s0 : Value} {h : mj_H} : mj_R 167 (791, [l0, l1, l2, l3], [.ref a0, s0], h) = if mj_isC h a0 7 = true then mj_bd (mj_C 160 [.ref a0] h) (fun r => mj_R 167 (794, [l0, l1, l2, l3], r.1.toList ++ [s0], r.2)) else none := mj_R_cv rfl rfl
set_option maxRecDepth 100000 in
theorem mq_167_794 {l0 l1 l2 l3 : Value} {x y : Int32} {st : List Value} {h : mj_H} : mj_R 167 (794, [l0, l1, l2, l3], .int y :: .int x :: st, h) = if x = y then mj_R 167 (981, [l0, l1, l2, l3], st, h) else mj_R 167 (797, [l0, l1, l2, l3], st, h) := mj_R_jeq rfl
set_option maxRecDepth 100000 in
theorem mq_167_797 {l0 l1 l2 l3 : Value} {st : List Value} {h : mj_H} : mj_R 167 (797, [l0, l1, l2, l3], st, h) = mj_R 167 (798, [l0, l1, l2, l3], .int (nI 0) :: st, h) := mj_R_next rfl rfl
set_option maxRecDepth 100000 in
theorem mq_167_798 {l0 l1 l2 l3 : Value} {x : Int32} {h : mj_H} : mj_R 167 (798, [l0, l1, l2, l3], [.int x], h) = if (x == 0 || x == 1) = true then some (some (.int x), h) else none := mj_R_rz rfl rfl
set_option maxRecDepth 100000 in
theorem mq_167_799 {l0 l2 l3 : Value} {x : Nat} {st : List Value} {h : mj_H} : mj_R 167 (799, [l0, .ref x, l2, l3], st, h) = mj_R 167 (800, [l0, .ref x, l2, l3], .ref x :: st, h) := mj_R_next rfl rfl
set_option maxRecDepth 100000 in
theorem mq_167_800 {l1 l2 l3 : Value} {x : Nat} {st : List Value} {h : mj_H} : mj_R 167 (800, [.ref x, l1, l2, l3], st, h) = mj_R 167 (801, [.ref x, l1, l2, l3], .ref x :: st, h) := mj_R_next rfl rfl
set_option maxRecDepth 100000 in
theorem mq_167_801 {l0 l1 l2 : Value} {x : Int32} {st : List Value} {h : mj_H} : mj_R 167 (801, [l0, l1, l2, .int x], st, h) = mj_R 167 (802, [l0, l1, l2, .int x], .int x :: st, h) := mj_R_next rfl rfl
set_option maxRecDepth 100000 in
theorem mq_167_802 {l0 l1 l2 l3 : Value} {st : List Value} {h : mj_H} : mj_R 167 (802, [l0, l1, l2, l3], st, h) = mj_R 167 (803, [l0, l1, l2, l3], .int (nI 1) :: st, h) := mj_R_next rfl rfl
set_option maxRecDepth 100000 in
theorem mq_167_803 {l0 l1 l2 l3 : Value} {x y : Int32} {st : List Value} {h : mj_H} : mj_R 167 (803, [l0, l1, l2, l3], .int y :: .int x :: st, h) = mj_R 167 (804, [l0, l1, l2, l3], .int (x + y) :: st, h) := mj_R_next rfl rfl
set_option maxRecDepth 100000 in
theorem mq_167_804 {l0 l1 l2 l3 : Value} {x : Nat} {j : Int32} {st : List Value} {h : mj_H} : mj_R 167 (804, [l0, l1, l2, l3], .int j :: .ref x :: st, h) = mj_bd (mj_gi h x j) (fun v => mj_R 167 (805, [l0, l1, l2, l3], .int v :: st, h)) := mj_R_gi rfl
set_option maxRecDepth 100000 in
theorem mq_167_805 {l1 l2 l3 : Value} {x : Nat} {st : List Value} {h : mj_H} : mj_R 167 (805, [.ref x, l1, l2, l3], st, h) = mj_R 167 (806, [.ref x, l1, l2, l3], .ref x :: st, h) := mj_R_next rfl rfl
set_option maxRecDepth 100000 in
theorem mq_167_806 {l0 l1 l2 : Value} {x : Int32} {st : List Value} {h : mj_H} : mj_R 167 (806, [l0, l1, l2, .int x], st, h) = mj_R 167 (807, [l0, l1, l2, .int x], .int x :: st, h) := mj_R_next rfl rfl
set_option maxRecDepth 100000 in
theorem mq_167_807 {l0 l1 l2 l3 : Value} {st : List Value} {h : mj_H} : mj_R 167 (807, [l0, l1, l2, l3], st, h) = mj_R 167 (808, [l0, l1, l2, l3], .int (nI 2) :: st, h) := mj_R_next rfl rfl
set_option maxRecDepth 100000 in
theorem mq_167_808 {l0 l1 l2 l3 : Value} {x y : Int32} {st : List Value} {h : mj_H} : mj_R 167 (808, [l0, l1, l2, l3], .int y :: .int x :: st, h) = mj_R 167 (809, [l0, l1, l2, l3], .int (x + y) :: st, h) := mj_R_next rfl rfl
set_option maxRecDepth 100000 in
theorem mq_167_809 {l0 l1 l2 l3 : Value} {x : Nat} {j : Int32} {st : List Value} {h : mj_H} : mj_R 167 (809, [l0, l1, l2, l3], .int j :: .ref x :: st, h) = mj_bd (mj_gi h x j) (fun v => mj_R 167 (810, [l0, l1, l2, l3], .int v :: st, h)) := mj_R_gi rfl
set_option maxRecDepth 100000 in
theorem mq_167_810 {l1 l2 l3 : Value} {x : Nat} {st : List Value} {h : mj_H} : mj_R 167 (810, [.ref x, l1, l2, l3], st, h) = mj_R 167 (811, [.ref x, l1, l2, l3], .ref x :: st, h) := mj_R_next rfl rfl
set_option maxRecDepth 100000 in
theorem mq_167_811 {l0 l1 l2 : Value} {x : Int32} {st : List Value} {h : mj_H} : mj_R 167 (811, [l0, l1, l2, .int x], st, h) = mj_R 167 (812, [l0, l1, l2, .int x], .int x :: st, h) := mj_R_next rfl rfl
set_option maxRecDepth 100000 in
theorem mq_167_812 {l0 l1 l2 l3 : Value} {st : List Value} {h : mj_H} : mj_R 167 (812, [l0, l1, l2, l3], st, h) = mj_R 167 (813, [l0, l1, l2, l3], .int (nI 3) :: st, h) := mj_R_next rfl rfl
set_option maxRecDepth 100000 in
theorem mq_167_813 {l0 l1 l2 l3 : Value} {x y : Int32} {st : List Value} {h : mj_H} : mj_R 167 (813, [l0, l1, l2, l3], .int y :: .int x :: st, h) = mj_R 167 (814, [l0, l1, l2, l3], .int (x + y) :: st, h) := mj_R_next rfl rfl
set_option maxRecDepth 100000 in
theorem mq_167_814 {l0 l1 l2 l3 : Value} {x : Nat} {j : Int32} {st : List Value} {h : mj_H} : mj_R 167 (814, [l0, l1, l2, l3], .int j :: .ref x :: st, h) = mj_bd (mj_gi h x j) (fun v => mj_R 167 (815, [l0, l1, l2, l3], .int v :: st, h)) := mj_R_gi rfl
set_option maxRecDepth 100000 in
theorem mq_167_815 {l0 l1 l2 l3 : Value} {x : Int32} {st : List Value} {h : mj_H} : mj_R 167 (815, [l0, l1, l2, l3], .int x :: st, h) = if x = nI 0 then mj_R 167 (822, [l0, l1, l2, l3], st, h) else mj_R 167 (818, [l0, l1, l2, l3], st, h) := mj_R_ieq rfl
set_option maxRecDepth 100000 in
theorem mq_167_818 {l0 l1 l2 l3 : Value} {st : List Value} {h : mj_H} : mj_R 167 (818, [l0, l1, l2, l3], st, h) = mj_R 167 (819, [l0, l1, l2, l3], .int (nI 1) :: st, h) := mj_R_next rfl rfl
set_option maxRecDepth 100000 in
theorem mq_167_819 {l0 l1 l2 l3 : Value} {st : List Value} {h : mj_H} : mj_R 167 (819, [l0, l1, l2, l3], st, h) = mj_R 167 (823, [l0, l1, l2, l3], st, h) := mj_R_next rfl rfl
set_option maxRecDepth 100000 in
theorem mq_167_822 {l0 l1 l2 l3 : Value} {st : List Value} {h : mj_H} : mj_R 167 (822, [l0, l1, l2, l3], st, h) = mj_R 167 (823, [l0, l1, l2, l3], .int (nI 0) :: st, h) := mj_R_next rfl rfl
set_option maxRecDepth 100000 in
theorem mq_167_823 {l0 l1 l2 l3 : Value} {a0 : Nat} {a1 : Int32} {a2 : Int32} {a3 : Int32} {h : mj_H} : mj_R 167 (823, [l0, l1, l2, l3], [.int a3, .int a2, .int a1, .ref a0], h) = if mj_isC h a0 6 = true then mj_bd (mj_C 95 [.ref a0, .int a1, .int a2, .int a3] h) (fun r => mj_R 167 (826, [l0, l1, l2, l3], r.1.toList ++ [], r.2)) else none := mj_R_cv rfl rfl
set_option maxRecDepth 100000 in
theorem mq_167_826 {l0 l1 l3 : Value} {x : Nat} {st : List Value} {h : mj_H} : mj_R 167 (826, [l0, l1, .ref x, l3], st, h) = mj_R 167 (827, [l0, l1, .ref x, l3], .ref x :: st, h) := mj_R_next rfl rfl
set_option maxRecDepth 100000 in
theorem mq_167_827 {l1 l2 l3 : Value} {x : Nat} {st : List Value} {h : mj_H} : mj_R 167 (827, [.ref x, l1, l2, l3], st, h) = mj_R 167 (828, [.ref x, l1, l2, l3], .ref x :: st, h) := mj_R_next rfl rfl
set_option maxRecDepth 100000 in
theorem mq_167_828 {l0 l1 l2 : Value} {x : Int32} {st : List Value} {h : mj_H} : mj_R 167 (828, [l0, l1, l2, .int x], st, h) = mj_R 167 (829, [l0, l1, l2, .int x], .int x :: st, h) := mj_R_next rfl rfl
set_option maxRecDepth 100000 in
theorem mq_167_829 {l0 l1 l2 l3 : Value} {st : List Value} {h : mj_H} : mj_R 167 (829, [l0, l1, l2, l3], st, h) = mj_R 167 (830, [l0, l1, l2, l3], .int (nI 1) :: st, h) := mj_R_next rfl rfl
set_option maxRecDepth 100000 in
theorem mq_167_830 {l0 l1 l2 l3 : Value} {x y : Int32} {st : List Value} {h : mj_H} : mj_R 167 (830, [l0, l1, l2, l3], .int y :: .int x :: st, h) = mj_R 167 (831, [l0, l1, l2, l3], .int (x + y) :: st, h) := mj_R_next rfl rfl
set_option maxRecDepth 100000 in
theorem mq_167_831 {l0 l1 l2 l3 : Value} {x : Nat} {j : Int32} {st : List Value} {h : mj_H} : mj_R 167 (831, [l0, l1, l2, l3], .int j :: .ref x :: st, h) = mj_bd (mj_gi h x j) (fun v => mj_R 167 (832, [l0, l1, l2, l3], .int v :: st, h)) := mj_R_gi rfl
set_option maxRecDepth 100000 in
theorem mq_167_832 {l1 l2 l3 : Value} {x : Nat} {st : List Value} {h : mj_H} : mj_R 167 (832, [.ref x, l1, l2, l3], st, h) = mj_R 167 (833, [.ref x, l1, l2, l3], .ref x :: st, h) := mj_R_next rfl rfl
set_option maxRecDepth 100000 in
theorem mq_167_833 {l0 l1 l2 : Value} {x : Int32} {st : List Value} {h : mj_H} : mj_R 167 (833, [l0, l1, l2, .int x], st, h) = mj_R 167 (834, [l0, l1, l2, .int x], .int x :: st, h) := mj_R_next rfl rfl
set_option maxRecDepth 100000 in
theorem mq_167_834 {l0 l1 l2 l3 : Value} {st : List Value} {h : mj_H} : mj_R 167 (834, [l0, l1, l2, l3], st, h) = mj_R 167 (835, [l0, l1, l2, l3], .int (nI 2) :: st, h) := mj_R_next rfl rfl
set_option maxRecDepth 100000 in
theorem mq_167_835 {l0 l1 l2 l3 : Value} {x y : Int32} {st : List Value} {h : mj_H} : mj_R 167 (835, [l0, l1, l2, l3], .int y :: .int x :: st, h) = mj_R 167 (836, [l0, l1, l2, l3], .int (x + y) :: st, h) := mj_R_next rfl rfl
set_option maxRecDepth 100000 in
theorem mq_167_836 {l0 l1 l2 l3 : Value} {x : Nat} {j : Int32} {st : List Value} {h : mj_H} : mj_R 167 (836, [l0, l1, l2, l3], .int j :: .ref x :: st, h) = mj_bd (mj_gi h x j) (fun v => mj_R 167 (837, [l0, l1, l2, l3], .int v :: st, h)) := mj_R_gi rfl
set_option maxRecDepth 100000 in
theorem mq_167_837 {l1 l2 l3 : Value} {x : Nat} {st : List Value} {h : mj_H} : mj_R 167 (837, [.ref x, l1, l2, l3], st, h) = mj_R 167 (838, [.ref x, l1, l2, l3], .ref x :: st, h) := mj_R_next rfl rfl
set_option maxRecDepth 100000 in
theorem mq_167_838 {l0 l1 l2 : Value} {x : Int32} {st : List Value} {h : mj_H} : mj_R 167 (838, [l0, l1, l2, .int x], st, h) = mj_R 167 (839, [l0, l1, l2, .int x], .int x :: st, h) := mj_R_next rfl rfl
set_option maxRecDepth 100000 in
theorem mq_167_839 {l0 l1 l2 l3 : Value} {st : List Value} {h : mj_H} : mj_R 167 (839, [l0, l1, l2, l3], st, h) = mj_R 167 (840, [l0, l1, l2, l3], .int (nI 3) :: st, h) := mj_R_next rfl rfl
set_option maxRecDepth 100000 in
theorem mq_167_840 {l0 l1 l2 l3 : Value} {x y : Int32} {st : List Value} {h : mj_H} : mj_R 167 (840, [l0, l1, l2, l3], .int y :: .int x :: st, h) = mj_R 167 (841, [l0, l1, l2, l3], .int (x + y) :: st, h) := mj_R_next rfl rfl
set_option maxRecDepth 100000 in
theorem mq_167_841 {l0 l1 l2 l3 : Value} {x : Nat} {j : Int32} {st : List Value} {h : mj_H} : mj_R 167 (841, [l0, l1, l2, l3], .int j :: .ref x :: st, h) = mj_bd (mj_gi h x j) (fun v => mj_R 167 (842, [l0, l1, l2, l3], .int v :: st, h)) := mj_R_gi rfl
set_option maxRecDepth 100000 in
theorem mq_167_842 {l0 l1 l2 l3 : Value} {x : Int32} {st : List Value} {h : mj_H} : mj_R 167 (842, [l0, l1, l2, l3], .int x :: st, h) = if x = nI 0 then mj_R 167 (849, [l0, l1, l2, l3], st, h) else mj_R 167 (845, [l0, l1, l2, l3], st, h) := mj_R_ieq rfl
set_option maxRecDepth 100000 in
theorem mq_167_845 {l0 l1 l2 l3 : Value} {st : List Value} {h : mj_H} : mj_R 167 (845, [l0, l1, l2, l3], st, h) = mj_R 167 (846, [l0, l1, l2, l3], .int (nI 1) :: st, h) := mj_R_next rfl rfl
set_option maxRecDepth 100000 in
theorem mq_167_846 {l0 l1 l2 l3 : Value} {st : List Value} {h : mj_H} : mj_R 167 (846, [l0, l1, l2, l3], st, h) = mj_R 167 (850, [l0, l1, l2, l3], st, h) := mj_R_next rfl rfl
set_option maxRecDepth 100000 in
theorem mq_167_849 {l0 l1 l2 l3 : Value} {st : List Value} {h : mj_H} : mj_R 167 (849, [l0, l1, l2, l3], st, h) = mj_R 167 (850, [l0, l1, l2, l3], .int (nI 0) :: st, h) := mj_R_next rfl rfl
set_option maxRecDepth 100000 in
theorem mq_167_850 {l0 l1 l2 l3 : Value} {a0 : Nat} {a1 : Int32} {a2 : Int32} {a3 : Int32} {s0 : Value} {h : mj_H} : mj_R 167 (850, [l0, l1, l2, l3], [.int a3, .int a2, .int a1, .ref a0, s0], h) = if mj_isC h a0 7 = true then mj_bd (mj_C 161 [.ref a0, .int a1, .int a2, .int a3] h) (fun r => mj_R 167 (853, [l0, l1, l2, l3], r.1.toList ++ [s0], r.2)) else none := mj_R_cv rfl rfl
set_option maxRecDepth 100000 in
theorem mq_167_853 {l0 l1 l2 l3 : Value} {x y : Int32} {st : List Value} {h : mj_H} : mj_R 167 (853, [l0, l1, l2, l3], .int y :: .int x :: st, h) = if x = y then mj_R 167 (981, [l0, l1, l2, l3], st, h) else mj_R 167 (856, [l0, l1, l2, l3], st, h) := mj_R_jeq rfl
set_option maxRecDepth 100000 in
theorem mq_167_856 {l0 l1 l2 l3 : Value} {st : List Value} {h : mj_H} : mj_R 167 (856, [l0, l1, l2, l3], st, h) = mj_R 167 (857, [l0, l1, l2, l3], .int (nI 0) :: st, h) := mj_R_next rfl rfl
set_option maxRecDepth 100000 in
theorem mq_167_857 {l0 l1 l2 l3 : Value} {x : Int32} {h : mj_H} : mj_R 167 (857, [l0, l1, l2, l3], [.int x], h) = if (x == 0 || x == 1) = true then some (some (.int x), h) else none := mj_R_rz rfl rfl
set_option maxRecDepth 100000 in
theorem mq_167_858 {l0 l2 l3 : Value} {x : Nat} {st : List Value} {h : mj_H} : mj_R 167 (858, [l0, .ref x, l2, l3], st, h) = mj_R 167 (859, [l0, .ref x, l2, l3], .ref x :: st, h) := mj_R_next rfl rfl
set_option maxRecDepth 100000 in
theorem mq_167_859 {l1 l2 l3 : Value} {x : Nat} {st : List Value} {h : mj_H} : mj_R 167 (859, [.ref x, l1, l2, l3], st, h) = mj_R 167 (860, [.ref x, l1, l2, l3], .ref x :: st, h) := mj_R_next rfl rfl
set_option maxRecDepth 100000 in
theorem mq_167_860 {l0 l1 l2 : Value} {x : Int32} {st : List Value} {h : mj_H} : mj_R 167 (860, [l0, l1, l2, .int x], st, h) = mj_R 167 (861, [l0, l1, l2, .int x], .int x :: st, h) := mj_R_next rfl rfl
set_option maxRecDepth 100000 in
theorem mq_167_861 {l0 l1 l2 l3 : Value} {st : List Value} {h : mj_H} : mj_R 167 (861, [l0, l1, l2, l3], st, h) = mj_R 167 (862, [l0, l1, l2, l3], .int (nI 1) :: st, h) := mj_R_next rfl rfl
set_option maxRecDepth 100000 in
theorem mq_167_862 {l0 l1 l2 l3 : Value} {x y : Int32} {st : List Value} {h : mj_H} : mj_R 167 (862, [l0, l1, l2, l3], .int y :: .int x :: st, h) = mj_R 167 (863, [l0, l1, l2, l3], .int (x + y) :: st, h) := mj_R_next rfl rfl
set_option maxRecDepth 100000 in
theorem mq_167_863 {l0 l1 l2 l3 : Value} {x : Nat} {j : Int32} {st : List Value} {h : mj_H} : mj_R 167 (863, [l0, l1, l2, l3], .int j :: .ref x :: st, h) = mj_bd (mj_gi h x j) (fun v => mj_R 167 (864, [l0, l1, l2, l3], .int v :: st, h)) := mj_R_gi rfl
set_option maxRecDepth 100000 in
theorem mq_167_864 {l0 l1 l2 l3 : Value} {x : Int32} {st : List Value} {h : mj_H} : mj_R 167 (864, [l0, l1, l2, l3], .int x :: st, h) = mj_R 167 (865, [l0, l1, l2, l3], .long x.toInt64 :: st, h) := mj_R_next rfl rfl
set_option maxRecDepth 100000 in
theorem mq_167_865 {l0 l1 l2 l3 : Value} {st : List Value} {h : mj_H} : mj_R 167 (865, [l0, l1, l2, l3], st, h) = mj_R 167 (867, [l0, l1, l2, l3], .int (nI 32) :: st, h) := mj_R_next rfl rfl
set_option maxRecDepth 100000 in
theorem mq_167_867 {l0 l1 l2 l3 : Value} {x : Int64} {y : Int32} {st : List Value} {h : mj_H} : mj_R 167 (867, [l0, l1, l2, l3], .int y :: .long x :: st, h) = mj_R 167 (868, [l0, l1, l2, l3], .long (x <<< (y.toInt64 &&& 63)) :: st, h) := mj_R_next rfl rfl
set_option maxRecDepth 100000 in
theorem mq_167_868 {l1 l2 l3 : Value} {x : Nat} {st : List Value} {h : mj_H} : mj_R 167 (868, [.ref x, l1, l2, l3], st, h) = mj_R 167 (869, [.ref x, l1, l2, l3], .ref x :: st, h) := mj_R_next rfl rfl
set_option maxRecDepth 100000 in
theorem mq_167_869 {l0 l1 l2 : Value} {x : Int32} {st : List Value} {h : mj_H} : mj_R 167 (869, [l0, l1, l2, .int x], st, h) = mj_R 167 (870, [l0, l1, l2, .int x], .int x :: st, h) := mj_R_next rfl rfl
set_option maxRecDepth 100000 in
theorem mq_167_870 {l0 l1 l2 l3 : Value} {st : List Value} {h : mj_H} : mj_R 167 (870, [l0, l1, l2, l3], st, h) = mj_R 167 (871, [l0, l1, l2, l3], .int (nI 2) :: st, h) := mj_R_next rfl rfl
set_option maxRecDepth 100000 in
theorem mq_167_871 {l0 l1 l2 l3 : Value} {x y : Int32} {st : List Value} {h : mj_H} : mj_R 167 (871, [l0, l1, l2, l3], .int y :: .int x :: st, h) = mj_R 167 (872, [l0, l1, l2, l3], .int (x + y) :: st, h) := mj_R_next rfl rfl
set_option maxRecDepth 100000 in
theorem mq_167_872 {l0 l1 l2 l3 : Value} {x : Nat} {j : Int32} {st : List Value} {h : mj_H} : mj_R 167 (872, [l0, l1, l2, l3], .int j :: .ref x :: st, h) = mj_bd (mj_gi h x j) (fun v => mj_R 167 (873, [l0, l1, l2, l3], .int v :: st, h)) := mj_R_gi rfl
set_option maxRecDepth 100000 in
theorem mq_167_873 {l0 l1 l2 l3 : Value} {x : Int32} {st : List Value} {h : mj_H} : mj_R 167 (873, [l0, l1, l2, l3], .int x :: st, h) = mj_R 167 (874, [l0, l1, l2, l3], .long x.toInt64 :: st, h) := mj_R_next rfl rfl
set_option maxRecDepth 100000 in
theorem mq_167_874 {l0 l1 l2 l3 : Value} {st : List Value} {h : mj_H} : mj_R 167 (874, [l0, l1, l2, l3], st, h) = mj_R 167 (877, [l0, l1, l2, l3], .long 4294967295 :: st, h) := mj_R_next rfl rfl
set_option maxRecDepth 100000 in
theorem mq_167_877 {l0 l1 l2 l3 : Value} {x y : Int64} {st : List Value} {h : mj_H} : mj_R 167 (877, [l0, l1, l2, l3], .long y :: .long x :: st, h) = mj_R 167 (878, [l0, l1, l2, l3], .long (x &&& y) :: st, h) := mj_R_next rfl rfl
set_option maxRecDepth 100000 in
theorem mq_167_878 {l0 l1 l2 l3 : Value} {x y : Int64} {st : List Value} {h : mj_H} : mj_R 167 (878, [l0, l1, l2, l3], .long y :: .long x :: st, h) = mj_R 167 (879, [l0, l1, l2, l3], .long (x ||| y) :: st, h) := mj_R_next rfl rfl
set_option maxRecDepth 100000 in
theorem mq_167_879 {l0 l1 l2 l3 : Value} {a0 : Nat} {a1 : Int64} {h : mj_H} : mj_R 167 (879, [l0, l1, l2, l3], [.long a1, .ref a0], h) = if mj_isC h a0 6 = true then mj_bd (mj_C 96 [.ref a0, .long a1] h) (fun r => mj_R 167 (882, [l0, l1, l2, l3], r.1.toList ++ [], r.2)) else none := mj_R_cv rfl rfl
set_option maxRecDepth 100000 in
theorem mq_167_882 {l0 l1 l3 : Value} {x : Nat} {st : List Value} {h : mj_H} : mj_R 167 (882, [l0, l1, .ref x, l3], st, h) = mj_R 167 (883, [l0, l1, .ref x, l3], .ref x :: st, h) := mj_R_next rfl rfl
set_option maxRecDepth 100000 in
theorem mq_167_883 {l1 l2 l3 : Value} {x : Nat} {st : List Value} {h : mj_H} : mj_R 167 (883, [.ref x, l1, l2, l3], st, h) = mj_R 167 (884, [.ref x, l1, l2, l3], .ref x :: st, h) := mj_R_next rfl rfl
set_option maxRecDepth 100000 in
theorem mq_167_884 {l0 l1 l2 : Value} {x : Int32} {st : List Value} {h : mj_H} : mj_R 167 (884, [l0, l1, l2, .int x], st, h) = mj_R 167 (885, [l0, l1, l2, .int x], .int x :: st, h) := mj_R_next rfl rfl
set_option maxRecDepth 100000 in
theorem mq_167_885 {l0 l1 l2 l3 : Value} {st : List Value} {h : mj_H} : mj_R 167 (885, [l0, l1, l2, l3], st, h) = mj_R 167 (886, [l0, l1, l2, l3], .int (nI 1) :: st, h) := mj_R_next rfl rfl
set_option maxRecDepth 100000 in
theorem mq_167_886 {l0 l1 l2 l3 : Value} {x y : Int32} {st : List Value} {h : mj_H} : mj_R 167 (886, [l0, l1, l2, l3], .int y :: .int x :: st, h) = mj_R 167 (887, [l0, l1, l2, l3], .int (x + y) :: st, h) := mj_R_next rfl rfl
set_option maxRecDepth 100000 in
theorem mq_167_887 {l0 l1 l2 l3 : Value} {x : Nat} {j : Int32} {st : List Value} {h : mj_H} : mj_R 167 (887, [l0, l1, l2, l3], .int j :: .ref x :: st, h) = mj_bd (mj_gi h x j) (fun v => mj_R 167 (888, [l0, l1, l2, l3], .int v :: st, h)) := mj_R_gi rfl
set_option maxRecDepth 100000 in
theorem mq_167_888 {l0 l1 l2 l3 : Value} {x : Int32} {st : List Value} {h : mj_H} : mj_R 167 (888, [l0, l1, l2, l3], .int x :: st, h) = mj_R 167 (889, [l0, l1, l2, l3], .long x.toInt64 :: st, h) := mj_R_next rfl rfl
set_option maxRecDepth 100000 in
theorem mq_167_889 {l0 l1 l2 l3 : Value} {st : List Value} {h : mj_H} : mj_R 167 (889, [l0, l1, l2, l3], st, h) = mj_R 167 (891, [l0, l1, l2, l3], .int (nI 32) :: st, h) := mj_R_next rfl rfl
set_option maxRecDepth 100000 in
theorem mq_167_891 {l0 l1 l2 l3 : Value} {x : Int64} {y : Int32} {st : List Value} {h : mj_H} : mj_R 167 (891, [l0, l1, l2, l3], .int y :: .long x :: st, h) = mj_R 167 (892, [l0, l1, l2, l3], .long (x <<< (y.toInt64 &&& 63)) :: st, h) := mj_R_next rfl rfl
set_option maxRecDepth 100000 in
theorem mq_167_892 {l1 l2 l3 : Value} {x : Nat} {st : List Value} {h : mj_H} : mj_R 167 (892, [.ref x, l1, l2, l3], st, h) = mj_R 167 (893, [.ref x, l1, l2, l3], .ref x :: st, h) := mj_R_next rfl rfl
set_option maxRecDepth 100000 in
theorem mq_167_893 {l0 l1 l2 : Value} {x : Int32} {st : List Value} {h : mj_H} : mj_R 167 (893, [l0, l1, l2, .int x], st, h) = mj_R 167 (894, [l0, l1, l2, .int x], .int x :: st, h) := mj_R_next rfl rfl
set_option maxRecDepth 100000 in
theorem mq_167_894 {l0 l1 l2 l3 : Value} {st : List Value} {h : mj_H} : mj_R 167 (894, [l0, l1, l2, l3], st, h) = mj_R 167 (895, [l0, l1, l2, l3], .int (nI 2) :: st, h) := mj_R_next rfl rfl
set_option maxRecDepth 100000 in
theorem mq_167_895 {l0 l1 l2 l3 : Value} {x y : Int32} {st : List Value} {h : mj_H} : mj_R 167 (895, [l0, l1, l2, l3], .int y :: .int x :: st, h) = mj_R 167 (896, [l0, l1, l2, l3], .int (x + y) :: st, h) := mj_R_next rfl rfl
set_option maxRecDepth 100000 in
theorem mq_167_896 {l0 l1 l2 l3 : Value} {x : Nat} {j : Int32} {st : List Value} {h : mj_H} : mj_R 167 (896, [l0, l1, l2, l3], .int j :: .ref x :: st, h) = mj_bd (mj_gi h x j) (fun v => mj_R 167 (897, [l0, l1, l2, l3], .int v :: st, h)) := mj_R_gi rfl
set_option maxRecDepth 100000 in
theorem mq_167_897 {l0 l1 l2 l3 : Value} {x : Int32} {st : List Value} {h : mj_H} : mj_R 167 (897, [l0, l1, l2, l3], .int x :: st, h) = mj_R 167 (898, [l0, l1, l2, l3], .long x.toInt64 :: st, h) := mj_R_next rfl rfl
set_option maxRecDepth 100000 in
theorem mq_167_898 {l0 l1 l2 l3 : Value} {st : List Value} {h : mj_H} : mj_R 167 (898, [l0, l1, l2, l3], st, h) = mj_R 167 (901, [l0, l1, l2, l3], .long 4294967295 :: st, h) := mj_R_next rfl rfl
set_option maxRecDepth 100000 in
theorem mq_167_901 {l0 l1 l2 l3 : Value} {x y : Int64} {st : List Value} {h : mj_H} : mj_R 167 (901, [l0, l1, l2, l3], .long y :: .long x :: st, h) = mj_R 167 (902, [l0, l1, l2, l3], .long (x &&& y) :: st, h) := mj_R_next rfl rfl
set_option maxRecDepth 100000 in
theorem mq_167_902 {l0 l1 l2 l3 : Value} {x y : Int64} {st : List Value} {h : mj_H} : mj_R 167 (902, [l0, l1, l2, l3], .long y :: .long x :: st, h) = mj_R 167 (903, [l0, l1, l2, l3], .long (x ||| y) :: st, h) := mj_R_next rfl rfl
set_option maxRecDepth 100000 in
theorem mq_167_903 {l0 l1 l2 l3 : Value} {a0 : Nat} {a1 : Int64} {s0 : Value} {h : mj_H} : mj_R 167 (903, [l0, l1, l2, l3], [.long a1, .ref a0, s0], h) = if mj_isC h a0 7 = true then mj_bd (mj_C 162 [.ref a0, .long a1] h) (fun r => mj_R 167 (906, [l0, l1, l2, l3], r.1.toList ++ [s0], r.2)) else none := mj_R_cv rfl rfl
set_option maxRecDepth 100000 in
theorem mq_167_906 {l0 l1 l2 l3 : Value} {x y : Int64} {st : List Value} {h : mj_H} : mj_R 167 (906, [l0, l1, l2, l3], .long y :: .long x :: st, h) = mj_R 167 (907, [l0, l1, l2, l3], .int (lg_cmp x y) :: st, h) := mj_R_next rfl rfl
set_option maxRecDepth 100000 in
theorem mq_167_907 {l0 l1 l2 l3 : Value} {x : Int32} {st : List Value} {h : mj_H} : mj_R 167 (907, [l0, l1, l2, l3], .int x :: st, h) = if x = nI 0 then mj_R 167 (981, [l0, l1, l2, l3], st, h) else mj_R 167 (910, [l0, l1, l2, l3], st, h) := mj_R_ieq rfl
set_option maxRecDepth 100000 in
theorem mq_167_910 {l0 l1 l2 l3 : Value} {st : List Value} {h : mj_H} : mj_R 167 (910, [l0, l1, l2, l3], st, h) = mj_R 167 (911, [l0, l1, l2, l3], .int (nI 0) :: st, h) := mj_R_next rfl rfl
set_option maxRecDepth 100000 in
theorem mq_167_911 {l0 l1 l2 l3 : Value} {x : Int32} {h : mj_H} : mj_R 167 (911, [l0, l1, l2, l3], [.int x], h) = if (x == 0 || x == 1) = true then some (some (.int x), h) else none := mj_R_rz rfl rfl
set_option maxRecDepth 100000 in
theorem mq_167_912 {l0 l2 l3 : Value} {x : Nat} {st : List Value} {h : mj_H} : mj_R 167 (912, [l0, .ref x, l2, l3], st, h) = mj_R 167 (913, [l0, .ref x, l2, l3], .ref x :: st, h) := mj_R_next rfl rfl
set_option maxRecDepth 100000 in
theorem mq_167_913 {l1 l2 l3 : Value} {x : Nat} {st : List Value} {h : mj_H} : mj_R 167 (913, [.ref x, l1, l2, l3], st, h) = mj_R 167 (914, [.ref x, l1, l2, l3], .ref x :: st, h) := mj_R_next rfl rfl
set_option maxRecDepth 100000 in
theorem mq_167_914 {l0 l1 l2 : Value} {x : Int32} {st : List Value} {h : mj_H} : mj_R 167 (914, [l0, l1, l2, .int x], st, h) = mj_R 167 (915, [l0, l1, l2, .int x], .int x :: st, h) := mj_R_next rfl rfl
set_option maxRecDepth 100000 in
theorem mq_167_915 {l0 l1 l2 l3 : Value} {st : List Value} {h : mj_H} : mj_R 167 (915, [l0, l1, l2, l3], st, h) = mj_R 167 (916, [l0, l1, l2, l3], .int (nI 1) :: st, h) := mj_R_next rfl rfl
set_option maxRecDepth 100000 in
theorem mq_167_916 {l0 l1 l2 l3 : Value} {x y : Int32} {st : List Value} {h : mj_H} : mj_R 167 (916, [l0, l1, l2, l3], .int y :: .int x :: st, h) = mj_R 167 (917, [l0, l1, l2, l3], .int (x + y) :: st, h) := mj_R_next rfl rfl
set_option maxRecDepth 100000 in
theorem mq_167_917 {l0 l1 l2 l3 : Value} {x : Nat} {j : Int32} {st : List Value} {h : mj_H} : mj_R 167 (917, [l0, l1, l2, l3], .int j :: .ref x :: st, h) = mj_bd (mj_gi h x j) (fun v => mj_R 167 (918, [l0, l1, l2, l3], .int v :: st, h)) := mj_R_gi rfl
set_option maxRecDepth 100000 in
theorem mq_167_918 {l0 l1 l2 l3 : Value} {a0 : Nat} {a1 : Int32} {h : mj_H} : mj_R 167 (918, [l0, l1, l2, l3], [.int a1, .ref a0], h) = if mj_isC h a0 6 = true then mj_bd (mj_C 97 [.ref a0, .int a1] h) (fun r => mj_R 167 (921, [l0, l1, l2, l3], r.1.toList ++ [], r.2)) else none := mj_R_cv rfl rfl
set_option maxRecDepth 100000 in
theorem mq_167_921 {l0 l1 l3 : Value} {x : Nat} {st : List Value} {h : mj_H} : mj_R 167 (921, [l0, l1, .ref x, l3], st, h) = mj_R 167 (922, [l0, l1, .ref x, l3], .ref x :: st, h) := mj_R_next rfl rfl
set_option maxRecDepth 100000 in
theorem mq_167_922 {l1 l2 l3 : Value} {x : Nat} {st : List Value} {h : mj_H} : mj_R 167 (922, [.ref x, l1, l2, l3], st, h) = mj_R 167 (923, [.ref x, l1, l2, l3], .ref x :: st, h) := mj_R_next rfl rfl
set_option maxRecDepth 100000 in
theorem mq_167_923 {l0 l1 l2 : Value} {x : Int32} {st : List Value} {h : mj_H} : mj_R 167 (923, [l0, l1, l2, .int x], st, h) = mj_R 167 (924, [l0, l1, l2, .int x], .int x :: st, h) := mj_R_next rfl rfl
set_option maxRecDepth 100000 in
theorem mq_167_924 {l0 l1 l2 l3 : Value} {st : List Value} {h : mj_H} : mj_R 167 (924, [l0, l1, l2, l3], st, h) = mj_R 167 (925, [l0, l1, l2, l3], .int (nI 1) :: st, h) := mj_R_next rfl rfl
set_option maxRecDepth 100000 in
theorem mq_167_925 {l0 l1 l2 l3 : Value} {x y : Int32} {st : List Value} {h : mj_H} : mj_R 167 (925, [l0, l1, l2, l3], .int y :: .int x :: st, h) = mj_R 167 (926, [l0, l1, l2, l3], .int (x + y) :: st, h) := mj_R_next rfl rfl
set_option maxRecDepth 100000 in
theorem mq_167_926 {l0 l1 l2 l3 : Value} {x : Nat} {j : Int32} {st : List Value} {h : mj_H} : mj_R 167 (926, [l0, l1, l2, l3], .int j :: .ref x :: st, h) = mj_bd (mj_gi h x j) (fun v => mj_R 167 (927, [l0, l1, l2, l3], .int v :: st, h)) := mj_R_gi rfl
set_option maxRecDepth 100000 in
theorem mq_167_927 {l0 l1 l2 l3 : Value} {a0 : Nat} {a1 : Int32} {s0 : Value} {h : mj_H} : mj_R 167 (927, [l0, l1, l2, l3], [.int a1, .ref a0, s0], h) = if mj_isC h a0 7 = true then mj_bd (mj_C 163 [.ref a0, .int a1] h) (fun r => mj_R 167 (930, [l0, l1, l2, l3], r.1.toList ++ [s0], r.2)) else none := mj_R_cv rfl rfl
set_option maxRecDepth 100000 in
theorem mq_167_930 {l0 l1 l2 l3 : Value} {x y : Int32} {st : List Value} {h : mj_H} : mj_R 167 (930, [l0, l1, l2, l3], .int y :: .int x :: st, h) = if x = y then mj_R 167 (981, [l0, l1, l2, l3], st, h) else mj_R 167 (933, [l0, l1, l2, l3], st, h) := mj_R_jeq rfl
set_option maxRecDepth 100000 in
theorem mq_167_933 {l0 l1 l2 l3 : Value} {st : List Value} {h : mj_H} : mj_R 167 (933, [l0, l1, l2, l3], st, h) = mj_R 167 (934, [l0, l1, l2, l3], .int (nI 0) :: st, h) := mj_R_next rfl rfl
set_option maxRecDepth 100000 in
theorem mq_167_934 {l0 l1 l2 l3 : Value} {x : Int32} {h : mj_H} : mj_R 167 (934, [l0, l1, l2, l3], [.int x], h) = if (x == 0 || x == 1) = true then some (some (.int x), h) else none := mj_R_rz rfl rfl
set_option maxRecDepth 100000 in
theorem mq_167_935 {l0 l2 l3 : Value} {x : Nat} {st : List Value} {h : mj_H} : mj_R 167 (935, [l0, .ref x, l2, l3], st, h) = mj_R 167 (936, [l0, .ref x, l2, l3], .ref x :: st, h) := mj_R_next rfl rfl
set_option maxRecDepth 100000 in
theorem mq_167_936 {l1 l2 l3 : Value} {x : Nat} {st : List Value} {h : mj_H} : mj_R 167 (936, [.ref x, l1, l2, l3], st, h) = mj_R 167 (937, [.ref x, l1, l2, l3], .ref x :: st, h) := mj_R_next rfl rfl
set_option maxRecDepth 100000 in
theorem mq_167_937 {l0 l1 l2 : Value} {x : Int32} {st : List Value} {h : mj_H} : mj_R 167 (937, [l0, l1, l2, .int x], st, h) = mj_R 167 (938, [l0, l1, l2, .int x], .int x :: st, h) := mj_R_next rfl rfl
set_option maxRecDepth 100000 in
theorem mq_167_938 {l0 l1 l2 l3 : Value} {st : List Value} {h : mj_H} : mj_R 167 (938, [l0, l1, l2, l3], st, h) = mj_R 167 (939, [l0, l1, l2, l3], .int (nI 1) :: st, h) := mj_R_next rfl rfl
set_option maxRecDepth 100000 in
theorem mq_167_939 {l0 l1 l2 l3 : Value} {x y : Int32} {st : List Value} {h : mj_H} : mj_R 167 (939, [l0, l1, l2, l3], .int y :: .int x :: st, h) = mj_R 167 (940, [l0, l1, l2, l3], .int (x + y) :: st, h) := mj_R_next rfl rfl
set_option maxRecDepth 100000 in
theorem mq_167_940 {l0 l1 l2 l3 : Value} {x : Nat} {j : Int32} {st : List Value} {h : mj_H} : mj_R 167 (940, [l0, l1, l2, l3], .int j :: .ref x :: st, h) = mj_bd (mj_gi h x j) (fun v => mj_R 167 (941, [l0, l1, l2, l3], .int v :: st, h)) := mj_R_gi rfl
set_option maxRecDepth 100000 in
theorem mq_167_941 {l0 l1 l2 l3 : Value} {a0 : Nat} {a1 : Int32} {h : mj_H} : mj_R 167 (941, [l0, l1, l2, l3], [.int a1, .ref a0], h) = if mj_isC h a0 6 = true then mj_bd (mj_C 98 [.ref a0, .int a1] h) (fun r => mj_R 167 (944, [l0, l1, l2, l3], r.1.toList ++ [], r.2)) else none := mj_R_cv rfl rfl
set_option maxRecDepth 100000 in
theorem mq_167_944 {l0 l1 l3 : Value} {x : Nat} {st : List Value} {h : mj_H} : mj_R 167 (944, [l0, l1, .ref x, l3], st, h) = mj_R 167 (945, [l0, l1, .ref x, l3], .ref x :: st, h) := mj_R_next rfl rfl
set_option maxRecDepth 100000 in
theorem mq_167_945 {l1 l2 l3 : Value} {x : Nat} {st : List Value} {h : mj_H} : mj_R 167 (945, [.ref x, l1, l2, l3], st, h) = mj_R 167 (946, [.ref x, l1, l2, l3], .ref x :: st, h) := mj_R_next rfl rfl
set_option maxRecDepth 100000 in
theorem mq_167_946 {l0 l1 l2 : Value} {x : Int32} {st : List Value} {h : mj_H} : mj_R 167 (946, [l0, l1, l2, .int x], st, h) = mj_R 167 (947, [l0, l1, l2, .int x], .int x :: st, h) := mj_R_next rfl rfl
set_option maxRecDepth 100000 in
theorem mq_167_947 {l0 l1 l2 l3 : Value} {st : List Value} {h : mj_H} : mj_R 167 (947, [l0, l1, l2, l3], st, h) = mj_R 167 (948, [l0, l1, l2, l3], .int (nI 1) :: st, h) := mj_R_next rfl rfl
set_option maxRecDepth 100000 in
theorem mq_167_948 {l0 l1 l2 l3 : Value} {x y : Int32} {st : List Value} {h : mj_H} : mj_R 167 (948, [l0, l1, l2, l3], .int y :: .int x :: st, h) = mj_R 167 (949, [l0, l1, l2, l3], .int (x + y) :: st, h) := mj_R_next rfl rfl
set_option maxRecDepth 100000 in
theorem mq_167_949 {l0 l1 l2 l3 : Value} {x : Nat} {j : Int32} {st : List Value} {h : mj_H} : mj_R 167 (949, [l0, l1, l2, l3], .int j :: .ref x :: st, h) = mj_bd (mj_gi h x j) (fun v => mj_R 167 (950, [l0, l1, l2, l3], .int v :: st, h)) := mj_R_gi rfl
set_option maxRecDepth 100000 in
theorem mq_167_950 {l0 l1 l2 l3 : Value} {a0 : Nat} {a1 : Int32} {s0 : Value} {h : mj_H} : mj_R 167 (950, [l0, l1, l2, l3], [.int a1, .ref a0, s0], h) = if mj_isC h a0 7 = true then mj_bd (mj_C 164 [.ref a0, .int a1] h) (fun r => mj_R 167 (953, [l0, l1, l2, l3], r.1.toList ++ [s0], r.2)) else none := mj_R_cv rfl rfl
set_option maxRecDepth 100000 in
theorem mq_167_953 {l0 l1 l2 l3 : Value} {x y : Int32} {st : List Value} {h : mj_H} : mj_R 167 (953, [l0, l1, l2, l3], .int y :: .int x :: st, h) = if x = y then mj_R 167 (981, [l0, l1, l2, l3], st, h) else mj_R 167 (956, [l0, l1, l2, l3], st, h) := mj_R_jeq rfl
set_option maxRecDepth 100000 in
theorem mq_167_956 {l0 l1 l2 l3 : Value} {st : List Value} {h : mj_H} : mj_R 167 (956, [l0, l1, l2, l3], st, h) = mj_R 167 (957, [l0, l1, l2, l3], .int (nI 0) :: st, h) := mj_R_next rfl rfl
set_option maxRecDepth 100000 in
theorem mq_167_957 {l0 l1 l2 l3 : Value} {x : Int32} {h : mj_H} : mj_R 167 (957, [l0, l1, l2, l3], [.int x], h) = if (x == 0 || x == 1) = true then some (some (.int x), h) else none := mj_R_rz rfl rfl
set_option maxRecDepth 100000 in
theorem mq_167_958 {l0 l2 l3 : Value} {x : Nat} {st : List Value} {h : mj_H} : mj_R 167 (958, [l0, .ref x, l2, l3], st, h) = mj_R 167 (959, [l0, .ref x, l2, l3], .ref x :: st, h) := mj_R_next rfl rfl
set_option maxRecDepth 100000 in
theorem mq_167_959 {l1 l2 l3 : Value} {x : Nat} {st : List Value} {h : mj_H} : mj_R 167 (959, [.ref x, l1, l2, l3], st, h) = mj_R 167 (960, [.ref x, l1, l2, l3], .ref x :: st, h) := mj_R_next rfl rfl
set_option maxRecDepth 100000 in
theorem mq_167_960 {l0 l1 l2 : Value} {x : Int32} {st : List Value} {h : mj_H} : mj_R 167 (960, [l0, l1, l2, .int x], st, h) = mj_R 167 (961, [l0, l1, l2, .int x], .int x :: st, h) := mj_R_next rfl rfl
set_option maxRecDepth 100000 in
theorem mq_167_961 {l0 l1 l2 l3 : Value} {st : List Value} {h : mj_H} : mj_R 167 (961, [l0, l1, l2, l3], st, h) = mj_R 167 (962, [l0, l1, l2, l3], .int (nI 1) :: st, h) := mj_R_next rfl rfl
set_option maxRecDepth 100000 in
theorem mq_167_962 {l0 l1 l2 l3 : Value} {x y : Int32} {st : List Value} {h : mj_H} : mj_R 167 (962, [l0, l1, l2, l3], .int y :: .int x :: st, h) = mj_R 167 (963, [l0, l1, l2, l3], .int (x + y) :: st, h) := mj_R_next rfl rfl
set_option maxRecDepth 100000 in
theorem mq_167_963 {l0 l1 l2 l3 : Value} {x : Nat} {j : Int32} {st : List Value} {h : mj_H} : mj_R 167 (963, [l0, l1, l2, l3], .int j :: .ref x :: st, h) = mj_bd (mj_gi h x j) (fun v => mj_R 167 (964, [l0, l1, l2, l3], .int v :: st, h)) := mj_R_gi rfl
set_option maxRecDepth 100000 in
theorem mq_167_964 {l0 l1 l2 l3 : Value} {a0 : Nat} {a1 : Int32} {h : mj_H} : mj_R 167 (964, [l0, l1, l2, l3], [.int a1, .ref a0], h) = if mj_isC h a0 6 = true then mj_bd (mj_C 100 [.ref a0, .int a1] h) (fun r => mj_R 167 (967, [l0, l1, l2, l3], r.1.toList ++ [], r.2)) else none := mj_R_cv rfl rfl
set_option maxRecDepth 100000 in
theorem mq_167_967 {l0 l1 l3 : Value} {x : Nat} {st : List Value} {h : mj_H} : mj_R 167 (967, [l0, l1, .ref x, l3], st, h) = mj_R 167 (968, [l0, l1, .ref x, l3], .ref x :: st, h) := mj_R_next rfl rfl
set_option maxRecDepth 100000 in
theorem mq_167_968 {l1 l2 l3 : Value} {x : Nat} {st : List Value} {h : mj_H} : mj_R 167 (968, [.ref x, l1, l2, l3], st, h) = mj_R 167 (969, [.ref x, l1, l2, l3], .ref x :: st, h) := mj_R_next rfl rfl
set_option maxRecDepth 100000 in
theorem mq_167_969 {l0 l1 l2 : Value} {x : Int32} {st : List Value} {h : mj_H} : mj_R 167 (969, [l0, l1, l2, .int x], st, h) = mj_R 167 (970, [l0, l1, l2, .int x], .int x :: st, h) := mj_R_next rfl rfl
set_option maxRecDepth 100000 in
theorem mq_167_970 {l0 l1 l2 l3 : Value} {st : List Value} {h : mj_H} : mj_R 167 (970, [l0, l1, l2, l3], st, h) = mj_R 167 (971, [l0, l1, l2, l3], .int (nI 1) :: st, h) := mj_R_next rfl rfl
set_option maxRecDepth 100000 in
theorem mq_167_971 {l0 l1 l2 l3 : Value} {x y : Int32} {st : List Value} {h : mj_H} : mj_R 167 (971, [l0, l1, l2, l3], .int y :: .int x :: st, h) = mj_R 167 (972, [l0, l1, l2, l3], .int (x + y) :: st, h) := mj_R_next rfl rfl
set_option maxRecDepth 100000 in
theorem mq_167_972 {l0 l1 l2 l3 : Value} {x : Nat} {j : Int32} {st : List Value} {h : mj_H} : mj_R 167 (972, [l0, l1, l2, l3], .int j :: .ref x :: st, h) = mj_bd (mj_gi h x j) (fun v => mj_R 167 (973, [l0, l1, l2, l3], .int v :: st, h)) := mj_R_gi rfl
set_option maxRecDepth 100000 in
theorem mq_167_973 {l0 l1 l2 l3 : Value} {a0 : Nat} {a1 : Int32} {s0 : Value} {h : mj_H} : mj_R 167 (973, [l0, l1, l2, l3], [.int a1, .ref a0, s0], h) = if mj_isC h a0 7 = true then mj_bd (mj_C 165 [.ref a0, .int a1] h) (fun r => mj_R 167 (976, [l0, l1, l2, l3], r.1.toList ++ [s0], r.2)) else none := mj_R_cv rfl rfl
set_option maxRecDepth 100000 in
theorem mq_167_976 {l0 l1 l2 l3 : Value} {x y : Int32} {st : List Value} {h : mj_H} : mj_R 167 (976, [l0, l1, l2, l3], .int y :: .int x :: st, h) = if x = y then mj_R 167 (981, [l0, l1, l2, l3], st, h) else mj_R 167 (979, [l0, l1, l2, l3], st, h) := mj_R_jeq rfl
set_option maxRecDepth 100000 in
theorem mq_167_979 {l0 l1 l2 l3 : Value} {st : List Value} {h : mj_H} : mj_R 167 (979, [l0, l1, l2, l3], st, h) = mj_R 167 (980, [l0, l1, l2, l3], .int (nI 0) :: st, h) := mj_R_next rfl rfl
set_option maxRecDepth 100000 in
theorem mq_167_980 {l0 l1 l2 l3 : Value} {x : Int32} {h : mj_H} : mj_R 167 (980, [l0, l1, l2, l3], [.int x], h) = if (x == 0 || x == 1) = true then some (some (.int x), h) else none := mj_R_rz rfl rfl
set_option maxRecDepth 100000 in
theorem mq_167_981 {l0 l1 l2 : Value} {x : Int32} {st : List Value} {h : mj_H} : mj_R 167 (981, [l0, l1, l2, .int x], st, h) = mj_R 167 (984, [l0, l1, l2, .int (x + (nI 4))], st, h) := mj_R_next rfl rfl
set_option maxRecDepth 100000 in
theorem mq_167_984 {l0 l1 l2 l3 : Value} {st : List Value} {h : mj_H} : mj_R 167 (984, [l0, l1, l2, l3], st, h) = mj_R 167 (18, [l0, l1, l2, l3], st, h) := mj_R_next rfl rfl
set_option maxRecDepth 100000 in
theorem mq_167_987 {l0 l1 l2 l3 : Value} {st : List Value} {h : mj_H} : mj_R 167 (987, [l0, l1, l2, l3], st, h) = mj_R 167 (988, [l0, l1, l2, l3], .int (nI 1) :: st, h) := mj_R_next rfl rfl
set_option maxRecDepth 100000 in
theorem mq_167_988 {l0 l1 l2 l3 : Value} {x : Int32} {h : mj_H} : mj_R 167 (988, [l0, l1, l2, l3], [.int x], h) = if (x == 0 || x == 1) = true then some (some (.int x), h) else none := mj_R_rz rfl rfl
