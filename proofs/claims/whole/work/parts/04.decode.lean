/-- what a row says of the instruction's links, jumps and rooms, by the lists -/
def mj_chk (i : Nat) (q : mj_Row) : Bool :=
  match q with
  | (pc, ins, _, a, b) =>
  match ins with
  | .getfield idx => mj_lkF.any (fun w => w.1 == mj_w i && w.2.1 == idx && w.2.2.1 == a && w.2.2.2.1 == b)
  | .putfield idx => mj_lkF.any (fun w => w.1 == mj_w i && w.2.1 == idx && w.2.2.1 == a && w.2.2.2.1 == b) && (!(mj_tf a b).2.2.2 || ((mj_y i).name == "<init>" && (mj_tf a b).1 == mj_on (mj_w i)))
  | .invokevirtual idx => mj_lkM.any (fun w => w.1 == mj_w i && w.2.1 == idx && w.2.2.1 == a) && b == mj_n a + 1 && !mj_z a && (mj_y a).name != "<init>" && decide (a < 167 ∧ mj_f a + 1 ≤ mj_f i ∧ 8 + (mj_m a + 11) + mj_o a ≤ mj_o i)
  | .invokestatic idx => (mj_lkM.any (fun w => w.1 == mj_w i && w.2.1 == idx && w.2.2.1 == a) && b == mj_n a && mj_z a && decide (a < 167 ∧ mj_f a + 1 ≤ mj_f i ∧ 8 + (mj_m a + 11) + mj_o a ≤ mj_o i)) || (mj_lkX.any (fun w => w.1 == mj_w i && w.2.1 == idx && w.2.2.1 == a) && b == 2 && (a == 998 || a == 997) && decide (1 ≤ mj_f i ∧ 21 ≤ mj_o i))
  | .invokespecial idx => ((mj_lkM.any (fun w => w.1 == mj_w i && w.2.1 == idx && w.2.2.1 == a) || mj_lkN.any (fun w => w.1 == mj_w i && w.2.1 == idx && w.2.2 == a)) && b == mj_n a + 1 && !mj_z a && (mj_y a).name == "<init>" && decide (a < 167 ∧ mj_f a + 1 ≤ mj_f i ∧ 8 + (mj_m a + 11) + mj_o a ≤ mj_o i)) || (mj_lkO.any (fun w => w.1 == mj_w i && w.2.1 == idx) && a == 999 && decide (1 ≤ mj_f i ∧ 20 ≤ mj_o i))
  | .new idx => mj_lkC.any (fun w => w.1 == mj_w i && w.2.1 == idx && w.2.2.1 == a) && decide (a < 8)
  | .anewarray idx => mj_lkC.any (fun w => w.1 == mj_w i && w.2.1 == idx && w.2.2.1 == a) && a == 2
  | .ldc2_w idx => mj_lkL.any (fun w => w.1 == mj_w i && w.2.1 == idx && w.2.2.1 == a)
  | .ldc_w idx => mj_lkI.any (fun w => w.1 == mj_w i && w.2.1 == idx && w.2.2.1 == a)
  | .goto off => decide ((pc : Int) + off = (a : Int))
  | .ifCond _ off => decide ((pc : Int) + off = (a : Int))
  | .if_icmp _ off => decide ((pc : Int) + off = (a : Int))
  | _ => true
theorem mj_d0_0 : ∀ q ∈ mj_c0_0, decode prog_2_method_1_code q.1 = .ok (q.2.1, q.2.2.1) := by decide +kernel
theorem mj_k0_0 : ∀ q ∈ mj_c0_0, mj_chk 0 q = true := by decide +kernel
theorem mj_d0 : ∀ q ∈ mj_code 0, decode (mj_b 0) q.1 = .ok (q.2.1, q.2.2.1) := mj_d0_0
theorem mj_k0 : ∀ q ∈ mj_code 0, mj_chk 0 q = true := mj_k0_0
theorem mj_d1_0 : ∀ q ∈ mj_c1_0, decode prog_2_method_2_code q.1 = .ok (q.2.1, q.2.2.1) := by decide +kernel
theorem mj_k1_0 : ∀ q ∈ mj_c1_0, mj_chk 1 q = true := by decide +kernel
theorem mj_d1 : ∀ q ∈ mj_code 1, decode (mj_b 1) q.1 = .ok (q.2.1, q.2.2.1) := mj_d1_0
theorem mj_k1 : ∀ q ∈ mj_code 1, mj_chk 1 q = true := mj_k1_0
theorem mj_d2_0 : ∀ q ∈ mj_c2_0, decode prog_2_method_3_code q.1 = .ok (q.2.1, q.2.2.1) := by decide +kernel
theorem mj_k2_0 : ∀ q ∈ mj_c2_0, mj_chk 2 q = true := by decide +kernel
theorem mj_d2 : ∀ q ∈ mj_code 2, decode (mj_b 2) q.1 = .ok (q.2.1, q.2.2.1) := mj_d2_0
theorem mj_k2 : ∀ q ∈ mj_code 2, mj_chk 2 q = true := mj_k2_0
theorem mj_d3_0 : ∀ q ∈ mj_c3_0, decode prog_2_method_5_code q.1 = .ok (q.2.1, q.2.2.1) := by decide +kernel
theorem mj_k3_0 : ∀ q ∈ mj_c3_0, mj_chk 3 q = true := by decide +kernel
theorem mj_d3 : ∀ q ∈ mj_code 3, decode (mj_b 3) q.1 = .ok (q.2.1, q.2.2.1) := mj_d3_0
theorem mj_k3 : ∀ q ∈ mj_code 3, mj_chk 3 q = true := mj_k3_0
theorem mj_d4_0 : ∀ q ∈ mj_c4_0, decode prog_2_method_4_code q.1 = .ok (q.2.1, q.2.2.1) := by decide +kernel
theorem mj_k4_0 : ∀ q ∈ mj_c4_0, mj_chk 4 q = true := by decide +kernel
theorem mj_d4 : ∀ q ∈ mj_code 4, decode (mj_b 4) q.1 = .ok (q.2.1, q.2.2.1) := mj_d4_0
theorem mj_k4 : ∀ q ∈ mj_code 4, mj_chk 4 q = true := mj_k4_0
theorem mj_d5_0 : ∀ q ∈ mj_c5_0, decode prog_3_method_1_code q.1 = .ok (q.2.1, q.2.2.1) := by decide +kernel
theorem mj_k5_0 : ∀ q ∈ mj_c5_0, mj_chk 5 q = true := by decide +kernel
theorem mj_d5 : ∀ q ∈ mj_code 5, decode (mj_b 5) q.1 = .ok (q.2.1, q.2.2.1) := mj_d5_0
theorem mj_k5 : ∀ q ∈ mj_code 5, mj_chk 5 q = true := mj_k5_0
theorem mj_d6_0 : ∀ q ∈ mj_c6_0, decode prog_3_method_2_code q.1 = .ok (q.2.1, q.2.2.1) := by decide +kernel
theorem mj_k6_0 : ∀ q ∈ mj_c6_0, mj_chk 6 q = true := by decide +kernel
theorem mj_d6_1 : ∀ q ∈ mj_c6_1, decode prog_3_method_2_code q.1 = .ok (q.2.1, q.2.2.1) := by decide +kernel
theorem mj_k6_1 : ∀ q ∈ mj_c6_1, mj_chk 6 q = true := by decide +kernel
theorem mj_d6 : ∀ q ∈ mj_code 6, decode (mj_b 6) q.1 = .ok (q.2.1, q.2.2.1) := List.forall_mem_append.mpr ⟨mj_d6_0, mj_d6_1⟩
theorem mj_k6 : ∀ q ∈ mj_code 6, mj_chk 6 q = true := List.forall_mem_append.mpr ⟨mj_k6_0, mj_k6_1⟩
theorem mj_d7_0 : ∀ q ∈ mj_c7_0, decode prog_3_method_4_code q.1 = .ok (q.2.1, q.2.2.1) := by decide +kernel
theorem mj_k7_0 : ∀ q ∈ mj_c7_0, mj_chk 7 q = true := by decide +kernel
theorem mj_d7 : ∀ q ∈ mj_code 7, decode (mj_b 7) q.1 = .ok (q.2.1, q.2.2.1) := mj_d7_0
theorem mj_k7 : ∀ q ∈ mj_code 7, mj_chk 7 q = true := mj_k7_0
theorem mj_d8_0 : ∀ q ∈ mj_c8_0, decode prog_3_method_3_code q.1 = .ok (q.2.1, q.2.2.1) := by decide +kernel
theorem mj_k8_0 : ∀ q ∈ mj_c8_0, mj_chk 8 q = true := by decide +kernel
theorem mj_d8_1 : ∀ q ∈ mj_c8_1, decode prog_3_method_3_code q.1 = .ok (q.2.1, q.2.2.1) := by decide +kernel
theorem mj_k8_1 : ∀ q ∈ mj_c8_1, mj_chk 8 q = true := by decide +kernel
theorem mj_d8 : ∀ q ∈ mj_code 8, decode (mj_b 8) q.1 = .ok (q.2.1, q.2.2.1) := List.forall_mem_append.mpr ⟨mj_d8_0, mj_d8_1⟩
theorem mj_k8 : ∀ q ∈ mj_code 8, mj_chk 8 q = true := List.forall_mem_append.mpr ⟨mj_k8_0, mj_k8_1⟩
theorem mj_d9_0 : ∀ q ∈ mj_c9_0, decode prog_4_method_1_code q.1 = .ok (q.2.1, q.2.2.1) := by decide +kernel
theorem mj_k9_0 : ∀ q ∈ mj_c9_0, mj_chk 9 q = true := by decide +kernel
theorem mj_d9 : ∀ q ∈ mj_code 9, decode (mj_b 9) q.1 = .ok (q.2.1, q.2.2.1) := mj_d9_0
theorem mj_k9 : ∀ q ∈ mj_code 9, mj_chk 9 q = true := mj_k9_0
theorem mj_d10_0 : ∀ q ∈ mj_c10_0, decode prog_4_method_2_code q.1 = .ok (q.2.1, q.2.2.1) := by decide +kernel
theorem mj_k10_0 : ∀ q ∈ mj_c10_0, mj_chk 10 q = true := by decide +kernel
theorem mj_d10 : ∀ q ∈ mj_code 10, decode (mj_b 10) q.1 = .ok (q.2.1, q.2.2.1) := mj_d10_0
theorem mj_k10 : ∀ q ∈ mj_code 10, mj_chk 10 q = true := mj_k10_0
theorem mj_d11_0 : ∀ q ∈ mj_c11_0, decode prog_4_method_6_code q.1 = .ok (q.2.1, q.2.2.1) := by decide +kernel
theorem mj_k11_0 : ∀ q ∈ mj_c11_0, mj_chk 11 q = true := by decide +kernel
theorem mj_d11 : ∀ q ∈ mj_code 11, decode (mj_b 11) q.1 = .ok (q.2.1, q.2.2.1) := mj_d11_0
theorem mj_k11 : ∀ q ∈ mj_code 11, mj_chk 11 q = true := mj_k11_0
theorem mj_d12_0 : ∀ q ∈ mj_c12_0, decode prog_4_method_5_code q.1 = .ok (q.2.1, q.2.2.1) := by decide +kernel
theorem mj_k12_0 : ∀ q ∈ mj_c12_0, mj_chk 12 q = true := by decide +kernel
theorem mj_d12 : ∀ q ∈ mj_code 12, decode (mj_b 12) q.1 = .ok (q.2.1, q.2.2.1) := mj_d12_0
theorem mj_k12 : ∀ q ∈ mj_code 12, mj_chk 12 q = true := mj_k12_0
theorem mj_d13_0 : ∀ q ∈ mj_c13_0, decode prog_4_method_7_code q.1 = .ok (q.2.1, q.2.2.1) := by decide +kernel
theorem mj_k13_0 : ∀ q ∈ mj_c13_0, mj_chk 13 q = true := by decide +kernel
theorem mj_d13 : ∀ q ∈ mj_code 13, decode (mj_b 13) q.1 = .ok (q.2.1, q.2.2.1) := mj_d13_0
theorem mj_k13 : ∀ q ∈ mj_code 13, mj_chk 13 q = true := mj_k13_0
theorem mj_d14_0 : ∀ q ∈ mj_c14_0, decode prog_4_method_8_code q.1 = .ok (q.2.1, q.2.2.1) := by decide +kernel
theorem mj_k14_0 : ∀ q ∈ mj_c14_0, mj_chk 14 q = true := by decide +kernel
theorem mj_d14 : ∀ q ∈ mj_code 14, decode (mj_b 14) q.1 = .ok (q.2.1, q.2.2.1) := mj_d14_0
theorem mj_k14 : ∀ q ∈ mj_code 14, mj_chk 14 q = true := mj_k14_0
theorem mj_d15_0 : ∀ q ∈ mj_c15_0, decode prog_4_method_4_code q.1 = .ok (q.2.1, q.2.2.1) := by decide +kernel
theorem mj_k15_0 : ∀ q ∈ mj_c15_0, mj_chk 15 q = true := by decide +kernel
theorem mj_d15 : ∀ q ∈ mj_code 15, decode (mj_b 15) q.1 = .ok (q.2.1, q.2.2.1) := mj_d15_0
theorem mj_k15 : ∀ q ∈ mj_code 15, mj_chk 15 q = true := mj_k15_0
theorem mj_d16_0 : ∀ q ∈ mj_c16_0, decode prog_4_method_9_code q.1 = .ok (q.2.1, q.2.2.1) := by decide +kernel
theorem mj_k16_0 : ∀ q ∈ mj_c16_0, mj_chk 16 q = true := by decide +kernel
theorem mj_d16 : ∀ q ∈ mj_code 16, decode (mj_b 16) q.1 = .ok (q.2.1, q.2.2.1) := mj_d16_0
theorem mj_k16 : ∀ q ∈ mj_code 16, mj_chk 16 q = true := mj_k16_0
theorem mj_d17_0 : ∀ q ∈ mj_c17_0, decode prog_4_method_3_code q.1 = .ok (q.2.1, q.2.2.1) := by decide +kernel
theorem mj_k17_0 : ∀ q ∈ mj_c17_0, mj_chk 17 q = true := by decide +kernel
theorem mj_d17 : ∀ q ∈ mj_code 17, decode (mj_b 17) q.1 = .ok (q.2.1, q.2.2.1) := mj_d17_0
theorem mj_k17 : ∀ q ∈ mj_code 17, mj_chk 17 q = true := mj_k17_0
theorem mj_d18_0 : ∀ q ∈ mj_c18_0, decode prog_4_method_10_code q.1 = .ok (q.2.1, q.2.2.1) := by decide +kernel
theorem mj_k18_0 : ∀ q ∈ mj_c18_0, mj_chk 18 q = true := by decide +kernel
theorem mj_d18_1 : ∀ q ∈ mj_c18_1, decode prog_4_method_10_code q.1 = .ok (q.2.1, q.2.2.1) := by decide +kernel
theorem mj_k18_1 : ∀ q ∈ mj_c18_1, mj_chk 18 q = true := by decide +kernel
theorem mj_d18 : ∀ q ∈ mj_code 18, decode (mj_b 18) q.1 = .ok (q.2.1, q.2.2.1) := List.forall_mem_append.mpr ⟨mj_d18_0, mj_d18_1⟩
theorem mj_k18 : ∀ q ∈ mj_code 18, mj_chk 18 q = true := List.forall_mem_append.mpr ⟨mj_k18_0, mj_k18_1⟩
theorem mj_d19_0 : ∀ q ∈ mj_c19_0, decode prog_4_method_11_code q.1 = .ok (q.2.1, q.2.2.1) := by decide +kernel
theorem mj_k19_0 : ∀ q ∈ mj_c19_0, mj_chk 19 q = true := by decide +kernel
theorem mj_d19_1 : ∀ q ∈ mj_c19_1, decode prog_4_method_11_code q.1 = .ok (q.2.1, q.2.2.1) := by decide +kernel
theorem mj_k19_1 : ∀ q ∈ mj_c19_1, mj_chk 19 q = true := by decide +kernel
theorem mj_d19 : ∀ q ∈ mj_code 19, decode (mj_b 19) q.1 = .ok (q.2.1, q.2.2.1) := List.forall_mem_append.mpr ⟨mj_d19_0, mj_d19_1⟩
theorem mj_k19 : ∀ q ∈ mj_code 19, mj_chk 19 q = true := List.forall_mem_append.mpr ⟨mj_k19_0, mj_k19_1⟩
theorem mj_d20_0 : ∀ q ∈ mj_c20_0, decode prog_4_method_12_code q.1 = .ok (q.2.1, q.2.2.1) := by decide +kernel
theorem mj_k20_0 : ∀ q ∈ mj_c20_0, mj_chk 20 q = true := by decide +kernel
theorem mj_d20 : ∀ q ∈ mj_code 20, decode (mj_b 20) q.1 = .ok (q.2.1, q.2.2.1) := mj_d20_0
theorem mj_k20 : ∀ q ∈ mj_code 20, mj_chk 20 q = true := mj_k20_0
theorem mj_d21_0 : ∀ q ∈ mj_c21_0, decode prog_4_method_13_code q.1 = .ok (q.2.1, q.2.2.1) := by decide +kernel
theorem mj_k21_0 : ∀ q ∈ mj_c21_0, mj_chk 21 q = true := by decide +kernel
theorem mj_d21_1 : ∀ q ∈ mj_c21_1, decode prog_4_method_13_code q.1 = .ok (q.2.1, q.2.2.1) := by decide +kernel
theorem mj_k21_1 : ∀ q ∈ mj_c21_1, mj_chk 21 q = true := by decide +kernel
theorem mj_d21 : ∀ q ∈ mj_code 21, decode (mj_b 21) q.1 = .ok (q.2.1, q.2.2.1) := List.forall_mem_append.mpr ⟨mj_d21_0, mj_d21_1⟩
theorem mj_k21 : ∀ q ∈ mj_code 21, mj_chk 21 q = true := List.forall_mem_append.mpr ⟨mj_k21_0, mj_k21_1⟩
theorem mj_d22_0 : ∀ q ∈ mj_c22_0, decode prog_4_method_14_code q.1 = .ok (q.2.1, q.2.2.1) := by decide +kernel
theorem mj_k22_0 : ∀ q ∈ mj_c22_0, mj_chk 22 q = true := by decide +kernel
theorem mj_d22 : ∀ q ∈ mj_code 22, decode (mj_b 22) q.1 = .ok (q.2.1, q.2.2.1) := mj_d22_0
theorem mj_k22 : ∀ q ∈ mj_code 22, mj_chk 22 q = true := mj_k22_0
theorem mj_d23_0 : ∀ q ∈ mj_c23_0, decode prog_4_method_15_code q.1 = .ok (q.2.1, q.2.2.1) := by decide +kernel
theorem mj_k23_0 : ∀ q ∈ mj_c23_0, mj_chk 23 q = true := by decide +kernel
theorem mj_d23 : ∀ q ∈ mj_code 23, decode (mj_b 23) q.1 = .ok (q.2.1, q.2.2.1) := mj_d23_0
theorem mj_k23 : ∀ q ∈ mj_code 23, mj_chk 23 q = true := mj_k23_0
theorem mj_d24_0 : ∀ q ∈ mj_c24_0, decode prog_4_method_16_code q.1 = .ok (q.2.1, q.2.2.1) := by decide +kernel
theorem mj_k24_0 : ∀ q ∈ mj_c24_0, mj_chk 24 q = true := by decide +kernel
theorem mj_d24_1 : ∀ q ∈ mj_c24_1, decode prog_4_method_16_code q.1 = .ok (q.2.1, q.2.2.1) := by decide +kernel
theorem mj_k24_1 : ∀ q ∈ mj_c24_1, mj_chk 24 q = true := by decide +kernel
theorem mj_d24 : ∀ q ∈ mj_code 24, decode (mj_b 24) q.1 = .ok (q.2.1, q.2.2.1) := List.forall_mem_append.mpr ⟨mj_d24_0, mj_d24_1⟩
theorem mj_k24 : ∀ q ∈ mj_code 24, mj_chk 24 q = true := List.forall_mem_append.mpr ⟨mj_k24_0, mj_k24_1⟩
theorem mj_d25_0 : ∀ q ∈ mj_c25_0, decode prog_5_method_1_code q.1 = .ok (q.2.1, q.2.2.1) := by decide +kernel
theorem mj_k25_0 : ∀ q ∈ mj_c25_0, mj_chk 25 q = true := by decide +kernel
theorem mj_d25 : ∀ q ∈ mj_code 25, decode (mj_b 25) q.1 = .ok (q.2.1, q.2.2.1) := mj_d25_0
theorem mj_k25 : ∀ q ∈ mj_code 25, mj_chk 25 q = true := mj_k25_0
theorem mj_d26_0 : ∀ q ∈ mj_c26_0, decode prog_5_method_2_code q.1 = .ok (q.2.1, q.2.2.1) := by decide +kernel
theorem mj_k26_0 : ∀ q ∈ mj_c26_0, mj_chk 26 q = true := by decide +kernel
theorem mj_d26 : ∀ q ∈ mj_code 26, decode (mj_b 26) q.1 = .ok (q.2.1, q.2.2.1) := mj_d26_0
theorem mj_k26 : ∀ q ∈ mj_code 26, mj_chk 26 q = true := mj_k26_0
theorem mj_d27_0 : ∀ q ∈ mj_c27_0, decode prog_5_method_3_code q.1 = .ok (q.2.1, q.2.2.1) := by decide +kernel
theorem mj_k27_0 : ∀ q ∈ mj_c27_0, mj_chk 27 q = true := by decide +kernel
theorem mj_d27_1 : ∀ q ∈ mj_c27_1, decode prog_5_method_3_code q.1 = .ok (q.2.1, q.2.2.1) := by decide +kernel
theorem mj_k27_1 : ∀ q ∈ mj_c27_1, mj_chk 27 q = true := by decide +kernel
theorem mj_d27 : ∀ q ∈ mj_code 27, decode (mj_b 27) q.1 = .ok (q.2.1, q.2.2.1) := List.forall_mem_append.mpr ⟨mj_d27_0, mj_d27_1⟩
theorem mj_k27 : ∀ q ∈ mj_code 27, mj_chk 27 q = true := List.forall_mem_append.mpr ⟨mj_k27_0, mj_k27_1⟩
theorem mj_d28_0 : ∀ q ∈ mj_c28_0, decode prog_5_method_6_code q.1 = .ok (q.2.1, q.2.2.1) := by decide +kernel
theorem mj_k28_0 : ∀ q ∈ mj_c28_0, mj_chk 28 q = true := by decide +kernel
theorem mj_d28 : ∀ q ∈ mj_code 28, decode (mj_b 28) q.1 = .ok (q.2.1, q.2.2.1) := mj_d28_0
theorem mj_k28 : ∀ q ∈ mj_code 28, mj_chk 28 q = true := mj_k28_0
theorem mj_d29_0 : ∀ q ∈ mj_c29_0, decode prog_5_method_7_code q.1 = .ok (q.2.1, q.2.2.1) := by decide +kernel
theorem mj_k29_0 : ∀ q ∈ mj_c29_0, mj_chk 29 q = true := by decide +kernel
theorem mj_d29 : ∀ q ∈ mj_code 29, decode (mj_b 29) q.1 = .ok (q.2.1, q.2.2.1) := mj_d29_0
theorem mj_k29 : ∀ q ∈ mj_code 29, mj_chk 29 q = true := mj_k29_0
theorem mj_d30_0 : ∀ q ∈ mj_c30_0, decode prog_5_method_8_code q.1 = .ok (q.2.1, q.2.2.1) := by decide +kernel
theorem mj_k30_0 : ∀ q ∈ mj_c30_0, mj_chk 30 q = true := by decide +kernel
theorem mj_d30 : ∀ q ∈ mj_code 30, decode (mj_b 30) q.1 = .ok (q.2.1, q.2.2.1) := mj_d30_0
theorem mj_k30 : ∀ q ∈ mj_code 30, mj_chk 30 q = true := mj_k30_0
theorem mj_d31_0 : ∀ q ∈ mj_c31_0, decode prog_5_method_9_code q.1 = .ok (q.2.1, q.2.2.1) := by decide +kernel
theorem mj_k31_0 : ∀ q ∈ mj_c31_0, mj_chk 31 q = true := by decide +kernel
theorem mj_d31 : ∀ q ∈ mj_code 31, decode (mj_b 31) q.1 = .ok (q.2.1, q.2.2.1) := mj_d31_0
theorem mj_k31 : ∀ q ∈ mj_code 31, mj_chk 31 q = true := mj_k31_0
theorem mj_d32_0 : ∀ q ∈ mj_c32_0, decode prog_5_method_11_code q.1 = .ok (q.2.1, q.2.2.1) := by decide +kernel
theorem mj_k32_0 : ∀ q ∈ mj_c32_0, mj_chk 32 q = true := by decide +kernel
theorem mj_d32 : ∀ q ∈ mj_code 32, decode (mj_b 32) q.1 = .ok (q.2.1, q.2.2.1) := mj_d32_0
theorem mj_k32 : ∀ q ∈ mj_code 32, mj_chk 32 q = true := mj_k32_0
theorem mj_d33_0 : ∀ q ∈ mj_c33_0, decode prog_5_method_5_code q.1 = .ok (q.2.1, q.2.2.1) := by decide +kernel
theorem mj_k33_0 : ∀ q ∈ mj_c33_0, mj_chk 33 q = true := by decide +kernel
theorem mj_d33 : ∀ q ∈ mj_code 33, decode (mj_b 33) q.1 = .ok (q.2.1, q.2.2.1) := mj_d33_0
theorem mj_k33 : ∀ q ∈ mj_code 33, mj_chk 33 q = true := mj_k33_0
theorem mj_d34_0 : ∀ q ∈ mj_c34_0, decode prog_5_method_4_code q.1 = .ok (q.2.1, q.2.2.1) := by decide +kernel
theorem mj_k34_0 : ∀ q ∈ mj_c34_0, mj_chk 34 q = true := by decide +kernel
theorem mj_d34 : ∀ q ∈ mj_code 34, decode (mj_b 34) q.1 = .ok (q.2.1, q.2.2.1) := mj_d34_0
theorem mj_k34 : ∀ q ∈ mj_code 34, mj_chk 34 q = true := mj_k34_0
theorem mj_d35_0 : ∀ q ∈ mj_c35_0, decode prog_5_method_13_code q.1 = .ok (q.2.1, q.2.2.1) := by decide +kernel
theorem mj_k35_0 : ∀ q ∈ mj_c35_0, mj_chk 35 q = true := by decide +kernel
theorem mj_d35 : ∀ q ∈ mj_code 35, decode (mj_b 35) q.1 = .ok (q.2.1, q.2.2.1) := mj_d35_0
theorem mj_k35 : ∀ q ∈ mj_code 35, mj_chk 35 q = true := mj_k35_0
theorem mj_d36_0 : ∀ q ∈ mj_c36_0, decode prog_5_method_15_code q.1 = .ok (q.2.1, q.2.2.1) := by decide +kernel
theorem mj_k36_0 : ∀ q ∈ mj_c36_0, mj_chk 36 q = true := by decide +kernel
theorem mj_d36 : ∀ q ∈ mj_code 36, decode (mj_b 36) q.1 = .ok (q.2.1, q.2.2.1) := mj_d36_0
theorem mj_k36 : ∀ q ∈ mj_code 36, mj_chk 36 q = true := mj_k36_0
theorem mj_d37_0 : ∀ q ∈ mj_c37_0, decode prog_5_method_16_code q.1 = .ok (q.2.1, q.2.2.1) := by decide +kernel
theorem mj_k37_0 : ∀ q ∈ mj_c37_0, mj_chk 37 q = true := by decide +kernel
theorem mj_d37 : ∀ q ∈ mj_code 37, decode (mj_b 37) q.1 = .ok (q.2.1, q.2.2.1) := mj_d37_0
theorem mj_k37 : ∀ q ∈ mj_code 37, mj_chk 37 q = true := mj_k37_0
theorem mj_d38_0 : ∀ q ∈ mj_c38_0, decode prog_5_method_17_code q.1 = .ok (q.2.1, q.2.2.1) := by decide +kernel
theorem mj_k38_0 : ∀ q ∈ mj_c38_0, mj_chk 38 q = true := by decide +kernel
theorem mj_d38 : ∀ q ∈ mj_code 38, decode (mj_b 38) q.1 = .ok (q.2.1, q.2.2.1) := mj_d38_0
theorem mj_k38 : ∀ q ∈ mj_code 38, mj_chk 38 q = true := mj_k38_0
theorem mj_d39_0 : ∀ q ∈ mj_c39_0, decode prog_5_method_10_code q.1 = .ok (q.2.1, q.2.2.1) := by decide +kernel
theorem mj_k39_0 : ∀ q ∈ mj_c39_0, mj_chk 39 q = true := by decide +kernel
theorem mj_d39 : ∀ q ∈ mj_code 39, decode (mj_b 39) q.1 = .ok (q.2.1, q.2.2.1) := mj_d39_0
theorem mj_k39 : ∀ q ∈ mj_code 39, mj_chk 39 q = true := mj_k39_0
theorem mj_d40_0 : ∀ q ∈ mj_c40_0, decode prog_5_method_18_code q.1 = .ok (q.2.1, q.2.2.1) := by decide +kernel
theorem mj_k40_0 : ∀ q ∈ mj_c40_0, mj_chk 40 q = true := by decide +kernel
theorem mj_d40 : ∀ q ∈ mj_code 40, decode (mj_b 40) q.1 = .ok (q.2.1, q.2.2.1) := mj_d40_0
theorem mj_k40 : ∀ q ∈ mj_code 40, mj_chk 40 q = true := mj_k40_0
theorem mj_d41_0 : ∀ q ∈ mj_c41_0, decode prog_5_method_12_code q.1 = .ok (q.2.1, q.2.2.1) := by decide +kernel
theorem mj_k41_0 : ∀ q ∈ mj_c41_0, mj_chk 41 q = true := by decide +kernel
theorem mj_d41 : ∀ q ∈ mj_code 41, decode (mj_b 41) q.1 = .ok (q.2.1, q.2.2.1) := mj_d41_0
theorem mj_k41 : ∀ q ∈ mj_code 41, mj_chk 41 q = true := mj_k41_0
theorem mj_d42_0 : ∀ q ∈ mj_c42_0, decode prog_5_method_19_code q.1 = .ok (q.2.1, q.2.2.1) := by decide +kernel
theorem mj_k42_0 : ∀ q ∈ mj_c42_0, mj_chk 42 q = true := by decide +kernel
theorem mj_d42 : ∀ q ∈ mj_code 42, decode (mj_b 42) q.1 = .ok (q.2.1, q.2.2.1) := mj_d42_0
theorem mj_k42 : ∀ q ∈ mj_code 42, mj_chk 42 q = true := mj_k42_0
theorem mj_d43_0 : ∀ q ∈ mj_c43_0, decode prog_5_method_14_code q.1 = .ok (q.2.1, q.2.2.1) := by decide +kernel
theorem mj_k43_0 : ∀ q ∈ mj_c43_0, mj_chk 43 q = true := by decide +kernel
theorem mj_d43 : ∀ q ∈ mj_code 43, decode (mj_b 43) q.1 = .ok (q.2.1, q.2.2.1) := mj_d43_0
theorem mj_k43 : ∀ q ∈ mj_code 43, mj_chk 43 q = true := mj_k43_0
theorem mj_d44_0 : ∀ q ∈ mj_c44_0, decode prog_6_method_1_code q.1 = .ok (q.2.1, q.2.2.1) := by decide +kernel
theorem mj_k44_0 : ∀ q ∈ mj_c44_0, mj_chk 44 q = true := by decide +kernel
theorem mj_d44 : ∀ q ∈ mj_code 44, decode (mj_b 44) q.1 = .ok (q.2.1, q.2.2.1) := mj_d44_0
theorem mj_k44 : ∀ q ∈ mj_code 44, mj_chk 44 q = true := mj_k44_0
theorem mj_d45_0 : ∀ q ∈ mj_c45_0, decode prog_6_method_2_code q.1 = .ok (q.2.1, q.2.2.1) := by decide +kernel
theorem mj_k45_0 : ∀ q ∈ mj_c45_0, mj_chk 45 q = true := by decide +kernel
theorem mj_d45_1 : ∀ q ∈ mj_c45_1, decode prog_6_method_2_code q.1 = .ok (q.2.1, q.2.2.1) := by decide +kernel
theorem mj_k45_1 : ∀ q ∈ mj_c45_1, mj_chk 45 q = true := by decide +kernel
theorem mj_d45 : ∀ q ∈ mj_code 45, decode (mj_b 45) q.1 = .ok (q.2.1, q.2.2.1) := List.forall_mem_append.mpr ⟨mj_d45_0, mj_d45_1⟩
theorem mj_k45 : ∀ q ∈ mj_code 45, mj_chk 45 q = true := List.forall_mem_append.mpr ⟨mj_k45_0, mj_k45_1⟩
theorem mj_d46_0 : ∀ q ∈ mj_c46_0, decode prog_6_method_3_code q.1 = .ok (q.2.1, q.2.2.1) := by decide +kernel
theorem mj_k46_0 : ∀ q ∈ mj_c46_0, mj_chk 46 q = true := by decide +kernel
theorem mj_d46 : ∀ q ∈ mj_code 46, decode (mj_b 46) q.1 = .ok (q.2.1, q.2.2.1) := mj_d46_0
theorem mj_k46 : ∀ q ∈ mj_code 46, mj_chk 46 q = true := mj_k46_0
theorem mj_d47_0 : ∀ q ∈ mj_c47_0, decode prog_6_method_4_code q.1 = .ok (q.2.1, q.2.2.1) := by decide +kernel
theorem mj_k47_0 : ∀ q ∈ mj_c47_0, mj_chk 47 q = true := by decide +kernel
theorem mj_d47 : ∀ q ∈ mj_code 47, decode (mj_b 47) q.1 = .ok (q.2.1, q.2.2.1) := mj_d47_0
theorem mj_k47 : ∀ q ∈ mj_code 47, mj_chk 47 q = true := mj_k47_0
theorem mj_d48_0 : ∀ q ∈ mj_c48_0, decode prog_7_method_1_code q.1 = .ok (q.2.1, q.2.2.1) := by decide +kernel
theorem mj_k48_0 : ∀ q ∈ mj_c48_0, mj_chk 48 q = true := by decide +kernel
theorem mj_d48 : ∀ q ∈ mj_code 48, decode (mj_b 48) q.1 = .ok (q.2.1, q.2.2.1) := mj_d48_0
theorem mj_k48 : ∀ q ∈ mj_code 48, mj_chk 48 q = true := mj_k48_0
theorem mj_d49_0 : ∀ q ∈ mj_c49_0, decode prog_7_method_2_code q.1 = .ok (q.2.1, q.2.2.1) := by decide +kernel
theorem mj_k49_0 : ∀ q ∈ mj_c49_0, mj_chk 49 q = true := by decide +kernel
theorem mj_d49 : ∀ q ∈ mj_code 49, decode (mj_b 49) q.1 = .ok (q.2.1, q.2.2.1) := mj_d49_0
theorem mj_k49 : ∀ q ∈ mj_code 49, mj_chk 49 q = true := mj_k49_0
theorem mj_d50_0 : ∀ q ∈ mj_c50_0, decode prog_7_method_3_code q.1 = .ok (q.2.1, q.2.2.1) := by decide +kernel
theorem mj_k50_0 : ∀ q ∈ mj_c50_0, mj_chk 50 q = true := by decide +kernel
theorem mj_d50_1 : ∀ q ∈ mj_c50_1, decode prog_7_method_3_code q.1 = .ok (q.2.1, q.2.2.1) := by decide +kernel
theorem mj_k50_1 : ∀ q ∈ mj_c50_1, mj_chk 50 q = true := by decide +kernel
theorem mj_d50 : ∀ q ∈ mj_code 50, decode (mj_b 50) q.1 = .ok (q.2.1, q.2.2.1) := List.forall_mem_append.mpr ⟨mj_d50_0, mj_d50_1⟩
theorem mj_k50 : ∀ q ∈ mj_code 50, mj_chk 50 q = true := List.forall_mem_append.mpr ⟨mj_k50_0, mj_k50_1⟩
theorem mj_d51_0 : ∀ q ∈ mj_c51_0, decode prog_7_method_9_code q.1 = .ok (q.2.1, q.2.2.1) := by decide +kernel
theorem mj_k51_0 : ∀ q ∈ mj_c51_0, mj_chk 51 q = true := by decide +kernel
theorem mj_d51 : ∀ q ∈ mj_code 51, decode (mj_b 51) q.1 = .ok (q.2.1, q.2.2.1) := mj_d51_0
theorem mj_k51 : ∀ q ∈ mj_code 51, mj_chk 51 q = true := mj_k51_0
theorem mj_d52_0 : ∀ q ∈ mj_c52_0, decode prog_7_method_8_code q.1 = .ok (q.2.1, q.2.2.1) := by decide +kernel
theorem mj_k52_0 : ∀ q ∈ mj_c52_0, mj_chk 52 q = true := by decide +kernel
theorem mj_d52 : ∀ q ∈ mj_code 52, decode (mj_b 52) q.1 = .ok (q.2.1, q.2.2.1) := mj_d52_0
theorem mj_k52 : ∀ q ∈ mj_code 52, mj_chk 52 q = true := mj_k52_0
theorem mj_d53_0 : ∀ q ∈ mj_c53_0, decode prog_7_method_10_code q.1 = .ok (q.2.1, q.2.2.1) := by decide +kernel
theorem mj_k53_0 : ∀ q ∈ mj_c53_0, mj_chk 53 q = true := by decide +kernel
theorem mj_d53 : ∀ q ∈ mj_code 53, decode (mj_b 53) q.1 = .ok (q.2.1, q.2.2.1) := mj_d53_0
theorem mj_k53 : ∀ q ∈ mj_code 53, mj_chk 53 q = true := mj_k53_0
theorem mj_d54_0 : ∀ q ∈ mj_c54_0, decode prog_7_method_4_code q.1 = .ok (q.2.1, q.2.2.1) := by decide +kernel
theorem mj_k54_0 : ∀ q ∈ mj_c54_0, mj_chk 54 q = true := by decide +kernel
theorem mj_d54 : ∀ q ∈ mj_code 54, decode (mj_b 54) q.1 = .ok (q.2.1, q.2.2.1) := mj_d54_0
theorem mj_k54 : ∀ q ∈ mj_code 54, mj_chk 54 q = true := mj_k54_0
theorem mj_d55_0 : ∀ q ∈ mj_c55_0, decode prog_7_method_5_code q.1 = .ok (q.2.1, q.2.2.1) := by decide +kernel
theorem mj_k55_0 : ∀ q ∈ mj_c55_0, mj_chk 55 q = true := by decide +kernel
theorem mj_d55 : ∀ q ∈ mj_code 55, decode (mj_b 55) q.1 = .ok (q.2.1, q.2.2.1) := mj_d55_0
theorem mj_k55 : ∀ q ∈ mj_code 55, mj_chk 55 q = true := mj_k55_0
theorem mj_d56_0 : ∀ q ∈ mj_c56_0, decode prog_7_method_6_code q.1 = .ok (q.2.1, q.2.2.1) := by decide +kernel
theorem mj_k56_0 : ∀ q ∈ mj_c56_0, mj_chk 56 q = true := by decide +kernel
theorem mj_d56 : ∀ q ∈ mj_code 56, decode (mj_b 56) q.1 = .ok (q.2.1, q.2.2.1) := mj_d56_0
theorem mj_k56 : ∀ q ∈ mj_code 56, mj_chk 56 q = true := mj_k56_0
theorem mj_d57_0 : ∀ q ∈ mj_c57_0, decode prog_7_method_11_code q.1 = .ok (q.2.1, q.2.2.1) := by decide +kernel
theorem mj_k57_0 : ∀ q ∈ mj_c57_0, mj_chk 57 q = true := by decide +kernel
theorem mj_d57 : ∀ q ∈ mj_code 57, decode (mj_b 57) q.1 = .ok (q.2.1, q.2.2.1) := mj_d57_0
theorem mj_k57 : ∀ q ∈ mj_code 57, mj_chk 57 q = true := mj_k57_0
theorem mj_d58_0 : ∀ q ∈ mj_c58_0, decode prog_7_method_7_code q.1 = .ok (q.2.1, q.2.2.1) := by decide +kernel
theorem mj_k58_0 : ∀ q ∈ mj_c58_0, mj_chk 58 q = true := by decide +kernel
theorem mj_d58 : ∀ q ∈ mj_code 58, decode (mj_b 58) q.1 = .ok (q.2.1, q.2.2.1) := mj_d58_0
theorem mj_k58 : ∀ q ∈ mj_code 58, mj_chk 58 q = true := mj_k58_0
theorem mj_d59_0 : ∀ q ∈ mj_c59_0, decode prog_1_method_1_code q.1 = .ok (q.2.1, q.2.2.1) := by decide +kernel
theorem mj_k59_0 : ∀ q ∈ mj_c59_0, mj_chk 59 q = true := by decide +kernel
theorem mj_d59_1 : ∀ q ∈ mj_c59_1, decode prog_1_method_1_code q.1 = .ok (q.2.1, q.2.2.1) := by decide +kernel
theorem mj_k59_1 : ∀ q ∈ mj_c59_1, mj_chk 59 q = true := by decide +kernel
theorem mj_d59 : ∀ q ∈ mj_code 59, decode (mj_b 59) q.1 = .ok (q.2.1, q.2.2.1) := List.forall_mem_append.mpr ⟨mj_d59_0, mj_d59_1⟩
theorem mj_k59 : ∀ q ∈ mj_code 59, mj_chk 59 q = true := List.forall_mem_append.mpr ⟨mj_k59_0, mj_k59_1⟩
theorem mj_d60_0 : ∀ q ∈ mj_c60_0, decode prog_1_method_2_code q.1 = .ok (q.2.1, q.2.2.1) := by decide +kernel
theorem mj_k60_0 : ∀ q ∈ mj_c60_0, mj_chk 60 q = true := by decide +kernel
theorem mj_d60 : ∀ q ∈ mj_code 60, decode (mj_b 60) q.1 = .ok (q.2.1, q.2.2.1) := mj_d60_0
theorem mj_k60 : ∀ q ∈ mj_code 60, mj_chk 60 q = true := mj_k60_0
theorem mj_d61_0 : ∀ q ∈ mj_c61_0, decode prog_1_method_3_code q.1 = .ok (q.2.1, q.2.2.1) := by decide +kernel
theorem mj_k61_0 : ∀ q ∈ mj_c61_0, mj_chk 61 q = true := by decide +kernel
theorem mj_d61 : ∀ q ∈ mj_code 61, decode (mj_b 61) q.1 = .ok (q.2.1, q.2.2.1) := mj_d61_0
theorem mj_k61 : ∀ q ∈ mj_code 61, mj_chk 61 q = true := mj_k61_0
theorem mj_d62_0 : ∀ q ∈ mj_c62_0, decode prog_1_method_4_code q.1 = .ok (q.2.1, q.2.2.1) := by decide +kernel
theorem mj_k62_0 : ∀ q ∈ mj_c62_0, mj_chk 62 q = true := by decide +kernel
theorem mj_d62 : ∀ q ∈ mj_code 62, decode (mj_b 62) q.1 = .ok (q.2.1, q.2.2.1) := mj_d62_0
theorem mj_k62 : ∀ q ∈ mj_code 62, mj_chk 62 q = true := mj_k62_0
theorem mj_d63_0 : ∀ q ∈ mj_c63_0, decode prog_1_method_5_code q.1 = .ok (q.2.1, q.2.2.1) := by decide +kernel
theorem mj_k63_0 : ∀ q ∈ mj_c63_0, mj_chk 63 q = true := by decide +kernel
theorem mj_d63 : ∀ q ∈ mj_code 63, decode (mj_b 63) q.1 = .ok (q.2.1, q.2.2.1) := mj_d63_0
theorem mj_k63 : ∀ q ∈ mj_code 63, mj_chk 63 q = true := mj_k63_0
theorem mj_d64_0 : ∀ q ∈ mj_c64_0, decode prog_1_method_6_code q.1 = .ok (q.2.1, q.2.2.1) := by decide +kernel
theorem mj_k64_0 : ∀ q ∈ mj_c64_0, mj_chk 64 q = true := by decide +kernel
theorem mj_d64_1 : ∀ q ∈ mj_c64_1, decode prog_1_method_6_code q.1 = .ok (q.2.1, q.2.2.1) := by decide +kernel
theorem mj_k64_1 : ∀ q ∈ mj_c64_1, mj_chk 64 q = true := by decide +kernel
theorem mj_d64 : ∀ q ∈ mj_code 64, decode (mj_b 64) q.1 = .ok (q.2.1, q.2.2.1) := List.forall_mem_append.mpr ⟨mj_d64_0, mj_d64_1⟩
theorem mj_k64 : ∀ q ∈ mj_code 64, mj_chk 64 q = true := List.forall_mem_append.mpr ⟨mj_k64_0, mj_k64_1⟩
theorem mj_d65_0 : ∀ q ∈ mj_c65_0, decode prog_1_method_7_code q.1 = .ok (q.2.1, q.2.2.1) := by decide +kernel
theorem mj_k65_0 : ∀ q ∈ mj_c65_0, mj_chk 65 q = true := by decide +kernel
theorem mj_d65_1 : ∀ q ∈ mj_c65_1, decode prog_1_method_7_code q.1 = .ok (q.2.1, q.2.2.1) := by decide +kernel
theorem mj_k65_1 : ∀ q ∈ mj_c65_1, mj_chk 65 q = true := by decide +kernel
theorem mj_d65 : ∀ q ∈ mj_code 65, decode (mj_b 65) q.1 = .ok (q.2.1, q.2.2.1) := List.forall_mem_append.mpr ⟨mj_d65_0, mj_d65_1⟩
theorem mj_k65 : ∀ q ∈ mj_code 65, mj_chk 65 q = true := List.forall_mem_append.mpr ⟨mj_k65_0, mj_k65_1⟩
theorem mj_d66_0 : ∀ q ∈ mj_c66_0, decode prog_1_method_8_code q.1 = .ok (q.2.1, q.2.2.1) := by decide +kernel
theorem mj_k66_0 : ∀ q ∈ mj_c66_0, mj_chk 66 q = true := by decide +kernel
theorem mj_d66 : ∀ q ∈ mj_code 66, decode (mj_b 66) q.1 = .ok (q.2.1, q.2.2.1) := mj_d66_0
theorem mj_k66 : ∀ q ∈ mj_code 66, mj_chk 66 q = true := mj_k66_0
theorem mj_d67_0 : ∀ q ∈ mj_c67_0, decode prog_1_method_9_code q.1 = .ok (q.2.1, q.2.2.1) := by decide +kernel
theorem mj_k67_0 : ∀ q ∈ mj_c67_0, mj_chk 67 q = true := by decide +kernel
theorem mj_d67 : ∀ q ∈ mj_code 67, decode (mj_b 67) q.1 = .ok (q.2.1, q.2.2.1) := mj_d67_0
theorem mj_k67 : ∀ q ∈ mj_code 67, mj_chk 67 q = true := mj_k67_0
theorem mj_d68_0 : ∀ q ∈ mj_c68_0, decode prog_1_method_10_code q.1 = .ok (q.2.1, q.2.2.1) := by decide +kernel
theorem mj_k68_0 : ∀ q ∈ mj_c68_0, mj_chk 68 q = true := by decide +kernel
theorem mj_d68 : ∀ q ∈ mj_code 68, decode (mj_b 68) q.1 = .ok (q.2.1, q.2.2.1) := mj_d68_0
theorem mj_k68 : ∀ q ∈ mj_code 68, mj_chk 68 q = true := mj_k68_0
theorem mj_d69_0 : ∀ q ∈ mj_c69_0, decode prog_1_method_11_code q.1 = .ok (q.2.1, q.2.2.1) := by decide +kernel
theorem mj_k69_0 : ∀ q ∈ mj_c69_0, mj_chk 69 q = true := by decide +kernel
theorem mj_d69 : ∀ q ∈ mj_code 69, decode (mj_b 69) q.1 = .ok (q.2.1, q.2.2.1) := mj_d69_0
theorem mj_k69 : ∀ q ∈ mj_code 69, mj_chk 69 q = true := mj_k69_0
theorem mj_d70_0 : ∀ q ∈ mj_c70_0, decode prog_1_method_12_code q.1 = .ok (q.2.1, q.2.2.1) := by decide +kernel
theorem mj_k70_0 : ∀ q ∈ mj_c70_0, mj_chk 70 q = true := by decide +kernel
theorem mj_d70 : ∀ q ∈ mj_code 70, decode (mj_b 70) q.1 = .ok (q.2.1, q.2.2.1) := mj_d70_0
theorem mj_k70 : ∀ q ∈ mj_code 70, mj_chk 70 q = true := mj_k70_0
theorem mj_d71_0 : ∀ q ∈ mj_c71_0, decode prog_1_method_13_code q.1 = .ok (q.2.1, q.2.2.1) := by decide +kernel
theorem mj_k71_0 : ∀ q ∈ mj_c71_0, mj_chk 71 q = true := by decide +kernel
theorem mj_d71 : ∀ q ∈ mj_code 71, decode (mj_b 71) q.1 = .ok (q.2.1, q.2.2.1) := mj_d71_0
theorem mj_k71 : ∀ q ∈ mj_code 71, mj_chk 71 q = true := mj_k71_0
theorem mj_d72_0 : ∀ q ∈ mj_c72_0, decode prog_1_method_14_code q.1 = .ok (q.2.1, q.2.2.1) := by decide +kernel
theorem mj_k72_0 : ∀ q ∈ mj_c72_0, mj_chk 72 q = true := by decide +kernel
theorem mj_d72 : ∀ q ∈ mj_code 72, decode (mj_b 72) q.1 = .ok (q.2.1, q.2.2.1) := mj_d72_0
theorem mj_k72 : ∀ q ∈ mj_code 72, mj_chk 72 q = true := mj_k72_0
theorem mj_d73_0 : ∀ q ∈ mj_c73_0, decode prog_1_method_36_code q.1 = .ok (q.2.1, q.2.2.1) := by decide +kernel
theorem mj_k73_0 : ∀ q ∈ mj_c73_0, mj_chk 73 q = true := by decide +kernel
theorem mj_d73 : ∀ q ∈ mj_code 73, decode (mj_b 73) q.1 = .ok (q.2.1, q.2.2.1) := mj_d73_0
theorem mj_k73 : ∀ q ∈ mj_code 73, mj_chk 73 q = true := mj_k73_0
theorem mj_d74_0 : ∀ q ∈ mj_c74_0, decode prog_1_method_37_code q.1 = .ok (q.2.1, q.2.2.1) := by decide +kernel
theorem mj_k74_0 : ∀ q ∈ mj_c74_0, mj_chk 74 q = true := by decide +kernel
theorem mj_d74_1 : ∀ q ∈ mj_c74_1, decode prog_1_method_37_code q.1 = .ok (q.2.1, q.2.2.1) := by decide +kernel
theorem mj_k74_1 : ∀ q ∈ mj_c74_1, mj_chk 74 q = true := by decide +kernel
theorem mj_d74 : ∀ q ∈ mj_code 74, decode (mj_b 74) q.1 = .ok (q.2.1, q.2.2.1) := List.forall_mem_append.mpr ⟨mj_d74_0, mj_d74_1⟩
theorem mj_k74 : ∀ q ∈ mj_code 74, mj_chk 74 q = true := List.forall_mem_append.mpr ⟨mj_k74_0, mj_k74_1⟩
theorem mj_d75_0 : ∀ q ∈ mj_c75_0, decode prog_1_method_15_code q.1 = .ok (q.2.1, q.2.2.1) := by decide +kernel
theorem mj_k75_0 : ∀ q ∈ mj_c75_0, mj_chk 75 q = true := by decide +kernel
theorem mj_d75_1 : ∀ q ∈ mj_c75_1, decode prog_1_method_15_code q.1 = .ok (q.2.1, q.2.2.1) := by decide +kernel
theorem mj_k75_1 : ∀ q ∈ mj_c75_1, mj_chk 75 q = true := by decide +kernel
theorem mj_d75 : ∀ q ∈ mj_code 75, decode (mj_b 75) q.1 = .ok (q.2.1, q.2.2.1) := List.forall_mem_append.mpr ⟨mj_d75_0, mj_d75_1⟩
theorem mj_k75 : ∀ q ∈ mj_code 75, mj_chk 75 q = true := List.forall_mem_append.mpr ⟨mj_k75_0, mj_k75_1⟩
theorem mj_d76_0 : ∀ q ∈ mj_c76_0, decode prog_1_method_16_code q.1 = .ok (q.2.1, q.2.2.1) := by decide +kernel
theorem mj_k76_0 : ∀ q ∈ mj_c76_0, mj_chk 76 q = true := by decide +kernel
theorem mj_d76_1 : ∀ q ∈ mj_c76_1, decode prog_1_method_16_code q.1 = .ok (q.2.1, q.2.2.1) := by decide +kernel
theorem mj_k76_1 : ∀ q ∈ mj_c76_1, mj_chk 76 q = true := by decide +kernel
theorem mj_d76 : ∀ q ∈ mj_code 76, decode (mj_b 76) q.1 = .ok (q.2.1, q.2.2.1) := List.forall_mem_append.mpr ⟨mj_d76_0, mj_d76_1⟩
theorem mj_k76 : ∀ q ∈ mj_code 76, mj_chk 76 q = true := List.forall_mem_append.mpr ⟨mj_k76_0, mj_k76_1⟩
theorem mj_d77_0 : ∀ q ∈ mj_c77_0, decode prog_1_method_17_code q.1 = .ok (q.2.1, q.2.2.1) := by decide +kernel
theorem mj_k77_0 : ∀ q ∈ mj_c77_0, mj_chk 77 q = true := by decide +kernel
theorem mj_d77_1 : ∀ q ∈ mj_c77_1, decode prog_1_method_17_code q.1 = .ok (q.2.1, q.2.2.1) := by decide +kernel
theorem mj_k77_1 : ∀ q ∈ mj_c77_1, mj_chk 77 q = true := by decide +kernel
theorem mj_d77 : ∀ q ∈ mj_code 77, decode (mj_b 77) q.1 = .ok (q.2.1, q.2.2.1) := List.forall_mem_append.mpr ⟨mj_d77_0, mj_d77_1⟩
theorem mj_k77 : ∀ q ∈ mj_code 77, mj_chk 77 q = true := List.forall_mem_append.mpr ⟨mj_k77_0, mj_k77_1⟩
theorem mj_d78_0 : ∀ q ∈ mj_c78_0, decode prog_1_method_40_code q.1 = .ok (q.2.1, q.2.2.1) := by decide +kernel
theorem mj_k78_0 : ∀ q ∈ mj_c78_0, mj_chk 78 q = true := by decide +kernel
theorem mj_d78 : ∀ q ∈ mj_code 78, decode (mj_b 78) q.1 = .ok (q.2.1, q.2.2.1) := mj_d78_0
theorem mj_k78 : ∀ q ∈ mj_code 78, mj_chk 78 q = true := mj_k78_0
theorem mj_d79_0 : ∀ q ∈ mj_c79_0, decode prog_1_method_18_code q.1 = .ok (q.2.1, q.2.2.1) := by decide +kernel
theorem mj_k79_0 : ∀ q ∈ mj_c79_0, mj_chk 79 q = true := by decide +kernel
theorem mj_d79 : ∀ q ∈ mj_code 79, decode (mj_b 79) q.1 = .ok (q.2.1, q.2.2.1) := mj_d79_0
theorem mj_k79 : ∀ q ∈ mj_code 79, mj_chk 79 q = true := mj_k79_0
theorem mj_d80_0 : ∀ q ∈ mj_c80_0, decode prog_1_method_19_code q.1 = .ok (q.2.1, q.2.2.1) := by decide +kernel
theorem mj_k80_0 : ∀ q ∈ mj_c80_0, mj_chk 80 q = true := by decide +kernel
theorem mj_d80 : ∀ q ∈ mj_code 80, decode (mj_b 80) q.1 = .ok (q.2.1, q.2.2.1) := mj_d80_0
theorem mj_k80 : ∀ q ∈ mj_code 80, mj_chk 80 q = true := mj_k80_0
theorem mj_d81_0 : ∀ q ∈ mj_c81_0, decode prog_1_method_20_code q.1 = .ok (q.2.1, q.2.2.1) := by decide +kernel
theorem mj_k81_0 : ∀ q ∈ mj_c81_0, mj_chk 81 q = true := by decide +kernel
theorem mj_d81 : ∀ q ∈ mj_code 81, decode (mj_b 81) q.1 = .ok (q.2.1, q.2.2.1) := mj_d81_0
theorem mj_k81 : ∀ q ∈ mj_code 81, mj_chk 81 q = true := mj_k81_0
theorem mj_d82_0 : ∀ q ∈ mj_c82_0, decode prog_1_method_21_code q.1 = .ok (q.2.1, q.2.2.1) := by decide +kernel
theorem mj_k82_0 : ∀ q ∈ mj_c82_0, mj_chk 82 q = true := by decide +kernel
theorem mj_d82_1 : ∀ q ∈ mj_c82_1, decode prog_1_method_21_code q.1 = .ok (q.2.1, q.2.2.1) := by decide +kernel
theorem mj_k82_1 : ∀ q ∈ mj_c82_1, mj_chk 82 q = true := by decide +kernel
theorem mj_d82 : ∀ q ∈ mj_code 82, decode (mj_b 82) q.1 = .ok (q.2.1, q.2.2.1) := List.forall_mem_append.mpr ⟨mj_d82_0, mj_d82_1⟩
theorem mj_k82 : ∀ q ∈ mj_code 82, mj_chk 82 q = true := List.forall_mem_append.mpr ⟨mj_k82_0, mj_k82_1⟩
theorem mj_d83_0 : ∀ q ∈ mj_c83_0, decode prog_1_method_41_code q.1 = .ok (q.2.1, q.2.2.1) := by decide +kernel
theorem mj_k83_0 : ∀ q ∈ mj_c83_0, mj_chk 83 q = true := by decide +kernel
theorem mj_d83 : ∀ q ∈ mj_code 83, decode (mj_b 83) q.1 = .ok (q.2.1, q.2.2.1) := mj_d83_0
theorem mj_k83 : ∀ q ∈ mj_code 83, mj_chk 83 q = true := mj_k83_0
theorem mj_d84_0 : ∀ q ∈ mj_c84_0, decode prog_1_method_42_code q.1 = .ok (q.2.1, q.2.2.1) := by decide +kernel
theorem mj_k84_0 : ∀ q ∈ mj_c84_0, mj_chk 84 q = true := by decide +kernel
theorem mj_d84 : ∀ q ∈ mj_code 84, decode (mj_b 84) q.1 = .ok (q.2.1, q.2.2.1) := mj_d84_0
theorem mj_k84 : ∀ q ∈ mj_code 84, mj_chk 84 q = true := mj_k84_0
theorem mj_d85_0 : ∀ q ∈ mj_c85_0, decode prog_1_method_22_code q.1 = .ok (q.2.1, q.2.2.1) := by decide +kernel
theorem mj_k85_0 : ∀ q ∈ mj_c85_0, mj_chk 85 q = true := by decide +kernel
theorem mj_d85_1 : ∀ q ∈ mj_c85_1, decode prog_1_method_22_code q.1 = .ok (q.2.1, q.2.2.1) := by decide +kernel
theorem mj_k85_1 : ∀ q ∈ mj_c85_1, mj_chk 85 q = true := by decide +kernel
theorem mj_d85 : ∀ q ∈ mj_code 85, decode (mj_b 85) q.1 = .ok (q.2.1, q.2.2.1) := List.forall_mem_append.mpr ⟨mj_d85_0, mj_d85_1⟩
theorem mj_k85 : ∀ q ∈ mj_code 85, mj_chk 85 q = true := List.forall_mem_append.mpr ⟨mj_k85_0, mj_k85_1⟩
theorem mj_d86_0 : ∀ q ∈ mj_c86_0, decode prog_1_method_23_code q.1 = .ok (q.2.1, q.2.2.1) := by decide +kernel
theorem mj_k86_0 : ∀ q ∈ mj_c86_0, mj_chk 86 q = true := by decide +kernel
theorem mj_d86 : ∀ q ∈ mj_code 86, decode (mj_b 86) q.1 = .ok (q.2.1, q.2.2.1) := mj_d86_0
theorem mj_k86 : ∀ q ∈ mj_code 86, mj_chk 86 q = true := mj_k86_0
theorem mj_d87_0 : ∀ q ∈ mj_c87_0, decode prog_1_method_24_code q.1 = .ok (q.2.1, q.2.2.1) := by decide +kernel
theorem mj_k87_0 : ∀ q ∈ mj_c87_0, mj_chk 87 q = true := by decide +kernel
theorem mj_d87 : ∀ q ∈ mj_code 87, decode (mj_b 87) q.1 = .ok (q.2.1, q.2.2.1) := mj_d87_0
theorem mj_k87 : ∀ q ∈ mj_code 87, mj_chk 87 q = true := mj_k87_0
theorem mj_d88_0 : ∀ q ∈ mj_c88_0, decode prog_1_method_35_code q.1 = .ok (q.2.1, q.2.2.1) := by decide +kernel
theorem mj_k88_0 : ∀ q ∈ mj_c88_0, mj_chk 88 q = true := by decide +kernel
theorem mj_d88 : ∀ q ∈ mj_code 88, decode (mj_b 88) q.1 = .ok (q.2.1, q.2.2.1) := mj_d88_0
theorem mj_k88 : ∀ q ∈ mj_code 88, mj_chk 88 q = true := mj_k88_0
theorem mj_d89_0 : ∀ q ∈ mj_c89_0, decode prog_1_method_38_code q.1 = .ok (q.2.1, q.2.2.1) := by decide +kernel
theorem mj_k89_0 : ∀ q ∈ mj_c89_0, mj_chk 89 q = true := by decide +kernel
theorem mj_d89 : ∀ q ∈ mj_code 89, decode (mj_b 89) q.1 = .ok (q.2.1, q.2.2.1) := mj_d89_0
theorem mj_k89 : ∀ q ∈ mj_code 89, mj_chk 89 q = true := mj_k89_0
theorem mj_d90_0 : ∀ q ∈ mj_c90_0, decode prog_1_method_25_code q.1 = .ok (q.2.1, q.2.2.1) := by decide +kernel
theorem mj_k90_0 : ∀ q ∈ mj_c90_0, mj_chk 90 q = true := by decide +kernel
theorem mj_d90 : ∀ q ∈ mj_code 90, decode (mj_b 90) q.1 = .ok (q.2.1, q.2.2.1) := mj_d90_0
theorem mj_k90 : ∀ q ∈ mj_code 90, mj_chk 90 q = true := mj_k90_0
theorem mj_d91_0 : ∀ q ∈ mj_c91_0, decode prog_1_method_26_code q.1 = .ok (q.2.1, q.2.2.1) := by decide +kernel
theorem mj_k91_0 : ∀ q ∈ mj_c91_0, mj_chk 91 q = true := by decide +kernel
theorem mj_d91_1 : ∀ q ∈ mj_c91_1, decode prog_1_method_26_code q.1 = .ok (q.2.1, q.2.2.1) := by decide +kernel
theorem mj_k91_1 : ∀ q ∈ mj_c91_1, mj_chk 91 q = true := by decide +kernel
theorem mj_d91 : ∀ q ∈ mj_code 91, decode (mj_b 91) q.1 = .ok (q.2.1, q.2.2.1) := List.forall_mem_append.mpr ⟨mj_d91_0, mj_d91_1⟩
theorem mj_k91 : ∀ q ∈ mj_code 91, mj_chk 91 q = true := List.forall_mem_append.mpr ⟨mj_k91_0, mj_k91_1⟩
theorem mj_d92_0 : ∀ q ∈ mj_c92_0, decode prog_1_method_39_code q.1 = .ok (q.2.1, q.2.2.1) := by decide +kernel
theorem mj_k92_0 : ∀ q ∈ mj_c92_0, mj_chk 92 q = true := by decide +kernel
theorem mj_d92 : ∀ q ∈ mj_code 92, decode (mj_b 92) q.1 = .ok (q.2.1, q.2.2.1) := mj_d92_0
theorem mj_k92 : ∀ q ∈ mj_code 92, mj_chk 92 q = true := mj_k92_0
theorem mj_d93_0 : ∀ q ∈ mj_c93_0, decode prog_1_method_27_code q.1 = .ok (q.2.1, q.2.2.1) := by decide +kernel
theorem mj_k93_0 : ∀ q ∈ mj_c93_0, mj_chk 93 q = true := by decide +kernel
theorem mj_d93_1 : ∀ q ∈ mj_c93_1, decode prog_1_method_27_code q.1 = .ok (q.2.1, q.2.2.1) := by decide +kernel
theorem mj_k93_1 : ∀ q ∈ mj_c93_1, mj_chk 93 q = true := by decide +kernel
theorem mj_d93 : ∀ q ∈ mj_code 93, decode (mj_b 93) q.1 = .ok (q.2.1, q.2.2.1) := List.forall_mem_append.mpr ⟨mj_d93_0, mj_d93_1⟩
theorem mj_k93 : ∀ q ∈ mj_code 93, mj_chk 93 q = true := List.forall_mem_append.mpr ⟨mj_k93_0, mj_k93_1⟩
theorem mj_d94_0 : ∀ q ∈ mj_c94_0, decode prog_1_method_28_code q.1 = .ok (q.2.1, q.2.2.1) := by decide +kernel
theorem mj_k94_0 : ∀ q ∈ mj_c94_0, mj_chk 94 q = true := by decide +kernel
theorem mj_d94 : ∀ q ∈ mj_code 94, decode (mj_b 94) q.1 = .ok (q.2.1, q.2.2.1) := mj_d94_0
theorem mj_k94 : ∀ q ∈ mj_code 94, mj_chk 94 q = true := mj_k94_0
theorem mj_d95_0 : ∀ q ∈ mj_c95_0, decode prog_1_method_29_code q.1 = .ok (q.2.1, q.2.2.1) := by decide +kernel
theorem mj_k95_0 : ∀ q ∈ mj_c95_0, mj_chk 95 q = true := by decide +kernel
theorem mj_d95_1 : ∀ q ∈ mj_c95_1, decode prog_1_method_29_code q.1 = .ok (q.2.1, q.2.2.1) := by decide +kernel
theorem mj_k95_1 : ∀ q ∈ mj_c95_1, mj_chk 95 q = true := by decide +kernel
theorem mj_d95 : ∀ q ∈ mj_code 95, decode (mj_b 95) q.1 = .ok (q.2.1, q.2.2.1) := List.forall_mem_append.mpr ⟨mj_d95_0, mj_d95_1⟩
theorem mj_k95 : ∀ q ∈ mj_code 95, mj_chk 95 q = true := List.forall_mem_append.mpr ⟨mj_k95_0, mj_k95_1⟩
theorem mj_d96_0 : ∀ q ∈ mj_c96_0, decode prog_1_method_30_code q.1 = .ok (q.2.1, q.2.2.1) := by decide +kernel
theorem mj_k96_0 : ∀ q ∈ mj_c96_0, mj_chk 96 q = true := by decide +kernel
theorem mj_d96 : ∀ q ∈ mj_code 96, decode (mj_b 96) q.1 = .ok (q.2.1, q.2.2.1) := mj_d96_0
theorem mj_k96 : ∀ q ∈ mj_code 96, mj_chk 96 q = true := mj_k96_0
theorem mj_d97_0 : ∀ q ∈ mj_c97_0, decode prog_1_method_31_code q.1 = .ok (q.2.1, q.2.2.1) := by decide +kernel
theorem mj_k97_0 : ∀ q ∈ mj_c97_0, mj_chk 97 q = true := by decide +kernel
theorem mj_d97_1 : ∀ q ∈ mj_c97_1, decode prog_1_method_31_code q.1 = .ok (q.2.1, q.2.2.1) := by decide +kernel
theorem mj_k97_1 : ∀ q ∈ mj_c97_1, mj_chk 97 q = true := by decide +kernel
theorem mj_d97 : ∀ q ∈ mj_code 97, decode (mj_b 97) q.1 = .ok (q.2.1, q.2.2.1) := List.forall_mem_append.mpr ⟨mj_d97_0, mj_d97_1⟩
theorem mj_k97 : ∀ q ∈ mj_code 97, mj_chk 97 q = true := List.forall_mem_append.mpr ⟨mj_k97_0, mj_k97_1⟩
theorem mj_d98_0 : ∀ q ∈ mj_c98_0, decode prog_1_method_32_code q.1 = .ok (q.2.1, q.2.2.1) := by decide +kernel
theorem mj_k98_0 : ∀ q ∈ mj_c98_0, mj_chk 98 q = true := by decide +kernel
theorem mj_d98 : ∀ q ∈ mj_code 98, decode (mj_b 98) q.1 = .ok (q.2.1, q.2.2.1) := mj_d98_0
theorem mj_k98 : ∀ q ∈ mj_code 98, mj_chk 98 q = true := mj_k98_0
theorem mj_d99_0 : ∀ q ∈ mj_c99_0, decode prog_1_method_34_code q.1 = .ok (q.2.1, q.2.2.1) := by decide +kernel
theorem mj_k99_0 : ∀ q ∈ mj_c99_0, mj_chk 99 q = true := by decide +kernel
theorem mj_d99 : ∀ q ∈ mj_code 99, decode (mj_b 99) q.1 = .ok (q.2.1, q.2.2.1) := mj_d99_0
theorem mj_k99 : ∀ q ∈ mj_code 99, mj_chk 99 q = true := mj_k99_0
theorem mj_d100_0 : ∀ q ∈ mj_c100_0, decode prog_1_method_33_code q.1 = .ok (q.2.1, q.2.2.1) := by decide +kernel
theorem mj_k100_0 : ∀ q ∈ mj_c100_0, mj_chk 100 q = true := by decide +kernel
theorem mj_d100 : ∀ q ∈ mj_code 100, decode (mj_b 100) q.1 = .ok (q.2.1, q.2.2.1) := mj_d100_0
theorem mj_k100 : ∀ q ∈ mj_code 100, mj_chk 100 q = true := mj_k100_0
theorem mj_d101_0 : ∀ q ∈ mj_c101_0, decode prog_9_method_1_code q.1 = .ok (q.2.1, q.2.2.1) := by decide +kernel
theorem mj_k101_0 : ∀ q ∈ mj_c101_0, mj_chk 101 q = true := by decide +kernel
theorem mj_d101_1 : ∀ q ∈ mj_c101_1, decode prog_9_method_1_code q.1 = .ok (q.2.1, q.2.2.1) := by decide +kernel
theorem mj_k101_1 : ∀ q ∈ mj_c101_1, mj_chk 101 q = true := by decide +kernel
theorem mj_d101 : ∀ q ∈ mj_code 101, decode (mj_b 101) q.1 = .ok (q.2.1, q.2.2.1) := List.forall_mem_append.mpr ⟨mj_d101_0, mj_d101_1⟩
theorem mj_k101 : ∀ q ∈ mj_code 101, mj_chk 101 q = true := List.forall_mem_append.mpr ⟨mj_k101_0, mj_k101_1⟩
theorem mj_d102_0 : ∀ q ∈ mj_c102_0, decode prog_9_method_8_code q.1 = .ok (q.2.1, q.2.2.1) := by decide +kernel
theorem mj_k102_0 : ∀ q ∈ mj_c102_0, mj_chk 102 q = true := by decide +kernel
theorem mj_d102 : ∀ q ∈ mj_code 102, decode (mj_b 102) q.1 = .ok (q.2.1, q.2.2.1) := mj_d102_0
theorem mj_k102 : ∀ q ∈ mj_code 102, mj_chk 102 q = true := mj_k102_0
theorem mj_d103_0 : ∀ q ∈ mj_c103_0, decode prog_9_method_3_code q.1 = .ok (q.2.1, q.2.2.1) := by decide +kernel
theorem mj_k103_0 : ∀ q ∈ mj_c103_0, mj_chk 103 q = true := by decide +kernel
theorem mj_d103 : ∀ q ∈ mj_code 103, decode (mj_b 103) q.1 = .ok (q.2.1, q.2.2.1) := mj_d103_0
theorem mj_k103 : ∀ q ∈ mj_code 103, mj_chk 103 q = true := mj_k103_0
theorem mj_d104_0 : ∀ q ∈ mj_c104_0, decode prog_9_method_9_code q.1 = .ok (q.2.1, q.2.2.1) := by decide +kernel
theorem mj_k104_0 : ∀ q ∈ mj_c104_0, mj_chk 104 q = true := by decide +kernel
theorem mj_d104 : ∀ q ∈ mj_code 104, decode (mj_b 104) q.1 = .ok (q.2.1, q.2.2.1) := mj_d104_0
theorem mj_k104 : ∀ q ∈ mj_code 104, mj_chk 104 q = true := mj_k104_0
theorem mj_d105_0 : ∀ q ∈ mj_c105_0, decode prog_9_method_18_code q.1 = .ok (q.2.1, q.2.2.1) := by decide +kernel
theorem mj_k105_0 : ∀ q ∈ mj_c105_0, mj_chk 105 q = true := by decide +kernel
theorem mj_d105 : ∀ q ∈ mj_code 105, decode (mj_b 105) q.1 = .ok (q.2.1, q.2.2.1) := mj_d105_0
theorem mj_k105 : ∀ q ∈ mj_code 105, mj_chk 105 q = true := mj_k105_0
theorem mj_d106_0 : ∀ q ∈ mj_c106_0, decode prog_9_method_17_code q.1 = .ok (q.2.1, q.2.2.1) := by decide +kernel
theorem mj_k106_0 : ∀ q ∈ mj_c106_0, mj_chk 106 q = true := by decide +kernel
theorem mj_d106_1 : ∀ q ∈ mj_c106_1, decode prog_9_method_17_code q.1 = .ok (q.2.1, q.2.2.1) := by decide +kernel
theorem mj_k106_1 : ∀ q ∈ mj_c106_1, mj_chk 106 q = true := by decide +kernel
theorem mj_d106 : ∀ q ∈ mj_code 106, decode (mj_b 106) q.1 = .ok (q.2.1, q.2.2.1) := List.forall_mem_append.mpr ⟨mj_d106_0, mj_d106_1⟩
theorem mj_k106 : ∀ q ∈ mj_code 106, mj_chk 106 q = true := List.forall_mem_append.mpr ⟨mj_k106_0, mj_k106_1⟩
theorem mj_d107_0 : ∀ q ∈ mj_c107_0, decode prog_9_method_10_code q.1 = .ok (q.2.1, q.2.2.1) := by decide +kernel
theorem mj_k107_0 : ∀ q ∈ mj_c107_0, mj_chk 107 q = true := by decide +kernel
theorem mj_d107 : ∀ q ∈ mj_code 107, decode (mj_b 107) q.1 = .ok (q.2.1, q.2.2.1) := mj_d107_0
theorem mj_k107 : ∀ q ∈ mj_code 107, mj_chk 107 q = true := mj_k107_0
theorem mj_d108_0 : ∀ q ∈ mj_c108_0, decode prog_9_method_16_code q.1 = .ok (q.2.1, q.2.2.1) := by decide +kernel
theorem mj_k108_0 : ∀ q ∈ mj_c108_0, mj_chk 108 q = true := by decide +kernel
theorem mj_d108_1 : ∀ q ∈ mj_c108_1, decode prog_9_method_16_code q.1 = .ok (q.2.1, q.2.2.1) := by decide +kernel
theorem mj_k108_1 : ∀ q ∈ mj_c108_1, mj_chk 108 q = true := by decide +kernel
theorem mj_d108 : ∀ q ∈ mj_code 108, decode (mj_b 108) q.1 = .ok (q.2.1, q.2.2.1) := List.forall_mem_append.mpr ⟨mj_d108_0, mj_d108_1⟩
theorem mj_k108 : ∀ q ∈ mj_code 108, mj_chk 108 q = true := List.forall_mem_append.mpr ⟨mj_k108_0, mj_k108_1⟩
theorem mj_d109_0 : ∀ q ∈ mj_c109_0, decode prog_9_method_13_code q.1 = .ok (q.2.1, q.2.2.1) := by decide +kernel
theorem mj_k109_0 : ∀ q ∈ mj_c109_0, mj_chk 109 q = true := by decide +kernel
theorem mj_d109 : ∀ q ∈ mj_code 109, decode (mj_b 109) q.1 = .ok (q.2.1, q.2.2.1) := mj_d109_0
theorem mj_k109 : ∀ q ∈ mj_code 109, mj_chk 109 q = true := mj_k109_0
theorem mj_d110_0 : ∀ q ∈ mj_c110_0, decode prog_9_method_12_code q.1 = .ok (q.2.1, q.2.2.1) := by decide +kernel
theorem mj_k110_0 : ∀ q ∈ mj_c110_0, mj_chk 110 q = true := by decide +kernel
theorem mj_d110 : ∀ q ∈ mj_code 110, decode (mj_b 110) q.1 = .ok (q.2.1, q.2.2.1) := mj_d110_0
theorem mj_k110 : ∀ q ∈ mj_code 110, mj_chk 110 q = true := mj_k110_0
theorem mj_d111_0 : ∀ q ∈ mj_c111_0, decode prog_9_method_11_code q.1 = .ok (q.2.1, q.2.2.1) := by decide +kernel
theorem mj_k111_0 : ∀ q ∈ mj_c111_0, mj_chk 111 q = true := by decide +kernel
theorem mj_d111_1 : ∀ q ∈ mj_c111_1, decode prog_9_method_11_code q.1 = .ok (q.2.1, q.2.2.1) := by decide +kernel
theorem mj_k111_1 : ∀ q ∈ mj_c111_1, mj_chk 111 q = true := by decide +kernel
theorem mj_d111 : ∀ q ∈ mj_code 111, decode (mj_b 111) q.1 = .ok (q.2.1, q.2.2.1) := List.forall_mem_append.mpr ⟨mj_d111_0, mj_d111_1⟩
theorem mj_k111 : ∀ q ∈ mj_code 111, mj_chk 111 q = true := List.forall_mem_append.mpr ⟨mj_k111_0, mj_k111_1⟩
theorem mj_d112_0 : ∀ q ∈ mj_c112_0, decode prog_9_method_14_code q.1 = .ok (q.2.1, q.2.2.1) := by decide +kernel
theorem mj_k112_0 : ∀ q ∈ mj_c112_0, mj_chk 112 q = true := by decide +kernel
theorem mj_d112_1 : ∀ q ∈ mj_c112_1, decode prog_9_method_14_code q.1 = .ok (q.2.1, q.2.2.1) := by decide +kernel
theorem mj_k112_1 : ∀ q ∈ mj_c112_1, mj_chk 112 q = true := by decide +kernel
theorem mj_d112_2 : ∀ q ∈ mj_c112_2, decode prog_9_method_14_code q.1 = .ok (q.2.1, q.2.2.1) := by decide +kernel
theorem mj_k112_2 : ∀ q ∈ mj_c112_2, mj_chk 112 q = true := by decide +kernel
theorem mj_d112 : ∀ q ∈ mj_code 112, decode (mj_b 112) q.1 = .ok (q.2.1, q.2.2.1) := List.forall_mem_append.mpr ⟨mj_d112_0, List.forall_mem_append.mpr ⟨mj_d112_1, mj_d112_2⟩⟩
theorem mj_k112 : ∀ q ∈ mj_code 112, mj_chk 112 q = true := List.forall_mem_append.mpr ⟨mj_k112_0, List.forall_mem_append.mpr ⟨mj_k112_1, mj_k112_2⟩⟩
theorem mj_d113_0 : ∀ q ∈ mj_c113_0, decode prog_9_method_4_code q.1 = .ok (q.2.1, q.2.2.1) := by decide +kernel
theorem mj_k113_0 : ∀ q ∈ mj_c113_0, mj_chk 113 q = true := by decide +kernel
theorem mj_d113 : ∀ q ∈ mj_code 113, decode (mj_b 113) q.1 = .ok (q.2.1, q.2.2.1) := mj_d113_0
theorem mj_k113 : ∀ q ∈ mj_code 113, mj_chk 113 q = true := mj_k113_0
theorem mj_d114_0 : ∀ q ∈ mj_c114_0, decode prog_9_method_15_code q.1 = .ok (q.2.1, q.2.2.1) := by decide +kernel
theorem mj_k114_0 : ∀ q ∈ mj_c114_0, mj_chk 114 q = true := by decide +kernel
theorem mj_d114_1 : ∀ q ∈ mj_c114_1, decode prog_9_method_15_code q.1 = .ok (q.2.1, q.2.2.1) := by decide +kernel
theorem mj_k114_1 : ∀ q ∈ mj_c114_1, mj_chk 114 q = true := by decide +kernel
theorem mj_d114 : ∀ q ∈ mj_code 114, decode (mj_b 114) q.1 = .ok (q.2.1, q.2.2.1) := List.forall_mem_append.mpr ⟨mj_d114_0, mj_d114_1⟩
theorem mj_k114 : ∀ q ∈ mj_code 114, mj_chk 114 q = true := List.forall_mem_append.mpr ⟨mj_k114_0, mj_k114_1⟩
theorem mj_d115_0 : ∀ q ∈ mj_c115_0, decode prog_9_method_19_code q.1 = .ok (q.2.1, q.2.2.1) := by decide +kernel
theorem mj_k115_0 : ∀ q ∈ mj_c115_0, mj_chk 115 q = true := by decide +kernel
theorem mj_d115_1 : ∀ q ∈ mj_c115_1, decode prog_9_method_19_code q.1 = .ok (q.2.1, q.2.2.1) := by decide +kernel
theorem mj_k115_1 : ∀ q ∈ mj_c115_1, mj_chk 115 q = true := by decide +kernel
theorem mj_d115_2 : ∀ q ∈ mj_c115_2, decode prog_9_method_19_code q.1 = .ok (q.2.1, q.2.2.1) := by decide +kernel
theorem mj_k115_2 : ∀ q ∈ mj_c115_2, mj_chk 115 q = true := by decide +kernel
theorem mj_d115 : ∀ q ∈ mj_code 115, decode (mj_b 115) q.1 = .ok (q.2.1, q.2.2.1) := List.forall_mem_append.mpr ⟨mj_d115_0, List.forall_mem_append.mpr ⟨mj_d115_1, mj_d115_2⟩⟩
theorem mj_k115 : ∀ q ∈ mj_code 115, mj_chk 115 q = true := List.forall_mem_append.mpr ⟨mj_k115_0, List.forall_mem_append.mpr ⟨mj_k115_1, mj_k115_2⟩⟩
theorem mj_d116_0 : ∀ q ∈ mj_c116_0, decode prog_9_method_23_code q.1 = .ok (q.2.1, q.2.2.1) := by decide +kernel
theorem mj_k116_0 : ∀ q ∈ mj_c116_0, mj_chk 116 q = true := by decide +kernel
theorem mj_d116_1 : ∀ q ∈ mj_c116_1, decode prog_9_method_23_code q.1 = .ok (q.2.1, q.2.2.1) := by decide +kernel
theorem mj_k116_1 : ∀ q ∈ mj_c116_1, mj_chk 116 q = true := by decide +kernel
theorem mj_d116 : ∀ q ∈ mj_code 116, decode (mj_b 116) q.1 = .ok (q.2.1, q.2.2.1) := List.forall_mem_append.mpr ⟨mj_d116_0, mj_d116_1⟩
theorem mj_k116 : ∀ q ∈ mj_code 116, mj_chk 116 q = true := List.forall_mem_append.mpr ⟨mj_k116_0, mj_k116_1⟩
theorem mj_d117_0 : ∀ q ∈ mj_c117_0, decode prog_9_method_20_code q.1 = .ok (q.2.1, q.2.2.1) := by decide +kernel
theorem mj_k117_0 : ∀ q ∈ mj_c117_0, mj_chk 117 q = true := by decide +kernel
theorem mj_d117 : ∀ q ∈ mj_code 117, decode (mj_b 117) q.1 = .ok (q.2.1, q.2.2.1) := mj_d117_0
theorem mj_k117 : ∀ q ∈ mj_code 117, mj_chk 117 q = true := mj_k117_0
theorem mj_d118_0 : ∀ q ∈ mj_c118_0, decode prog_9_method_21_code q.1 = .ok (q.2.1, q.2.2.1) := by decide +kernel
theorem mj_k118_0 : ∀ q ∈ mj_c118_0, mj_chk 118 q = true := by decide +kernel
theorem mj_d118 : ∀ q ∈ mj_code 118, decode (mj_b 118) q.1 = .ok (q.2.1, q.2.2.1) := mj_d118_0
theorem mj_k118 : ∀ q ∈ mj_code 118, mj_chk 118 q = true := mj_k118_0
theorem mj_d119_0 : ∀ q ∈ mj_c119_0, decode prog_9_method_24_code q.1 = .ok (q.2.1, q.2.2.1) := by decide +kernel
theorem mj_k119_0 : ∀ q ∈ mj_c119_0, mj_chk 119 q = true := by decide +kernel
theorem mj_d119_1 : ∀ q ∈ mj_c119_1, decode prog_9_method_24_code q.1 = .ok (q.2.1, q.2.2.1) := by decide +kernel
theorem mj_k119_1 : ∀ q ∈ mj_c119_1, mj_chk 119 q = true := by decide +kernel
theorem mj_d119 : ∀ q ∈ mj_code 119, decode (mj_b 119) q.1 = .ok (q.2.1, q.2.2.1) := List.forall_mem_append.mpr ⟨mj_d119_0, mj_d119_1⟩
theorem mj_k119 : ∀ q ∈ mj_code 119, mj_chk 119 q = true := List.forall_mem_append.mpr ⟨mj_k119_0, mj_k119_1⟩
theorem mj_d120_0 : ∀ q ∈ mj_c120_0, decode prog_9_method_6_code q.1 = .ok (q.2.1, q.2.2.1) := by decide +kernel
theorem mj_k120_0 : ∀ q ∈ mj_c120_0, mj_chk 120 q = true := by decide +kernel
theorem mj_d120 : ∀ q ∈ mj_code 120, decode (mj_b 120) q.1 = .ok (q.2.1, q.2.2.1) := mj_d120_0
theorem mj_k120 : ∀ q ∈ mj_code 120, mj_chk 120 q = true := mj_k120_0
theorem mj_d121_0 : ∀ q ∈ mj_c121_0, decode prog_9_method_22_code q.1 = .ok (q.2.1, q.2.2.1) := by decide +kernel
theorem mj_k121_0 : ∀ q ∈ mj_c121_0, mj_chk 121 q = true := by decide +kernel
theorem mj_d121_1 : ∀ q ∈ mj_c121_1, decode prog_9_method_22_code q.1 = .ok (q.2.1, q.2.2.1) := by decide +kernel
theorem mj_k121_1 : ∀ q ∈ mj_c121_1, mj_chk 121 q = true := by decide +kernel
theorem mj_d121 : ∀ q ∈ mj_code 121, decode (mj_b 121) q.1 = .ok (q.2.1, q.2.2.1) := List.forall_mem_append.mpr ⟨mj_d121_0, mj_d121_1⟩
theorem mj_k121 : ∀ q ∈ mj_code 121, mj_chk 121 q = true := List.forall_mem_append.mpr ⟨mj_k121_0, mj_k121_1⟩
theorem mj_d122_0 : ∀ q ∈ mj_c122_0, decode prog_9_method_25_code q.1 = .ok (q.2.1, q.2.2.1) := by decide +kernel
theorem mj_k122_0 : ∀ q ∈ mj_c122_0, mj_chk 122 q = true := by decide +kernel
theorem mj_d122 : ∀ q ∈ mj_code 122, decode (mj_b 122) q.1 = .ok (q.2.1, q.2.2.1) := mj_d122_0
theorem mj_k122 : ∀ q ∈ mj_code 122, mj_chk 122 q = true := mj_k122_0
theorem mj_d123_0 : ∀ q ∈ mj_c123_0, decode prog_9_method_7_code q.1 = .ok (q.2.1, q.2.2.1) := by decide +kernel
theorem mj_k123_0 : ∀ q ∈ mj_c123_0, mj_chk 123 q = true := by decide +kernel
theorem mj_d123 : ∀ q ∈ mj_code 123, decode (mj_b 123) q.1 = .ok (q.2.1, q.2.2.1) := mj_d123_0
theorem mj_k123 : ∀ q ∈ mj_code 123, mj_chk 123 q = true := mj_k123_0
theorem mj_d124_0 : ∀ q ∈ mj_c124_0, decode prog_9_method_32_code q.1 = .ok (q.2.1, q.2.2.1) := by decide +kernel
theorem mj_k124_0 : ∀ q ∈ mj_c124_0, mj_chk 124 q = true := by decide +kernel
theorem mj_d124 : ∀ q ∈ mj_code 124, decode (mj_b 124) q.1 = .ok (q.2.1, q.2.2.1) := mj_d124_0
theorem mj_k124 : ∀ q ∈ mj_code 124, mj_chk 124 q = true := mj_k124_0
theorem mj_d125_0 : ∀ q ∈ mj_c125_0, decode prog_9_method_28_code q.1 = .ok (q.2.1, q.2.2.1) := by decide +kernel
theorem mj_k125_0 : ∀ q ∈ mj_c125_0, mj_chk 125 q = true := by decide +kernel
theorem mj_d125 : ∀ q ∈ mj_code 125, decode (mj_b 125) q.1 = .ok (q.2.1, q.2.2.1) := mj_d125_0
theorem mj_k125 : ∀ q ∈ mj_code 125, mj_chk 125 q = true := mj_k125_0
theorem mj_d126_0 : ∀ q ∈ mj_c126_0, decode prog_9_method_26_code q.1 = .ok (q.2.1, q.2.2.1) := by decide +kernel
theorem mj_k126_0 : ∀ q ∈ mj_c126_0, mj_chk 126 q = true := by decide +kernel
theorem mj_d126_1 : ∀ q ∈ mj_c126_1, decode prog_9_method_26_code q.1 = .ok (q.2.1, q.2.2.1) := by decide +kernel
theorem mj_k126_1 : ∀ q ∈ mj_c126_1, mj_chk 126 q = true := by decide +kernel
theorem mj_d126 : ∀ q ∈ mj_code 126, decode (mj_b 126) q.1 = .ok (q.2.1, q.2.2.1) := List.forall_mem_append.mpr ⟨mj_d126_0, mj_d126_1⟩
theorem mj_k126 : ∀ q ∈ mj_code 126, mj_chk 126 q = true := List.forall_mem_append.mpr ⟨mj_k126_0, mj_k126_1⟩
theorem mj_d127_0 : ∀ q ∈ mj_c127_0, decode prog_9_method_27_code q.1 = .ok (q.2.1, q.2.2.1) := by decide +kernel
theorem mj_k127_0 : ∀ q ∈ mj_c127_0, mj_chk 127 q = true := by decide +kernel
theorem mj_d127_1 : ∀ q ∈ mj_c127_1, decode prog_9_method_27_code q.1 = .ok (q.2.1, q.2.2.1) := by decide +kernel
theorem mj_k127_1 : ∀ q ∈ mj_c127_1, mj_chk 127 q = true := by decide +kernel
theorem mj_d127_2 : ∀ q ∈ mj_c127_2, decode prog_9_method_27_code q.1 = .ok (q.2.1, q.2.2.1) := by decide +kernel
theorem mj_k127_2 : ∀ q ∈ mj_c127_2, mj_chk 127 q = true := by decide +kernel
theorem mj_d127 : ∀ q ∈ mj_code 127, decode (mj_b 127) q.1 = .ok (q.2.1, q.2.2.1) := List.forall_mem_append.mpr ⟨mj_d127_0, List.forall_mem_append.mpr ⟨mj_d127_1, mj_d127_2⟩⟩
theorem mj_k127 : ∀ q ∈ mj_code 127, mj_chk 127 q = true := List.forall_mem_append.mpr ⟨mj_k127_0, List.forall_mem_append.mpr ⟨mj_k127_1, mj_k127_2⟩⟩
theorem mj_d128_0 : ∀ q ∈ mj_c128_0, decode prog_9_method_33_code q.1 = .ok (q.2.1, q.2.2.1) := by decide +kernel
theorem mj_k128_0 : ∀ q ∈ mj_c128_0, mj_chk 128 q = true := by decide +kernel
theorem mj_d128 : ∀ q ∈ mj_code 128, decode (mj_b 128) q.1 = .ok (q.2.1, q.2.2.1) := mj_d128_0
theorem mj_k128 : ∀ q ∈ mj_code 128, mj_chk 128 q = true := mj_k128_0
theorem mj_d129_0 : ∀ q ∈ mj_c129_0, decode prog_9_method_34_code q.1 = .ok (q.2.1, q.2.2.1) := by decide +kernel
theorem mj_k129_0 : ∀ q ∈ mj_c129_0, mj_chk 129 q = true := by decide +kernel
theorem mj_d129 : ∀ q ∈ mj_code 129, decode (mj_b 129) q.1 = .ok (q.2.1, q.2.2.1) := mj_d129_0
theorem mj_k129 : ∀ q ∈ mj_code 129, mj_chk 129 q = true := mj_k129_0
theorem mj_d130_0 : ∀ q ∈ mj_c130_0, decode prog_9_method_29_code q.1 = .ok (q.2.1, q.2.2.1) := by decide +kernel
theorem mj_k130_0 : ∀ q ∈ mj_c130_0, mj_chk 130 q = true := by decide +kernel
theorem mj_d130_1 : ∀ q ∈ mj_c130_1, decode prog_9_method_29_code q.1 = .ok (q.2.1, q.2.2.1) := by decide +kernel
theorem mj_k130_1 : ∀ q ∈ mj_c130_1, mj_chk 130 q = true := by decide +kernel
theorem mj_d130 : ∀ q ∈ mj_code 130, decode (mj_b 130) q.1 = .ok (q.2.1, q.2.2.1) := List.forall_mem_append.mpr ⟨mj_d130_0, mj_d130_1⟩
theorem mj_k130 : ∀ q ∈ mj_code 130, mj_chk 130 q = true := List.forall_mem_append.mpr ⟨mj_k130_0, mj_k130_1⟩
theorem mj_d131_0 : ∀ q ∈ mj_c131_0, decode prog_9_method_35_code q.1 = .ok (q.2.1, q.2.2.1) := by decide +kernel
theorem mj_k131_0 : ∀ q ∈ mj_c131_0, mj_chk 131 q = true := by decide +kernel
theorem mj_d131 : ∀ q ∈ mj_code 131, decode (mj_b 131) q.1 = .ok (q.2.1, q.2.2.1) := mj_d131_0
theorem mj_k131 : ∀ q ∈ mj_code 131, mj_chk 131 q = true := mj_k131_0
theorem mj_d132_0 : ∀ q ∈ mj_c132_0, decode prog_9_method_31_code q.1 = .ok (q.2.1, q.2.2.1) := by decide +kernel
theorem mj_k132_0 : ∀ q ∈ mj_c132_0, mj_chk 132 q = true := by decide +kernel
theorem mj_d132 : ∀ q ∈ mj_code 132, decode (mj_b 132) q.1 = .ok (q.2.1, q.2.2.1) := mj_d132_0
theorem mj_k132 : ∀ q ∈ mj_code 132, mj_chk 132 q = true := mj_k132_0
theorem mj_d133_0 : ∀ q ∈ mj_c133_0, decode prog_9_method_30_code q.1 = .ok (q.2.1, q.2.2.1) := by decide +kernel
theorem mj_k133_0 : ∀ q ∈ mj_c133_0, mj_chk 133 q = true := by decide +kernel
theorem mj_d133 : ∀ q ∈ mj_code 133, decode (mj_b 133) q.1 = .ok (q.2.1, q.2.2.1) := mj_d133_0
theorem mj_k133 : ∀ q ∈ mj_code 133, mj_chk 133 q = true := mj_k133_0
theorem mj_d134_0 : ∀ q ∈ mj_c134_0, decode prog_9_method_36_code q.1 = .ok (q.2.1, q.2.2.1) := by decide +kernel
theorem mj_k134_0 : ∀ q ∈ mj_c134_0, mj_chk 134 q = true := by decide +kernel
theorem mj_d134 : ∀ q ∈ mj_code 134, decode (mj_b 134) q.1 = .ok (q.2.1, q.2.2.1) := mj_d134_0
theorem mj_k134 : ∀ q ∈ mj_code 134, mj_chk 134 q = true := mj_k134_0
theorem mj_d135_0 : ∀ q ∈ mj_c135_0, decode prog_9_method_40_code q.1 = .ok (q.2.1, q.2.2.1) := by decide +kernel
theorem mj_k135_0 : ∀ q ∈ mj_c135_0, mj_chk 135 q = true := by decide +kernel
theorem mj_d135_1 : ∀ q ∈ mj_c135_1, decode prog_9_method_40_code q.1 = .ok (q.2.1, q.2.2.1) := by decide +kernel
theorem mj_k135_1 : ∀ q ∈ mj_c135_1, mj_chk 135 q = true := by decide +kernel
theorem mj_d135 : ∀ q ∈ mj_code 135, decode (mj_b 135) q.1 = .ok (q.2.1, q.2.2.1) := List.forall_mem_append.mpr ⟨mj_d135_0, mj_d135_1⟩
theorem mj_k135 : ∀ q ∈ mj_code 135, mj_chk 135 q = true := List.forall_mem_append.mpr ⟨mj_k135_0, mj_k135_1⟩
theorem mj_d136_0 : ∀ q ∈ mj_c136_0, decode prog_9_method_39_code q.1 = .ok (q.2.1, q.2.2.1) := by decide +kernel
theorem mj_k136_0 : ∀ q ∈ mj_c136_0, mj_chk 136 q = true := by decide +kernel
theorem mj_d136 : ∀ q ∈ mj_code 136, decode (mj_b 136) q.1 = .ok (q.2.1, q.2.2.1) := mj_d136_0
theorem mj_k136 : ∀ q ∈ mj_code 136, mj_chk 136 q = true := mj_k136_0
theorem mj_d137_0 : ∀ q ∈ mj_c137_0, decode prog_9_method_38_code q.1 = .ok (q.2.1, q.2.2.1) := by decide +kernel
theorem mj_k137_0 : ∀ q ∈ mj_c137_0, mj_chk 137 q = true := by decide +kernel
theorem mj_d137_1 : ∀ q ∈ mj_c137_1, decode prog_9_method_38_code q.1 = .ok (q.2.1, q.2.2.1) := by decide +kernel
theorem mj_k137_1 : ∀ q ∈ mj_c137_1, mj_chk 137 q = true := by decide +kernel
theorem mj_d137 : ∀ q ∈ mj_code 137, decode (mj_b 137) q.1 = .ok (q.2.1, q.2.2.1) := List.forall_mem_append.mpr ⟨mj_d137_0, mj_d137_1⟩
theorem mj_k137 : ∀ q ∈ mj_code 137, mj_chk 137 q = true := List.forall_mem_append.mpr ⟨mj_k137_0, mj_k137_1⟩
theorem mj_d138_0 : ∀ q ∈ mj_c138_0, decode prog_9_method_37_code q.1 = .ok (q.2.1, q.2.2.1) := by decide +kernel
theorem mj_k138_0 : ∀ q ∈ mj_c138_0, mj_chk 138 q = true := by decide +kernel
theorem mj_d138 : ∀ q ∈ mj_code 138, decode (mj_b 138) q.1 = .ok (q.2.1, q.2.2.1) := mj_d138_0
theorem mj_k138 : ∀ q ∈ mj_code 138, mj_chk 138 q = true := mj_k138_0
theorem mj_d139_0 : ∀ q ∈ mj_c139_0, decode prog_9_method_41_code q.1 = .ok (q.2.1, q.2.2.1) := by decide +kernel
theorem mj_k139_0 : ∀ q ∈ mj_c139_0, mj_chk 139 q = true := by decide +kernel
theorem mj_d139_1 : ∀ q ∈ mj_c139_1, decode prog_9_method_41_code q.1 = .ok (q.2.1, q.2.2.1) := by decide +kernel
theorem mj_k139_1 : ∀ q ∈ mj_c139_1, mj_chk 139 q = true := by decide +kernel
theorem mj_d139 : ∀ q ∈ mj_code 139, decode (mj_b 139) q.1 = .ok (q.2.1, q.2.2.1) := List.forall_mem_append.mpr ⟨mj_d139_0, mj_d139_1⟩
theorem mj_k139 : ∀ q ∈ mj_code 139, mj_chk 139 q = true := List.forall_mem_append.mpr ⟨mj_k139_0, mj_k139_1⟩
theorem mj_d140_0 : ∀ q ∈ mj_c140_0, decode prog_9_method_42_code q.1 = .ok (q.2.1, q.2.2.1) := by decide +kernel
theorem mj_k140_0 : ∀ q ∈ mj_c140_0, mj_chk 140 q = true := by decide +kernel
theorem mj_d140_1 : ∀ q ∈ mj_c140_1, decode prog_9_method_42_code q.1 = .ok (q.2.1, q.2.2.1) := by decide +kernel
theorem mj_k140_1 : ∀ q ∈ mj_c140_1, mj_chk 140 q = true := by decide +kernel
theorem mj_d140 : ∀ q ∈ mj_code 140, decode (mj_b 140) q.1 = .ok (q.2.1, q.2.2.1) := List.forall_mem_append.mpr ⟨mj_d140_0, mj_d140_1⟩
theorem mj_k140 : ∀ q ∈ mj_code 140, mj_chk 140 q = true := List.forall_mem_append.mpr ⟨mj_k140_0, mj_k140_1⟩
theorem mj_d141_0 : ∀ q ∈ mj_c141_0, decode prog_9_method_44_code q.1 = .ok (q.2.1, q.2.2.1) := by decide +kernel
theorem mj_k141_0 : ∀ q ∈ mj_c141_0, mj_chk 141 q = true := by decide +kernel
theorem mj_d141_1 : ∀ q ∈ mj_c141_1, decode prog_9_method_44_code q.1 = .ok (q.2.1, q.2.2.1) := by decide +kernel
theorem mj_k141_1 : ∀ q ∈ mj_c141_1, mj_chk 141 q = true := by decide +kernel
theorem mj_d141_2 : ∀ q ∈ mj_c141_2, decode prog_9_method_44_code q.1 = .ok (q.2.1, q.2.2.1) := by decide +kernel
theorem mj_k141_2 : ∀ q ∈ mj_c141_2, mj_chk 141 q = true := by decide +kernel
theorem mj_d141 : ∀ q ∈ mj_code 141, decode (mj_b 141) q.1 = .ok (q.2.1, q.2.2.1) := List.forall_mem_append.mpr ⟨mj_d141_0, List.forall_mem_append.mpr ⟨mj_d141_1, mj_d141_2⟩⟩
theorem mj_k141 : ∀ q ∈ mj_code 141, mj_chk 141 q = true := List.forall_mem_append.mpr ⟨mj_k141_0, List.forall_mem_append.mpr ⟨mj_k141_1, mj_k141_2⟩⟩
theorem mj_d142_0 : ∀ q ∈ mj_c142_0, decode prog_9_method_43_code q.1 = .ok (q.2.1, q.2.2.1) := by decide +kernel
theorem mj_k142_0 : ∀ q ∈ mj_c142_0, mj_chk 142 q = true := by decide +kernel
theorem mj_d142 : ∀ q ∈ mj_code 142, decode (mj_b 142) q.1 = .ok (q.2.1, q.2.2.1) := mj_d142_0
theorem mj_k142 : ∀ q ∈ mj_code 142, mj_chk 142 q = true := mj_k142_0
theorem mj_d143_0 : ∀ q ∈ mj_c143_0, decode prog_9_method_46_code q.1 = .ok (q.2.1, q.2.2.1) := by decide +kernel
theorem mj_k143_0 : ∀ q ∈ mj_c143_0, mj_chk 143 q = true := by decide +kernel
theorem mj_d143_1 : ∀ q ∈ mj_c143_1, decode prog_9_method_46_code q.1 = .ok (q.2.1, q.2.2.1) := by decide +kernel
theorem mj_k143_1 : ∀ q ∈ mj_c143_1, mj_chk 143 q = true := by decide +kernel
theorem mj_d143_2 : ∀ q ∈ mj_c143_2, decode prog_9_method_46_code q.1 = .ok (q.2.1, q.2.2.1) := by decide +kernel
theorem mj_k143_2 : ∀ q ∈ mj_c143_2, mj_chk 143 q = true := by decide +kernel
theorem mj_d143 : ∀ q ∈ mj_code 143, decode (mj_b 143) q.1 = .ok (q.2.1, q.2.2.1) := List.forall_mem_append.mpr ⟨mj_d143_0, List.forall_mem_append.mpr ⟨mj_d143_1, mj_d143_2⟩⟩
theorem mj_k143 : ∀ q ∈ mj_code 143, mj_chk 143 q = true := List.forall_mem_append.mpr ⟨mj_k143_0, List.forall_mem_append.mpr ⟨mj_k143_1, mj_k143_2⟩⟩
theorem mj_d144_0 : ∀ q ∈ mj_c144_0, decode prog_9_method_5_code q.1 = .ok (q.2.1, q.2.2.1) := by decide +kernel
theorem mj_k144_0 : ∀ q ∈ mj_c144_0, mj_chk 144 q = true := by decide +kernel
theorem mj_d144 : ∀ q ∈ mj_code 144, decode (mj_b 144) q.1 = .ok (q.2.1, q.2.2.1) := mj_d144_0
theorem mj_k144 : ∀ q ∈ mj_code 144, mj_chk 144 q = true := mj_k144_0
theorem mj_d145_0 : ∀ q ∈ mj_c145_0, decode prog_9_method_45_code q.1 = .ok (q.2.1, q.2.2.1) := by decide +kernel
theorem mj_k145_0 : ∀ q ∈ mj_c145_0, mj_chk 145 q = true := by decide +kernel
theorem mj_d145_1 : ∀ q ∈ mj_c145_1, decode prog_9_method_45_code q.1 = .ok (q.2.1, q.2.2.1) := by decide +kernel
theorem mj_k145_1 : ∀ q ∈ mj_c145_1, mj_chk 145 q = true := by decide +kernel
theorem mj_d145_2 : ∀ q ∈ mj_c145_2, decode prog_9_method_45_code q.1 = .ok (q.2.1, q.2.2.1) := by decide +kernel
theorem mj_k145_2 : ∀ q ∈ mj_c145_2, mj_chk 145 q = true := by decide +kernel
theorem mj_d145 : ∀ q ∈ mj_code 145, decode (mj_b 145) q.1 = .ok (q.2.1, q.2.2.1) := List.forall_mem_append.mpr ⟨mj_d145_0, List.forall_mem_append.mpr ⟨mj_d145_1, mj_d145_2⟩⟩
theorem mj_k145 : ∀ q ∈ mj_code 145, mj_chk 145 q = true := List.forall_mem_append.mpr ⟨mj_k145_0, List.forall_mem_append.mpr ⟨mj_k145_1, mj_k145_2⟩⟩
theorem mj_d146_0 : ∀ q ∈ mj_c146_0, decode prog_9_method_47_code q.1 = .ok (q.2.1, q.2.2.1) := by decide +kernel
theorem mj_k146_0 : ∀ q ∈ mj_c146_0, mj_chk 146 q = true := by decide +kernel
theorem mj_d146 : ∀ q ∈ mj_code 146, decode (mj_b 146) q.1 = .ok (q.2.1, q.2.2.1) := mj_d146_0
theorem mj_k146 : ∀ q ∈ mj_code 146, mj_chk 146 q = true := mj_k146_0
theorem mj_d147_0 : ∀ q ∈ mj_c147_0, decode prog_9_method_48_code q.1 = .ok (q.2.1, q.2.2.1) := by decide +kernel
theorem mj_k147_0 : ∀ q ∈ mj_c147_0, mj_chk 147 q = true := by decide +kernel
theorem mj_d147 : ∀ q ∈ mj_code 147, decode (mj_b 147) q.1 = .ok (q.2.1, q.2.2.1) := mj_d147_0
theorem mj_k147 : ∀ q ∈ mj_code 147, mj_chk 147 q = true := mj_k147_0
theorem mj_d148_0 : ∀ q ∈ mj_c148_0, decode prog_9_method_52_code q.1 = .ok (q.2.1, q.2.2.1) := by decide +kernel
theorem mj_k148_0 : ∀ q ∈ mj_c148_0, mj_chk 148 q = true := by decide +kernel
theorem mj_d148_1 : ∀ q ∈ mj_c148_1, decode prog_9_method_52_code q.1 = .ok (q.2.1, q.2.2.1) := by decide +kernel
theorem mj_k148_1 : ∀ q ∈ mj_c148_1, mj_chk 148 q = true := by decide +kernel
theorem mj_d148 : ∀ q ∈ mj_code 148, decode (mj_b 148) q.1 = .ok (q.2.1, q.2.2.1) := List.forall_mem_append.mpr ⟨mj_d148_0, mj_d148_1⟩
theorem mj_k148 : ∀ q ∈ mj_code 148, mj_chk 148 q = true := List.forall_mem_append.mpr ⟨mj_k148_0, mj_k148_1⟩
theorem mj_d149_0 : ∀ q ∈ mj_c149_0, decode prog_9_method_51_code q.1 = .ok (q.2.1, q.2.2.1) := by decide +kernel
theorem mj_k149_0 : ∀ q ∈ mj_c149_0, mj_chk 149 q = true := by decide +kernel
theorem mj_d149 : ∀ q ∈ mj_code 149, decode (mj_b 149) q.1 = .ok (q.2.1, q.2.2.1) := mj_d149_0
theorem mj_k149 : ∀ q ∈ mj_code 149, mj_chk 149 q = true := mj_k149_0
theorem mj_d150_0 : ∀ q ∈ mj_c150_0, decode prog_9_method_50_code q.1 = .ok (q.2.1, q.2.2.1) := by decide +kernel
theorem mj_k150_0 : ∀ q ∈ mj_c150_0, mj_chk 150 q = true := by decide +kernel
theorem mj_d150 : ∀ q ∈ mj_code 150, decode (mj_b 150) q.1 = .ok (q.2.1, q.2.2.1) := mj_d150_0
theorem mj_k150 : ∀ q ∈ mj_code 150, mj_chk 150 q = true := mj_k150_0
theorem mj_d151_0 : ∀ q ∈ mj_c151_0, decode prog_9_method_49_code q.1 = .ok (q.2.1, q.2.2.1) := by decide +kernel
theorem mj_k151_0 : ∀ q ∈ mj_c151_0, mj_chk 151 q = true := by decide +kernel
theorem mj_d151 : ∀ q ∈ mj_code 151, decode (mj_b 151) q.1 = .ok (q.2.1, q.2.2.1) := mj_d151_0
theorem mj_k151 : ∀ q ∈ mj_code 151, mj_chk 151 q = true := mj_k151_0
theorem mj_d152_0 : ∀ q ∈ mj_c152_0, decode prog_9_method_53_code q.1 = .ok (q.2.1, q.2.2.1) := by decide +kernel
theorem mj_k152_0 : ∀ q ∈ mj_c152_0, mj_chk 152 q = true := by decide +kernel
theorem mj_d152_1 : ∀ q ∈ mj_c152_1, decode prog_9_method_53_code q.1 = .ok (q.2.1, q.2.2.1) := by decide +kernel
theorem mj_k152_1 : ∀ q ∈ mj_c152_1, mj_chk 152 q = true := by decide +kernel
theorem mj_d152 : ∀ q ∈ mj_code 152, decode (mj_b 152) q.1 = .ok (q.2.1, q.2.2.1) := List.forall_mem_append.mpr ⟨mj_d152_0, mj_d152_1⟩
theorem mj_k152 : ∀ q ∈ mj_code 152, mj_chk 152 q = true := List.forall_mem_append.mpr ⟨mj_k152_0, mj_k152_1⟩
theorem mj_d153_0 : ∀ q ∈ mj_c153_0, decode prog_9_method_55_code q.1 = .ok (q.2.1, q.2.2.1) := by decide +kernel
theorem mj_k153_0 : ∀ q ∈ mj_c153_0, mj_chk 153 q = true := by decide +kernel
theorem mj_d153_1 : ∀ q ∈ mj_c153_1, decode prog_9_method_55_code q.1 = .ok (q.2.1, q.2.2.1) := by decide +kernel
theorem mj_k153_1 : ∀ q ∈ mj_c153_1, mj_chk 153 q = true := by decide +kernel
theorem mj_d153_2 : ∀ q ∈ mj_c153_2, decode prog_9_method_55_code q.1 = .ok (q.2.1, q.2.2.1) := by decide +kernel
theorem mj_k153_2 : ∀ q ∈ mj_c153_2, mj_chk 153 q = true := by decide +kernel
theorem mj_d153_3 : ∀ q ∈ mj_c153_3, decode prog_9_method_55_code q.1 = .ok (q.2.1, q.2.2.1) := by decide +kernel
theorem mj_k153_3 : ∀ q ∈ mj_c153_3, mj_chk 153 q = true := by decide +kernel
theorem mj_d153 : ∀ q ∈ mj_code 153, decode (mj_b 153) q.1 = .ok (q.2.1, q.2.2.1) := List.forall_mem_append.mpr ⟨mj_d153_0, List.forall_mem_append.mpr ⟨mj_d153_1, List.forall_mem_append.mpr ⟨mj_d153_2, mj_d153_3⟩⟩⟩
theorem mj_k153 : ∀ q ∈ mj_code 153, mj_chk 153 q = true := List.forall_mem_append.mpr ⟨mj_k153_0, List.forall_mem_append.mpr ⟨mj_k153_1, List.forall_mem_append.mpr ⟨mj_k153_2, mj_k153_3⟩⟩⟩
theorem mj_d154_0 : ∀ q ∈ mj_c154_0, decode prog_9_method_54_code q.1 = .ok (q.2.1, q.2.2.1) := by decide +kernel
theorem mj_k154_0 : ∀ q ∈ mj_c154_0, mj_chk 154 q = true := by decide +kernel
theorem mj_d154 : ∀ q ∈ mj_code 154, decode (mj_b 154) q.1 = .ok (q.2.1, q.2.2.1) := mj_d154_0
theorem mj_k154 : ∀ q ∈ mj_code 154, mj_chk 154 q = true := mj_k154_0
theorem mj_d155_0 : ∀ q ∈ mj_c155_0, decode prog_9_method_57_code q.1 = .ok (q.2.1, q.2.2.1) := by decide +kernel
theorem mj_k155_0 : ∀ q ∈ mj_c155_0, mj_chk 155 q = true := by decide +kernel
theorem mj_d155 : ∀ q ∈ mj_code 155, decode (mj_b 155) q.1 = .ok (q.2.1, q.2.2.1) := mj_d155_0
theorem mj_k155 : ∀ q ∈ mj_code 155, mj_chk 155 q = true := mj_k155_0
theorem mj_d156_0 : ∀ q ∈ mj_c156_0, decode prog_9_method_56_code q.1 = .ok (q.2.1, q.2.2.1) := by decide +kernel
theorem mj_k156_0 : ∀ q ∈ mj_c156_0, mj_chk 156 q = true := by decide +kernel
theorem mj_d156 : ∀ q ∈ mj_code 156, decode (mj_b 156) q.1 = .ok (q.2.1, q.2.2.1) := mj_d156_0
theorem mj_k156 : ∀ q ∈ mj_code 156, mj_chk 156 q = true := mj_k156_0
theorem mj_d157_0 : ∀ q ∈ mj_c157_0, decode prog_9_method_58_code q.1 = .ok (q.2.1, q.2.2.1) := by decide +kernel
theorem mj_k157_0 : ∀ q ∈ mj_c157_0, mj_chk 157 q = true := by decide +kernel
theorem mj_d157_1 : ∀ q ∈ mj_c157_1, decode prog_9_method_58_code q.1 = .ok (q.2.1, q.2.2.1) := by decide +kernel
theorem mj_k157_1 : ∀ q ∈ mj_c157_1, mj_chk 157 q = true := by decide +kernel
theorem mj_d157 : ∀ q ∈ mj_code 157, decode (mj_b 157) q.1 = .ok (q.2.1, q.2.2.1) := List.forall_mem_append.mpr ⟨mj_d157_0, mj_d157_1⟩
theorem mj_k157 : ∀ q ∈ mj_code 157, mj_chk 157 q = true := List.forall_mem_append.mpr ⟨mj_k157_0, mj_k157_1⟩
theorem mj_d158_0 : ∀ q ∈ mj_c158_0, decode prog_9_method_59_code q.1 = .ok (q.2.1, q.2.2.1) := by decide +kernel
theorem mj_k158_0 : ∀ q ∈ mj_c158_0, mj_chk 158 q = true := by decide +kernel
theorem mj_d158_1 : ∀ q ∈ mj_c158_1, decode prog_9_method_59_code q.1 = .ok (q.2.1, q.2.2.1) := by decide +kernel
theorem mj_k158_1 : ∀ q ∈ mj_c158_1, mj_chk 158 q = true := by decide +kernel
theorem mj_d158_2 : ∀ q ∈ mj_c158_2, decode prog_9_method_59_code q.1 = .ok (q.2.1, q.2.2.1) := by decide +kernel
theorem mj_k158_2 : ∀ q ∈ mj_c158_2, mj_chk 158 q = true := by decide +kernel
theorem mj_d158 : ∀ q ∈ mj_code 158, decode (mj_b 158) q.1 = .ok (q.2.1, q.2.2.1) := List.forall_mem_append.mpr ⟨mj_d158_0, List.forall_mem_append.mpr ⟨mj_d158_1, mj_d158_2⟩⟩
theorem mj_k158 : ∀ q ∈ mj_code 158, mj_chk 158 q = true := List.forall_mem_append.mpr ⟨mj_k158_0, List.forall_mem_append.mpr ⟨mj_k158_1, mj_k158_2⟩⟩
theorem mj_d159_0 : ∀ q ∈ mj_c159_0, decode prog_9_method_60_code q.1 = .ok (q.2.1, q.2.2.1) := by decide +kernel
theorem mj_k159_0 : ∀ q ∈ mj_c159_0, mj_chk 159 q = true := by decide +kernel
theorem mj_d159 : ∀ q ∈ mj_code 159, decode (mj_b 159) q.1 = .ok (q.2.1, q.2.2.1) := mj_d159_0
theorem mj_k159 : ∀ q ∈ mj_code 159, mj_chk 159 q = true := mj_k159_0
theorem mj_d160_0 : ∀ q ∈ mj_c160_0, decode prog_9_method_61_code q.1 = .ok (q.2.1, q.2.2.1) := by decide +kernel
theorem mj_k160_0 : ∀ q ∈ mj_c160_0, mj_chk 160 q = true := by decide +kernel
theorem mj_d160 : ∀ q ∈ mj_code 160, decode (mj_b 160) q.1 = .ok (q.2.1, q.2.2.1) := mj_d160_0
theorem mj_k160 : ∀ q ∈ mj_code 160, mj_chk 160 q = true := mj_k160_0
theorem mj_d161_0 : ∀ q ∈ mj_c161_0, decode prog_9_method_62_code q.1 = .ok (q.2.1, q.2.2.1) := by decide +kernel
theorem mj_k161_0 : ∀ q ∈ mj_c161_0, mj_chk 161 q = true := by decide +kernel
theorem mj_d161_1 : ∀ q ∈ mj_c161_1, decode prog_9_method_62_code q.1 = .ok (q.2.1, q.2.2.1) := by decide +kernel
theorem mj_k161_1 : ∀ q ∈ mj_c161_1, mj_chk 161 q = true := by decide +kernel
theorem mj_d161_2 : ∀ q ∈ mj_c161_2, decode prog_9_method_62_code q.1 = .ok (q.2.1, q.2.2.1) := by decide +kernel
theorem mj_k161_2 : ∀ q ∈ mj_c161_2, mj_chk 161 q = true := by decide +kernel
theorem mj_d161 : ∀ q ∈ mj_code 161, decode (mj_b 161) q.1 = .ok (q.2.1, q.2.2.1) := List.forall_mem_append.mpr ⟨mj_d161_0, List.forall_mem_append.mpr ⟨mj_d161_1, mj_d161_2⟩⟩
theorem mj_k161 : ∀ q ∈ mj_code 161, mj_chk 161 q = true := List.forall_mem_append.mpr ⟨mj_k161_0, List.forall_mem_append.mpr ⟨mj_k161_1, mj_k161_2⟩⟩
theorem mj_d162_0 : ∀ q ∈ mj_c162_0, decode prog_9_method_63_code q.1 = .ok (q.2.1, q.2.2.1) := by decide +kernel
theorem mj_k162_0 : ∀ q ∈ mj_c162_0, mj_chk 162 q = true := by decide +kernel
theorem mj_d162 : ∀ q ∈ mj_code 162, decode (mj_b 162) q.1 = .ok (q.2.1, q.2.2.1) := mj_d162_0
theorem mj_k162 : ∀ q ∈ mj_code 162, mj_chk 162 q = true := mj_k162_0
theorem mj_d163_0 : ∀ q ∈ mj_c163_0, decode prog_9_method_64_code q.1 = .ok (q.2.1, q.2.2.1) := by decide +kernel
theorem mj_k163_0 : ∀ q ∈ mj_c163_0, mj_chk 163 q = true := by decide +kernel
theorem mj_d163_1 : ∀ q ∈ mj_c163_1, decode prog_9_method_64_code q.1 = .ok (q.2.1, q.2.2.1) := by decide +kernel
theorem mj_k163_1 : ∀ q ∈ mj_c163_1, mj_chk 163 q = true := by decide +kernel
theorem mj_d163 : ∀ q ∈ mj_code 163, decode (mj_b 163) q.1 = .ok (q.2.1, q.2.2.1) := List.forall_mem_append.mpr ⟨mj_d163_0, mj_d163_1⟩
theorem mj_k163 : ∀ q ∈ mj_code 163, mj_chk 163 q = true := List.forall_mem_append.mpr ⟨mj_k163_0, mj_k163_1⟩
theorem mj_d164_0 : ∀ q ∈ mj_c164_0, decode prog_9_method_65_code q.1 = .ok (q.2.1, q.2.2.1) := by decide +kernel
theorem mj_k164_0 : ∀ q ∈ mj_c164_0, mj_chk 164 q = true := by decide +kernel
theorem mj_d164_1 : ∀ q ∈ mj_c164_1, decode prog_9_method_65_code q.1 = .ok (q.2.1, q.2.2.1) := by decide +kernel
theorem mj_k164_1 : ∀ q ∈ mj_c164_1, mj_chk 164 q = true := by decide +kernel
theorem mj_d164 : ∀ q ∈ mj_code 164, decode (mj_b 164) q.1 = .ok (q.2.1, q.2.2.1) := List.forall_mem_append.mpr ⟨mj_d164_0, mj_d164_1⟩
theorem mj_k164 : ∀ q ∈ mj_code 164, mj_chk 164 q = true := List.forall_mem_append.mpr ⟨mj_k164_0, mj_k164_1⟩
theorem mj_d165_0 : ∀ q ∈ mj_c165_0, decode prog_9_method_66_code q.1 = .ok (q.2.1, q.2.2.1) := by decide +kernel
theorem mj_k165_0 : ∀ q ∈ mj_c165_0, mj_chk 165 q = true := by decide +kernel
theorem mj_d165_1 : ∀ q ∈ mj_c165_1, decode prog_9_method_66_code q.1 = .ok (q.2.1, q.2.2.1) := by decide +kernel
theorem mj_k165_1 : ∀ q ∈ mj_c165_1, mj_chk 165 q = true := by decide +kernel
theorem mj_d165 : ∀ q ∈ mj_code 165, decode (mj_b 165) q.1 = .ok (q.2.1, q.2.2.1) := List.forall_mem_append.mpr ⟨mj_d165_0, mj_d165_1⟩
theorem mj_k165 : ∀ q ∈ mj_code 165, mj_chk 165 q = true := List.forall_mem_append.mpr ⟨mj_k165_0, mj_k165_1⟩
theorem mj_d166_0 : ∀ q ∈ mj_c166_0, decode prog_10_method_49_code q.1 = .ok (q.2.1, q.2.2.1) := by decide +kernel
theorem mj_k166_0 : ∀ q ∈ mj_c166_0, mj_chk 166 q = true := by decide +kernel
theorem mj_d166_1 : ∀ q ∈ mj_c166_1, decode prog_10_method_49_code q.1 = .ok (q.2.1, q.2.2.1) := by decide +kernel
theorem mj_k166_1 : ∀ q ∈ mj_c166_1, mj_chk 166 q = true := by decide +kernel
theorem mj_d166 : ∀ q ∈ mj_code 166, decode (mj_b 166) q.1 = .ok (q.2.1, q.2.2.1) := List.forall_mem_append.mpr ⟨mj_d166_0, mj_d166_1⟩
theorem mj_k166 : ∀ q ∈ mj_code 166, mj_chk 166 q = true := List.forall_mem_append.mpr ⟨mj_k166_0, mj_k166_1⟩
theorem mj_d167_0 : ∀ q ∈ mj_c167_0, decode code q.1 = .ok (q.2.1, q.2.2.1) := by decide +kernel
theorem mj_k167_0 : ∀ q ∈ mj_c167_0, mj_chk 167 q = true := by decide +kernel
theorem mj_d167_1 : ∀ q ∈ mj_c167_1, decode code q.1 = .ok (q.2.1, q.2.2.1) := by decide +kernel
theorem mj_k167_1 : ∀ q ∈ mj_c167_1, mj_chk 167 q = true := by decide +kernel
theorem mj_d167_2 : ∀ q ∈ mj_c167_2, decode code q.1 = .ok (q.2.1, q.2.2.1) := by decide +kernel
theorem mj_k167_2 : ∀ q ∈ mj_c167_2, mj_chk 167 q = true := by decide +kernel
theorem mj_d167_3 : ∀ q ∈ mj_c167_3, decode code q.1 = .ok (q.2.1, q.2.2.1) := by decide +kernel
theorem mj_k167_3 : ∀ q ∈ mj_c167_3, mj_chk 167 q = true := by decide +kernel
theorem mj_d167_4 : ∀ q ∈ mj_c167_4, decode code q.1 = .ok (q.2.1, q.2.2.1) := by decide +kernel
theorem mj_k167_4 : ∀ q ∈ mj_c167_4, mj_chk 167 q = true := by decide +kernel
theorem mj_d167_5 : ∀ q ∈ mj_c167_5, decode code q.1 = .ok (q.2.1, q.2.2.1) := by decide +kernel
theorem mj_k167_5 : ∀ q ∈ mj_c167_5, mj_chk 167 q = true := by decide +kernel
theorem mj_d167_6 : ∀ q ∈ mj_c167_6, decode code q.1 = .ok (q.2.1, q.2.2.1) := by decide +kernel
theorem mj_k167_6 : ∀ q ∈ mj_c167_6, mj_chk 167 q = true := by decide +kernel
theorem mj_d167_7 : ∀ q ∈ mj_c167_7, decode code q.1 = .ok (q.2.1, q.2.2.1) := by decide +kernel
theorem mj_k167_7 : ∀ q ∈ mj_c167_7, mj_chk 167 q = true := by decide +kernel
theorem mj_d167_8 : ∀ q ∈ mj_c167_8, decode code q.1 = .ok (q.2.1, q.2.2.1) := by decide +kernel
theorem mj_k167_8 : ∀ q ∈ mj_c167_8, mj_chk 167 q = true := by decide +kernel
theorem mj_d167_9 : ∀ q ∈ mj_c167_9, decode code q.1 = .ok (q.2.1, q.2.2.1) := by decide +kernel
theorem mj_k167_9 : ∀ q ∈ mj_c167_9, mj_chk 167 q = true := by decide +kernel
theorem mj_d167_10 : ∀ q ∈ mj_c167_10, decode code q.1 = .ok (q.2.1, q.2.2.1) := by decide +kernel
theorem mj_k167_10 : ∀ q ∈ mj_c167_10, mj_chk 167 q = true := by decide +kernel
theorem mj_d167_11 : ∀ q ∈ mj_c167_11, decode code q.1 = .ok (q.2.1, q.2.2.1) := by decide +kernel
theorem mj_k167_11 : ∀ q ∈ mj_c167_11, mj_chk 167 q = true := by decide +kernel
theorem mj_d167_12 : ∀ q ∈ mj_c167_12, decode code q.1 = .ok (q.2.1, q.2.2.1) := by decide +kernel
theorem mj_k167_12 : ∀ q ∈ mj_c167_12, mj_chk 167 q = true := by decide +kernel
theorem mj_d167_13 : ∀ q ∈ mj_c167_13, decode code q.1 = .ok (q.2.1, q.2.2.1) := by decide +kernel
theorem mj_k167_13 : ∀ q ∈ mj_c167_13, mj_chk 167 q = true := by decide +kernel
theorem mj_d167_14 : ∀ q ∈ mj_c167_14, decode code q.1 = .ok (q.2.1, q.2.2.1) := by decide +kernel
theorem mj_k167_14 : ∀ q ∈ mj_c167_14, mj_chk 167 q = true := by decide +kernel
theorem mj_d167_15 : ∀ q ∈ mj_c167_15, decode code q.1 = .ok (q.2.1, q.2.2.1) := by decide +kernel
theorem mj_k167_15 : ∀ q ∈ mj_c167_15, mj_chk 167 q = true := by decide +kernel
theorem mj_d167 : ∀ q ∈ mj_code 167, decode (mj_b 167) q.1 = .ok (q.2.1, q.2.2.1) := List.forall_mem_append.mpr ⟨mj_d167_0, List.forall_mem_append.mpr ⟨mj_d167_1, List.forall_mem_append.mpr ⟨mj_d167_2, List.forall_mem_append.mpr ⟨mj_d167_3, List.forall_mem_append.mpr ⟨mj_d167_4, List.forall_mem_append.mpr ⟨mj_d167_5, List.forall_mem_append.mpr ⟨mj_d167_6, List.forall_mem_append.mpr ⟨mj_d167_7, List.forall_mem_append.mpr ⟨mj_d167_8, List.forall_mem_append.mpr ⟨mj_d167_9, List.forall_mem_append.mpr ⟨mj_d167_10, List.forall_mem_append.mpr ⟨mj_d167_11, List.forall_mem_append.mpr ⟨mj_d167_12, List.forall_mem_append.mpr ⟨mj_d167_13, List.forall_mem_append.mpr ⟨mj_d167_14, mj_d167_15⟩⟩⟩⟩⟩⟩⟩⟩⟩⟩⟩⟩⟩⟩⟩
theorem mj_k167 : ∀ q ∈ mj_code 167, mj_chk 167 q = true := List.forall_mem_append.mpr ⟨mj_k167_0, List.forall_mem_append.mpr ⟨mj_k167_1, List.forall_mem_append.mpr ⟨mj_k167_2, List.forall_mem_append.mpr ⟨mj_k167_3, List.forall_mem_append.mpr ⟨mj_k167_4, List.forall_mem_append.mpr ⟨mj_k167_5, List.forall_mem_append.mpr ⟨mj_k167_6, List.forall_mem_append.mpr ⟨mj_k167_7, List.forall_mem_append.mpr ⟨mj_k167_8, List.forall_mem_append.mpr ⟨mj_k167_9, List.forall_mem_append.mpr ⟨mj_k167_10, List.forall_mem_append.mpr ⟨mj_k167_11, List.forall_mem_append.mpr ⟨mj_k167_12, List.forall_mem_append.mpr ⟨mj_k167_13, List.forall_mem_append.mpr ⟨mj_k167_14, mj_k167_15⟩⟩⟩⟩⟩⟩⟩⟩⟩⟩⟩⟩⟩⟩⟩
theorem mj_dg0 : ∀ k, k < 10 → ∀ q ∈ mj_code (0 + k), decode (mj_b (0 + k)) q.1 = .ok (q.2.1, q.2.2.1) := fun k hk => match k, hk with
  | 0, _ => mj_d0
  | 1, _ => mj_d1
  | 2, _ => mj_d2
  | 3, _ => mj_d3
  | 4, _ => mj_d4
  | 5, _ => mj_d5
  | 6, _ => mj_d6
  | 7, _ => mj_d7
  | 8, _ => mj_d8
  | 9, _ => mj_d9
  | k + 10, hk => absurd hk (by omega)
theorem mj_kg0 : ∀ k, k < 10 → ∀ q ∈ mj_code (0 + k), mj_chk (0 + k) q = true := fun k hk => match k, hk with
  | 0, _ => mj_k0
  | 1, _ => mj_k1
  | 2, _ => mj_k2
  | 3, _ => mj_k3
  | 4, _ => mj_k4
  | 5, _ => mj_k5
  | 6, _ => mj_k6
  | 7, _ => mj_k7
  | 8, _ => mj_k8
  | 9, _ => mj_k9
  | k + 10, hk => absurd hk (by omega)
theorem mj_dg10 : ∀ k, k < 10 → ∀ q ∈ mj_code (10 + k), decode (mj_b (10 + k)) q.1 = .ok (q.2.1, q.2.2.1) := fun k hk => match k, hk with
  | 0, _ => mj_d10
  | 1, _ => mj_d11
  | 2, _ => mj_d12
  | 3, _ => mj_d13
  | 4, _ => mj_d14
  | 5, _ => mj_d15
  | 6, _ => mj_d16
  | 7, _ => mj_d17
  | 8, _ => mj_d18
  | 9, _ => mj_d19
  | k + 10, hk => absurd hk (by omega)
theorem mj_kg10 : ∀ k, k < 10 → ∀ q ∈ mj_code (10 + k), mj_chk (10 + k) q = true := fun k hk => match k, hk with
  | 0, _ => mj_k10
  | 1, _ => mj_k11
  | 2, _ => mj_k12
  | 3, _ => mj_k13
  | 4, _ => mj_k14
  | 5, _ => mj_k15
  | 6, _ => mj_k16
  | 7, _ => mj_k17
  | 8, _ => mj_k18
  | 9, _ => mj_k19
  | k + 10, hk => absurd hk (by omega)
theorem mj_dg20 : ∀ k, k < 10 → ∀ q ∈ mj_code (20 + k), decode (mj_b (20 + k)) q.1 = .ok (q.2.1, q.2.2.1) := fun k hk => match k, hk with
  | 0, _ => mj_d20
  | 1, _ => mj_d21
  | 2, _ => mj_d22
  | 3, _ => mj_d23
  | 4, _ => mj_d24
  | 5, _ => mj_d25
  | 6, _ => mj_d26
  | 7, _ => mj_d27
  | 8, _ => mj_d28
  | 9, _ => mj_d29
  | k + 10, hk => absurd hk (by omega)
theorem mj_kg20 : ∀ k, k < 10 → ∀ q ∈ mj_code (20 + k), mj_chk (20 + k) q = true := fun k hk => match k, hk with
  | 0, _ => mj_k20
  | 1, _ => mj_k21
  | 2, _ => mj_k22
  | 3, _ => mj_k23
  | 4, _ => mj_k24
  | 5, _ => mj_k25
  | 6, _ => mj_k26
  | 7, _ => mj_k27
  | 8, _ => mj_k28
  | 9, _ => mj_k29
  | k + 10, hk => absurd hk (by omega)
theorem mj_dg30 : ∀ k, k < 10 → ∀ q ∈ mj_code (30 + k), decode (mj_b (30 + k)) q.1 = .ok (q.2.1, q.2.2.1) := fun k hk => match k, hk with
  | 0, _ => mj_d30
  | 1, _ => mj_d31
  | 2, _ => mj_d32
  | 3, _ => mj_d33
  | 4, _ => mj_d34
  | 5, _ => mj_d35
  | 6, _ => mj_d36
  | 7, _ => mj_d37
  | 8, _ => mj_d38
  | 9, _ => mj_d39
  | k + 10, hk => absurd hk (by omega)
theorem mj_kg30 : ∀ k, k < 10 → ∀ q ∈ mj_code (30 + k), mj_chk (30 + k) q = true := fun k hk => match k, hk with
  | 0, _ => mj_k30
  | 1, _ => mj_k31
  | 2, _ => mj_k32
  | 3, _ => mj_k33
  | 4, _ => mj_k34
  | 5, _ => mj_k35
  | 6, _ => mj_k36
  | 7, _ => mj_k37
  | 8, _ => mj_k38
  | 9, _ => mj_k39
  | k + 10, hk => absurd hk (by omega)
theorem mj_dg40 : ∀ k, k < 10 → ∀ q ∈ mj_code (40 + k), decode (mj_b (40 + k)) q.1 = .ok (q.2.1, q.2.2.1) := fun k hk => match k, hk with
  | 0, _ => mj_d40
  | 1, _ => mj_d41
  | 2, _ => mj_d42
  | 3, _ => mj_d43
  | 4, _ => mj_d44
  | 5, _ => mj_d45
  | 6, _ => mj_d46
  | 7, _ => mj_d47
  | 8, _ => mj_d48
  | 9, _ => mj_d49
  | k + 10, hk => absurd hk (by omega)
theorem mj_kg40 : ∀ k, k < 10 → ∀ q ∈ mj_code (40 + k), mj_chk (40 + k) q = true := fun k hk => match k, hk with
  | 0, _ => mj_k40
  | 1, _ => mj_k41
  | 2, _ => mj_k42
  | 3, _ => mj_k43
  | 4, _ => mj_k44
  | 5, _ => mj_k45
  | 6, _ => mj_k46
  | 7, _ => mj_k47
  | 8, _ => mj_k48
  | 9, _ => mj_k49
  | k + 10, hk => absurd hk (by omega)
theorem mj_dg50 : ∀ k, k < 10 → ∀ q ∈ mj_code (50 + k), decode (mj_b (50 + k)) q.1 = .ok (q.2.1, q.2.2.1) := fun k hk => match k, hk with
  | 0, _ => mj_d50
  | 1, _ => mj_d51
  | 2, _ => mj_d52
  | 3, _ => mj_d53
  | 4, _ => mj_d54
  | 5, _ => mj_d55
  | 6, _ => mj_d56
  | 7, _ => mj_d57
  | 8, _ => mj_d58
  | 9, _ => mj_d59
  | k + 10, hk => absurd hk (by omega)
theorem mj_kg50 : ∀ k, k < 10 → ∀ q ∈ mj_code (50 + k), mj_chk (50 + k) q = true := fun k hk => match k, hk with
  | 0, _ => mj_k50
  | 1, _ => mj_k51
  | 2, _ => mj_k52
  | 3, _ => mj_k53
  | 4, _ => mj_k54
  | 5, _ => mj_k55
  | 6, _ => mj_k56
  | 7, _ => mj_k57
  | 8, _ => mj_k58
  | 9, _ => mj_k59
  | k + 10, hk => absurd hk (by omega)
theorem mj_dg60 : ∀ k, k < 10 → ∀ q ∈ mj_code (60 + k), decode (mj_b (60 + k)) q.1 = .ok (q.2.1, q.2.2.1) := fun k hk => match k, hk with
  | 0, _ => mj_d60
  | 1, _ => mj_d61
  | 2, _ => mj_d62
  | 3, _ => mj_d63
  | 4, _ => mj_d64
  | 5, _ => mj_d65
  | 6, _ => mj_d66
  | 7, _ => mj_d67
  | 8, _ => mj_d68
  | 9, _ => mj_d69
  | k + 10, hk => absurd hk (by omega)
theorem mj_kg60 : ∀ k, k < 10 → ∀ q ∈ mj_code (60 + k), mj_chk (60 + k) q = true := fun k hk => match k, hk with
  | 0, _ => mj_k60
  | 1, _ => mj_k61
  | 2, _ => mj_k62
  | 3, _ => mj_k63
  | 4, _ => mj_k64
  | 5, _ => mj_k65
  | 6, _ => mj_k66
  | 7, _ => mj_k67
  | 8, _ => mj_k68
  | 9, _ => mj_k69
  | k + 10, hk => absurd hk (by omega)
theorem mj_dg70 : ∀ k, k < 10 → ∀ q ∈ mj_code (70 + k), decode (mj_b (70 + k)) q.1 = .ok (q.2.1, q.2.2.1) := fun k hk => match k, hk with
  | 0, _ => mj_d70
  | 1, _ => mj_d71
  | 2, _ => mj_d72
  | 3, _ => mj_d73
  | 4, _ => mj_d74
  | 5, _ => mj_d75
  | 6, _ => mj_d76
  | 7, _ => mj_d77
  | 8, _ => mj_d78
  | 9, _ => mj_d79
  | k + 10, hk => absurd hk (by omega)
theorem mj_kg70 : ∀ k, k < 10 → ∀ q ∈ mj_code (70 + k), mj_chk (70 + k) q = true := fun k hk => match k, hk with
  | 0, _ => mj_k70
  | 1, _ => mj_k71
  | 2, _ => mj_k72
  | 3, _ => mj_k73
  | 4, _ => mj_k74
  | 5, _ => mj_k75
  | 6, _ => mj_k76
  | 7, _ => mj_k77
  | 8, _ => mj_k78
  | 9, _ => mj_k79
  | k + 10, hk => absurd hk (by omega)
theorem mj_dg80 : ∀ k, k < 10 → ∀ q ∈ mj_code (80 + k), decode (mj_b (80 + k)) q.1 = .ok (q.2.1, q.2.2.1) := fun k hk => match k, hk with
  | 0, _ => mj_d80
  | 1, _ => mj_d81
  | 2, _ => mj_d82
  | 3, _ => mj_d83
  | 4, _ => mj_d84
  | 5, _ => mj_d85
  | 6, _ => mj_d86
  | 7, _ => mj_d87
  | 8, _ => mj_d88
  | 9, _ => mj_d89
  | k + 10, hk => absurd hk (by omega)
theorem mj_kg80 : ∀ k, k < 10 → ∀ q ∈ mj_code (80 + k), mj_chk (80 + k) q = true := fun k hk => match k, hk with
  | 0, _ => mj_k80
  | 1, _ => mj_k81
  | 2, _ => mj_k82
  | 3, _ => mj_k83
  | 4, _ => mj_k84
  | 5, _ => mj_k85
  | 6, _ => mj_k86
  | 7, _ => mj_k87
  | 8, _ => mj_k88
  | 9, _ => mj_k89
  | k + 10, hk => absurd hk (by omega)
theorem mj_dg90 : ∀ k, k < 10 → ∀ q ∈ mj_code (90 + k), decode (mj_b (90 + k)) q.1 = .ok (q.2.1, q.2.2.1) := fun k hk => match k, hk with
  | 0, _ => mj_d90
  | 1, _ => mj_d91
  | 2, _ => mj_d92
  | 3, _ => mj_d93
  | 4, _ => mj_d94
  | 5, _ => mj_d95
  | 6, _ => mj_d96
  | 7, _ => mj_d97
  | 8, _ => mj_d98
  | 9, _ => mj_d99
  | k + 10, hk => absurd hk (by omega)
theorem mj_kg90 : ∀ k, k < 10 → ∀ q ∈ mj_code (90 + k), mj_chk (90 + k) q = true := fun k hk => match k, hk with
  | 0, _ => mj_k90
  | 1, _ => mj_k91
  | 2, _ => mj_k92
  | 3, _ => mj_k93
  | 4, _ => mj_k94
  | 5, _ => mj_k95
  | 6, _ => mj_k96
  | 7, _ => mj_k97
  | 8, _ => mj_k98
  | 9, _ => mj_k99
  | k + 10, hk => absurd hk (by omega)
theorem mj_dg100 : ∀ k, k < 10 → ∀ q ∈ mj_code (100 + k), decode (mj_b (100 + k)) q.1 = .ok (q.2.1, q.2.2.1) := fun k hk => match k, hk with
  | 0, _ => mj_d100
  | 1, _ => mj_d101
  | 2, _ => mj_d102
  | 3, _ => mj_d103
  | 4, _ => mj_d104
  | 5, _ => mj_d105
  | 6, _ => mj_d106
  | 7, _ => mj_d107
  | 8, _ => mj_d108
  | 9, _ => mj_d109
  | k + 10, hk => absurd hk (by omega)
theorem mj_kg100 : ∀ k, k < 10 → ∀ q ∈ mj_code (100 + k), mj_chk (100 + k) q = true := fun k hk => match k, hk with
  | 0, _ => mj_k100
  | 1, _ => mj_k101
  | 2, _ => mj_k102
  | 3, _ => mj_k103
  | 4, _ => mj_k104
  | 5, _ => mj_k105
  | 6, _ => mj_k106
  | 7, _ => mj_k107
  | 8, _ => mj_k108
  | 9, _ => mj_k109
  | k + 10, hk => absurd hk (by omega)
theorem mj_dg110 : ∀ k, k < 10 → ∀ q ∈ mj_code (110 + k), decode (mj_b (110 + k)) q.1 = .ok (q.2.1, q.2.2.1) := fun k hk => match k, hk with
  | 0, _ => mj_d110
  | 1, _ => mj_d111
  | 2, _ => mj_d112
  | 3, _ => mj_d113
  | 4, _ => mj_d114
  | 5, _ => mj_d115
  | 6, _ => mj_d116
  | 7, _ => mj_d117
  | 8, _ => mj_d118
  | 9, _ => mj_d119
  | k + 10, hk => absurd hk (by omega)
theorem mj_kg110 : ∀ k, k < 10 → ∀ q ∈ mj_code (110 + k), mj_chk (110 + k) q = true := fun k hk => match k, hk with
  | 0, _ => mj_k110
  | 1, _ => mj_k111
  | 2, _ => mj_k112
  | 3, _ => mj_k113
  | 4, _ => mj_k114
  | 5, _ => mj_k115
  | 6, _ => mj_k116
  | 7, _ => mj_k117
  | 8, _ => mj_k118
  | 9, _ => mj_k119
  | k + 10, hk => absurd hk (by omega)
theorem mj_dg120 : ∀ k, k < 10 → ∀ q ∈ mj_code (120 + k), decode (mj_b (120 + k)) q.1 = .ok (q.2.1, q.2.2.1) := fun k hk => match k, hk with
  | 0, _ => mj_d120
  | 1, _ => mj_d121
  | 2, _ => mj_d122
  | 3, _ => mj_d123
  | 4, _ => mj_d124
  | 5, _ => mj_d125
  | 6, _ => mj_d126
  | 7, _ => mj_d127
  | 8, _ => mj_d128
  | 9, _ => mj_d129
  | k + 10, hk => absurd hk (by omega)
theorem mj_kg120 : ∀ k, k < 10 → ∀ q ∈ mj_code (120 + k), mj_chk (120 + k) q = true := fun k hk => match k, hk with
  | 0, _ => mj_k120
  | 1, _ => mj_k121
  | 2, _ => mj_k122
  | 3, _ => mj_k123
  | 4, _ => mj_k124
  | 5, _ => mj_k125
  | 6, _ => mj_k126
  | 7, _ => mj_k127
  | 8, _ => mj_k128
  | 9, _ => mj_k129
  | k + 10, hk => absurd hk (by omega)
theorem mj_dg130 : ∀ k, k < 10 → ∀ q ∈ mj_code (130 + k), decode (mj_b (130 + k)) q.1 = .ok (q.2.1, q.2.2.1) := fun k hk => match k, hk with
  | 0, _ => mj_d130
  | 1, _ => mj_d131
  | 2, _ => mj_d132
  | 3, _ => mj_d133
  | 4, _ => mj_d134
  | 5, _ => mj_d135
  | 6, _ => mj_d136
  | 7, _ => mj_d137
  | 8, _ => mj_d138
  | 9, _ => mj_d139
  | k + 10, hk => absurd hk (by omega)
theorem mj_kg130 : ∀ k, k < 10 → ∀ q ∈ mj_code (130 + k), mj_chk (130 + k) q = true := fun k hk => match k, hk with
  | 0, _ => mj_k130
  | 1, _ => mj_k131
  | 2, _ => mj_k132
  | 3, _ => mj_k133
  | 4, _ => mj_k134
  | 5, _ => mj_k135
  | 6, _ => mj_k136
  | 7, _ => mj_k137
  | 8, _ => mj_k138
  | 9, _ => mj_k139
  | k + 10, hk => absurd hk (by omega)
theorem mj_dg140 : ∀ k, k < 10 → ∀ q ∈ mj_code (140 + k), decode (mj_b (140 + k)) q.1 = .ok (q.2.1, q.2.2.1) := fun k hk => match k, hk with
  | 0, _ => mj_d140
  | 1, _ => mj_d141
  | 2, _ => mj_d142
  | 3, _ => mj_d143
  | 4, _ => mj_d144
  | 5, _ => mj_d145
  | 6, _ => mj_d146
  | 7, _ => mj_d147
  | 8, _ => mj_d148
  | 9, _ => mj_d149
  | k + 10, hk => absurd hk (by omega)
theorem mj_kg140 : ∀ k, k < 10 → ∀ q ∈ mj_code (140 + k), mj_chk (140 + k) q = true := fun k hk => match k, hk with
  | 0, _ => mj_k140
  | 1, _ => mj_k141
  | 2, _ => mj_k142
  | 3, _ => mj_k143
  | 4, _ => mj_k144
  | 5, _ => mj_k145
  | 6, _ => mj_k146
  | 7, _ => mj_k147
  | 8, _ => mj_k148
  | 9, _ => mj_k149
  | k + 10, hk => absurd hk (by omega)
theorem mj_dg150 : ∀ k, k < 10 → ∀ q ∈ mj_code (150 + k), decode (mj_b (150 + k)) q.1 = .ok (q.2.1, q.2.2.1) := fun k hk => match k, hk with
  | 0, _ => mj_d150
  | 1, _ => mj_d151
  | 2, _ => mj_d152
  | 3, _ => mj_d153
  | 4, _ => mj_d154
  | 5, _ => mj_d155
  | 6, _ => mj_d156
  | 7, _ => mj_d157
  | 8, _ => mj_d158
  | 9, _ => mj_d159
  | k + 10, hk => absurd hk (by omega)
theorem mj_kg150 : ∀ k, k < 10 → ∀ q ∈ mj_code (150 + k), mj_chk (150 + k) q = true := fun k hk => match k, hk with
  | 0, _ => mj_k150
  | 1, _ => mj_k151
  | 2, _ => mj_k152
  | 3, _ => mj_k153
  | 4, _ => mj_k154
  | 5, _ => mj_k155
  | 6, _ => mj_k156
  | 7, _ => mj_k157
  | 8, _ => mj_k158
  | 9, _ => mj_k159
  | k + 10, hk => absurd hk (by omega)
theorem mj_dg160 : ∀ k, k < 8 → ∀ q ∈ mj_code (160 + k), decode (mj_b (160 + k)) q.1 = .ok (q.2.1, q.2.2.1) := fun k hk => match k, hk with
  | 0, _ => mj_d160
  | 1, _ => mj_d161
  | 2, _ => mj_d162
  | 3, _ => mj_d163
  | 4, _ => mj_d164
  | 5, _ => mj_d165
  | 6, _ => mj_d166
  | 7, _ => mj_d167
  | k + 8, hk => absurd hk (by omega)
theorem mj_kg160 : ∀ k, k < 8 → ∀ q ∈ mj_code (160 + k), mj_chk (160 + k) q = true := fun k hk => match k, hk with
  | 0, _ => mj_k160
  | 1, _ => mj_k161
  | 2, _ => mj_k162
  | 3, _ => mj_k163
  | 4, _ => mj_k164
  | 5, _ => mj_k165
  | 6, _ => mj_k166
  | 7, _ => mj_k167
  | k + 8, hk => absurd hk (by omega)
theorem mj_dA (i : Nat) (hi : i < 168) : ∀ q ∈ mj_code i, decode (mj_b i) q.1 = .ok (q.2.1, q.2.2.1) := by
  rcases (show (0 ≤ i ∧ i < 10) ∨ (10 ≤ i ∧ i < 20) ∨ (20 ≤ i ∧ i < 30) ∨ (30 ≤ i ∧ i < 40) ∨ (40 ≤ i ∧ i < 50) ∨ (50 ≤ i ∧ i < 60) ∨ (60 ≤ i ∧ i < 70) ∨ (70 ≤ i ∧ i < 80) ∨ (80 ≤ i ∧ i < 90) ∨ (90 ≤ i ∧ i < 100) ∨ (100 ≤ i ∧ i < 110) ∨ (110 ≤ i ∧ i < 120) ∨ (120 ≤ i ∧ i < 130) ∨ (130 ≤ i ∧ i < 140) ∨ (140 ≤ i ∧ i < 150) ∨ (150 ≤ i ∧ i < 160) ∨ (160 ≤ i ∧ i < 168) by omega) with h | h | h | h | h | h | h | h | h | h | h | h | h | h | h | h | h
  · exact (show i = 0 + (i - 0) by omega) ▸ mj_dg0 (i - 0) (by omega)
  · exact (show i = 10 + (i - 10) by omega) ▸ mj_dg10 (i - 10) (by omega)
  · exact (show i = 20 + (i - 20) by omega) ▸ mj_dg20 (i - 20) (by omega)
  · exact (show i = 30 + (i - 30) by omega) ▸ mj_dg30 (i - 30) (by omega)
  · exact (show i = 40 + (i - 40) by omega) ▸ mj_dg40 (i - 40) (by omega)
  · exact (show i = 50 + (i - 50) by omega) ▸ mj_dg50 (i - 50) (by omega)
  · exact (show i = 60 + (i - 60) by omega) ▸ mj_dg60 (i - 60) (by omega)
  · exact (show i = 70 + (i - 70) by omega) ▸ mj_dg70 (i - 70) (by omega)
  · exact (show i = 80 + (i - 80) by omega) ▸ mj_dg80 (i - 80) (by omega)
  · exact (show i = 90 + (i - 90) by omega) ▸ mj_dg90 (i - 90) (by omega)
  · exact (show i = 100 + (i - 100) by omega) ▸ mj_dg100 (i - 100) (by omega)
  · exact (show i = 110 + (i - 110) by omega) ▸ mj_dg110 (i - 110) (by omega)
  · exact (show i = 120 + (i - 120) by omega) ▸ mj_dg120 (i - 120) (by omega)
  · exact (show i = 130 + (i - 130) by omega) ▸ mj_dg130 (i - 130) (by omega)
  · exact (show i = 140 + (i - 140) by omega) ▸ mj_dg140 (i - 140) (by omega)
  · exact (show i = 150 + (i - 150) by omega) ▸ mj_dg150 (i - 150) (by omega)
  · exact (show i = 160 + (i - 160) by omega) ▸ mj_dg160 (i - 160) (by omega)
theorem mj_kA (i : Nat) (hi : i < 168) : ∀ q ∈ mj_code i, mj_chk i q = true := by
  rcases (show (0 ≤ i ∧ i < 10) ∨ (10 ≤ i ∧ i < 20) ∨ (20 ≤ i ∧ i < 30) ∨ (30 ≤ i ∧ i < 40) ∨ (40 ≤ i ∧ i < 50) ∨ (50 ≤ i ∧ i < 60) ∨ (60 ≤ i ∧ i < 70) ∨ (70 ≤ i ∧ i < 80) ∨ (80 ≤ i ∧ i < 90) ∨ (90 ≤ i ∧ i < 100) ∨ (100 ≤ i ∧ i < 110) ∨ (110 ≤ i ∧ i < 120) ∨ (120 ≤ i ∧ i < 130) ∨ (130 ≤ i ∧ i < 140) ∨ (140 ≤ i ∧ i < 150) ∨ (150 ≤ i ∧ i < 160) ∨ (160 ≤ i ∧ i < 168) by omega) with h | h | h | h | h | h | h | h | h | h | h | h | h | h | h | h | h
  · exact (show i = 0 + (i - 0) by omega) ▸ mj_kg0 (i - 0) (by omega)
  · exact (show i = 10 + (i - 10) by omega) ▸ mj_kg10 (i - 10) (by omega)
  · exact (show i = 20 + (i - 20) by omega) ▸ mj_kg20 (i - 20) (by omega)
  · exact (show i = 30 + (i - 30) by omega) ▸ mj_kg30 (i - 30) (by omega)
  · exact (show i = 40 + (i - 40) by omega) ▸ mj_kg40 (i - 40) (by omega)
  · exact (show i = 50 + (i - 50) by omega) ▸ mj_kg50 (i - 50) (by omega)
  · exact (show i = 60 + (i - 60) by omega) ▸ mj_kg60 (i - 60) (by omega)
  · exact (show i = 70 + (i - 70) by omega) ▸ mj_kg70 (i - 70) (by omega)
  · exact (show i = 80 + (i - 80) by omega) ▸ mj_kg80 (i - 80) (by omega)
  · exact (show i = 90 + (i - 90) by omega) ▸ mj_kg90 (i - 90) (by omega)
  · exact (show i = 100 + (i - 100) by omega) ▸ mj_kg100 (i - 100) (by omega)
  · exact (show i = 110 + (i - 110) by omega) ▸ mj_kg110 (i - 110) (by omega)
  · exact (show i = 120 + (i - 120) by omega) ▸ mj_kg120 (i - 120) (by omega)
  · exact (show i = 130 + (i - 130) by omega) ▸ mj_kg130 (i - 130) (by omega)
  · exact (show i = 140 + (i - 140) by omega) ▸ mj_kg140 (i - 140) (by omega)
  · exact (show i = 150 + (i - 150) by omega) ▸ mj_kg150 (i - 150) (by omega)
  · exact (show i = 160 + (i - 160) by omega) ▸ mj_kg160 (i - 160) (by omega)
