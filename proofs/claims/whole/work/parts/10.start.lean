/-! THE CLAIM OUT OF ONE WALK OF THE LAW'S BODY. Your part is whole_start (and what it stands on); all else here is the same for every law, but numbers. -/
def R_law : String := "DumplingBandLaw"
def lw_P (b : Addr) (xs : List Int32) (args : Array Value) (s : State) : Prop := args = #[.ref b] ∧ s.IntsAt b xs ∧ xs.length ≤ 2048 ∧ (Jvm.Cond.and given_1 narrow_1).before args s = true
def lw_Q (_ : Array Value) (s : State) (o : Outcome) (t : State) : Prop := o = .returned (some (.int 1)) ∧ Framed s o t [] 600000 7302250
def lw_Z (below : List Frame) (a : Array Value) (s : State) : State → Prop := fun t => ∃ o, t.status = .running ∧ Ended t below o ∧ lw_Q a s o t
/-- the law's own end, with 1 on the stack, nothing written that was there before, its room as the claim has it -/
theorem lw_ret {p : Program} {l : Launch} {e : Env} {s : State} {m : MethodId} {below : List Frame} {meth : Method} {c : Code} {b : Nat} (hx : p.tables.exec = Jvm.exec) (hb : c.code = code) (hr : meth.sig.returnType = ret) (hlocks : meth.locks = false) {pc : Nat} {H : Heap} {ls : Array Slot} (hdg : decode code pc = .ok (.ireturn, 1)) : W p l e room_1 s m #[Value.ref b] below meth c H [] 600000 7302250 (lw_Z below #[Value.ref b] s) (F0 m pc ls [.int 1]) := by
  intro T hT X
  obtain ⟨fs, hret, hrun, hended, hW, hframe⟩ := X.leave (v := some (.int 1)) (hlocks := hlocks) (fun h => by rw [hr] at h; cases h)
  have hmeth' : T.vm.method? m = some meth := X.method'
  refine ⟨T.setFrames fs, ?_, .returned (some (.int 1)), hrun, hended, rfl, ⟨_, rfl⟩, hW, hframe⟩
  jvm_step X.here [X.here.top, hx, hb, hdg, hmeth', hr, ret, narrow_b1]
  (try refine ⟨rfl, ?_⟩); (try refine ⟨rfl, ?_⟩)
  first | (intro acts; rw [hret _ acts rfl rfl rfl]) | rw [hret _ _ rfl rfl rfl]
  exact Steps.refl _
/-- what holds at the law's entry: the machine, the code, the tables' words (any of lw_tbl by 'hts w (by decide +kernel)'), the script of L ints xs at the cell b, what the Statement gives of the start (any of its parts by flat_of_before) -/
def lw_At (p : Program) (s : State) (m : MethodId) (meth : Method) (c : Code) (b L : Nat) (xs : Nat → Int32) : Prop :=
  p.tables.exec = Jvm.exec ∧ c.code = code ∧ meth.sig.returnType = ret ∧ c.maxLocals = 4 ∧ s.vm.findClass R_law = some m.cls ∧ (∀ w ∈ lw_tbl, w.before #[Value.ref b] s = true) ∧ va_X b L xs s s.heap ∧ b < s.heap.size ∧ meth.locks = false ∧ (Jvm.Cond.and given_1 narrow_1).before #[Value.ref b] s = true
/-! THE LAW'S ENTRY: what is left is a run of the pure machine -/
def mj_h0 (xs : List Int32) : mj_H := (fun k => if k = 0 then some (.inl (3, xs)) else none, 1, 0)
set_option maxHeartbeats 4000000 in
theorem mj_start {p : Program} {e : Env} {s : State} {m : MethodId} {below : List Frame} {meth : Method} {c : Code} (l : Launch) {b L : Nat} {xs : Nat → Int32} (C0 : lw_At p s m meth c b L xs)
    (hrun : ∃ (n : Nat) (hf : mj_H), mj_exec n 167 (0, [.ref 0, .null, .null, .null], [], mj_h0 ((List.range L).map xs)) = some (some (.int 1), hf) ∧ hf.2.1 ≤ 600000 ∧ hf.2.2 ≤ 7302250) : W p l e room_1 s m #[Value.ref b] below meth c s.heap [] 0 0 (lw_Z below #[Value.ref b] s) (entryFrame m ([Value.ref b] : List Value).toArray 4) := by
  obtain ⟨n, hf, he, hcs, hss⟩ := hrun
  obtain ⟨hx, hb, hr, hml, hown, hts, hX, hbl, hlocks, hgv⟩ := id C0
  have hts2 : ∀ w ∈ mj_W, w.before #[Value.ref b] s = true := fun w hw => hts w (List.mem_filter.mp hw).1
  have hk : ∀ a : Nat, ∃ (cC : ClassId) (iS : Nat → Nat), ∀ (C : String) (T : u_T) (N : Nat), mj_cl[a]? = some (C, T, N) → u_Kn s C T N cC iS := by
    intro a
    by_cases ha : a < 8
    · obtain ⟨C, T, N, hc⟩ := mj_cl_ex ha
      obtain ⟨d1, d2, d3, d4, -, -⟩ := mj_clf hc
      obtain ⟨cC, iS, h1⟩ := u_known (C := C) (T := T) (N := N) (n := N) hts2 d4 (by rw [d1, d2]; exact hts2 _ (mj_ins ha))
      exact ⟨cC, iS, fun C' T' N' h' => by cases hc.symm.trans h'; exact h1⟩
    · exact ⟨0, fun _ => 0, fun C T N h' => absurd (List.getElem?_eq_some_iff.mp h').1 (by simp; omega)⟩
  obtain ⟨dC, hk⟩ := Classical.axiomOfChoice hk
  obtain ⟨dI, hk⟩ := Classical.axiomOfChoice hk
  obtain ⟨cI, kI, compI, i1, i2, i3⟩ := Cond.arrayClass_spec (hts2 _ (mj_has_in mj_arrI))
  obtain ⟨cZ, kZ, compZ, z1, z2, z3⟩ := Cond.arrayClass_spec (hts2 _ (mj_has_in mj_arrZ))
  have hover : (Cond.arrayOver (.object "DumplingBand$March")).before #[Value.ref b] s = true := hts _ (List.mem_of_getElem? mj_arrM)
  obtain ⟨compM, cM, kM, m1, -, m3, m4, m5⟩ := Cond.arrayOver_spec hover
  let G : mj_G := ((dC, dI), (cI, cZ, cM), b, s.heap.size - 1)
  have hsz : 0 < s.heap.size := by omega
  have hK : mj_Kn G s := by
    refine ⟨⟨fun a q hq => hk a q.1 q.2.1 q.2.2 hq, fun k q hq => ?_⟩, va_AO.of hover, fun q hq => ?_⟩
    · match k, hq with
      | 0, hq => cases hq; exact ⟨fun n z => ⟨fun k h => (by cases h), kI, i2, compI, i3⟩, i1⟩
      | 1, hq => cases hq; exact ⟨fun n z => ⟨fun k h => (by cases h), kZ, z2, compZ, z3⟩, z1⟩
      | 2, hq => cases hq; exact ⟨fun n z => ⟨fun k h => (by cases h), kM, m3, compM, m4⟩, kM, compM, m3, m4, m1, m5⟩
      | k + 3, hq => simp at hq
    · obtain ⟨j, hj⟩ := List.getElem?_of_mem hq
      have hjl : j < 4 := by
        have h1 := (List.getElem?_eq_some_iff.mp hj).1
        have h2 : mj_nest.length = 4 := by decide +kernel
        omega
      have h3 : ∃ ps : List Nat, ps.length = 4 ∧ (mj_nest.zip ps).all (fun q => decide (lw_tbl[q.2]? = some (Cond.methodLinkNest q.1.1 q.1.2.1 q.1.2.2.1 q.1.2.2.2))) = true := ⟨_, rfl, mj_nest_ok⟩
      obtain ⟨ps, hps, hall⟩ := h3
      have h4 : (mj_nest.zip ps)[j]? = some (q, ps[j]'(by omega)) := by
        rw [List.getElem?_zip_eq_some]
        exact ⟨hj, List.getElem?_eq_getElem _⟩
      have h5 := List.all_eq_true.mp hall _ (List.mem_of_getElem? h4)
      exact va_Nw.of rfl (hts _ (List.mem_of_getElem? (of_decide_eq_true h5)))
  have hR : mj_Rep G s (mj_h0 ((List.range L).map xs)) s.heap := by
    refine ⟨?_, ?_, ?_, fun k e hk => ?_⟩
    · show s.heap.size = s.heap.size - 1 + 1
      omega
    · show b ≤ s.heap.size - 1
      omega
    · show 0 < 1
      omega
    · by_cases hk0 : k = 0
      · subst hk0
        have he : e = .inl (3, (List.range L).map xs) := by simpa [mj_h0] using hk.symm
        subst he
        refine ⟨by show 0 < 1; omega, Or.inr (Or.inr ⟨rfl, rfl, ?_⟩)⟩
        obtain ⟨scr, x1, x2, x3, x4, x5⟩ := hX
        refine ⟨scr, x1, x2, x3, by simpa using x4, fun j hj => ?_⟩
        have hj2 : j < L := by simpa using hj
        rw [x5 j hj2]
        simp [List.getD, hj2]
      · simp [mj_h0, hk0] at hk
  have C : mj_Cx p s m #[Value.ref b] meth c 167 room_1 := ⟨hx, hb, hml, hown, hts2, hr, hlocks, fun h => absurd h (by decide +kernel), by decide +kernel, by decide +kernel⟩
  have hent : mj_ent 167 [.ref 0] = [.ref 0, .null, .null, .null] := by decide +kernel
  have hL := mj_entry (G := G) (j := 167) (as := [.ref 0]) (by decide +kernel) (fun _ v hv => by rw [List.mem_singleton.mp hv]; rfl)
  rw [hent] at hL
  rw [lg_entry_eq]
  refine mj_main l n 167 0 _ [] _ _ _ he p e room_1 s m #[Value.ref b] below meth c s.heap [] 0 0 _ _ G C hK hL hR (fun q hq => by cases hq) (by show 0 + (hf.2.1 - 1) ≤ 600000; omega) (by show 0 + (hf.2.2 - 0) ≤ 7302250; omega) ?_
  intro pc' lsC' H' locs' hret hR' hlo'
  refine va_forget (fun q hq => ?_) ?_
  · have h1 : s.heap.size - 1 < q.base := hlo' q hq
    omega
  · refine W.widen (k := 600000) (n := 7302250) (by show 0 + (hf.2.1 - 1) ≤ 600000; omega) (by show 0 + (hf.2.2 - 0) ≤ 7302250; omega) ?_
    exact lw_ret hx hb hr hlocks hret.1
/-! THE PURE MACHINE WITHOUT FUEL -/
theorem mj_fuel : ∀ (n i : Nat) (s : mj_S) (r : Option Value × mj_H), mj_exec n i s = some r → mj_exec (n + 1) i s = some r := by
  intro n
  induction n with
  | zero => intro i s r h; cases h
  | succ n ih =>
    intro i s r h
    obtain ⟨pc, ls, st, hh⟩ := s
    rw [mj_exec] at h ⊢
    split at h
    · cases h
    · rename_i q hat
      split at h
      · cases h
      · rename_i s1 hs
        exact ih _ _ _ h
      · exact h
      · rename_i j as rest hs
        split at h
        · cases h
        · rename_i v1 h1 he1
          rw [ih _ _ _ he1]
          exact ih _ _ _ h
theorem mj_fuel_add {n i : Nat} {s : mj_S} {r : Option Value × mj_H} (h : mj_exec n i s = some r) : ∀ k, mj_exec (n + k) i s = some r := by
  intro k
  induction k with
  | zero => exact h
  | succ k ih => exact mj_fuel _ _ _ _ ih
theorem mj_fuel_le {n k i : Nat} {s : mj_S} {r : Option Value × mj_H} (h : mj_exec n i s = some r) (hk : n ≤ k) : mj_exec k i s = some r := by
  have := mj_fuel_add h (k - n)
  rwa [show n + (k - n) = k by omega] at this
theorem mj_det {n k i : Nat} {s : mj_S} {r r' : Option Value × mj_H} (h : mj_exec n i s = some r) (h' : mj_exec k i s = some r') : r = r' := by
  have h1 := mj_fuel_le h (Nat.le_max_left n k)
  have h2 := mj_fuel_le h' (Nat.le_max_right n k)
  exact Option.some.inj (h1.symm.trans h2)
noncomputable def mj_R (i : Nat) (s : mj_S) : Option (Option Value × mj_H) := @dite (Option (Option Value × mj_H)) (∃ (r : Option Value × mj_H) (n : Nat), mj_exec n i s = some r) (Classical.propDecidable _) (fun h => some (Classical.choose h)) (fun _ => none)
theorem mj_R_of {n i : Nat} {s : mj_S} {r : Option Value × mj_H} (h : mj_exec n i s = some r) : mj_R i s = some r := by
  have hx : ∃ (r : Option Value × mj_H) (n : Nat), mj_exec n i s = some r := ⟨r, n, h⟩
  unfold mj_R
  rw [dif_pos hx]
  obtain ⟨k, hk⟩ := Classical.choose_spec hx
  rw [mj_det hk h]
theorem mj_R_iff {i : Nat} {s : mj_S} {r : Option Value × mj_H} : mj_R i s = some r ↔ ∃ n, mj_exec n i s = some r := by
  constructor
  · intro h
    by_cases hx : ∃ (r : Option Value × mj_H) (n : Nat), mj_exec n i s = some r
    · obtain ⟨r', n, hn⟩ := hx
      rw [mj_R_of hn] at h
      cases h
      exact ⟨n, hn⟩
    · unfold mj_R at h
      rw [dif_neg hx] at h
      cases h
  · rintro ⟨n, h⟩
    exact mj_R_of h
theorem mj_ext {a b : Option (Option Value × mj_H)} (h : ∀ r, a = some r ↔ b = some r) : a = b := by
  cases a with
  | none =>
    cases b with
    | none => rfl
    | some r => exact ((h r).mpr rfl)
  | some r => exact ((h r).mp rfl).symm
/-- a step that is no call -/
theorem mj_R_next {i pc : Nat} {ls st : List Value} {h : mj_H} {q : Instr × Nat × Nat × Nat} {s' : mj_S} (hat : mj_at i pc = some q) (hs : mj_step i q pc ls st h = some (.inl s')) : mj_R i (pc, ls, st, h) = mj_R i s' := by
  apply mj_ext
  intro r
  rw [mj_R_iff, mj_R_iff]
  constructor
  · rintro ⟨n, hn⟩
    match n, hn with
    | n + 1, hn =>
      rw [mj_exec, hat] at hn
      simp only [hs] at hn
      exact ⟨n, hn⟩
  · rintro ⟨n, hn⟩
    refine ⟨n + 1, ?_⟩
    rw [mj_exec, hat]
    simp only [hs]
    exact hn
theorem mj_R_none {i pc : Nat} {ls st : List Value} {h : mj_H} {q : Instr × Nat × Nat × Nat} (hat : mj_at i pc = some q) (hs : mj_step i q pc ls st h = none) : mj_R i (pc, ls, st, h) = none := by
  apply mj_ext
  intro r
  rw [mj_R_iff]
  constructor
  · rintro ⟨n, hn⟩
    match n, hn with
    | n + 1, hn =>
      rw [mj_exec, hat] at hn
      simp only [hs] at hn
      cases hn
  · intro h
    cases h
theorem mj_R_ret {i pc : Nat} {ls st : List Value} {h : mj_H} {q : Instr × Nat × Nat × Nat} {v : Option Value} (hat : mj_at i pc = some q) (hs : mj_step i q pc ls st h = some (.inr (.inl v))) : mj_R i (pc, ls, st, h) = some (v, h) := by
  refine mj_R_of (n := 1) ?_
  rw [mj_exec, hat]
  simp only [hs]
noncomputable def mj_C (j : Nat) (as : List Value) (h : mj_H) : Option (Option Value × mj_H) := mj_R j (0, mj_ent j as, [], h)
theorem mj_R_call {i pc : Nat} {ls st : List Value} {h : mj_H} {q : Instr × Nat × Nat × Nat} {j : Nat} {as rest : List Value} (hat : mj_at i pc = some q) (hs : mj_step i q pc ls st h = some (.inr (.inr (j, as, rest)))) : mj_R i (pc, ls, st, h) = (mj_C j as h).bind (fun r => mj_R i (pc + 3, ls, r.1.toList ++ rest, r.2)) := by
  apply mj_ext
  intro r
  rw [mj_R_iff, Option.bind_eq_some_iff]
  constructor
  · rintro ⟨n, hn⟩
    match n, hn with
    | n + 1, hn =>
      rw [mj_exec, hat] at hn
      simp only [hs] at hn
      split at hn
      · cases hn
      · rename_i v1 h1 he1
        exact ⟨(v1, h1), mj_R_of he1, mj_R_of hn⟩
  · rintro ⟨⟨v1, h1⟩, ha, hb⟩
    obtain ⟨n, hn⟩ := mj_R_iff.mp ha
    obtain ⟨k, hk⟩ := mj_R_iff.mp hb
    refine ⟨max n k + 1, ?_⟩
    rw [mj_exec, hat]
    simp only [hs]
    rw [mj_fuel_le hn (Nat.le_max_left n k)]
    exact mj_fuel_le hk (Nat.le_max_right n k)
