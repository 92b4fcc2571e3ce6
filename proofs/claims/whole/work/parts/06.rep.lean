/-! WHAT THE PURE STORE STANDS FOR: G = (classes, rows' classes, the script's cell, the cell below the first own one) -/
abbrev mj_G : Type := va_G × (ClassId × ClassId × ClassId) × Nat × Nat
def mj_ad (G : mj_G) (k : Nat) : Nat := if k = 0 then G.2.2.1 else G.2.2.2 + k
def mj_cv (G : mj_G) (v : Value) : Value := match v with
  | .ref k => .ref (mj_ad G k)
  | v => v
abbrev mj_tys (G : mj_G) : List (ClassId × FieldType) := [(G.2.1.1, .int), (G.2.1.2.1, .boolean), (G.2.1.2.2, .object "DumplingBand$March")]
def mj_Kn (G : mj_G) (U : State) : Prop := va_K G.1 mj_cl (mj_tys G) U ∧ va_AO "DumplingBand$March" U ∧ ∀ q ∈ mj_nest, va_Nw (.methodLinkNest q.1 q.2.1 q.2.2.1 q.2.2.2) U
def mj_cell (G : mj_G) (U : State) (H : Heap) (k : Nat) (e : mj_E) : Prop := match e with
  | .inl (t, l) => (t = 0 ∧ 0 < k ∧ H[mj_ad G k]? = some (arrV G.2.1.1 l.length (fun j => .int (l.getD j 0)))) ∨ (t = 1 ∧ 0 < k ∧ H[mj_ad G k]? = some (arrV G.2.1.2.1 l.length (fun j => .int (l.getD j 0)))) ∨ (t = 3 ∧ k = 0 ∧ va_X G.2.2.1 l.length (fun j => l.getD j 0) U H)
  | .inr (t, vs) => 0 < k ∧ ((t = 99 ∧ H[mj_ad G k]? = some (arrV G.2.1.2.2 vs.length (fun j => mj_cv G (vs.getD j .null)))) ∨ (t ≠ 99 ∧ ∃ (C : String) (T : u_T) (N : Nat), mj_cl[t]? = some (C, T, N) ∧ vs.length = N ∧ t_OB (mj_ad G k) (G.1.1 t) N (G.1.2 t) H (vp_V (vs.map (mj_cv G)))))
def mj_Rep (G : mj_G) (U : State) (h : mj_H) (H : Heap) : Prop := H.size = G.2.2.2 + h.2.1 ∧ G.2.2.1 ≤ G.2.2.2 ∧ 0 < h.2.1 ∧ ∀ (k : Nat) (e : mj_E), h.1 k = some e → k < h.2.1 ∧ mj_cell G U H k e
theorem mj_ad_inj {G : mj_G} (h : G.2.2.1 ≤ G.2.2.2) {a k : Nat} (ha : 0 < a) (hk : k ≠ a) : mj_ad G k ≠ mj_ad G a := by
  unfold mj_ad
  by_cases h0 : k = 0
  · rw [if_pos h0, if_neg (by omega)]; omega
  · rw [if_neg h0, if_neg (by omega)]; omega
theorem mj_ad_pos {G : mj_G} {a : Nat} (ha : 0 < a) : mj_ad G a = G.2.2.2 + a := if_neg (by omega)
theorem mj_cell.kept {G : mj_G} {U : State} {H H' : Heap} {k : Nat} {e : mj_E} (h : mj_cell G U H k e) (hq : H'[mj_ad G k]? = H[mj_ad G k]?) : mj_cell G U H' k e := by
  obtain ⟨t, l⟩ | ⟨t, vs⟩ := e
  · rcases h with ⟨h1, h2, h3⟩ | ⟨h1, h2, h3⟩ | ⟨h1, h2, h3⟩
    · exact Or.inl ⟨h1, h2, hq.trans h3⟩
    · exact Or.inr (Or.inl ⟨h1, h2, hq.trans h3⟩)
    · subst h2
      exact Or.inr (Or.inr ⟨h1, rfl, h3.kept hq⟩)
  · obtain ⟨h0, h⟩ := h
    rcases h with ⟨h1, h2⟩ | ⟨h1, C, T, N, h2, h3, h4⟩
    · exact ⟨h0, Or.inl ⟨h1, hq.trans h2⟩⟩
    · exact ⟨h0, Or.inr ⟨h1, C, T, N, h2, h3, h4.kept hq⟩⟩
theorem mj_cell.moved {G : mj_G} {u U : State} {H : Heap} {k : Nat} {e : mj_E} (hvm : u.vm.Alike U.vm) (h : mj_cell G u H k e) : mj_cell G U H k e := by
  obtain ⟨t, l⟩ | ⟨t, vs⟩ := e
  · rcases h with h | h | ⟨h1, h2, h3⟩
    · exact Or.inl h
    · exact Or.inr (Or.inl h)
    · exact Or.inr (Or.inr ⟨h1, h2, h3.moved hvm⟩)
  · exact h
theorem mj_Rep.moved {G : mj_G} {u U : State} {h : mj_H} {H : Heap} (hvm : u.vm.Alike U.vm) (R : mj_Rep G u h H) : mj_Rep G U h H := ⟨R.1, R.2.1, R.2.2.1, fun k e hk => ⟨(R.2.2.2 k e hk).1, (R.2.2.2 k e hk).2.moved hvm⟩⟩
theorem mj_Rep.up {G : mj_G} {U : State} {h : mj_H} {H H' : Heap} {a : Nat} {e e0 : mj_E} (R : mj_Rep G U h H) (h0 : h.1 a = some e0) (ha : 0 < a) (hz : H'.size = H.size) (ho : ∀ q, q ≠ mj_ad G a → H'[q]? = H[q]?) (he : mj_cell G U H' a e) : mj_Rep G U (mj_up h a e) H' := by
  obtain ⟨r1, r2, r3, r4⟩ := R
  refine ⟨hz.trans r1, r2, r3, fun k e' hk => ?_⟩
  by_cases hka : k = a
  · subst hka
    have : e = e' := by simpa [mj_up] using hk
    subst this
    exact ⟨(r4 k e0 h0).1, he⟩
  · have hk' : h.1 k = some e' := by simpa [mj_up, hka] using hk
    exact ⟨(r4 k e' hk').1, (r4 k e' hk').2.kept (ho _ (mj_ad_inj r2 ha hka))⟩
theorem mj_Rep.new {G : mj_G} {U : State} {h : mj_H} {H H' : Heap} {e : mj_E} (R : mj_Rep G U h H) (hz : H'.size = H.size + 1) (ho : ∀ q, q < H.size → H'[q]? = H[q]?) (he : mj_cell G U H' h.2.1 e) : mj_Rep G U (mj_new h e) H' := by
  obtain ⟨r1, r2, r3, r4⟩ := R
  refine ⟨by show H'.size = G.2.2.2 + (h.2.1 + 1); omega, r2, by show 0 < h.2.1 + 1; omega, fun k e' hk => ?_⟩
  show k < h.2.1 + 1 ∧ _
  by_cases hka : k = h.2.1
  · subst hka
    have : e = e' := by simpa [mj_new] using hk
    subst this
    exact ⟨by omega, he⟩
  · have hk' : h.1 k = some e' := by simpa [mj_new, hka] using hk
    have h1 := (r4 k e' hk').1
    refine ⟨by omega, (r4 k e' hk').2.kept (ho _ ?_)⟩
    unfold mj_ad
    split <;> omega
theorem mj_Rep.adnew {G : mj_G} {U : State} {h : mj_H} {H : Heap} (R : mj_Rep G U h H) : mj_ad G h.2.1 = H.size := by
  rw [mj_ad_pos R.2.2.1, R.1]
theorem mj_Kn.moved {G : mj_G} {s U : State} (hW : s.WarmedH U.vm) (K : mj_Kn G s) : mj_Kn G U := ⟨va_K.moved hW.alike K.1, va_AO.moved hW.alike K.2.1, fun q hq => va_Nw.warmM hW (K.2.2 q hq)⟩
theorem mj_Kn.same {G : mj_G} {u U : State} (h : u.vm = U.vm) (K : mj_Kn G u) : mj_Kn G U := ⟨va_K.moved (by rw [h]; exact Vm.Alike.refl _) K.1, va_AO.moved (by rw [h]; exact Vm.Alike.refl _) K.2.1, fun q hq => va_Nw.same rfl h (K.2.2 q hq)⟩
/-! locals -/
def mj_kl (G : mj_G) (ls : List Value) : List (Nat × Value) := (List.range ls.length).filterMap (fun k => match (ls[k]? : Option Value) with
  | some Value.null => none
  | some v => some (k, mj_cv G v)
  | none => none)
theorem mj_kl_in {G : mj_G} {ls : List Value} {k : Nat} {v : Value} (h : ls[k]? = some v) (hn : v ≠ .null) : (k, mj_cv G v) ∈ mj_kl G ls := by
  refine List.mem_filterMap.mpr ⟨k, List.mem_range.mpr (List.getElem?_eq_some_iff.mp h).1, ?_⟩
  rw [h]
  cases v <;> first | rfl | exact absurd rfl hn
theorem mj_kl_of {G : mj_G} {ls : List Value} {q : Nat × Value} (h : q ∈ mj_kl G ls) : ∃ v, ls[q.1]? = some v ∧ v ≠ .null ∧ q.2 = mj_cv G v := by
  obtain ⟨k, -, hk⟩ := List.mem_filterMap.mp h
  split at hk
  · cases hk
  · rename_i v h1 h2
    cases hk
    exact ⟨v, h2, fun e => h1 e, rfl⟩
  · cases hk
def mj_L (G : mj_G) (i : Nat) (ls : List Value) (lsC : Array Slot) : Prop := ls.length = mj_m i ∧ lsC.size = mj_m i ∧ lv_wf lsC ∧ (∀ (k : Nat) (v : Value), ls[k]? = some v → v ≠ .null → lsC[k]? = some (.val (mj_cv G v))) ∧ (mj_t i = true → ∀ v ∈ ls, mj_noL v = true)
theorem mj_L.has {G : mj_G} {i : Nat} {ls : List Value} {lsC : Array Slot} (h : mj_L G i ls lsC) : lv_has lsC (mj_m i) (mj_kl G ls) := by
  obtain ⟨-, h2, h3, h4, -⟩ := h
  refine ⟨h2, h3, fun q hq => ?_⟩
  obtain ⟨v, a1, a2, a3⟩ := mj_kl_of hq
  rw [h4 q.1 v a1 a2, a3]
theorem mj_cv_cat (G : mj_G) (v : Value) : (mj_cv G v).category = v.category := by cases v <;> rfl
theorem mj_noL_cat {v : Value} (h : mj_noL v = true) : v.category = 1 := by simpa [mj_noL] using h
theorem mj_L.put {G : mj_G} {i k : Nat} {ls : List Value} {lsC lsC' : Array Slot} (h : mj_L G i ls lsC) (ht : mj_t i = true) {v : Value} (hv : mj_noL v = true) (h' : lv_has lsC' (mj_m i) ((k, mj_cv G v) :: (mj_kl G ls).filter (fun q => !(q.1 == k) && !(q.1 + 1 == k && q.2.category == 2)))) : mj_L G i (ls.set k v) lsC' := by
  obtain ⟨h1, h2, h3, h4, h5⟩ := h
  refine ⟨by rw [List.length_set]; exact h1, h'.1, h'.2.1, fun j w hj hw => ?_, fun _ w hw => ?_⟩
  · by_cases hjk : k = j
    · subst hjk
      have hl := (List.getElem?_eq_some_iff.mp hj).1
      rw [List.length_set] at hl
      rw [List.getElem?_set_self hl] at hj
      cases hj
      exact h'.2.2 (k, mj_cv G v) List.mem_cons_self
    · rw [List.getElem?_set_ne hjk] at hj
      refine h'.2.2 (j, mj_cv G w) (List.mem_cons_of_mem _ (List.mem_filter.mpr ⟨mj_kl_in hj hw, ?_⟩))
      have hc := mj_noL_cat (h5 ht w (List.mem_of_getElem? hj))
      simp [mj_cv_cat, hc, Ne.symm hjk]
  · rcases List.mem_or_eq_of_mem_set hw with hw | rfl
    · exact h5 ht w hw
    · exact hv
theorem mj_L.put2 {G : mj_G} {i k : Nat} {ls : List Value} {lsC lsC' : Array Slot} (h : mj_L G i ls lsC) (ht : mj_t i = false) {x : Int64} (hp : mj_prev ls k = true) (h' : lv_has lsC' (mj_m i) ((k, .long x) :: (mj_kl G ls).filter (fun q => !(q.1 == k) && (!(q.1 == k + 1) && !(q.1 + 1 == k && q.2.category == 2))))) : mj_L G i ((ls.set k (.long x)).set (k + 1) .null) lsC' := by
  obtain ⟨h1, h2, h3, h4, h5⟩ := h
  refine ⟨by rw [List.length_set, List.length_set]; exact h1, h'.1, h'.2.1, fun j w hj hw => ?_, fun z => by rw [ht] at z; cases z⟩
  by_cases hj1 : k + 1 = j
  · subst hj1
    have hl := (List.getElem?_eq_some_iff.mp hj).1
    rw [List.length_set] at hl
    rw [List.getElem?_set_self hl] at hj
    cases hj
    exact absurd rfl hw
  · rw [List.getElem?_set_ne hj1] at hj
    by_cases hjk : k = j
    · subst hjk
      have hl := (List.getElem?_eq_some_iff.mp hj).1
      rw [List.length_set] at hl
      rw [List.getElem?_set_self hl] at hj
      cases hj
      exact h'.2.2 (k, .long x) List.mem_cons_self
    · rw [List.getElem?_set_ne hjk] at hj
      refine h'.2.2 (j, mj_cv G w) (List.mem_cons_of_mem _ (List.mem_filter.mpr ⟨mj_kl_in hj hw, ?_⟩))
      have hz : ¬ (j + 1 = k ∧ w.category = 2) := by
        rintro ⟨e, e2⟩
        subst e
        simp only [mj_prev, hj] at hp
        have := mj_noL_cat hp
        omega
      simp only [Bool.and_eq_true, Bool.not_eq_true', beq_eq_false_iff_ne, ne_eq, Bool.and_eq_false_iff, mj_cv_cat]
      refine ⟨Ne.symm hjk, Ne.symm hj1, ?_⟩
      by_cases e : j + 1 = k
      · exact Or.inr (fun e2 => hz ⟨e, e2⟩)
      · exact Or.inl e
theorem mj_L.get {G : mj_G} {i k : Nat} {ls : List Value} {lsC : Array Slot} {v : Value} (h : mj_L G i ls lsC) (hk : ls[k]? = some v) (hn : v ≠ .null) : lsC[k]? = some (.val (mj_cv G v)) := h.2.2.2.1 k v hk hn
theorem mj_L.key {G : mj_G} {i k : Nat} {ls : List Value} {lsC : Array Slot} {v : Value} (h : mj_L G i ls lsC) (hk : ls[k]? = some v) (hn : v ≠ .null) : ∃ j : Nat, (mj_kl G ls)[j]? = some (k, mj_cv G v) := List.getElem?_of_mem (mj_kl_in hk hn)
/-! the words -/
def mj_Cx (p : Program) (s : State) (m : MethodId) (args : Array Value) (meth : Method) (c : Code) (i : Nat) (R : Room) : Prop :=
  p.tables.exec = Jvm.exec ∧ c.code = mj_b i ∧ c.maxLocals = mj_m i ∧ s.vm.findClass (mj_on (mj_w i)) = some m.cls ∧ (∀ w ∈ mj_W, w.before args s = true) ∧ meth.sig.returnType = mj_r i ∧ meth.locks = false ∧ ((mj_y i).name = "<init>" → meth.name = "<init>") ∧ mj_f i ≤ R.frames ∧ mj_o i ≤ R.locals
theorem mj_clf {a : Nat} {C : String} {T : u_T} {N : Nat} (h : mj_cl[a]? = some (C, T, N)) : C = mj_on a ∧ N = mj_nf a ∧ T = mj_tf a ∧ (∀ w ∈ u_ws C T N, w ∈ mj_W) ∧ (∀ k, k < N → parseFieldDescriptor (T k).2.2.1 = some (mj_ft a k)) ∧ (∀ a, a < N → ∀ b, b < N → a ≠ b → (T a).2.1 ≠ (T b).2.1) := by
  have key : ∀ (C : String) (T : u_T) (N : Nat) (f : Nat → Nat), (∀ j, j < N → mj_has (f j) (u_lay C T j) = true) → ∀ w ∈ u_ws C T N, w ∈ mj_W := by
    intro C T N f hf w hw
    obtain ⟨j, hj, rfl⟩ := List.mem_map.mp hw
    exact mj_has_in (hf j (List.mem_range.mp hj))
  match a, h with
  | 0, h => cases h; exact ⟨rfl, rfl, rfl, key _ _ _ _ mj_lay0, mj_fty0, mj_nm0⟩
  | 1, h => cases h; exact ⟨rfl, rfl, rfl, key _ _ _ _ mj_lay1, mj_fty1, mj_nm1⟩
  | 2, h => cases h; exact ⟨rfl, rfl, rfl, key _ _ _ _ mj_lay2, mj_fty2, mj_nm2⟩
  | 3, h => cases h; exact ⟨rfl, rfl, rfl, key _ _ _ _ mj_lay3, mj_fty3, mj_nm3⟩
  | 4, h => cases h; exact ⟨rfl, rfl, rfl, key _ _ _ _ mj_lay4, mj_fty4, mj_nm4⟩
  | 5, h => cases h; exact ⟨rfl, rfl, rfl, key _ _ _ _ mj_lay5, mj_fty5, mj_nm5⟩
  | 6, h => cases h; exact ⟨rfl, rfl, rfl, key _ _ _ _ mj_lay6, mj_fty6, mj_nm6⟩
  | 7, h => cases h; exact ⟨rfl, rfl, rfl, key _ _ _ _ mj_lay7, mj_fty7, mj_nm7⟩
  | a + 8, h => simp at h
theorem mj_cl_ex {a : Nat} (h : a < 8) : ∃ (C : String) (T : u_T) (N : Nat), mj_cl[a]? = some (C, T, N) := by
  match a, h with
  | 0, _ => exact ⟨_, _, _, rfl⟩
  | 1, _ => exact ⟨_, _, _, rfl⟩
  | 2, _ => exact ⟨_, _, _, rfl⟩
  | 3, _ => exact ⟨_, _, _, rfl⟩
  | 4, _ => exact ⟨_, _, _, rfl⟩
  | 5, _ => exact ⟨_, _, _, rfl⟩
  | 6, _ => exact ⟨_, _, _, rfl⟩
  | 7, _ => exact ⟨_, _, _, rfl⟩
theorem mj_any4 {l : List (Nat × Nat × Nat × Nat)} {o idx a : Nat} (h : l.any (fun w => w.1 == o && w.2.1 == idx && w.2.2.1 == a) = true) : ∃ p, (o, idx, a, p) ∈ l := by
  obtain ⟨⟨x, y, z, p⟩, hm, hq⟩ := List.any_eq_true.mp h
  simp only [Bool.and_eq_true, beq_iff_eq] at hq
  obtain ⟨⟨rfl, rfl⟩, rfl⟩ := hq
  exact ⟨p, hm⟩
theorem mj_fld {o idx a b : Nat} (h : mj_lkF.any (fun w => w.1 == o && w.2.1 == idx && w.2.2.1 == a && w.2.2.2.1 == b) = true) : Cond.fieldLink (mj_on o) idx (mj_tf a b).1 (mj_tf a b).2.1 (mj_tf a b).2.2.1 ∈ mj_W ∧ b < mj_nf a := by
  obtain ⟨⟨x, y, z, b', p⟩, hm, hq⟩ := List.any_eq_true.mp h
  simp only [Bool.and_eq_true, beq_iff_eq] at hq
  obtain ⟨⟨⟨rfl, rfl⟩, rfl⟩, rfl⟩ := hq
  have h1 := List.all_eq_true.mp mj_lkF_ok _ hm
  simp only [Bool.and_eq_true, decide_eq_true_eq] at h1
  exact ⟨mj_has_in h1.1, h1.2⟩
theorem mj_mth {o idx a : Nat} (h : mj_lkM.any (fun w => w.1 == o && w.2.1 == idx && w.2.2.1 == a) = true) : Cond.methodLink (mj_on o) idx (mj_y a) ∈ mj_W := by
  obtain ⟨p, hm⟩ := mj_any4 h
  exact mj_has_in (List.all_eq_true.mp mj_lkM_ok _ hm)
theorem mj_cls {o idx a : Nat} (h : mj_lkC.any (fun w => w.1 == o && w.2.1 == idx && w.2.2.1 == a) = true) : Cond.classLink (mj_on o) idx (mj_on a) ∈ mj_W := by
  obtain ⟨p, hm⟩ := mj_any4 h
  exact mj_has_in (List.all_eq_true.mp mj_lkC_ok _ hm)
theorem mj_lgk {o idx a : Nat} (h : mj_lkL.any (fun w => w.1 == o && w.2.1 == idx && w.2.2.1 == a) = true) : Cond.constantLong (mj_on o) idx (mj_lng a) ∈ mj_W := by
  obtain ⟨p, hm⟩ := mj_any4 h
  exact mj_has_in (List.all_eq_true.mp mj_lkL_ok _ hm)
theorem mj_ick {o idx a : Nat} (h : mj_lkI.any (fun w => w.1 == o && w.2.1 == idx && w.2.2.1 == a) = true) : Cond.constant (mj_on o) idx (Int32.ofNat a) ∈ mj_W := by
  obtain ⟨p, hm⟩ := mj_any4 h
  exact mj_has_in (List.all_eq_true.mp mj_lkI_ok _ hm)
theorem mj_xk {o idx a : Nat} (h : mj_lkX.any (fun w => w.1 == o && w.2.1 == idx && w.2.2.1 == a) = true) : Cond.methodLink (mj_on o) idx (if a = 998 then Lib.Math.max.name else Lib.Math.min.name) ∈ mj_W := by
  obtain ⟨p, hm⟩ := mj_any4 h
  exact mj_has_in (List.all_eq_true.mp mj_lkX_ok _ hm)
theorem mj_ok {o idx : Nat} (h : mj_lkO.any (fun w => w.1 == o && w.2.1 == idx) = true) : Cond.methodLink (mj_on o) idx Lib.objectInit ∈ mj_W := by
  obtain ⟨⟨x, y, p⟩, hm, hq⟩ := List.any_eq_true.mp h
  simp only [Bool.and_eq_true, beq_iff_eq] at hq
  obtain ⟨rfl, rfl⟩ := hq
  exact mj_has_in (List.all_eq_true.mp mj_lkO_ok _ hm)
theorem mj_nst {o idx a : Nat} (h : mj_lkN.any (fun w => w.1 == o && w.2.1 == idx && w.2.2 == a) = true) : (mj_on o, idx, mj_y a, "DumplingBand") ∈ mj_nest := by
  obtain ⟨⟨x, y, z⟩, hm, hq⟩ := List.any_eq_true.mp h
  simp only [Bool.and_eq_true, beq_iff_eq] at hq
  obtain ⟨⟨rfl, rfl⟩, rfl⟩ := hq
  exact List.mem_map.mpr ⟨_, hm, rfl⟩
theorem mj_ini {k : Nat} (h : k < 11) : Cond.initialized (mj_on k) ∈ mj_W := mj_has_in (List.all_eq_true.mp mj_ini_ok k (List.mem_range.mpr h))
theorem mj_ins {k : Nat} (h : k < 8) : Cond.instantiable (mj_on k) (mj_nf k) ∈ mj_W := mj_has_in (List.all_eq_true.mp mj_ins_ok k (List.mem_range.mpr h))
theorem mj_chMA {i : Nat} (h : i < 167) : mj_chM i = true := by
  rcases (show (i < 30) ∨ (30 ≤ i ∧ i < 60) ∨ (60 ≤ i ∧ i < 90) ∨ (90 ≤ i ∧ i < 120) ∨ (120 ≤ i ∧ i < 150) ∨ (150 ≤ i ∧ i < 167) by omega) with h | h | h | h | h | h
  · exact (show i = 0 + i by omega) ▸ mj_chM_0 i (by omega)
  · exact (show i = 30 + (i - 30) by omega) ▸ mj_chM_30 (i - 30) (by omega)
  · exact (show i = 60 + (i - 60) by omega) ▸ mj_chM_60 (i - 60) (by omega)
  · exact (show i = 90 + (i - 90) by omega) ▸ mj_chM_90 (i - 90) (by omega)
  · exact (show i = 120 + (i - 120) by omega) ▸ mj_chM_120 (i - 120) (by omega)
  · exact (show i = 150 + (i - 150) by omega) ▸ mj_chM_150 (i - 150) (by omega)
theorem mj_cdg0 : ∀ k, k < 10 → ∃ p : Nat, lw_tbl[p]? = some (.code (mj_y (0 + k)) (mj_b (0 + k)) (mj_m (0 + k)) (mj_r (0 + k))) := fun k hk => match k, hk with
  | 0, _ => ⟨_, mj_cd0⟩
  | 1, _ => ⟨_, mj_cd1⟩
  | 2, _ => ⟨_, mj_cd2⟩
  | 3, _ => ⟨_, mj_cd3⟩
  | 4, _ => ⟨_, mj_cd4⟩
  | 5, _ => ⟨_, mj_cd5⟩
  | 6, _ => ⟨_, mj_cd6⟩
  | 7, _ => ⟨_, mj_cd7⟩
  | 8, _ => ⟨_, mj_cd8⟩
  | 9, _ => ⟨_, mj_cd9⟩
  | k + 10, hk => absurd hk (by omega)
theorem mj_cdg10 : ∀ k, k < 10 → ∃ p : Nat, lw_tbl[p]? = some (.code (mj_y (10 + k)) (mj_b (10 + k)) (mj_m (10 + k)) (mj_r (10 + k))) := fun k hk => match k, hk with
  | 0, _ => ⟨_, mj_cd10⟩
  | 1, _ => ⟨_, mj_cd11⟩
  | 2, _ => ⟨_, mj_cd12⟩
  | 3, _ => ⟨_, mj_cd13⟩
  | 4, _ => ⟨_, mj_cd14⟩
  | 5, _ => ⟨_, mj_cd15⟩
  | 6, _ => ⟨_, mj_cd16⟩
  | 7, _ => ⟨_, mj_cd17⟩
  | 8, _ => ⟨_, mj_cd18⟩
  | 9, _ => ⟨_, mj_cd19⟩
  | k + 10, hk => absurd hk (by omega)
theorem mj_cdg20 : ∀ k, k < 10 → ∃ p : Nat, lw_tbl[p]? = some (.code (mj_y (20 + k)) (mj_b (20 + k)) (mj_m (20 + k)) (mj_r (20 + k))) := fun k hk => match k, hk with
  | 0, _ => ⟨_, mj_cd20⟩
  | 1, _ => ⟨_, mj_cd21⟩
  | 2, _ => ⟨_, mj_cd22⟩
  | 3, _ => ⟨_, mj_cd23⟩
  | 4, _ => ⟨_, mj_cd24⟩
  | 5, _ => ⟨_, mj_cd25⟩
  | 6, _ => ⟨_, mj_cd26⟩
  | 7, _ => ⟨_, mj_cd27⟩
  | 8, _ => ⟨_, mj_cd28⟩
  | 9, _ => ⟨_, mj_cd29⟩
  | k + 10, hk => absurd hk (by omega)
theorem mj_cdg30 : ∀ k, k < 10 → ∃ p : Nat, lw_tbl[p]? = some (.code (mj_y (30 + k)) (mj_b (30 + k)) (mj_m (30 + k)) (mj_r (30 + k))) := fun k hk => match k, hk with
  | 0, _ => ⟨_, mj_cd30⟩
  | 1, _ => ⟨_, mj_cd31⟩
  | 2, _ => ⟨_, mj_cd32⟩
  | 3, _ => ⟨_, mj_cd33⟩
  | 4, _ => ⟨_, mj_cd34⟩
  | 5, _ => ⟨_, mj_cd35⟩
  | 6, _ => ⟨_, mj_cd36⟩
  | 7, _ => ⟨_, mj_cd37⟩
  | 8, _ => ⟨_, mj_cd38⟩
  | 9, _ => ⟨_, mj_cd39⟩
  | k + 10, hk => absurd hk (by omega)
theorem mj_cdg40 : ∀ k, k < 10 → ∃ p : Nat, lw_tbl[p]? = some (.code (mj_y (40 + k)) (mj_b (40 + k)) (mj_m (40 + k)) (mj_r (40 + k))) := fun k hk => match k, hk with
  | 0, _ => ⟨_, mj_cd40⟩
  | 1, _ => ⟨_, mj_cd41⟩
  | 2, _ => ⟨_, mj_cd42⟩
  | 3, _ => ⟨_, mj_cd43⟩
  | 4, _ => ⟨_, mj_cd44⟩
  | 5, _ => ⟨_, mj_cd45⟩
  | 6, _ => ⟨_, mj_cd46⟩
  | 7, _ => ⟨_, mj_cd47⟩
  | 8, _ => ⟨_, mj_cd48⟩
  | 9, _ => ⟨_, mj_cd49⟩
  | k + 10, hk => absurd hk (by omega)
theorem mj_cdg50 : ∀ k, k < 10 → ∃ p : Nat, lw_tbl[p]? = some (.code (mj_y (50 + k)) (mj_b (50 + k)) (mj_m (50 + k)) (mj_r (50 + k))) := fun k hk => match k, hk with
  | 0, _ => ⟨_, mj_cd50⟩
  | 1, _ => ⟨_, mj_cd51⟩
  | 2, _ => ⟨_, mj_cd52⟩
  | 3, _ => ⟨_, mj_cd53⟩
  | 4, _ => ⟨_, mj_cd54⟩
  | 5, _ => ⟨_, mj_cd55⟩
  | 6, _ => ⟨_, mj_cd56⟩
  | 7, _ => ⟨_, mj_cd57⟩
  | 8, _ => ⟨_, mj_cd58⟩
  | 9, _ => ⟨_, mj_cd59⟩
  | k + 10, hk => absurd hk (by omega)
theorem mj_cdg60 : ∀ k, k < 10 → ∃ p : Nat, lw_tbl[p]? = some (.code (mj_y (60 + k)) (mj_b (60 + k)) (mj_m (60 + k)) (mj_r (60 + k))) := fun k hk => match k, hk with
  | 0, _ => ⟨_, mj_cd60⟩
  | 1, _ => ⟨_, mj_cd61⟩
  | 2, _ => ⟨_, mj_cd62⟩
  | 3, _ => ⟨_, mj_cd63⟩
  | 4, _ => ⟨_, mj_cd64⟩
  | 5, _ => ⟨_, mj_cd65⟩
  | 6, _ => ⟨_, mj_cd66⟩
  | 7, _ => ⟨_, mj_cd67⟩
  | 8, _ => ⟨_, mj_cd68⟩
  | 9, _ => ⟨_, mj_cd69⟩
  | k + 10, hk => absurd hk (by omega)
theorem mj_cdg70 : ∀ k, k < 10 → ∃ p : Nat, lw_tbl[p]? = some (.code (mj_y (70 + k)) (mj_b (70 + k)) (mj_m (70 + k)) (mj_r (70 + k))) := fun k hk => match k, hk with
  | 0, _ => ⟨_, mj_cd70⟩
  | 1, _ => ⟨_, mj_cd71⟩
  | 2, _ => ⟨_, mj_cd72⟩
  | 3, _ => ⟨_, mj_cd73⟩
  | 4, _ => ⟨_, mj_cd74⟩
  | 5, _ => ⟨_, mj_cd75⟩
  | 6, _ => ⟨_, mj_cd76⟩
  | 7, _ => ⟨_, mj_cd77⟩
  | 8, _ => ⟨_, mj_cd78⟩
  | 9, _ => ⟨_, mj_cd79⟩
  | k + 10, hk => absurd hk (by omega)
theorem mj_cdg80 : ∀ k, k < 10 → ∃ p : Nat, lw_tbl[p]? = some (.code (mj_y (80 + k)) (mj_b (80 + k)) (mj_m (80 + k)) (mj_r (80 + k))) := fun k hk => match k, hk with
  | 0, _ => ⟨_, mj_cd80⟩
  | 1, _ => ⟨_, mj_cd81⟩
  | 2, _ => ⟨_, mj_cd82⟩
  | 3, _ => ⟨_, mj_cd83⟩
  | 4, _ => ⟨_, mj_cd84⟩
  | 5, _ => ⟨_, mj_cd85⟩
  | 6, _ => ⟨_, mj_cd86⟩
  | 7, _ => ⟨_, mj_cd87⟩
  | 8, _ => ⟨_, mj_cd88⟩
  | 9, _ => ⟨_, mj_cd89⟩
  | k + 10, hk => absurd hk (by omega)
theorem mj_cdg90 : ∀ k, k < 10 → ∃ p : Nat, lw_tbl[p]? = some (.code (mj_y (90 + k)) (mj_b (90 + k)) (mj_m (90 + k)) (mj_r (90 + k))) := fun k hk => match k, hk with
  | 0, _ => ⟨_, mj_cd90⟩
  | 1, _ => ⟨_, mj_cd91⟩
  | 2, _ => ⟨_, mj_cd92⟩
  | 3, _ => ⟨_, mj_cd93⟩
  | 4, _ => ⟨_, mj_cd94⟩
  | 5, _ => ⟨_, mj_cd95⟩
  | 6, _ => ⟨_, mj_cd96⟩
  | 7, _ => ⟨_, mj_cd97⟩
  | 8, _ => ⟨_, mj_cd98⟩
  | 9, _ => ⟨_, mj_cd99⟩
  | k + 10, hk => absurd hk (by omega)
theorem mj_cdg100 : ∀ k, k < 10 → ∃ p : Nat, lw_tbl[p]? = some (.code (mj_y (100 + k)) (mj_b (100 + k)) (mj_m (100 + k)) (mj_r (100 + k))) := fun k hk => match k, hk with
  | 0, _ => ⟨_, mj_cd100⟩
  | 1, _ => ⟨_, mj_cd101⟩
  | 2, _ => ⟨_, mj_cd102⟩
  | 3, _ => ⟨_, mj_cd103⟩
  | 4, _ => ⟨_, mj_cd104⟩
  | 5, _ => ⟨_, mj_cd105⟩
  | 6, _ => ⟨_, mj_cd106⟩
  | 7, _ => ⟨_, mj_cd107⟩
  | 8, _ => ⟨_, mj_cd108⟩
  | 9, _ => ⟨_, mj_cd109⟩
  | k + 10, hk => absurd hk (by omega)
theorem mj_cdg110 : ∀ k, k < 10 → ∃ p : Nat, lw_tbl[p]? = some (.code (mj_y (110 + k)) (mj_b (110 + k)) (mj_m (110 + k)) (mj_r (110 + k))) := fun k hk => match k, hk with
  | 0, _ => ⟨_, mj_cd110⟩
  | 1, _ => ⟨_, mj_cd111⟩
  | 2, _ => ⟨_, mj_cd112⟩
  | 3, _ => ⟨_, mj_cd113⟩
  | 4, _ => ⟨_, mj_cd114⟩
  | 5, _ => ⟨_, mj_cd115⟩
  | 6, _ => ⟨_, mj_cd116⟩
  | 7, _ => ⟨_, mj_cd117⟩
  | 8, _ => ⟨_, mj_cd118⟩
  | 9, _ => ⟨_, mj_cd119⟩
  | k + 10, hk => absurd hk (by omega)
theorem mj_cdg120 : ∀ k, k < 10 → ∃ p : Nat, lw_tbl[p]? = some (.code (mj_y (120 + k)) (mj_b (120 + k)) (mj_m (120 + k)) (mj_r (120 + k))) := fun k hk => match k, hk with
  | 0, _ => ⟨_, mj_cd120⟩
  | 1, _ => ⟨_, mj_cd121⟩
  | 2, _ => ⟨_, mj_cd122⟩
  | 3, _ => ⟨_, mj_cd123⟩
  | 4, _ => ⟨_, mj_cd124⟩
  | 5, _ => ⟨_, mj_cd125⟩
  | 6, _ => ⟨_, mj_cd126⟩
  | 7, _ => ⟨_, mj_cd127⟩
  | 8, _ => ⟨_, mj_cd128⟩
  | 9, _ => ⟨_, mj_cd129⟩
  | k + 10, hk => absurd hk (by omega)
theorem mj_cdg130 : ∀ k, k < 10 → ∃ p : Nat, lw_tbl[p]? = some (.code (mj_y (130 + k)) (mj_b (130 + k)) (mj_m (130 + k)) (mj_r (130 + k))) := fun k hk => match k, hk with
  | 0, _ => ⟨_, mj_cd130⟩
  | 1, _ => ⟨_, mj_cd131⟩
  | 2, _ => ⟨_, mj_cd132⟩
  | 3, _ => ⟨_, mj_cd133⟩
  | 4, _ => ⟨_, mj_cd134⟩
  | 5, _ => ⟨_, mj_cd135⟩
  | 6, _ => ⟨_, mj_cd136⟩
  | 7, _ => ⟨_, mj_cd137⟩
  | 8, _ => ⟨_, mj_cd138⟩
  | 9, _ => ⟨_, mj_cd139⟩
  | k + 10, hk => absurd hk (by omega)
theorem mj_cdg140 : ∀ k, k < 10 → ∃ p : Nat, lw_tbl[p]? = some (.code (mj_y (140 + k)) (mj_b (140 + k)) (mj_m (140 + k)) (mj_r (140 + k))) := fun k hk => match k, hk with
  | 0, _ => ⟨_, mj_cd140⟩
  | 1, _ => ⟨_, mj_cd141⟩
  | 2, _ => ⟨_, mj_cd142⟩
  | 3, _ => ⟨_, mj_cd143⟩
  | 4, _ => ⟨_, mj_cd144⟩
  | 5, _ => ⟨_, mj_cd145⟩
  | 6, _ => ⟨_, mj_cd146⟩
  | 7, _ => ⟨_, mj_cd147⟩
  | 8, _ => ⟨_, mj_cd148⟩
  | 9, _ => ⟨_, mj_cd149⟩
  | k + 10, hk => absurd hk (by omega)
theorem mj_cdg150 : ∀ k, k < 10 → ∃ p : Nat, lw_tbl[p]? = some (.code (mj_y (150 + k)) (mj_b (150 + k)) (mj_m (150 + k)) (mj_r (150 + k))) := fun k hk => match k, hk with
  | 0, _ => ⟨_, mj_cd150⟩
  | 1, _ => ⟨_, mj_cd151⟩
  | 2, _ => ⟨_, mj_cd152⟩
  | 3, _ => ⟨_, mj_cd153⟩
  | 4, _ => ⟨_, mj_cd154⟩
  | 5, _ => ⟨_, mj_cd155⟩
  | 6, _ => ⟨_, mj_cd156⟩
  | 7, _ => ⟨_, mj_cd157⟩
  | 8, _ => ⟨_, mj_cd158⟩
  | 9, _ => ⟨_, mj_cd159⟩
  | k + 10, hk => absurd hk (by omega)
theorem mj_cdg160 : ∀ k, k < 7 → ∃ p : Nat, lw_tbl[p]? = some (.code (mj_y (160 + k)) (mj_b (160 + k)) (mj_m (160 + k)) (mj_r (160 + k))) := fun k hk => match k, hk with
  | 0, _ => ⟨_, mj_cd160⟩
  | 1, _ => ⟨_, mj_cd161⟩
  | 2, _ => ⟨_, mj_cd162⟩
  | 3, _ => ⟨_, mj_cd163⟩
  | 4, _ => ⟨_, mj_cd164⟩
  | 5, _ => ⟨_, mj_cd165⟩
  | 6, _ => ⟨_, mj_cd166⟩
  | k + 7, hk => absurd hk (by omega)
theorem mj_cdA (i : Nat) (hi : i < 167) : Cond.code (mj_y i) (mj_b i) (mj_m i) (mj_r i) ∈ mj_W := by
  have key : (∃ p : Nat, lw_tbl[p]? = some (.code (mj_y i) (mj_b i) (mj_m i) (mj_r i))) → Cond.code (mj_y i) (mj_b i) (mj_m i) (mj_r i) ∈ mj_W := fun ⟨p, hp⟩ => List.mem_filter.mpr ⟨List.mem_of_getElem? hp, rfl⟩
  rcases (show (0 ≤ i ∧ i < 10) ∨ (10 ≤ i ∧ i < 20) ∨ (20 ≤ i ∧ i < 30) ∨ (30 ≤ i ∧ i < 40) ∨ (40 ≤ i ∧ i < 50) ∨ (50 ≤ i ∧ i < 60) ∨ (60 ≤ i ∧ i < 70) ∨ (70 ≤ i ∧ i < 80) ∨ (80 ≤ i ∧ i < 90) ∨ (90 ≤ i ∧ i < 100) ∨ (100 ≤ i ∧ i < 110) ∨ (110 ≤ i ∧ i < 120) ∨ (120 ≤ i ∧ i < 130) ∨ (130 ≤ i ∧ i < 140) ∨ (140 ≤ i ∧ i < 150) ∨ (150 ≤ i ∧ i < 160) ∨ (160 ≤ i ∧ i < 167) by omega) with h | h | h | h | h | h | h | h | h | h | h | h | h | h | h | h | h
  · exact key ((show i = 0 + (i - 0) by omega) ▸ mj_cdg0 (i - 0) (by omega))
  · exact key ((show i = 10 + (i - 10) by omega) ▸ mj_cdg10 (i - 10) (by omega))
  · exact key ((show i = 20 + (i - 20) by omega) ▸ mj_cdg20 (i - 20) (by omega))
  · exact key ((show i = 30 + (i - 30) by omega) ▸ mj_cdg30 (i - 30) (by omega))
  · exact key ((show i = 40 + (i - 40) by omega) ▸ mj_cdg40 (i - 40) (by omega))
  · exact key ((show i = 50 + (i - 50) by omega) ▸ mj_cdg50 (i - 50) (by omega))
  · exact key ((show i = 60 + (i - 60) by omega) ▸ mj_cdg60 (i - 60) (by omega))
  · exact key ((show i = 70 + (i - 70) by omega) ▸ mj_cdg70 (i - 70) (by omega))
  · exact key ((show i = 80 + (i - 80) by omega) ▸ mj_cdg80 (i - 80) (by omega))
  · exact key ((show i = 90 + (i - 90) by omega) ▸ mj_cdg90 (i - 90) (by omega))
  · exact key ((show i = 100 + (i - 100) by omega) ▸ mj_cdg100 (i - 100) (by omega))
  · exact key ((show i = 110 + (i - 110) by omega) ▸ mj_cdg110 (i - 110) (by omega))
  · exact key ((show i = 120 + (i - 120) by omega) ▸ mj_cdg120 (i - 120) (by omega))
  · exact key ((show i = 130 + (i - 130) by omega) ▸ mj_cdg130 (i - 130) (by omega))
  · exact key ((show i = 140 + (i - 140) by omega) ▸ mj_cdg140 (i - 140) (by omega))
  · exact key ((show i = 150 + (i - 150) by omega) ▸ mj_cdg150 (i - 150) (by omega))
  · exact key ((show i = 160 + (i - 160) by omega) ▸ mj_cdg160 (i - 160) (by omega))
