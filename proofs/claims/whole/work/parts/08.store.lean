/-! .. and the steps that look at the store -/
section MJS
variable {p : Program} {l : Launch} {e : Env} {R : Room} {s : State} {m : MethodId} {args : Array Value} {below : List Frame} {meth : Method} {c : Code} {H : Heap} {locs : List Loc} {cells slots : Nat} {Q : State → Prop}
variable {G : mj_G} {i pc len a b : Nat} {ls st : List Value} {h : mj_H} {lsC : Array Slot} {s' : mj_S}

/-- a cell of ints -/
theorem mj_Rep.i0 (R : mj_Rep G s h H) {x : Nat} {l : List Int32} (hx : h.1 x = some (.inl (0, l))) : 0 < x ∧ H[mj_ad G x]? = some (arrV G.2.1.1 l.length (fun j => .int (l.getD j 0))) := by
  rcases (R.2.2.2 x _ hx).2 with ⟨-, h2, h3⟩ | ⟨h1, -⟩ | ⟨h1, -⟩
  · exact ⟨h2, h3⟩
  · cases h1
  · cases h1
theorem mj_Rep.i1 (R : mj_Rep G s h H) {x : Nat} {l : List Int32} (hx : h.1 x = some (.inl (1, l))) : 0 < x ∧ H[mj_ad G x]? = some (arrV G.2.1.2.1 l.length (fun j => .int (l.getD j 0))) := by
  rcases (R.2.2.2 x _ hx).2 with ⟨h1, -⟩ | ⟨-, h2, h3⟩ | ⟨h1, -⟩
  · cases h1
  · exact ⟨h2, h3⟩
  · cases h1
theorem mj_Rep.q (R : mj_Rep G s h H) {x : Nat} {l : List Value} (hx : h.1 x = some (.inr (99, l))) : 0 < x ∧ H[mj_ad G x]? = some (arrV G.2.1.2.2 l.length (fun j => mj_cv G (l.getD j .null))) := by
  obtain ⟨h0, ⟨-, h2⟩ | ⟨h1, -⟩⟩ := (R.2.2.2 x _ hx).2
  · exact ⟨h0, h2⟩
  · exact absurd rfl h1
theorem mj_Rep.o (R : mj_Rep G s h H) {x t : Nat} {fs : List Value} (ht : t ≠ 99) (hx : h.1 x = some (.inr (t, fs))) : 0 < x ∧ ∃ (C : String) (T : u_T) (N : Nat), mj_cl[t]? = some (C, T, N) ∧ fs.length = N ∧ t_OB (mj_ad G x) (G.1.1 t) N (G.1.2 t) H (vp_V (fs.map (mj_cv G))) := by
  obtain ⟨h0, ⟨h1, h2⟩ | ⟨-, h2⟩⟩ := (R.2.2.2 x _ hx).2
  · exact absurd h1 ht
  · exact ⟨h0, h2⟩
theorem mj_oP {x t : Nat} {fs : List Value} {C : String} {T : u_T} {N : Nat} (h1 : mj_cl[t]? = some (C, T, N)) (h2 : t_OB x (G.1.1 t) N (G.1.2 t) H (vp_V fs)) : va_P G.1 mj_cl [(x, .inr (t, fs))] H := by
  intro k q hk
  match k, hk with
  | 0, hk => cases hk; exact ⟨(C, T, N), h1, h2⟩
  | k + 1, hk => simp at hk
theorem mj_lt99 {t : Nat} {C : String} {T : u_T} {N : Nat} (h : mj_cl[t]? = some (C, T, N)) : t ≠ 99 := by
  rintro rfl
  simp at h
theorem mj_nf8 {a b : Nat} (h : b < mj_nf a) : a ≠ 99 := by
  rintro rfl
  simp [mj_nf] at h
theorem mj_okv_ok {G : mj_G} {ty : FieldType} {v : Value} (h : mj_okv ty v = true) : narrow ty (mj_cv G v) = mj_cv G v ∧ fits ty (mj_cv G v) = true := by
  unfold mj_okv at h
  split at h
  · exact ⟨rfl, rfl⟩
  · rename_i x
    simp only [Bool.or_eq_true, beq_iff_eq] at h
    rcases h with rfl | rfl
    · show narrow .boolean (Value.int 0) = Value.int 0 ∧ fits .boolean (Value.int 0) = true
      decide
    · show narrow .boolean (Value.int 1) = Value.int 1 ∧ fits .boolean (Value.int 1) = true
      decide
  · exact ⟨rfl, rfl⟩
  · exact ⟨rfl, rfl⟩
  · exact ⟨rfl, rfl⟩
  · cases h
theorem mj_arr_set {cA : ClassId} {l : List Int32} {j : Nat} {v : Int32} (hj : j < l.length) : (arrV cA l.length (fun j => .int (l.getD j 0))).setSlot j (.int v) = arrV cA (l.set j v).length (fun k => .int ((l.set j v).getD k 0)) := by
  rw [arrV_store, List.length_set]
  congr 1
  funext k
  by_cases hk : k = j
  · subst hk
    simp [updV, List.getD, hj]
  · simp [updV, hk, List.getD, Ne.symm hk]
theorem mj_arr_setq {G : mj_G} {cA : ClassId} {l : List Value} {j : Nat} {v : Nat} (hj : j < l.length) : (arrV cA l.length (fun j => mj_cv G (l.getD j .null))).setSlot j (.ref (mj_ad G v)) = arrV cA (l.set j (.ref v)).length (fun k => mj_cv G ((l.set j (.ref v)).getD k .null)) := by
  rw [arrV_store, List.length_set]
  congr 1
  funext k
  by_cases hk : k = j
  · subst hk
    simp [updV, List.getD, hj, mj_cv]
  · simp [updV, hk, List.getD, Ne.symm hk]
theorem mj_lo {G : mj_G} {locs : List Loc} (hlo : ∀ q ∈ locs, G.2.2.2 < q.base) {x k : Nat} (hp : 0 < x) : ∀ q ∈ locs ++ [⟨mj_ad G x, k⟩], G.2.2.2 < q.base := by
  intro q hq
  rcases List.mem_append.mp hq with h1 | h1
  · exact hlo q h1
  · rw [List.mem_singleton.mp h1]
    show G.2.2.2 < mj_ad G x
    rw [mj_ad_pos hp]
    omega
theorem mj_in {α : Type} {l : List α} {j : Int32} (h0 : ¬ j < 0) (h : j.toNatClampNeg < l.length) {cA : ClassId} {f : Nat → Value} : ¬ (j < 0 ∨ (arrV cA l.length f).slots.size ≤ j.toNatClampNeg) := by
  rw [arrV_size]
  rintro (q | q)
  · exact h0 q
  · omega
set_option maxHeartbeats 4000000 in
theorem mj_s_arraylength (C : mj_Cx p s m args meth c i R) (K : mj_Kn G s) (hat : mj_at i pc = some (.arraylength, len, a, b)) (hs : mj_step i (.arraylength, len, a, b) pc ls st h = some (.inl s')) (hL : mj_L G i ls lsC) (hR : mj_Rep G s h H) (hlo : ∀ q ∈ locs, G.2.2.2 < q.base)
  (hc : cells + (s'.2.2.2.2.1 - h.2.1) ≤ R.cells) (hsl : slots + (s'.2.2.2.2.2 - h.2.2) ≤ R.slots)
  (kk : ∀ (lsC' : Array Slot) (H' : Heap) (locs' : List Loc), mj_L G i s'.2.1 lsC' → mj_Rep G s s'.2.2.2 H' → (∀ q ∈ locs', G.2.2.2 < q.base) → W p l e R s m args below meth c H' locs' (cells + (s'.2.2.2.2.1 - h.2.1)) (slots + (s'.2.2.2.2.2 - h.2.2)) Q (F0 m s'.1 lsC' (s'.2.2.1.map (mj_cv G)))) : W p l e R s m args below meth c H locs cells slots Q (F0 m pc lsC (st.map (mj_cv G))) := by
  obtain ⟨hx, hb, hml, hown, hts, hret, hlk, hnm, hfr, hlr⟩ := C
  have hdg0 := mj_dec0 hat
  have hln := mj_len0 hat
  have hck := mj_chk0 hat
  simp only [mj_lnok, mj_ln, beq_iff_eq] at hln
  subst hln
  have hdg := hdg0
  clear hdg0
  simp only [mj_step, mj_nx] at hs
  split at hs
  · rename_i x st1
    split at hs
    · rename_i t l hcell
      cases hs
      have hc1 := (hR.2.2.2 x _ hcell).2
      rcases hc1 with ⟨rfl, h2, h3⟩ | ⟨rfl, h2, h3⟩ | ⟨rfl, rfl, h3⟩
      · refine W.alen (n := Int32.ofNat l.length) hx hb h3 ((K.1.2 0 _ rfl).1 l.length _) (by rw [arrV_size]) rfl rfl hdg ?_
        exact mj_w0 (x := h.2.1) (y := h.2.2) (kk lsC H locs hL hR hlo)
      · refine W.alen (n := Int32.ofNat l.length) hx hb h3 ((K.1.2 1 _ rfl).1 l.length _) (by rw [arrV_size]) rfl rfl hdg ?_
        exact mj_w0 (x := h.2.1) (y := h.2.2) (kk lsC H locs hL hR hlo)
      · obtain ⟨scr, z1, z2, z3, z4, z5⟩ := h3
        refine W.alen (n := Int32.ofNat l.length) (a := G.2.2.1) hx hb z1 z2 (by rw [z4]) rfl rfl hdg ?_
        exact mj_w0 (x := h.2.1) (y := h.2.2) (kk lsC H locs hL hR hlo)
    · cases hs
  · cases hs
set_option maxHeartbeats 4000000 in
theorem mj_s_iaload (C : mj_Cx p s m args meth c i R) (K : mj_Kn G s) (hat : mj_at i pc = some (.iaload, len, a, b)) (hs : mj_step i (.iaload, len, a, b) pc ls st h = some (.inl s')) (hL : mj_L G i ls lsC) (hR : mj_Rep G s h H) (hlo : ∀ q ∈ locs, G.2.2.2 < q.base)
  (hc : cells + (s'.2.2.2.2.1 - h.2.1) ≤ R.cells) (hsl : slots + (s'.2.2.2.2.2 - h.2.2) ≤ R.slots)
  (kk : ∀ (lsC' : Array Slot) (H' : Heap) (locs' : List Loc), mj_L G i s'.2.1 lsC' → mj_Rep G s s'.2.2.2 H' → (∀ q ∈ locs', G.2.2.2 < q.base) → W p l e R s m args below meth c H' locs' (cells + (s'.2.2.2.2.1 - h.2.1)) (slots + (s'.2.2.2.2.2 - h.2.2)) Q (F0 m s'.1 lsC' (s'.2.2.1.map (mj_cv G)))) : W p l e R s m args below meth c H locs cells slots Q (F0 m pc lsC (st.map (mj_cv G))) := by
  obtain ⟨hx, hb, hml, hown, hts, hret, hlk, hnm, hfr, hlr⟩ := C
  have hdg0 := mj_dec0 hat
  have hln := mj_len0 hat
  have hck := mj_chk0 hat
  simp only [mj_lnok, mj_ln, beq_iff_eq] at hln
  subst hln
  have hdg := hdg0
  clear hdg0
  simp only [mj_step, mj_nx] at hs
  split at hs
  · rename_i j x st1
    split at hs
    · rename_i t l hcell
      split at hs
      · rename_i hcnd
        split at hs
        · rename_i v hv
          cases hs
          have hlt := (List.getElem?_eq_some_iff.mp hv).1
          have hgd : l.getD j.toNatClampNeg 0 = v := by simp [List.getD, hv]
          rcases (hR.2.2.2 x _ hcell).2 with ⟨rfl, h2, h3⟩ | ⟨rfl, h2, h3⟩ | ⟨rfl, rfl, h3⟩
          · refine W.iald (v := .int v) hx hb h3 ((K.1.2 0 _ rfl).1 l.length _) (fun q => by cases q) (mj_in hcnd.2 hlt) (by rw [arrV_read _ _ hlt, hgd]) rfl rfl hdg ?_
            exact mj_w0 (x := h.2.1) (y := h.2.2) (kk lsC H locs hL hR hlo)
          · exact absurd rfl hcnd.1
          · obtain ⟨scr, z1, z2, z3, z4, z5⟩ := h3
            refine W.iald (v := .int v) (a := G.2.2.1) hx hb z1 z2 z3 (by rw [z4]; rintro (q | q); exact hcnd.2 q; omega) (by rw [z5 _ hlt]; exact congrArg (fun w => some (Value.int w)) hgd) rfl rfl hdg ?_
            exact mj_w0 (x := h.2.1) (y := h.2.2) (kk lsC H locs hL hR hlo)
        · cases hs
      · cases hs
    · cases hs
  · cases hs
set_option maxHeartbeats 4000000 in
theorem mj_s_baload (C : mj_Cx p s m args meth c i R) (K : mj_Kn G s) (hat : mj_at i pc = some (.baload, len, a, b)) (hs : mj_step i (.baload, len, a, b) pc ls st h = some (.inl s')) (hL : mj_L G i ls lsC) (hR : mj_Rep G s h H) (hlo : ∀ q ∈ locs, G.2.2.2 < q.base)
  (hc : cells + (s'.2.2.2.2.1 - h.2.1) ≤ R.cells) (hsl : slots + (s'.2.2.2.2.2 - h.2.2) ≤ R.slots)
  (kk : ∀ (lsC' : Array Slot) (H' : Heap) (locs' : List Loc), mj_L G i s'.2.1 lsC' → mj_Rep G s s'.2.2.2 H' → (∀ q ∈ locs', G.2.2.2 < q.base) → W p l e R s m args below meth c H' locs' (cells + (s'.2.2.2.2.1 - h.2.1)) (slots + (s'.2.2.2.2.2 - h.2.2)) Q (F0 m s'.1 lsC' (s'.2.2.1.map (mj_cv G)))) : W p l e R s m args below meth c H locs cells slots Q (F0 m pc lsC (st.map (mj_cv G))) := by
  obtain ⟨hx, hb, hml, hown, hts, hret, hlk, hnm, hfr, hlr⟩ := C
  have hdg0 := mj_dec0 hat
  have hln := mj_len0 hat
  have hck := mj_chk0 hat
  simp only [mj_lnok, mj_ln, beq_iff_eq] at hln
  subst hln
  have hdg := hdg0
  clear hdg0
  simp only [mj_step, mj_nx] at hs
  split at hs
  · rename_i j x st1
    split at hs
    · rename_i t l hcell
      split at hs
      · rename_i hcnd
        split at hs
        · rename_i v hv
          cases hs
          obtain ⟨rfl, hj0⟩ := hcnd
          have hlt := (List.getElem?_eq_some_iff.mp hv).1
          have hgd : l.getD j.toNatClampNeg 0 = v := by simp [List.getD, hv]
          refine W.zald (v := .int v) hx hb (hR.i1 hcell).2 ((K.1.2 1 _ rfl).1 l.length _) (fun q => by cases q) (mj_in hj0 hlt) (by rw [arrV_read _ _ hlt, hgd]) rfl rfl hdg ?_
          exact mj_w0 (x := h.2.1) (y := h.2.2) (kk lsC H locs hL hR hlo)
        · cases hs
      · cases hs
    · cases hs
  · cases hs
set_option maxHeartbeats 4000000 in
theorem mj_s_aaload (C : mj_Cx p s m args meth c i R) (K : mj_Kn G s) (hat : mj_at i pc = some (.aaload, len, a, b)) (hs : mj_step i (.aaload, len, a, b) pc ls st h = some (.inl s')) (hL : mj_L G i ls lsC) (hR : mj_Rep G s h H) (hlo : ∀ q ∈ locs, G.2.2.2 < q.base)
  (hc : cells + (s'.2.2.2.2.1 - h.2.1) ≤ R.cells) (hsl : slots + (s'.2.2.2.2.2 - h.2.2) ≤ R.slots)
  (kk : ∀ (lsC' : Array Slot) (H' : Heap) (locs' : List Loc), mj_L G i s'.2.1 lsC' → mj_Rep G s s'.2.2.2 H' → (∀ q ∈ locs', G.2.2.2 < q.base) → W p l e R s m args below meth c H' locs' (cells + (s'.2.2.2.2.1 - h.2.1)) (slots + (s'.2.2.2.2.2 - h.2.2)) Q (F0 m s'.1 lsC' (s'.2.2.1.map (mj_cv G)))) : W p l e R s m args below meth c H locs cells slots Q (F0 m pc lsC (st.map (mj_cv G))) := by
  obtain ⟨hx, hb, hml, hown, hts, hret, hlk, hnm, hfr, hlr⟩ := C
  have hdg0 := mj_dec0 hat
  have hln := mj_len0 hat
  have hck := mj_chk0 hat
  simp only [mj_lnok, mj_ln, beq_iff_eq] at hln
  subst hln
  have hdg := hdg0
  clear hdg0
  simp only [mj_step, mj_nx] at hs
  split at hs
  · rename_i j x st1
    split at hs
    · rename_i t l hcell
      split at hs
      · rename_i hcnd
        split at hs
        · rename_i v hv
          cases hs
          obtain ⟨rfl, hj0⟩ := hcnd
          have hlt := (List.getElem?_eq_some_iff.mp hv).1
          have hgd : l.getD j.toNatClampNeg .null = .ref v := by simp [List.getD, hv]
          refine W.aald (ty := .object "DumplingBand$March") (v := .ref (mj_ad G v)) hx hb (hR.q hcell).2 ((K.1.2 2 _ rfl).1 l.length _) rfl (fun q => by cases q) (mj_in hj0 hlt) (by rw [arrV_read _ _ hlt, hgd]; rfl) rfl rfl hdg ?_
          exact mj_w0 (x := h.2.1) (y := h.2.2) (kk lsC H locs hL hR hlo)
        · cases hs
      · cases hs
    · cases hs
  · cases hs
set_option maxHeartbeats 4000000 in
theorem mj_s_iastore (C : mj_Cx p s m args meth c i R) (K : mj_Kn G s) (hat : mj_at i pc = some (.iastore, len, a, b)) (hs : mj_step i (.iastore, len, a, b) pc ls st h = some (.inl s')) (hL : mj_L G i ls lsC) (hR : mj_Rep G s h H) (hlo : ∀ q ∈ locs, G.2.2.2 < q.base)
  (hc : cells + (s'.2.2.2.2.1 - h.2.1) ≤ R.cells) (hsl : slots + (s'.2.2.2.2.2 - h.2.2) ≤ R.slots)
  (kk : ∀ (lsC' : Array Slot) (H' : Heap) (locs' : List Loc), mj_L G i s'.2.1 lsC' → mj_Rep G s s'.2.2.2 H' → (∀ q ∈ locs', G.2.2.2 < q.base) → W p l e R s m args below meth c H' locs' (cells + (s'.2.2.2.2.1 - h.2.1)) (slots + (s'.2.2.2.2.2 - h.2.2)) Q (F0 m s'.1 lsC' (s'.2.2.1.map (mj_cv G)))) : W p l e R s m args below meth c H locs cells slots Q (F0 m pc lsC (st.map (mj_cv G))) := by
  obtain ⟨hx, hb, hml, hown, hts, hret, hlk, hnm, hfr, hlr⟩ := C
  have hdg0 := mj_dec0 hat
  have hln := mj_len0 hat
  have hck := mj_chk0 hat
  simp only [mj_lnok, mj_ln, beq_iff_eq] at hln
  subst hln
  have hdg := hdg0
  clear hdg0
  simp only [mj_step, mj_nx] at hs
  split at hs
  · rename_i v j x st1
    split at hs
    · rename_i t l hcell
      split at hs
      · rename_i hcnd
        cases hs
        obtain ⟨rfl, hj0, hlt⟩ := hcnd
        obtain ⟨hp, hcl⟩ := hR.i0 hcell
        refine W.iast hx hb hcl ((K.1.2 0 _ rfl).1 l.length _) (fun q => by cases q) (mj_in hj0 hlt) rfl rfl hdg fun H1 e1 e2 e3 => ?_
        rw [mj_arr_set hlt] at e1
        exact mj_w0 (x := h.2.1) (y := h.2.2) (kk lsC H1 _ hL (hR.up hcell hp e2 e3 (Or.inl ⟨rfl, hp, e1⟩)) (mj_lo hlo hp))
      · cases hs
    · cases hs
  · cases hs
set_option maxHeartbeats 4000000 in
theorem mj_s_bastore (C : mj_Cx p s m args meth c i R) (K : mj_Kn G s) (hat : mj_at i pc = some (.bastore, len, a, b)) (hs : mj_step i (.bastore, len, a, b) pc ls st h = some (.inl s')) (hL : mj_L G i ls lsC) (hR : mj_Rep G s h H) (hlo : ∀ q ∈ locs, G.2.2.2 < q.base)
  (hc : cells + (s'.2.2.2.2.1 - h.2.1) ≤ R.cells) (hsl : slots + (s'.2.2.2.2.2 - h.2.2) ≤ R.slots)
  (kk : ∀ (lsC' : Array Slot) (H' : Heap) (locs' : List Loc), mj_L G i s'.2.1 lsC' → mj_Rep G s s'.2.2.2 H' → (∀ q ∈ locs', G.2.2.2 < q.base) → W p l e R s m args below meth c H' locs' (cells + (s'.2.2.2.2.1 - h.2.1)) (slots + (s'.2.2.2.2.2 - h.2.2)) Q (F0 m s'.1 lsC' (s'.2.2.1.map (mj_cv G)))) : W p l e R s m args below meth c H locs cells slots Q (F0 m pc lsC (st.map (mj_cv G))) := by
  obtain ⟨hx, hb, hml, hown, hts, hret, hlk, hnm, hfr, hlr⟩ := C
  have hdg0 := mj_dec0 hat
  have hln := mj_len0 hat
  have hck := mj_chk0 hat
  simp only [mj_lnok, mj_ln, beq_iff_eq] at hln
  subst hln
  have hdg := hdg0
  clear hdg0
  simp only [mj_step, mj_nx] at hs
  split at hs
  · rename_i v j x st1
    split at hs
    · rename_i t l hcell
      split at hs
      · rename_i hcnd
        cases hs
        obtain ⟨rfl, hj0, hlt, h01⟩ := hcnd
        obtain ⟨hp, hcl⟩ := hR.i1 hcell
        refine W.zast hx hb hcl ((K.1.2 1 _ rfl).1 l.length _) (fun q => by cases q) (mj_in hj0 hlt) rfl rfl hdg fun H1 e1 e2 e3 => ?_
        have hnz : narrow .boolean (.int v) = .int v := (mj_okv_ok (G := G) (ty := .boolean) (v := .int v) h01).1
        rw [hnz, mj_arr_set hlt] at e1
        exact mj_w0 (x := h.2.1) (y := h.2.2) (kk lsC H1 _ hL (hR.up hcell hp e2 e3 (Or.inr (Or.inl ⟨rfl, hp, e1⟩))) (mj_lo hlo hp))
      · cases hs
    · cases hs
  · cases hs
set_option maxHeartbeats 4000000 in
theorem mj_s_aastore (C : mj_Cx p s m args meth c i R) (K : mj_Kn G s) (hat : mj_at i pc = some (.aastore, len, a, b)) (hs : mj_step i (.aastore, len, a, b) pc ls st h = some (.inl s')) (hL : mj_L G i ls lsC) (hR : mj_Rep G s h H) (hlo : ∀ q ∈ locs, G.2.2.2 < q.base)
  (hc : cells + (s'.2.2.2.2.1 - h.2.1) ≤ R.cells) (hsl : slots + (s'.2.2.2.2.2 - h.2.2) ≤ R.slots)
  (kk : ∀ (lsC' : Array Slot) (H' : Heap) (locs' : List Loc), mj_L G i s'.2.1 lsC' → mj_Rep G s s'.2.2.2 H' → (∀ q ∈ locs', G.2.2.2 < q.base) → W p l e R s m args below meth c H' locs' (cells + (s'.2.2.2.2.1 - h.2.1)) (slots + (s'.2.2.2.2.2 - h.2.2)) Q (F0 m s'.1 lsC' (s'.2.2.1.map (mj_cv G)))) : W p l e R s m args below meth c H locs cells slots Q (F0 m pc lsC (st.map (mj_cv G))) := by
  obtain ⟨hx, hb, hml, hown, hts, hret, hlk, hnm, hfr, hlr⟩ := C
  have hdg0 := mj_dec0 hat
  have hln := mj_len0 hat
  have hck := mj_chk0 hat
  simp only [mj_lnok, mj_ln, beq_iff_eq] at hln
  subst hln
  have hdg := hdg0
  clear hdg0
  simp only [mj_step, mj_nx] at hs
  split at hs
  · rename_i v j x st1
    split at hs
    · rename_i t l hcell
      split at hs
      · rename_i hcnd
        cases hs
        obtain ⟨rfl, hj0, hlt, hmc⟩ := hcnd
        obtain ⟨hp, hcl⟩ := hR.q hcell
        unfold mj_isC at hmc
        split at hmc
        · rename_i d fs hv
          have hd : d = 2 := by simpa using hmc
          subst hd
          obtain ⟨hvp, C2, T2, N2, c1, -, cellV, g1, g2, g3, -⟩ := hR.o (by decide) hv
          have hcls := (K.1.1 2 _ c1).2
          have hC2 := (mj_clf c1).1
          subst hC2
          obtain ⟨kA, comp, k1, k2, k3, -⟩ := (K.1.2 2 _ rfl).2
          have hcomp : comp = G.1.1 2 := Option.some.inj (k3.symm.trans hcls.1)
          subst hcomp
          obtain ⟨kC, hkC, -⟩ := hcls.2
          refine W.aast hx hb hcl (fun q h => by cases h) (fun h => by cases h) k1 k2 rfl hkC ⟨hj0, by rw [arrV_size]; exact hlt⟩ g1 (fun q h => by rw [g3] at h; cases h) (by rw [g2]; exact hkC) (by rw [g2]; exact va_assign hcls) rfl rfl hdg fun H1 e1 e2 e3 => ?_
          rw [mj_arr_setq hlt] at e1
          exact mj_w0 (x := h.2.1) (y := h.2.2) (kk lsC H1 _ hL (hR.up hcell hp e2 e3 ⟨hp, Or.inl ⟨rfl, e1⟩⟩) (mj_lo hlo hp))
        · cases hmc
      · cases hs
    · cases hs
  · cases hs
set_option maxHeartbeats 4000000 in
theorem mj_s_getfield {n : Nat} (C : mj_Cx p s m args meth c i R) (K : mj_Kn G s) (hat : mj_at i pc = some (.getfield n, len, a, b)) (hs : mj_step i (.getfield n, len, a, b) pc ls st h = some (.inl s')) (hL : mj_L G i ls lsC) (hR : mj_Rep G s h H) (hlo : ∀ q ∈ locs, G.2.2.2 < q.base)
  (hc : cells + (s'.2.2.2.2.1 - h.2.1) ≤ R.cells) (hsl : slots + (s'.2.2.2.2.2 - h.2.2) ≤ R.slots)
  (kk : ∀ (lsC' : Array Slot) (H' : Heap) (locs' : List Loc), mj_L G i s'.2.1 lsC' → mj_Rep G s s'.2.2.2 H' → (∀ q ∈ locs', G.2.2.2 < q.base) → W p l e R s m args below meth c H' locs' (cells + (s'.2.2.2.2.1 - h.2.1)) (slots + (s'.2.2.2.2.2 - h.2.2)) Q (F0 m s'.1 lsC' (s'.2.2.1.map (mj_cv G)))) : W p l e R s m args below meth c H locs cells slots Q (F0 m pc lsC (st.map (mj_cv G))) := by
  obtain ⟨hx, hb, hml, hown, hts, hret, hlk, hnm, hfr, hlr⟩ := C
  have hdg0 := mj_dec0 hat
  have hln := mj_len0 hat
  have hck := mj_chk0 hat
  simp only [mj_lnok, mj_ln, beq_iff_eq] at hln
  subst hln
  have hdg := hdg0
  clear hdg0
  simp only [mj_chk] at hck
  obtain ⟨hlink, hbn⟩ := mj_fld hck
  simp only [mj_step, mj_nx] at hs
  split at hs
  · rename_i x st1
    split at hs
    · rename_i t fs hcell
      split at hs
      · rename_i hta
        subst hta
        split at hs
        · rename_i v hv
          cases hs
          obtain ⟨hp, C, T, N, c1, c2, c3⟩ := hR.o (mj_nf8 hbn) hcell
          obtain ⟨d1, d2, d3, d4, d5, d6⟩ := mj_clf c1
          subst d3
          refine va_get (ci := t) hx hb hts d4 hown K.1 (mj_oP c1 c3) 0 (fs := fs.map (mj_cv G)) rfl c1 b (by rw [d2]; exact hbn) (hts _ hlink) (fun _ z => z) (v := mj_cv G v) (by rw [List.getElem?_map, hv]; rfl) hdg ?_
          exact mj_w0 (x := h.2.1) (y := h.2.2) (kk lsC H locs hL hR hlo)
        · cases hs
      · cases hs
    · cases hs
  · cases hs
set_option maxHeartbeats 4000000 in
theorem mj_s_putfield {n : Nat} (C : mj_Cx p s m args meth c i R) (K : mj_Kn G s) (hat : mj_at i pc = some (.putfield n, len, a, b)) (hs : mj_step i (.putfield n, len, a, b) pc ls st h = some (.inl s')) (hL : mj_L G i ls lsC) (hR : mj_Rep G s h H) (hlo : ∀ q ∈ locs, G.2.2.2 < q.base)
  (hc : cells + (s'.2.2.2.2.1 - h.2.1) ≤ R.cells) (hsl : slots + (s'.2.2.2.2.2 - h.2.2) ≤ R.slots)
  (kk : ∀ (lsC' : Array Slot) (H' : Heap) (locs' : List Loc), mj_L G i s'.2.1 lsC' → mj_Rep G s s'.2.2.2 H' → (∀ q ∈ locs', G.2.2.2 < q.base) → W p l e R s m args below meth c H' locs' (cells + (s'.2.2.2.2.1 - h.2.1)) (slots + (s'.2.2.2.2.2 - h.2.2)) Q (F0 m s'.1 lsC' (s'.2.2.1.map (mj_cv G)))) : W p l e R s m args below meth c H locs cells slots Q (F0 m pc lsC (st.map (mj_cv G))) := by
  obtain ⟨hx, hb, hml, hown, hts, hret, hlk, hnm, hfr, hlr⟩ := C
  have hdg0 := mj_dec0 hat
  have hln := mj_len0 hat
  have hck := mj_chk0 hat
  simp only [mj_lnok, mj_ln, beq_iff_eq] at hln
  subst hln
  have hdg := hdg0
  clear hdg0
  simp only [mj_chk, Bool.and_eq_true, Bool.or_eq_true, Bool.not_eq_true', beq_iff_eq] at hck
  obtain ⟨hck1, hfinc⟩ := hck
  obtain ⟨hlink, hbn⟩ := mj_fld (by simpa using hck1)
  simp only [mj_step, mj_nx] at hs
  split at hs
  · rename_i v x st1
    split at hs
    · rename_i t fs hcell
      split at hs
      · rename_i hcnd
        obtain ⟨rfl, hbl, hov⟩ := hcnd
        cases hs
        obtain ⟨hp, C, T, N, c1, c2, c3⟩ := hR.o (mj_nf8 hbn) hcell
        obtain ⟨d1, d2, d3, d4, d5, d6⟩ := mj_clf c1
        subst d3
        have hbN : b < N := by rw [d2]; exact hbn
        have hap := va_apart (own := C) (D := G.1) (cl := mj_cl) hts d4 (mj_ft t) d5 d6 K.1 c1
        obtain ⟨cell, q1, q2, q3, q4⟩ := c3
        obtain ⟨hSl, hfc, kC, hkC, hkind⟩ := K.1.1 t _ c1
        obtain ⟨cf, kf, fi, f, hi, hsl2⟩ := hSl b hbN
        have hst := (u_facts hfc hkC (u_lays hts d4 hbN) hi).1
        have hlay := hts _ (d4 _ (u_in_lay hbN))
        obtain ⟨o1, o2⟩ := mj_okv_ok (G := G) hov
        have fin : ∀ H1 : Heap, H1[mj_ad G x]? = some (cell.setSlot f.slot (mj_cv G v)) → H1.size = H.size → (∀ q, q ≠ mj_ad G x → H1[q]? = H[q]?) → W p l e R s m args below meth c H1 (locs ++ [⟨mj_ad G x, f.slot⟩]) cells slots Q (F0 m (pc + 3) lsC (st1.map (mj_cv G))) := by
          intro H1 e1 e2 e3
          rw [hsl2] at e1
          have hob : t_OB (mj_ad G x) (G.1.1 t) N (G.1.2 t) H1 (vp_V ((fs.set b v).map (mj_cv G))) := by
            refine t_OB.to (V := updV (vp_V (fs.map (mj_cv G))) b (mj_cv G v)) ⟨_, e1, q2, q3, t_set q4 hap hbN (mj_cv G v)⟩ (fun j _ => ?_)
            rw [List.map_set]
            exact vp_updV_set (by rw [List.length_map]; exact hbl) _ j
          exact mj_w0 (x := h.2.1) (y := h.2.2) (kk lsC H1 _ hL (hR.up hcell hp e2 e3 ⟨hp, Or.inr ⟨mj_nf8 hbn, C, mj_tf t, N, c1, by rw [List.length_set]; exact c2, hob⟩⟩) (mj_lo hlo hp))
        unfold u_lay at hlay
        by_cases hfin : (mj_tf t b).2.2.2 = true
        · rw [if_pos hfin] at hlay
          rw [hfin] at hfinc
          simp only [Bool.true_eq_false, false_or] at hfinc
          obtain ⟨hinit, hdecl⟩ := hfinc
          have hcf : m.cls = cf := by
            obtain ⟨_, _, c', _, _, _, -, -, hf', -, -, -, hown2, -⟩ := Cond.laysFinal_spec hlay
            have e1 : c' = cf := by have := hi.symm.trans hf'; simp at this; exact this.1.symm
            rw [hdecl] at hown2
            rw [← e1]; exact Option.some.inj (hown.symm.trans hown2)
          have h6 := u_fits hfc hkC hkind (Or.inr hlay) hi (d5 b hbN) o1 o2
          exact W.putFinK hx hb hown (hts _ hlink) hi hst hcf (hnm hinit) (by rw [q2]; exact h6) q1 q3 (by rw [hsl2]; exact k2_hasslot (q4 b hbN)) rfl rfl hdg fin
        · rw [if_neg hfin] at hlay
          have h6 := u_store hfc hkC hkind hlay hi (d5 b hbN) o1 o2
          exact W.putK hx hb (f := f) ⟨hown, hts _ hlink, ⟨_, _, _, hi⟩, hst⟩ (by rw [q2]; exact h6) q1 q3 (by rw [hsl2]; exact k2_hasslot (q4 b hbN)) rfl rfl hdg fin
      · cases hs
    · cases hs
  · cases hs
theorem mj_cv_dfl (G : mj_G) (ty : FieldType) : mj_cv G (defaultValue ty) = defaultValue ty := by cases ty <;> rfl
theorem mj_dfl_len (a : Nat) : (mj_dfl a).length = mj_nf a := by simp [mj_dfl]
theorem mj_dfl_at {a k : Nat} (h : k < mj_nf a) : vp_V ((mj_dfl a).map (mj_cv G)) k = defaultValue (mj_ft a k) := by
  have h1 : ((mj_dfl a).map (mj_cv G))[k]? = some (defaultValue (mj_ft a k)) := by
    simp [mj_dfl, h, mj_cv_dfl]
  simp only [vp_V, List.getD, h1, Option.getD_some]
theorem mj_repl {n : Nat} {v : Int32} : (fun j => Value.int ((List.replicate n v).getD j v)) = fun _ => Value.int v := by
  funext j
  congr 1
  by_cases hj : j < n
  · simp [List.getD, hj]
  · simp [List.getD, hj]
theorem mj_replq {n : Nat} : (fun j => mj_cv G ((List.replicate n Value.null).getD j .null)) = fun _ => Value.null := by
  funext j
  by_cases hj : j < n
  · simp [List.getD, hj, mj_cv]
  · simp [List.getD, hj, mj_cv]
set_option maxHeartbeats 4000000 in
theorem mj_s_new {n : Nat} (C : mj_Cx p s m args meth c i R) (K : mj_Kn G s) (hat : mj_at i pc = some (.new n, len, a, b)) (hs : mj_step i (.new n, len, a, b) pc ls st h = some (.inl s')) (hL : mj_L G i ls lsC) (hR : mj_Rep G s h H) (hlo : ∀ q ∈ locs, G.2.2.2 < q.base)
  (hc : cells + (s'.2.2.2.2.1 - h.2.1) ≤ R.cells) (hsl : slots + (s'.2.2.2.2.2 - h.2.2) ≤ R.slots)
  (kk : ∀ (lsC' : Array Slot) (H' : Heap) (locs' : List Loc), mj_L G i s'.2.1 lsC' → mj_Rep G s s'.2.2.2 H' → (∀ q ∈ locs', G.2.2.2 < q.base) → W p l e R s m args below meth c H' locs' (cells + (s'.2.2.2.2.1 - h.2.1)) (slots + (s'.2.2.2.2.2 - h.2.2)) Q (F0 m s'.1 lsC' (s'.2.2.1.map (mj_cv G)))) : W p l e R s m args below meth c H locs cells slots Q (F0 m pc lsC (st.map (mj_cv G))) := by
  obtain ⟨hx, hb, hml, hown, hts, hret, hlk, hnm, hfr, hlr⟩ := C
  have hdg0 := mj_dec0 hat
  have hln := mj_len0 hat
  have hck := mj_chk0 hat
  simp only [mj_lnok, mj_ln, beq_iff_eq] at hln
  subst hln
  have hdg := hdg0
  clear hdg0
  simp only [mj_chk, Bool.and_eq_true, decide_eq_true_eq] at hck
  obtain ⟨hck1, ha8⟩ := hck
  simp only [mj_step, mj_nx] at hs
  cases hs
  obtain ⟨C, T, N, c1⟩ := mj_cl_ex ha8
  obtain ⟨d1, d2, d3, d4, d5, d6⟩ := mj_clf c1
  subst d1
  subst d2
  have hKn := K.1.1 a _ c1
  have hc1 : cells + (h.2.1 + 1 - h.2.1) ≤ R.cells := hc
  have hc2 : slots + (h.2.2 + (mj_dfl a).length - h.2.2) ≤ R.slots := hsl
  rw [mj_dfl_len] at hc2
  refine W.newcK hx hb hown (hts _ (mj_cls hck1)) (hts _ (mj_ins ha8)) (hts _ (mj_ini (by omega))) rfl hdg (by omega) (by omega) hKn.2.1 rfl fun H1 kC hkC e1 z1 o1 => ?_
  have hob : t_OB (mj_ad G h.2.1) (G.1.1 a) (mj_nf a) (G.1.2 a) H1 (vp_V ((mj_dfl a).map (mj_cv G))) := by
    rw [hR.adnew]
    exact (u_born (mj_ft a) hts d4 hKn hkC e1 d5).to (fun k hk => (mj_dfl_at hk).symm)
  have kz := kk lsC H1 locs hL (hR.new z1 o1 ⟨hR.2.2.1, Or.inr ⟨mj_lt99 c1, _, T, _, c1, mj_dfl_len a, hob⟩⟩) hlo
  have kz2 := mj_w1 (x := h.2.1) (y := h.2.2) (z := (mj_dfl a).length) kz
  rw [mj_dfl_len] at kz2
  have kz3 : W p l e R s m args below meth c H1 locs (cells + 1) (slots + mj_nf a) Q (F0 m (pc + 3) lsC (.ref (mj_ad G h.2.1) :: st.map (mj_cv G))) := kz2
  rw [hR.adnew] at kz3
  exact kz3
set_option maxHeartbeats 4000000 in
theorem mj_s_newarrayI (C : mj_Cx p s m args meth c i R) (K : mj_Kn G s) (hat : mj_at i pc = some (.newarray .int, len, a, b)) (hs : mj_step i (.newarray .int, len, a, b) pc ls st h = some (.inl s')) (hL : mj_L G i ls lsC) (hR : mj_Rep G s h H) (hlo : ∀ q ∈ locs, G.2.2.2 < q.base)
  (hc : cells + (s'.2.2.2.2.1 - h.2.1) ≤ R.cells) (hsl : slots + (s'.2.2.2.2.2 - h.2.2) ≤ R.slots)
  (kk : ∀ (lsC' : Array Slot) (H' : Heap) (locs' : List Loc), mj_L G i s'.2.1 lsC' → mj_Rep G s s'.2.2.2 H' → (∀ q ∈ locs', G.2.2.2 < q.base) → W p l e R s m args below meth c H' locs' (cells + (s'.2.2.2.2.1 - h.2.1)) (slots + (s'.2.2.2.2.2 - h.2.2)) Q (F0 m s'.1 lsC' (s'.2.2.1.map (mj_cv G)))) : W p l e R s m args below meth c H locs cells slots Q (F0 m pc lsC (st.map (mj_cv G))) := by
  obtain ⟨hx, hb, hml, hown, hts, hret, hlk, hnm, hfr, hlr⟩ := C
  have hdg0 := mj_dec0 hat
  have hln := mj_len0 hat
  have hck := mj_chk0 hat
  simp only [mj_lnok, mj_ln, beq_iff_eq] at hln
  subst hln
  have hdg := hdg0
  clear hdg0
  simp only [mj_step, mj_nx] at hs
  split at hs
  · rename_i n st1
    split at hs
    · rename_i hcnd
      cases hs
      have hc1 : cells + (h.2.1 + 1 - h.2.1) ≤ R.cells := hc
      have hc2 : slots + (h.2.2 + (List.replicate n.toNatClampNeg (0 : Int32)).length - h.2.2) ≤ R.slots := hsl
      rw [List.length_replicate] at hc2
      have hby : n.toNatClampNeg * componentBytes (Op.newarray.typeOf .int) ≤ 536870912 := by
        have h4 : componentBytes (Op.newarray.typeOf .int) = 4 := rfl
        rw [h4]
        omega
      refine W.newa (atype := .int) hx hb (hts _ (mj_has_in mj_arrI)) rfl hdg rfl hcnd.1 hby (by omega) (by omega) fun cA kA comp f1 f2 f3 => ?_
      have hcA : cA = G.2.1.1 := Option.some.inj (f1.symm.trans (K.1.2 0 _ rfl).2)
      subst hcA
      generalize hH1 : H.push _ = H1
      have z1 : H1.size = H.size + 1 := by rw [← hH1, Array.size_push]
      have e1 : H1[H.size]? = some (arrV G.2.1.1 n.toNatClampNeg (fun _ => .int 0)) := by rw [← hH1, Array.getElem?_push_size, ← arrV_new]; rfl
      have o1 : ∀ q : Nat, q < H.size → H1[q]? = H[q]? := fun q hq => by rw [← hH1, Array.getElem?_push, if_neg (Nat.ne_of_lt hq)]
      have hcl : mj_cell G s H1 h.2.1 (.inl (0, List.replicate n.toNatClampNeg 0)) := by
        refine (Or.inl ⟨rfl, hR.2.2.1, ?_⟩)
        rw [hR.adnew, e1, mj_repl, List.length_replicate]
      have kz := mj_w1 (x := h.2.1) (y := h.2.2) (z := (List.replicate n.toNatClampNeg (0 : Int32)).length) (kk lsC H1 locs hL (hR.new z1 o1 hcl) hlo)
      rw [List.length_replicate] at kz
      have kz3 : W p l e R s m args below meth c H1 locs (cells + 1) (slots + n.toNatClampNeg) Q (F0 m (pc + 2) lsC (.ref (mj_ad G h.2.1) :: st1.map (mj_cv G))) := kz
      rw [hR.adnew] at kz3
      exact kz3
    · cases hs
  · cases hs
set_option maxHeartbeats 4000000 in
theorem mj_s_newarrayZ (C : mj_Cx p s m args meth c i R) (K : mj_Kn G s) (hat : mj_at i pc = some (.newarray .boolean, len, a, b)) (hs : mj_step i (.newarray .boolean, len, a, b) pc ls st h = some (.inl s')) (hL : mj_L G i ls lsC) (hR : mj_Rep G s h H) (hlo : ∀ q ∈ locs, G.2.2.2 < q.base)
  (hc : cells + (s'.2.2.2.2.1 - h.2.1) ≤ R.cells) (hsl : slots + (s'.2.2.2.2.2 - h.2.2) ≤ R.slots)
  (kk : ∀ (lsC' : Array Slot) (H' : Heap) (locs' : List Loc), mj_L G i s'.2.1 lsC' → mj_Rep G s s'.2.2.2 H' → (∀ q ∈ locs', G.2.2.2 < q.base) → W p l e R s m args below meth c H' locs' (cells + (s'.2.2.2.2.1 - h.2.1)) (slots + (s'.2.2.2.2.2 - h.2.2)) Q (F0 m s'.1 lsC' (s'.2.2.1.map (mj_cv G)))) : W p l e R s m args below meth c H locs cells slots Q (F0 m pc lsC (st.map (mj_cv G))) := by
  obtain ⟨hx, hb, hml, hown, hts, hret, hlk, hnm, hfr, hlr⟩ := C
  have hdg0 := mj_dec0 hat
  have hln := mj_len0 hat
  have hck := mj_chk0 hat
  simp only [mj_lnok, mj_ln, beq_iff_eq] at hln
  subst hln
  have hdg := hdg0
  clear hdg0
  simp only [mj_step, mj_nx] at hs
  split at hs
  · rename_i n st1
    split at hs
    · rename_i hcnd
      cases hs
      have hc1 : cells + (h.2.1 + 1 - h.2.1) ≤ R.cells := hc
      have hc2 : slots + (h.2.2 + (List.replicate n.toNatClampNeg (0 : Int32)).length - h.2.2) ≤ R.slots := hsl
      rw [List.length_replicate] at hc2
      have hby : n.toNatClampNeg * componentBytes (Op.newarray.typeOf .boolean) ≤ 536870912 := by
        have h4 : componentBytes (Op.newarray.typeOf .boolean) = 1 := rfl
        rw [h4]
        omega
      refine W.newa (atype := .boolean) hx hb (hts _ (mj_has_in mj_arrZ)) rfl hdg rfl hcnd.1 hby (by omega) (by omega) fun cA kA comp f1 f2 f3 => ?_
      have hcA : cA = G.2.1.2.1 := Option.some.inj (f1.symm.trans (K.1.2 1 _ rfl).2)
      subst hcA
      generalize hH1 : H.push _ = H1
      have z1 : H1.size = H.size + 1 := by rw [← hH1, Array.size_push]
      have e1 : H1[H.size]? = some (arrV G.2.1.2.1 n.toNatClampNeg (fun _ => .int 0)) := by rw [← hH1, Array.getElem?_push_size, ← arrV_new]; rfl
      have o1 : ∀ q : Nat, q < H.size → H1[q]? = H[q]? := fun q hq => by rw [← hH1, Array.getElem?_push, if_neg (Nat.ne_of_lt hq)]
      have hcl : mj_cell G s H1 h.2.1 (.inl (1, List.replicate n.toNatClampNeg 0)) := by
        refine (Or.inr (Or.inl ⟨rfl, hR.2.2.1, ?_⟩))
        rw [hR.adnew, e1, mj_repl, List.length_replicate]
      have kz := mj_w1 (x := h.2.1) (y := h.2.2) (z := (List.replicate n.toNatClampNeg (0 : Int32)).length) (kk lsC H1 locs hL (hR.new z1 o1 hcl) hlo)
      rw [List.length_replicate] at kz
      have kz3 : W p l e R s m args below meth c H1 locs (cells + 1) (slots + n.toNatClampNeg) Q (F0 m (pc + 2) lsC (.ref (mj_ad G h.2.1) :: st1.map (mj_cv G))) := kz
      rw [hR.adnew] at kz3
      exact kz3
    · cases hs
  · cases hs
set_option maxHeartbeats 4000000 in
theorem mj_s_anewarray {n : Nat} (C : mj_Cx p s m args meth c i R) (K : mj_Kn G s) (hat : mj_at i pc = some (.anewarray n, len, a, b)) (hs : mj_step i (.anewarray n, len, a, b) pc ls st h = some (.inl s')) (hL : mj_L G i ls lsC) (hR : mj_Rep G s h H) (hlo : ∀ q ∈ locs, G.2.2.2 < q.base)
  (hc : cells + (s'.2.2.2.2.1 - h.2.1) ≤ R.cells) (hsl : slots + (s'.2.2.2.2.2 - h.2.2) ≤ R.slots)
  (kk : ∀ (lsC' : Array Slot) (H' : Heap) (locs' : List Loc), mj_L G i s'.2.1 lsC' → mj_Rep G s s'.2.2.2 H' → (∀ q ∈ locs', G.2.2.2 < q.base) → W p l e R s m args below meth c H' locs' (cells + (s'.2.2.2.2.1 - h.2.1)) (slots + (s'.2.2.2.2.2 - h.2.2)) Q (F0 m s'.1 lsC' (s'.2.2.1.map (mj_cv G)))) : W p l e R s m args below meth c H locs cells slots Q (F0 m pc lsC (st.map (mj_cv G))) := by
  obtain ⟨hx, hb, hml, hown, hts, hret, hlk, hnm, hfr, hlr⟩ := C
  have hdg0 := mj_dec0 hat
  have hln := mj_len0 hat
  have hck := mj_chk0 hat
  simp only [mj_lnok, mj_ln, beq_iff_eq] at hln
  subst hln
  have hdg := hdg0
  clear hdg0
  simp only [mj_chk, Bool.and_eq_true, beq_iff_eq] at hck
  obtain ⟨hck1, rfl⟩ := hck
  simp only [mj_step, mj_nx] at hs
  split at hs
  · rename_i n st1
    split at hs
    · rename_i hcnd
      cases hs
      have hc1 : cells + (h.2.1 + 1 - h.2.1) ≤ R.cells := hc
      have hc2 : slots + (h.2.2 + (List.replicate n.toNatClampNeg Value.null).length - h.2.2) ≤ R.slots := hsl
      rw [List.length_replicate] at hc2
      refine W.anew (C := "DumplingBand$March") hx hb hown (hts _ (mj_cls (by simpa using hck1))) (va_AO.use K.2.1) rfl hdg rfl hcnd.1 (by omega) (by omega) (by omega) fun cA kA comp f1 f2 f3 f4 => ?_
      obtain ⟨kA2, comp2, g1, g2, g3, g4⟩ := (K.1.2 2 _ rfl).2
      have hcA : cA = G.2.1.2.2 := Option.some.inj (f1.symm.trans g4)
      subst hcA
      generalize hH1 : H.push _ = H1
      have z1 : H1.size = H.size + 1 := by rw [← hH1, Array.size_push]
      have e1 : H1[H.size]? = some (arrV G.2.1.2.2 n.toNatClampNeg (fun _ => .null)) := by rw [← hH1, Array.getElem?_push_size, ← arrV_new]
      have o1 : ∀ q : Nat, q < H.size → H1[q]? = H[q]? := fun q hq => by rw [← hH1, Array.getElem?_push, if_neg (Nat.ne_of_lt hq)]
      have hcl : mj_cell G s H1 h.2.1 (.inr (99, List.replicate n.toNatClampNeg .null)) := by
        refine ⟨hR.2.2.1, Or.inl ⟨rfl, ?_⟩⟩
        rw [hR.adnew, e1, mj_replq, List.length_replicate]
      have kz := mj_w1 (x := h.2.1) (y := h.2.2) (z := (List.replicate n.toNatClampNeg Value.null).length) (kk lsC H1 locs hL (hR.new z1 o1 hcl) hlo)
      rw [List.length_replicate] at kz
      have kz3 : W p l e R s m args below meth c H1 locs (cells + 1) (slots + n.toNatClampNeg) Q (F0 m (pc + 3) lsC (.ref (mj_ad G h.2.1) :: st1.map (mj_cv G))) := kz
      rw [hR.adnew] at kz3
      exact kz3
    · cases hs
  · cases hs
theorem mj_room {st1 : List Value} (h : st1.length ≤ 4) : ((st1.map (mj_cv G)).map fun v => v.category).sum ≤ 8 := by
  have key : ∀ l : List Value, ((l.map (mj_cv G)).map fun v => v.category).sum ≤ 2 * l.length := by
    intro l
    induction l with
    | nil => simp
    | cons v l ih =>
      have h2 : (mj_cv G v).category ≤ 2 := by rcases lv_cat (mj_cv G v) with q | q <;> omega
      simp only [List.map_cons, List.sum_cons, List.length_cons]
      omega
  have := key st1
  omega
set_option maxHeartbeats 4000000 in
theorem mj_s_objinit {n : Nat} (ha : a = 999) (C : mj_Cx p s m args meth c i R) (K : mj_Kn G s) (hat : mj_at i pc = some (.invokespecial n, len, a, b)) (hs : mj_step i (.invokespecial n, len, a, b) pc ls st h = some (.inl s')) (hL : mj_L G i ls lsC) (hR : mj_Rep G s h H) (hlo : ∀ q ∈ locs, G.2.2.2 < q.base)
  (hc : cells + (s'.2.2.2.2.1 - h.2.1) ≤ R.cells) (hsl : slots + (s'.2.2.2.2.2 - h.2.2) ≤ R.slots)
  (kk : ∀ (lsC' : Array Slot) (H' : Heap) (locs' : List Loc), mj_L G i s'.2.1 lsC' → mj_Rep G s s'.2.2.2 H' → (∀ q ∈ locs', G.2.2.2 < q.base) → W p l e R s m args below meth c H' locs' (cells + (s'.2.2.2.2.1 - h.2.1)) (slots + (s'.2.2.2.2.2 - h.2.2)) Q (F0 m s'.1 lsC' (s'.2.2.1.map (mj_cv G)))) : W p l e R s m args below meth c H locs cells slots Q (F0 m pc lsC (st.map (mj_cv G))) := by
  obtain ⟨hx, hb, hml, hown, hts, hret, hlk, hnm, hfr, hlr⟩ := C
  have hdg0 := mj_dec0 hat
  have hln := mj_len0 hat
  have hck := mj_chk0 hat
  simp only [mj_lnok, mj_ln, beq_iff_eq] at hln
  subst hln
  have hdg := hdg0
  clear hdg0
  subst ha
  simp only [mj_chk] at hck
  have hck2 : mj_lkO.any (fun w => w.1 == mj_w i && w.2.1 == n) = true ∧ 1 ≤ mj_f i ∧ 20 ≤ mj_o i := by
    simp only [Bool.or_eq_true, Bool.and_eq_true, decide_eq_true_eq] at hck
    rcases hck with ⟨-, z, -⟩ | ⟨⟨z, -⟩, z2⟩
    · omega
    · exact ⟨z, z2⟩
  simp only [mj_step, mj_nx, if_true] at hs
  split at hs
  · rename_i x st1
    split at hs
    · rename_i hcnd
      cases hs
      have hrm := mj_room (G := G) hcnd
      refine W.objInit hx hb hown (hts _ (mj_ok hck2.1)) (hts _ (mj_has_in mj_objI)) (hts _ (mj_has_in mj_objC)) rfl (hL.2.1.trans hml.symm) rfl hdg (by omega) (by show 2 * 0 + _ + 12 ≤ _; omega) ?_
      exact mj_w0 (x := h.2.1) (y := h.2.2) (kk lsC H locs hL hR hlo)
    · cases hs
  · cases hs
set_option maxHeartbeats 4000000 in
theorem mj_s_mmax {n : Nat} (ha : a = 998) (C : mj_Cx p s m args meth c i R) (K : mj_Kn G s) (hat : mj_at i pc = some (.invokestatic n, len, a, b)) (hs : mj_step i (.invokestatic n, len, a, b) pc ls st h = some (.inl s')) (hL : mj_L G i ls lsC) (hR : mj_Rep G s h H) (hlo : ∀ q ∈ locs, G.2.2.2 < q.base)
  (hc : cells + (s'.2.2.2.2.1 - h.2.1) ≤ R.cells) (hsl : slots + (s'.2.2.2.2.2 - h.2.2) ≤ R.slots)
  (kk : ∀ (lsC' : Array Slot) (H' : Heap) (locs' : List Loc), mj_L G i s'.2.1 lsC' → mj_Rep G s s'.2.2.2 H' → (∀ q ∈ locs', G.2.2.2 < q.base) → W p l e R s m args below meth c H' locs' (cells + (s'.2.2.2.2.1 - h.2.1)) (slots + (s'.2.2.2.2.2 - h.2.2)) Q (F0 m s'.1 lsC' (s'.2.2.1.map (mj_cv G)))) : W p l e R s m args below meth c H locs cells slots Q (F0 m pc lsC (st.map (mj_cv G))) := by
  obtain ⟨hx, hb, hml, hown, hts, hret, hlk, hnm, hfr, hlr⟩ := C
  have hdg0 := mj_dec0 hat
  have hln := mj_len0 hat
  have hck := mj_chk0 hat
  simp only [mj_lnok, mj_ln, beq_iff_eq] at hln
  subst hln
  have hdg := hdg0
  clear hdg0
  subst ha
  simp only [mj_chk] at hck
  have hck2 : mj_lkX.any (fun w => w.1 == mj_w i && w.2.1 == n && w.2.2.1 == 998) = true ∧ 1 ≤ mj_f i ∧ 21 ≤ mj_o i := by
    simp only [Bool.or_eq_true, Bool.and_eq_true, decide_eq_true_eq] at hck
    rcases hck with ⟨-, z, -⟩ | ⟨⟨⟨z, -⟩, -⟩, z2⟩
    · omega
    · exact ⟨by simpa using z, z2⟩
  simp only [mj_step, mj_nx, if_true] at hs
  split at hs
  · rename_i y x st1
    split at hs
    · rename_i hcnd
      cases hs
      have hrm := mj_room (G := G) hcnd
      have hc1 : cells ≤ R.cells := Nat.le_trans (Nat.le_add_right _ _) hc
      have hc2 : slots ≤ R.slots := Nat.le_trans (Nat.le_add_right _ _) hsl
      refine va_mmax hx hb (hml.trans hL.2.1.symm) hown (hts _ (mj_xk hck2.1)) (hts _ (mj_has_in mj_mathS_max)) (hts _ (mj_ini (k := 10) (by decide))) (hts _ (List.mem_filter.mpr ⟨List.mem_of_getElem? mj_math_max, rfl⟩)) (by omega) (by omega) hc1 hc2 hdg ?_
      exact mj_w0 (x := h.2.1) (y := h.2.2) (kk lsC H locs hL hR hlo)
    · cases hs
  · cases hs
set_option maxHeartbeats 4000000 in
theorem mj_s_mmin {n : Nat} (ha : a = 997) (C : mj_Cx p s m args meth c i R) (K : mj_Kn G s) (hat : mj_at i pc = some (.invokestatic n, len, a, b)) (hs : mj_step i (.invokestatic n, len, a, b) pc ls st h = some (.inl s')) (hL : mj_L G i ls lsC) (hR : mj_Rep G s h H) (hlo : ∀ q ∈ locs, G.2.2.2 < q.base)
  (hc : cells + (s'.2.2.2.2.1 - h.2.1) ≤ R.cells) (hsl : slots + (s'.2.2.2.2.2 - h.2.2) ≤ R.slots)
  (kk : ∀ (lsC' : Array Slot) (H' : Heap) (locs' : List Loc), mj_L G i s'.2.1 lsC' → mj_Rep G s s'.2.2.2 H' → (∀ q ∈ locs', G.2.2.2 < q.base) → W p l e R s m args below meth c H' locs' (cells + (s'.2.2.2.2.1 - h.2.1)) (slots + (s'.2.2.2.2.2 - h.2.2)) Q (F0 m s'.1 lsC' (s'.2.2.1.map (mj_cv G)))) : W p l e R s m args below meth c H locs cells slots Q (F0 m pc lsC (st.map (mj_cv G))) := by
  obtain ⟨hx, hb, hml, hown, hts, hret, hlk, hnm, hfr, hlr⟩ := C
  have hdg0 := mj_dec0 hat
  have hln := mj_len0 hat
  have hck := mj_chk0 hat
  simp only [mj_lnok, mj_ln, beq_iff_eq] at hln
  subst hln
  have hdg := hdg0
  clear hdg0
  subst ha
  simp only [mj_chk] at hck
  have hck2 : mj_lkX.any (fun w => w.1 == mj_w i && w.2.1 == n && w.2.2.1 == 997) = true ∧ 1 ≤ mj_f i ∧ 21 ≤ mj_o i := by
    simp only [Bool.or_eq_true, Bool.and_eq_true, decide_eq_true_eq] at hck
    rcases hck with ⟨-, z, -⟩ | ⟨⟨⟨z, -⟩, -⟩, z2⟩
    · omega
    · exact ⟨by simpa using z, z2⟩
  simp only [mj_step, mj_nx, if_true] at hs
  rw [if_neg (show ¬ (997 : Nat) = 998 by decide)] at hs
  split at hs
  · rename_i y x st1
    split at hs
    · rename_i hcnd
      cases hs
      have hrm := mj_room (G := G) hcnd
      have hc1 : cells ≤ R.cells := Nat.le_trans (Nat.le_add_right _ _) hc
      have hc2 : slots ≤ R.slots := Nat.le_trans (Nat.le_add_right _ _) hsl
      refine va_mmin hx hb (hml.trans hL.2.1.symm) hown (hts _ (mj_xk hck2.1)) (hts _ (mj_has_in mj_mathS_min)) (hts _ (mj_ini (k := 10) (by decide))) (hts _ (List.mem_filter.mpr ⟨List.mem_of_getElem? mj_math_min, rfl⟩)) (by omega) (by omega) hc1 hc2 hdg ?_
      exact mj_w0 (x := h.2.1) (y := h.2.2) (kk lsC H locs hL hR hlo)
    · cases hs
  · cases hs
set_option maxHeartbeats 4000000 in
theorem mj_s_tableswitch {d lo hi : Int} {offs : Array Int} (C : mj_Cx p s m args meth c i R) (K : mj_Kn G s) (hat : mj_at i pc = some (.tableswitch d lo hi offs, len, a, b)) (hs : mj_step i (.tableswitch d lo hi offs, len, a, b) pc ls st h = some (.inl s')) (hL : mj_L G i ls lsC) (hR : mj_Rep G s h H) (hlo : ∀ q ∈ locs, G.2.2.2 < q.base)
  (hc : cells + (s'.2.2.2.2.1 - h.2.1) ≤ R.cells) (hsl : slots + (s'.2.2.2.2.2 - h.2.2) ≤ R.slots)
  (kk : ∀ (lsC' : Array Slot) (H' : Heap) (locs' : List Loc), mj_L G i s'.2.1 lsC' → mj_Rep G s s'.2.2.2 H' → (∀ q ∈ locs', G.2.2.2 < q.base) → W p l e R s m args below meth c H' locs' (cells + (s'.2.2.2.2.1 - h.2.1)) (slots + (s'.2.2.2.2.2 - h.2.2)) Q (F0 m s'.1 lsC' (s'.2.2.1.map (mj_cv G)))) : W p l e R s m args below meth c H locs cells slots Q (F0 m pc lsC (st.map (mj_cv G))) := by
  obtain ⟨hx, hb, hml, hown, hts, hret, hlk, hnm, hfr, hlr⟩ := C
  have hdg := mj_dec0 hat
  simp only [mj_step, mj_nx, mj_jmp] at hs
  split at hs
  · rename_i x st1
    split at hs
    · rename_i hcnd
      split at hs
      · rename_i hpos
        cases hs
        refine lv_tableOut hx hb hdg hcnd (Int.toNat_of_nonneg hpos).symm ?_
        exact mj_w0 (x := h.2.1) (y := h.2.2) (kk lsC H locs hL hR hlo)
      · cases hs
    · rename_i hcnd
      split at hs
      · rename_i off hoff
        split at hs
        · rename_i hpos
          cases hs
          refine lv_tableIn hx hb hdg (fun z => hcnd (Or.inl z)) (fun z => hcnd (Or.inr z)) hoff (Int.toNat_of_nonneg hpos).symm ?_
          exact mj_w0 (x := h.2.1) (y := h.2.2) (kk lsC H locs hL hR hlo)
        · cases hs
      · cases hs
  · cases hs
end MJS
