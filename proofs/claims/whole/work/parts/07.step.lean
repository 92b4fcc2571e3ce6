/-! A STEP OF THE PURE MACHINE IS A STEP OF THE MACHINE -/
section MJS
variable {p : Program} {l : Launch} {e : Env} {R : Room} {s : State} {m : MethodId} {args : Array Value} {below : List Frame} {meth : Method} {c : Code} {H : Heap} {locs : List Loc} {cells slots : Nat} {Q : State → Prop}
variable {G : mj_G} {i pc len a b : Nat} {ls st : List Value} {h : mj_H} {lsC : Array Slot} {s' : mj_S}
theorem mj_w0 {x y : Nat} {g : JFrame} (k : W p l e R s m args below meth c H locs (cells + (x - x)) (slots + (y - y)) Q g) : W p l e R s m args below meth c H locs cells slots Q g := by
  rw [Nat.sub_self, Nat.sub_self] at k
  exact k
theorem mj_w1 {x y z : Nat} {g : JFrame} (k : W p l e R s m args below meth c H locs (cells + (x + 1 - x)) (slots + (y + z - y)) Q g) : W p l e R s m args below meth c H locs (cells + 1) (slots + z) Q g := by
  rw [Nat.add_sub_cancel_left, Nat.add_sub_cancel_left] at k
  exact k
theorem mj_cat {G : mj_G} {v : Value} (h : mj_noL v = true) : (mj_cv G v).category = 1 := (mj_cv_cat G v).trans (mj_noL_cat h)
theorem mj_nul : ∀ {P : Prop}, (Value.int 0 = Value.null → P) := fun h => by cases h
set_option maxHeartbeats 4000000 in
theorem mj_s_iadd (C : mj_Cx p s m args meth c i R) (K : mj_Kn G s) (hat : mj_at i pc = some (.iadd, len, a, b)) (hs : mj_step i (.iadd, len, a, b) pc ls st h = some (.inl s')) (hL : mj_L G i ls lsC) (hR : mj_Rep G s h H) (hlo : ∀ q ∈ locs, G.2.2.2 < q.base)
  (hc : cells + (s'.2.2.2.2.1 - h.2.1) ≤ R.cells) (hsl : slots + (s'.2.2.2.2.2 - h.2.2) ≤ R.slots)
  (kk : ∀ (lsC' : Array Slot) (H' : Heap) (locs' : List Loc), mj_L G i s'.2.1 lsC' → mj_Rep G s s'.2.2.2 H' → (∀ q ∈ locs', G.2.2.2 < q.base) → W p l e R s m args below meth c H' locs' (cells + (s'.2.2.2.2.1 - h.2.1)) (slots + (s'.2.2.2.2.2 - h.2.2)) Q (F0 m s'.1 lsC' (s'.2.2.1.map (mj_cv G)))) : W p l e R s m args below meth c H locs cells slots Q (F0 m pc lsC (st.map (mj_cv G))) := by
  obtain ⟨hx, hb, hml, hown, hts, hret, hlk, hnm, hfr, hlr⟩ := C
  have hdg0 := mj_dec0 hat
  have hln := mj_len0 hat
  have hck := mj_chk0 hat
  simp only [mj_lnok, mj_ln, beq_iff_eq] at hln
  subst hln
  have hdg := hdg0
  clear hdg0
  simp only [mj_step, mj_nx] at hs
  split at hs
  · rename_i y x st1
    cases hs
    refine lv_iadd hx hb hdg ?_
    exact mj_w0 (x := h.2.1) (y := h.2.2) (kk lsC H locs hL hR hlo)
  · cases hs
set_option maxHeartbeats 4000000 in
theorem mj_s_isub (C : mj_Cx p s m args meth c i R) (K : mj_Kn G s) (hat : mj_at i pc = some (.isub, len, a, b)) (hs : mj_step i (.isub, len, a, b) pc ls st h = some (.inl s')) (hL : mj_L G i ls lsC) (hR : mj_Rep G s h H) (hlo : ∀ q ∈ locs, G.2.2.2 < q.base)
  (hc : cells + (s'.2.2.2.2.1 - h.2.1) ≤ R.cells) (hsl : slots + (s'.2.2.2.2.2 - h.2.2) ≤ R.slots)
  (kk : ∀ (lsC' : Array Slot) (H' : Heap) (locs' : List Loc), mj_L G i s'.2.1 lsC' → mj_Rep G s s'.2.2.2 H' → (∀ q ∈ locs', G.2.2.2 < q.base) → W p l e R s m args below meth c H' locs' (cells + (s'.2.2.2.2.1 - h.2.1)) (slots + (s'.2.2.2.2.2 - h.2.2)) Q (F0 m s'.1 lsC' (s'.2.2.1.map (mj_cv G)))) : W p l e R s m args below meth c H locs cells slots Q (F0 m pc lsC (st.map (mj_cv G))) := by
  obtain ⟨hx, hb, hml, hown, hts, hret, hlk, hnm, hfr, hlr⟩ := C
  have hdg0 := mj_dec0 hat
  have hln := mj_len0 hat
  have hck := mj_chk0 hat
  simp only [mj_lnok, mj_ln, beq_iff_eq] at hln
  subst hln
  have hdg := hdg0
  clear hdg0
  simp only [mj_step, mj_nx] at hs
  split at hs
  · rename_i y x st1
    cases hs
    refine lv_isub hx hb hdg ?_
    exact mj_w0 (x := h.2.1) (y := h.2.2) (kk lsC H locs hL hR hlo)
  · cases hs
set_option maxHeartbeats 4000000 in
theorem mj_s_imul (C : mj_Cx p s m args meth c i R) (K : mj_Kn G s) (hat : mj_at i pc = some (.imul, len, a, b)) (hs : mj_step i (.imul, len, a, b) pc ls st h = some (.inl s')) (hL : mj_L G i ls lsC) (hR : mj_Rep G s h H) (hlo : ∀ q ∈ locs, G.2.2.2 < q.base)
  (hc : cells + (s'.2.2.2.2.1 - h.2.1) ≤ R.cells) (hsl : slots + (s'.2.2.2.2.2 - h.2.2) ≤ R.slots)
  (kk : ∀ (lsC' : Array Slot) (H' : Heap) (locs' : List Loc), mj_L G i s'.2.1 lsC' → mj_Rep G s s'.2.2.2 H' → (∀ q ∈ locs', G.2.2.2 < q.base) → W p l e R s m args below meth c H' locs' (cells + (s'.2.2.2.2.1 - h.2.1)) (slots + (s'.2.2.2.2.2 - h.2.2)) Q (F0 m s'.1 lsC' (s'.2.2.1.map (mj_cv G)))) : W p l e R s m args below meth c H locs cells slots Q (F0 m pc lsC (st.map (mj_cv G))) := by
  obtain ⟨hx, hb, hml, hown, hts, hret, hlk, hnm, hfr, hlr⟩ := C
  have hdg0 := mj_dec0 hat
  have hln := mj_len0 hat
  have hck := mj_chk0 hat
  simp only [mj_lnok, mj_ln, beq_iff_eq] at hln
  subst hln
  have hdg := hdg0
  clear hdg0
  simp only [mj_step, mj_nx] at hs
  split at hs
  · rename_i y x st1
    cases hs
    refine lv_imul hx hb hdg ?_
    exact mj_w0 (x := h.2.1) (y := h.2.2) (kk lsC H locs hL hR hlo)
  · cases hs
set_option maxHeartbeats 4000000 in
theorem mj_s_iand (C : mj_Cx p s m args meth c i R) (K : mj_Kn G s) (hat : mj_at i pc = some (.iand, len, a, b)) (hs : mj_step i (.iand, len, a, b) pc ls st h = some (.inl s')) (hL : mj_L G i ls lsC) (hR : mj_Rep G s h H) (hlo : ∀ q ∈ locs, G.2.2.2 < q.base)
  (hc : cells + (s'.2.2.2.2.1 - h.2.1) ≤ R.cells) (hsl : slots + (s'.2.2.2.2.2 - h.2.2) ≤ R.slots)
  (kk : ∀ (lsC' : Array Slot) (H' : Heap) (locs' : List Loc), mj_L G i s'.2.1 lsC' → mj_Rep G s s'.2.2.2 H' → (∀ q ∈ locs', G.2.2.2 < q.base) → W p l e R s m args below meth c H' locs' (cells + (s'.2.2.2.2.1 - h.2.1)) (slots + (s'.2.2.2.2.2 - h.2.2)) Q (F0 m s'.1 lsC' (s'.2.2.1.map (mj_cv G)))) : W p l e R s m args below meth c H locs cells slots Q (F0 m pc lsC (st.map (mj_cv G))) := by
  obtain ⟨hx, hb, hml, hown, hts, hret, hlk, hnm, hfr, hlr⟩ := C
  have hdg0 := mj_dec0 hat
  have hln := mj_len0 hat
  have hck := mj_chk0 hat
  simp only [mj_lnok, mj_ln, beq_iff_eq] at hln
  subst hln
  have hdg := hdg0
  clear hdg0
  simp only [mj_step, mj_nx] at hs
  split at hs
  · rename_i y x st1
    cases hs
    refine lv_iand hx hb hdg ?_
    exact mj_w0 (x := h.2.1) (y := h.2.2) (kk lsC H locs hL hR hlo)
  · cases hs
set_option maxHeartbeats 4000000 in
theorem mj_s_ior (C : mj_Cx p s m args meth c i R) (K : mj_Kn G s) (hat : mj_at i pc = some (.ior, len, a, b)) (hs : mj_step i (.ior, len, a, b) pc ls st h = some (.inl s')) (hL : mj_L G i ls lsC) (hR : mj_Rep G s h H) (hlo : ∀ q ∈ locs, G.2.2.2 < q.base)
  (hc : cells + (s'.2.2.2.2.1 - h.2.1) ≤ R.cells) (hsl : slots + (s'.2.2.2.2.2 - h.2.2) ≤ R.slots)
  (kk : ∀ (lsC' : Array Slot) (H' : Heap) (locs' : List Loc), mj_L G i s'.2.1 lsC' → mj_Rep G s s'.2.2.2 H' → (∀ q ∈ locs', G.2.2.2 < q.base) → W p l e R s m args below meth c H' locs' (cells + (s'.2.2.2.2.1 - h.2.1)) (slots + (s'.2.2.2.2.2 - h.2.2)) Q (F0 m s'.1 lsC' (s'.2.2.1.map (mj_cv G)))) : W p l e R s m args below meth c H locs cells slots Q (F0 m pc lsC (st.map (mj_cv G))) := by
  obtain ⟨hx, hb, hml, hown, hts, hret, hlk, hnm, hfr, hlr⟩ := C
  have hdg0 := mj_dec0 hat
  have hln := mj_len0 hat
  have hck := mj_chk0 hat
  simp only [mj_lnok, mj_ln, beq_iff_eq] at hln
  subst hln
  have hdg := hdg0
  clear hdg0
  simp only [mj_step, mj_nx] at hs
  split at hs
  · rename_i y x st1
    cases hs
    refine lv_ior hx hb hdg ?_
    exact mj_w0 (x := h.2.1) (y := h.2.2) (kk lsC H locs hL hR hlo)
  · cases hs
set_option maxHeartbeats 4000000 in
theorem mj_s_ixor (C : mj_Cx p s m args meth c i R) (K : mj_Kn G s) (hat : mj_at i pc = some (.ixor, len, a, b)) (hs : mj_step i (.ixor, len, a, b) pc ls st h = some (.inl s')) (hL : mj_L G i ls lsC) (hR : mj_Rep G s h H) (hlo : ∀ q ∈ locs, G.2.2.2 < q.base)
  (hc : cells + (s'.2.2.2.2.1 - h.2.1) ≤ R.cells) (hsl : slots + (s'.2.2.2.2.2 - h.2.2) ≤ R.slots)
  (kk : ∀ (lsC' : Array Slot) (H' : Heap) (locs' : List Loc), mj_L G i s'.2.1 lsC' → mj_Rep G s s'.2.2.2 H' → (∀ q ∈ locs', G.2.2.2 < q.base) → W p l e R s m args below meth c H' locs' (cells + (s'.2.2.2.2.1 - h.2.1)) (slots + (s'.2.2.2.2.2 - h.2.2)) Q (F0 m s'.1 lsC' (s'.2.2.1.map (mj_cv G)))) : W p l e R s m args below meth c H locs cells slots Q (F0 m pc lsC (st.map (mj_cv G))) := by
  obtain ⟨hx, hb, hml, hown, hts, hret, hlk, hnm, hfr, hlr⟩ := C
  have hdg0 := mj_dec0 hat
  have hln := mj_len0 hat
  have hck := mj_chk0 hat
  simp only [mj_lnok, mj_ln, beq_iff_eq] at hln
  subst hln
  have hdg := hdg0
  clear hdg0
  simp only [mj_step, mj_nx] at hs
  split at hs
  · rename_i y x st1
    cases hs
    refine lv_ixor hx hb hdg ?_
    exact mj_w0 (x := h.2.1) (y := h.2.2) (kk lsC H locs hL hR hlo)
  · cases hs
set_option maxHeartbeats 4000000 in
theorem mj_s_ishl (C : mj_Cx p s m args meth c i R) (K : mj_Kn G s) (hat : mj_at i pc = some (.ishl, len, a, b)) (hs : mj_step i (.ishl, len, a, b) pc ls st h = some (.inl s')) (hL : mj_L G i ls lsC) (hR : mj_Rep G s h H) (hlo : ∀ q ∈ locs, G.2.2.2 < q.base)
  (hc : cells + (s'.2.2.2.2.1 - h.2.1) ≤ R.cells) (hsl : slots + (s'.2.2.2.2.2 - h.2.2) ≤ R.slots)
  (kk : ∀ (lsC' : Array Slot) (H' : Heap) (locs' : List Loc), mj_L G i s'.2.1 lsC' → mj_Rep G s s'.2.2.2 H' → (∀ q ∈ locs', G.2.2.2 < q.base) → W p l e R s m args below meth c H' locs' (cells + (s'.2.2.2.2.1 - h.2.1)) (slots + (s'.2.2.2.2.2 - h.2.2)) Q (F0 m s'.1 lsC' (s'.2.2.1.map (mj_cv G)))) : W p l e R s m args below meth c H locs cells slots Q (F0 m pc lsC (st.map (mj_cv G))) := by
  obtain ⟨hx, hb, hml, hown, hts, hret, hlk, hnm, hfr, hlr⟩ := C
  have hdg0 := mj_dec0 hat
  have hln := mj_len0 hat
  have hck := mj_chk0 hat
  simp only [mj_lnok, mj_ln, beq_iff_eq] at hln
  subst hln
  have hdg := hdg0
  clear hdg0
  simp only [mj_step, mj_nx] at hs
  split at hs
  · rename_i y x st1
    cases hs
    refine lv_ishl hx hb hdg ?_
    exact mj_w0 (x := h.2.1) (y := h.2.2) (kk lsC H locs hL hR hlo)
  · cases hs
set_option maxHeartbeats 4000000 in
theorem mj_s_ishr (C : mj_Cx p s m args meth c i R) (K : mj_Kn G s) (hat : mj_at i pc = some (.ishr, len, a, b)) (hs : mj_step i (.ishr, len, a, b) pc ls st h = some (.inl s')) (hL : mj_L G i ls lsC) (hR : mj_Rep G s h H) (hlo : ∀ q ∈ locs, G.2.2.2 < q.base)
  (hc : cells + (s'.2.2.2.2.1 - h.2.1) ≤ R.cells) (hsl : slots + (s'.2.2.2.2.2 - h.2.2) ≤ R.slots)
  (kk : ∀ (lsC' : Array Slot) (H' : Heap) (locs' : List Loc), mj_L G i s'.2.1 lsC' → mj_Rep G s s'.2.2.2 H' → (∀ q ∈ locs', G.2.2.2 < q.base) → W p l e R s m args below meth c H' locs' (cells + (s'.2.2.2.2.1 - h.2.1)) (slots + (s'.2.2.2.2.2 - h.2.2)) Q (F0 m s'.1 lsC' (s'.2.2.1.map (mj_cv G)))) : W p l e R s m args below meth c H locs cells slots Q (F0 m pc lsC (st.map (mj_cv G))) := by
  obtain ⟨hx, hb, hml, hown, hts, hret, hlk, hnm, hfr, hlr⟩ := C
  have hdg0 := mj_dec0 hat
  have hln := mj_len0 hat
  have hck := mj_chk0 hat
  simp only [mj_lnok, mj_ln, beq_iff_eq] at hln
  subst hln
  have hdg := hdg0
  clear hdg0
  simp only [mj_step, mj_nx] at hs
  split at hs
  · rename_i y x st1
    cases hs
    refine lv_ishr hx hb hdg ?_
    exact mj_w0 (x := h.2.1) (y := h.2.2) (kk lsC H locs hL hR hlo)
  · cases hs
set_option maxHeartbeats 4000000 in
theorem mj_s_ladd (C : mj_Cx p s m args meth c i R) (K : mj_Kn G s) (hat : mj_at i pc = some (.ladd, len, a, b)) (hs : mj_step i (.ladd, len, a, b) pc ls st h = some (.inl s')) (hL : mj_L G i ls lsC) (hR : mj_Rep G s h H) (hlo : ∀ q ∈ locs, G.2.2.2 < q.base)
  (hc : cells + (s'.2.2.2.2.1 - h.2.1) ≤ R.cells) (hsl : slots + (s'.2.2.2.2.2 - h.2.2) ≤ R.slots)
  (kk : ∀ (lsC' : Array Slot) (H' : Heap) (locs' : List Loc), mj_L G i s'.2.1 lsC' → mj_Rep G s s'.2.2.2 H' → (∀ q ∈ locs', G.2.2.2 < q.base) → W p l e R s m args below meth c H' locs' (cells + (s'.2.2.2.2.1 - h.2.1)) (slots + (s'.2.2.2.2.2 - h.2.2)) Q (F0 m s'.1 lsC' (s'.2.2.1.map (mj_cv G)))) : W p l e R s m args below meth c H locs cells slots Q (F0 m pc lsC (st.map (mj_cv G))) := by
  obtain ⟨hx, hb, hml, hown, hts, hret, hlk, hnm, hfr, hlr⟩ := C
  have hdg0 := mj_dec0 hat
  have hln := mj_len0 hat
  have hck := mj_chk0 hat
  simp only [mj_lnok, mj_ln, beq_iff_eq] at hln
  subst hln
  have hdg := hdg0
  clear hdg0
  simp only [mj_step, mj_nx] at hs
  split at hs
  · rename_i y x st1
    cases hs
    refine lv_ladd hx hb hdg ?_
    exact mj_w0 (x := h.2.1) (y := h.2.2) (kk lsC H locs hL hR hlo)
  · cases hs
set_option maxHeartbeats 4000000 in
theorem mj_s_lmul (C : mj_Cx p s m args meth c i R) (K : mj_Kn G s) (hat : mj_at i pc = some (.lmul, len, a, b)) (hs : mj_step i (.lmul, len, a, b) pc ls st h = some (.inl s')) (hL : mj_L G i ls lsC) (hR : mj_Rep G s h H) (hlo : ∀ q ∈ locs, G.2.2.2 < q.base)
  (hc : cells + (s'.2.2.2.2.1 - h.2.1) ≤ R.cells) (hsl : slots + (s'.2.2.2.2.2 - h.2.2) ≤ R.slots)
  (kk : ∀ (lsC' : Array Slot) (H' : Heap) (locs' : List Loc), mj_L G i s'.2.1 lsC' → mj_Rep G s s'.2.2.2 H' → (∀ q ∈ locs', G.2.2.2 < q.base) → W p l e R s m args below meth c H' locs' (cells + (s'.2.2.2.2.1 - h.2.1)) (slots + (s'.2.2.2.2.2 - h.2.2)) Q (F0 m s'.1 lsC' (s'.2.2.1.map (mj_cv G)))) : W p l e R s m args below meth c H locs cells slots Q (F0 m pc lsC (st.map (mj_cv G))) := by
  obtain ⟨hx, hb, hml, hown, hts, hret, hlk, hnm, hfr, hlr⟩ := C
  have hdg0 := mj_dec0 hat
  have hln := mj_len0 hat
  have hck := mj_chk0 hat
  simp only [mj_lnok, mj_ln, beq_iff_eq] at hln
  subst hln
  have hdg := hdg0
  clear hdg0
  simp only [mj_step, mj_nx] at hs
  split at hs
  · rename_i y x st1
    cases hs
    refine lv_lmul hx hb hdg ?_
    exact mj_w0 (x := h.2.1) (y := h.2.2) (kk lsC H locs hL hR hlo)
  · cases hs
set_option maxHeartbeats 4000000 in
theorem mj_s_land (C : mj_Cx p s m args meth c i R) (K : mj_Kn G s) (hat : mj_at i pc = some (.land, len, a, b)) (hs : mj_step i (.land, len, a, b) pc ls st h = some (.inl s')) (hL : mj_L G i ls lsC) (hR : mj_Rep G s h H) (hlo : ∀ q ∈ locs, G.2.2.2 < q.base)
  (hc : cells + (s'.2.2.2.2.1 - h.2.1) ≤ R.cells) (hsl : slots + (s'.2.2.2.2.2 - h.2.2) ≤ R.slots)
  (kk : ∀ (lsC' : Array Slot) (H' : Heap) (locs' : List Loc), mj_L G i s'.2.1 lsC' → mj_Rep G s s'.2.2.2 H' → (∀ q ∈ locs', G.2.2.2 < q.base) → W p l e R s m args below meth c H' locs' (cells + (s'.2.2.2.2.1 - h.2.1)) (slots + (s'.2.2.2.2.2 - h.2.2)) Q (F0 m s'.1 lsC' (s'.2.2.1.map (mj_cv G)))) : W p l e R s m args below meth c H locs cells slots Q (F0 m pc lsC (st.map (mj_cv G))) := by
  obtain ⟨hx, hb, hml, hown, hts, hret, hlk, hnm, hfr, hlr⟩ := C
  have hdg0 := mj_dec0 hat
  have hln := mj_len0 hat
  have hck := mj_chk0 hat
  simp only [mj_lnok, mj_ln, beq_iff_eq] at hln
  subst hln
  have hdg := hdg0
  clear hdg0
  simp only [mj_step, mj_nx] at hs
  split at hs
  · rename_i y x st1
    cases hs
    refine lv_land hx hb hdg ?_
    exact mj_w0 (x := h.2.1) (y := h.2.2) (kk lsC H locs hL hR hlo)
  · cases hs
set_option maxHeartbeats 4000000 in
theorem mj_s_lor (C : mj_Cx p s m args meth c i R) (K : mj_Kn G s) (hat : mj_at i pc = some (.lor, len, a, b)) (hs : mj_step i (.lor, len, a, b) pc ls st h = some (.inl s')) (hL : mj_L G i ls lsC) (hR : mj_Rep G s h H) (hlo : ∀ q ∈ locs, G.2.2.2 < q.base)
  (hc : cells + (s'.2.2.2.2.1 - h.2.1) ≤ R.cells) (hsl : slots + (s'.2.2.2.2.2 - h.2.2) ≤ R.slots)
  (kk : ∀ (lsC' : Array Slot) (H' : Heap) (locs' : List Loc), mj_L G i s'.2.1 lsC' → mj_Rep G s s'.2.2.2 H' → (∀ q ∈ locs', G.2.2.2 < q.base) → W p l e R s m args below meth c H' locs' (cells + (s'.2.2.2.2.1 - h.2.1)) (slots + (s'.2.2.2.2.2 - h.2.2)) Q (F0 m s'.1 lsC' (s'.2.2.1.map (mj_cv G)))) : W p l e R s m args below meth c H locs cells slots Q (F0 m pc lsC (st.map (mj_cv G))) := by
  obtain ⟨hx, hb, hml, hown, hts, hret, hlk, hnm, hfr, hlr⟩ := C
  have hdg0 := mj_dec0 hat
  have hln := mj_len0 hat
  have hck := mj_chk0 hat
  simp only [mj_lnok, mj_ln, beq_iff_eq] at hln
  subst hln
  have hdg := hdg0
  clear hdg0
  simp only [mj_step, mj_nx] at hs
  split at hs
  · rename_i y x st1
    cases hs
    refine lv_lor hx hb hdg ?_
    exact mj_w0 (x := h.2.1) (y := h.2.2) (kk lsC H locs hL hR hlo)
  · cases hs
set_option maxHeartbeats 4000000 in
theorem mj_s_idiv (C : mj_Cx p s m args meth c i R) (K : mj_Kn G s) (hat : mj_at i pc = some (.idiv, len, a, b)) (hs : mj_step i (.idiv, len, a, b) pc ls st h = some (.inl s')) (hL : mj_L G i ls lsC) (hR : mj_Rep G s h H) (hlo : ∀ q ∈ locs, G.2.2.2 < q.base)
  (hc : cells + (s'.2.2.2.2.1 - h.2.1) ≤ R.cells) (hsl : slots + (s'.2.2.2.2.2 - h.2.2) ≤ R.slots)
  (kk : ∀ (lsC' : Array Slot) (H' : Heap) (locs' : List Loc), mj_L G i s'.2.1 lsC' → mj_Rep G s s'.2.2.2 H' → (∀ q ∈ locs', G.2.2.2 < q.base) → W p l e R s m args below meth c H' locs' (cells + (s'.2.2.2.2.1 - h.2.1)) (slots + (s'.2.2.2.2.2 - h.2.2)) Q (F0 m s'.1 lsC' (s'.2.2.1.map (mj_cv G)))) : W p l e R s m args below meth c H locs cells slots Q (F0 m pc lsC (st.map (mj_cv G))) := by
  obtain ⟨hx, hb, hml, hown, hts, hret, hlk, hnm, hfr, hlr⟩ := C
  have hdg0 := mj_dec0 hat
  have hln := mj_len0 hat
  have hck := mj_chk0 hat
  simp only [mj_lnok, mj_ln, beq_iff_eq] at hln
  subst hln
  have hdg := hdg0
  clear hdg0
  simp only [mj_step, mj_nx] at hs
  split at hs
  · rename_i y x st1
    split at hs
    · cases hs
    · rename_i hne
      cases hs
      refine lv_idiv hx hb hdg hne ?_
      exact mj_w0 (x := h.2.1) (y := h.2.2) (kk lsC H locs hL hR hlo)
  · cases hs
set_option maxHeartbeats 4000000 in
theorem mj_s_irem (C : mj_Cx p s m args meth c i R) (K : mj_Kn G s) (hat : mj_at i pc = some (.irem, len, a, b)) (hs : mj_step i (.irem, len, a, b) pc ls st h = some (.inl s')) (hL : mj_L G i ls lsC) (hR : mj_Rep G s h H) (hlo : ∀ q ∈ locs, G.2.2.2 < q.base)
  (hc : cells + (s'.2.2.2.2.1 - h.2.1) ≤ R.cells) (hsl : slots + (s'.2.2.2.2.2 - h.2.2) ≤ R.slots)
  (kk : ∀ (lsC' : Array Slot) (H' : Heap) (locs' : List Loc), mj_L G i s'.2.1 lsC' → mj_Rep G s s'.2.2.2 H' → (∀ q ∈ locs', G.2.2.2 < q.base) → W p l e R s m args below meth c H' locs' (cells + (s'.2.2.2.2.1 - h.2.1)) (slots + (s'.2.2.2.2.2 - h.2.2)) Q (F0 m s'.1 lsC' (s'.2.2.1.map (mj_cv G)))) : W p l e R s m args below meth c H locs cells slots Q (F0 m pc lsC (st.map (mj_cv G))) := by
  obtain ⟨hx, hb, hml, hown, hts, hret, hlk, hnm, hfr, hlr⟩ := C
  have hdg0 := mj_dec0 hat
  have hln := mj_len0 hat
  have hck := mj_chk0 hat
  simp only [mj_lnok, mj_ln, beq_iff_eq] at hln
  subst hln
  have hdg := hdg0
  clear hdg0
  simp only [mj_step, mj_nx] at hs
  split at hs
  · rename_i y x st1
    split at hs
    · cases hs
    · rename_i hne
      cases hs
      refine lv_irem hx hb hdg hne ?_
      exact mj_w0 (x := h.2.1) (y := h.2.2) (kk lsC H locs hL hR hlo)
  · cases hs
set_option maxHeartbeats 4000000 in
theorem mj_s_lrem (C : mj_Cx p s m args meth c i R) (K : mj_Kn G s) (hat : mj_at i pc = some (.lrem, len, a, b)) (hs : mj_step i (.lrem, len, a, b) pc ls st h = some (.inl s')) (hL : mj_L G i ls lsC) (hR : mj_Rep G s h H) (hlo : ∀ q ∈ locs, G.2.2.2 < q.base)
  (hc : cells + (s'.2.2.2.2.1 - h.2.1) ≤ R.cells) (hsl : slots + (s'.2.2.2.2.2 - h.2.2) ≤ R.slots)
  (kk : ∀ (lsC' : Array Slot) (H' : Heap) (locs' : List Loc), mj_L G i s'.2.1 lsC' → mj_Rep G s s'.2.2.2 H' → (∀ q ∈ locs', G.2.2.2 < q.base) → W p l e R s m args below meth c H' locs' (cells + (s'.2.2.2.2.1 - h.2.1)) (slots + (s'.2.2.2.2.2 - h.2.2)) Q (F0 m s'.1 lsC' (s'.2.2.1.map (mj_cv G)))) : W p l e R s m args below meth c H locs cells slots Q (F0 m pc lsC (st.map (mj_cv G))) := by
  obtain ⟨hx, hb, hml, hown, hts, hret, hlk, hnm, hfr, hlr⟩ := C
  have hdg0 := mj_dec0 hat
  have hln := mj_len0 hat
  have hck := mj_chk0 hat
  simp only [mj_lnok, mj_ln, beq_iff_eq] at hln
  subst hln
  have hdg := hdg0
  clear hdg0
  simp only [mj_step, mj_nx] at hs
  split at hs
  · rename_i y x st1
    split at hs
    · cases hs
    · rename_i hne
      cases hs
      refine lv_lrem hx hb hdg hne ?_
      exact mj_w0 (x := h.2.1) (y := h.2.2) (kk lsC H locs hL hR hlo)
  · cases hs
set_option maxHeartbeats 4000000 in
theorem mj_s_iushr (C : mj_Cx p s m args meth c i R) (K : mj_Kn G s) (hat : mj_at i pc = some (.iushr, len, a, b)) (hs : mj_step i (.iushr, len, a, b) pc ls st h = some (.inl s')) (hL : mj_L G i ls lsC) (hR : mj_Rep G s h H) (hlo : ∀ q ∈ locs, G.2.2.2 < q.base)
  (hc : cells + (s'.2.2.2.2.1 - h.2.1) ≤ R.cells) (hsl : slots + (s'.2.2.2.2.2 - h.2.2) ≤ R.slots)
  (kk : ∀ (lsC' : Array Slot) (H' : Heap) (locs' : List Loc), mj_L G i s'.2.1 lsC' → mj_Rep G s s'.2.2.2 H' → (∀ q ∈ locs', G.2.2.2 < q.base) → W p l e R s m args below meth c H' locs' (cells + (s'.2.2.2.2.1 - h.2.1)) (slots + (s'.2.2.2.2.2 - h.2.2)) Q (F0 m s'.1 lsC' (s'.2.2.1.map (mj_cv G)))) : W p l e R s m args below meth c H locs cells slots Q (F0 m pc lsC (st.map (mj_cv G))) := by
  obtain ⟨hx, hb, hml, hown, hts, hret, hlk, hnm, hfr, hlr⟩ := C
  have hdg0 := mj_dec0 hat
  have hln := mj_len0 hat
  have hck := mj_chk0 hat
  simp only [mj_lnok, mj_ln, beq_iff_eq] at hln
  subst hln
  have hdg := hdg0
  clear hdg0
  simp only [mj_step, mj_nx] at hs
  split at hs
  · rename_i y x st1
    cases hs
    refine lv_iushr hx hb hdg rfl ?_
    exact mj_w0 (x := h.2.1) (y := h.2.2) (kk lsC H locs hL hR hlo)
  · cases hs
set_option maxHeartbeats 4000000 in
theorem mj_s_lushr (C : mj_Cx p s m args meth c i R) (K : mj_Kn G s) (hat : mj_at i pc = some (.lushr, len, a, b)) (hs : mj_step i (.lushr, len, a, b) pc ls st h = some (.inl s')) (hL : mj_L G i ls lsC) (hR : mj_Rep G s h H) (hlo : ∀ q ∈ locs, G.2.2.2 < q.base)
  (hc : cells + (s'.2.2.2.2.1 - h.2.1) ≤ R.cells) (hsl : slots + (s'.2.2.2.2.2 - h.2.2) ≤ R.slots)
  (kk : ∀ (lsC' : Array Slot) (H' : Heap) (locs' : List Loc), mj_L G i s'.2.1 lsC' → mj_Rep G s s'.2.2.2 H' → (∀ q ∈ locs', G.2.2.2 < q.base) → W p l e R s m args below meth c H' locs' (cells + (s'.2.2.2.2.1 - h.2.1)) (slots + (s'.2.2.2.2.2 - h.2.2)) Q (F0 m s'.1 lsC' (s'.2.2.1.map (mj_cv G)))) : W p l e R s m args below meth c H locs cells slots Q (F0 m pc lsC (st.map (mj_cv G))) := by
  obtain ⟨hx, hb, hml, hown, hts, hret, hlk, hnm, hfr, hlr⟩ := C
  have hdg0 := mj_dec0 hat
  have hln := mj_len0 hat
  have hck := mj_chk0 hat
  simp only [mj_lnok, mj_ln, beq_iff_eq] at hln
  subst hln
  have hdg := hdg0
  clear hdg0
  simp only [mj_step, mj_nx] at hs
  split at hs
  · rename_i y x st1
    cases hs
    refine lv_lushr hx hb hdg rfl ?_
    exact mj_w0 (x := h.2.1) (y := h.2.2) (kk lsC H locs hL hR hlo)
  · cases hs
set_option maxHeartbeats 4000000 in
theorem mj_s_lshl (C : mj_Cx p s m args meth c i R) (K : mj_Kn G s) (hat : mj_at i pc = some (.lshl, len, a, b)) (hs : mj_step i (.lshl, len, a, b) pc ls st h = some (.inl s')) (hL : mj_L G i ls lsC) (hR : mj_Rep G s h H) (hlo : ∀ q ∈ locs, G.2.2.2 < q.base)
  (hc : cells + (s'.2.2.2.2.1 - h.2.1) ≤ R.cells) (hsl : slots + (s'.2.2.2.2.2 - h.2.2) ≤ R.slots)
  (kk : ∀ (lsC' : Array Slot) (H' : Heap) (locs' : List Loc), mj_L G i s'.2.1 lsC' → mj_Rep G s s'.2.2.2 H' → (∀ q ∈ locs', G.2.2.2 < q.base) → W p l e R s m args below meth c H' locs' (cells + (s'.2.2.2.2.1 - h.2.1)) (slots + (s'.2.2.2.2.2 - h.2.2)) Q (F0 m s'.1 lsC' (s'.2.2.1.map (mj_cv G)))) : W p l e R s m args below meth c H locs cells slots Q (F0 m pc lsC (st.map (mj_cv G))) := by
  obtain ⟨hx, hb, hml, hown, hts, hret, hlk, hnm, hfr, hlr⟩ := C
  have hdg0 := mj_dec0 hat
  have hln := mj_len0 hat
  have hck := mj_chk0 hat
  simp only [mj_lnok, mj_ln, beq_iff_eq] at hln
  subst hln
  have hdg := hdg0
  clear hdg0
  simp only [mj_step, mj_nx] at hs
  split at hs
  · rename_i y x st1
    cases hs
    refine lv_lshl hx hb hdg rfl ?_
    exact mj_w0 (x := h.2.1) (y := h.2.2) (kk lsC H locs hL hR hlo)
  · cases hs
set_option maxHeartbeats 4000000 in
theorem mj_s_lcmp (C : mj_Cx p s m args meth c i R) (K : mj_Kn G s) (hat : mj_at i pc = some (.lcmp, len, a, b)) (hs : mj_step i (.lcmp, len, a, b) pc ls st h = some (.inl s')) (hL : mj_L G i ls lsC) (hR : mj_Rep G s h H) (hlo : ∀ q ∈ locs, G.2.2.2 < q.base)
  (hc : cells + (s'.2.2.2.2.1 - h.2.1) ≤ R.cells) (hsl : slots + (s'.2.2.2.2.2 - h.2.2) ≤ R.slots)
  (kk : ∀ (lsC' : Array Slot) (H' : Heap) (locs' : List Loc), mj_L G i s'.2.1 lsC' → mj_Rep G s s'.2.2.2 H' → (∀ q ∈ locs', G.2.2.2 < q.base) → W p l e R s m args below meth c H' locs' (cells + (s'.2.2.2.2.1 - h.2.1)) (slots + (s'.2.2.2.2.2 - h.2.2)) Q (F0 m s'.1 lsC' (s'.2.2.1.map (mj_cv G)))) : W p l e R s m args below meth c H locs cells slots Q (F0 m pc lsC (st.map (mj_cv G))) := by
  obtain ⟨hx, hb, hml, hown, hts, hret, hlk, hnm, hfr, hlr⟩ := C
  have hdg0 := mj_dec0 hat
  have hln := mj_len0 hat
  have hck := mj_chk0 hat
  simp only [mj_lnok, mj_ln, beq_iff_eq] at hln
  subst hln
  have hdg := hdg0
  clear hdg0
  simp only [mj_step, mj_nx] at hs
  split at hs
  · rename_i y x st1
    cases hs
    refine W.lcmp hx hb hdg ?_
    exact mj_w0 (x := h.2.1) (y := h.2.2) (kk lsC H locs hL hR hlo)
  · cases hs
set_option maxHeartbeats 4000000 in
theorem mj_s_i2l (C : mj_Cx p s m args meth c i R) (K : mj_Kn G s) (hat : mj_at i pc = some (.i2l, len, a, b)) (hs : mj_step i (.i2l, len, a, b) pc ls st h = some (.inl s')) (hL : mj_L G i ls lsC) (hR : mj_Rep G s h H) (hlo : ∀ q ∈ locs, G.2.2.2 < q.base)
  (hc : cells + (s'.2.2.2.2.1 - h.2.1) ≤ R.cells) (hsl : slots + (s'.2.2.2.2.2 - h.2.2) ≤ R.slots)
  (kk : ∀ (lsC' : Array Slot) (H' : Heap) (locs' : List Loc), mj_L G i s'.2.1 lsC' → mj_Rep G s s'.2.2.2 H' → (∀ q ∈ locs', G.2.2.2 < q.base) → W p l e R s m args below meth c H' locs' (cells + (s'.2.2.2.2.1 - h.2.1)) (slots + (s'.2.2.2.2.2 - h.2.2)) Q (F0 m s'.1 lsC' (s'.2.2.1.map (mj_cv G)))) : W p l e R s m args below meth c H locs cells slots Q (F0 m pc lsC (st.map (mj_cv G))) := by
  obtain ⟨hx, hb, hml, hown, hts, hret, hlk, hnm, hfr, hlr⟩ := C
  have hdg0 := mj_dec0 hat
  have hln := mj_len0 hat
  have hck := mj_chk0 hat
  simp only [mj_lnok, mj_ln, beq_iff_eq] at hln
  subst hln
  have hdg := hdg0
  clear hdg0
  simp only [mj_step, mj_nx] at hs
  split at hs
  · rename_i x st1
    cases hs
    refine lv_i2l hx hb hdg rfl ?_
    exact mj_w0 (x := h.2.1) (y := h.2.2) (kk lsC H locs hL hR hlo)
  · cases hs
set_option maxHeartbeats 4000000 in
theorem mj_s_iconst {n : Int} (C : mj_Cx p s m args meth c i R) (K : mj_Kn G s) (hat : mj_at i pc = some (.iconst n, len, a, b)) (hs : mj_step i (.iconst n, len, a, b) pc ls st h = some (.inl s')) (hL : mj_L G i ls lsC) (hR : mj_Rep G s h H) (hlo : ∀ q ∈ locs, G.2.2.2 < q.base)
  (hc : cells + (s'.2.2.2.2.1 - h.2.1) ≤ R.cells) (hsl : slots + (s'.2.2.2.2.2 - h.2.2) ≤ R.slots)
  (kk : ∀ (lsC' : Array Slot) (H' : Heap) (locs' : List Loc), mj_L G i s'.2.1 lsC' → mj_Rep G s s'.2.2.2 H' → (∀ q ∈ locs', G.2.2.2 < q.base) → W p l e R s m args below meth c H' locs' (cells + (s'.2.2.2.2.1 - h.2.1)) (slots + (s'.2.2.2.2.2 - h.2.2)) Q (F0 m s'.1 lsC' (s'.2.2.1.map (mj_cv G)))) : W p l e R s m args below meth c H locs cells slots Q (F0 m pc lsC (st.map (mj_cv G))) := by
  obtain ⟨hx, hb, hml, hown, hts, hret, hlk, hnm, hfr, hlr⟩ := C
  have hdg0 := mj_dec0 hat
  have hln := mj_len0 hat
  have hck := mj_chk0 hat
  simp only [mj_lnok, mj_ln, beq_iff_eq] at hln
  subst hln
  have hdg := hdg0
  clear hdg0
  simp only [mj_step, mj_nx] at hs
  cases hs
  refine lv_iconst hx hb hdg rfl ?_
  exact mj_w0 (x := h.2.1) (y := h.2.2) (kk lsC H locs hL hR hlo)
set_option maxHeartbeats 4000000 in
theorem mj_s_bipush {n : Int} (C : mj_Cx p s m args meth c i R) (K : mj_Kn G s) (hat : mj_at i pc = some (.bipush n, len, a, b)) (hs : mj_step i (.bipush n, len, a, b) pc ls st h = some (.inl s')) (hL : mj_L G i ls lsC) (hR : mj_Rep G s h H) (hlo : ∀ q ∈ locs, G.2.2.2 < q.base)
  (hc : cells + (s'.2.2.2.2.1 - h.2.1) ≤ R.cells) (hsl : slots + (s'.2.2.2.2.2 - h.2.2) ≤ R.slots)
  (kk : ∀ (lsC' : Array Slot) (H' : Heap) (locs' : List Loc), mj_L G i s'.2.1 lsC' → mj_Rep G s s'.2.2.2 H' → (∀ q ∈ locs', G.2.2.2 < q.base) → W p l e R s m args below meth c H' locs' (cells + (s'.2.2.2.2.1 - h.2.1)) (slots + (s'.2.2.2.2.2 - h.2.2)) Q (F0 m s'.1 lsC' (s'.2.2.1.map (mj_cv G)))) : W p l e R s m args below meth c H locs cells slots Q (F0 m pc lsC (st.map (mj_cv G))) := by
  obtain ⟨hx, hb, hml, hown, hts, hret, hlk, hnm, hfr, hlr⟩ := C
  have hdg0 := mj_dec0 hat
  have hln := mj_len0 hat
  have hck := mj_chk0 hat
  simp only [mj_lnok, mj_ln, beq_iff_eq] at hln
  subst hln
  have hdg := hdg0
  clear hdg0
  simp only [mj_step, mj_nx] at hs
  cases hs
  refine lv_bipush hx hb hdg rfl ?_
  exact mj_w0 (x := h.2.1) (y := h.2.2) (kk lsC H locs hL hR hlo)
set_option maxHeartbeats 4000000 in
theorem mj_s_sipush {n : Int} (C : mj_Cx p s m args meth c i R) (K : mj_Kn G s) (hat : mj_at i pc = some (.sipush n, len, a, b)) (hs : mj_step i (.sipush n, len, a, b) pc ls st h = some (.inl s')) (hL : mj_L G i ls lsC) (hR : mj_Rep G s h H) (hlo : ∀ q ∈ locs, G.2.2.2 < q.base)
  (hc : cells + (s'.2.2.2.2.1 - h.2.1) ≤ R.cells) (hsl : slots + (s'.2.2.2.2.2 - h.2.2) ≤ R.slots)
  (kk : ∀ (lsC' : Array Slot) (H' : Heap) (locs' : List Loc), mj_L G i s'.2.1 lsC' → mj_Rep G s s'.2.2.2 H' → (∀ q ∈ locs', G.2.2.2 < q.base) → W p l e R s m args below meth c H' locs' (cells + (s'.2.2.2.2.1 - h.2.1)) (slots + (s'.2.2.2.2.2 - h.2.2)) Q (F0 m s'.1 lsC' (s'.2.2.1.map (mj_cv G)))) : W p l e R s m args below meth c H locs cells slots Q (F0 m pc lsC (st.map (mj_cv G))) := by
  obtain ⟨hx, hb, hml, hown, hts, hret, hlk, hnm, hfr, hlr⟩ := C
  have hdg0 := mj_dec0 hat
  have hln := mj_len0 hat
  have hck := mj_chk0 hat
  simp only [mj_lnok, mj_ln, beq_iff_eq] at hln
  subst hln
  have hdg := hdg0
  clear hdg0
  simp only [mj_step, mj_nx] at hs
  cases hs
  refine lv_sipush hx hb hdg rfl ?_
  exact mj_w0 (x := h.2.1) (y := h.2.2) (kk lsC H locs hL hR hlo)
set_option maxHeartbeats 4000000 in
theorem mj_s_lconst {n : Fin 2} (C : mj_Cx p s m args meth c i R) (K : mj_Kn G s) (hat : mj_at i pc = some (.lconst n, len, a, b)) (hs : mj_step i (.lconst n, len, a, b) pc ls st h = some (.inl s')) (hL : mj_L G i ls lsC) (hR : mj_Rep G s h H) (hlo : ∀ q ∈ locs, G.2.2.2 < q.base)
  (hc : cells + (s'.2.2.2.2.1 - h.2.1) ≤ R.cells) (hsl : slots + (s'.2.2.2.2.2 - h.2.2) ≤ R.slots)
  (kk : ∀ (lsC' : Array Slot) (H' : Heap) (locs' : List Loc), mj_L G i s'.2.1 lsC' → mj_Rep G s s'.2.2.2 H' → (∀ q ∈ locs', G.2.2.2 < q.base) → W p l e R s m args below meth c H' locs' (cells + (s'.2.2.2.2.1 - h.2.1)) (slots + (s'.2.2.2.2.2 - h.2.2)) Q (F0 m s'.1 lsC' (s'.2.2.1.map (mj_cv G)))) : W p l e R s m args below meth c H locs cells slots Q (F0 m pc lsC (st.map (mj_cv G))) := by
  obtain ⟨hx, hb, hml, hown, hts, hret, hlk, hnm, hfr, hlr⟩ := C
  have hdg0 := mj_dec0 hat
  have hln := mj_len0 hat
  have hck := mj_chk0 hat
  simp only [mj_lnok, mj_ln, beq_iff_eq] at hln
  subst hln
  have hdg := hdg0
  clear hdg0
  simp only [mj_step, mj_nx] at hs
  cases hs
  refine lv_lconst hx hb hdg rfl ?_
  exact mj_w0 (x := h.2.1) (y := h.2.2) (kk lsC H locs hL hR hlo)
set_option maxHeartbeats 4000000 in
theorem mj_s_ldc_w {n : Nat} (C : mj_Cx p s m args meth c i R) (K : mj_Kn G s) (hat : mj_at i pc = some (.ldc_w n, len, a, b)) (hs : mj_step i (.ldc_w n, len, a, b) pc ls st h = some (.inl s')) (hL : mj_L G i ls lsC) (hR : mj_Rep G s h H) (hlo : ∀ q ∈ locs, G.2.2.2 < q.base)
  (hc : cells + (s'.2.2.2.2.1 - h.2.1) ≤ R.cells) (hsl : slots + (s'.2.2.2.2.2 - h.2.2) ≤ R.slots)
  (kk : ∀ (lsC' : Array Slot) (H' : Heap) (locs' : List Loc), mj_L G i s'.2.1 lsC' → mj_Rep G s s'.2.2.2 H' → (∀ q ∈ locs', G.2.2.2 < q.base) → W p l e R s m args below meth c H' locs' (cells + (s'.2.2.2.2.1 - h.2.1)) (slots + (s'.2.2.2.2.2 - h.2.2)) Q (F0 m s'.1 lsC' (s'.2.2.1.map (mj_cv G)))) : W p l e R s m args below meth c H locs cells slots Q (F0 m pc lsC (st.map (mj_cv G))) := by
  obtain ⟨hx, hb, hml, hown, hts, hret, hlk, hnm, hfr, hlr⟩ := C
  have hdg0 := mj_dec0 hat
  have hln := mj_len0 hat
  have hck := mj_chk0 hat
  simp only [mj_lnok, mj_ln, beq_iff_eq] at hln
  subst hln
  have hdg := hdg0
  clear hdg0
  simp only [mj_step, mj_nx] at hs
  cases hs
  refine lv_ldcw hx hb hown (hts _ (mj_ick hck)) hdg ?_
  exact mj_w0 (x := h.2.1) (y := h.2.2) (kk lsC H locs hL hR hlo)
set_option maxHeartbeats 4000000 in
theorem mj_s_ldc2_w {n : Nat} (C : mj_Cx p s m args meth c i R) (K : mj_Kn G s) (hat : mj_at i pc = some (.ldc2_w n, len, a, b)) (hs : mj_step i (.ldc2_w n, len, a, b) pc ls st h = some (.inl s')) (hL : mj_L G i ls lsC) (hR : mj_Rep G s h H) (hlo : ∀ q ∈ locs, G.2.2.2 < q.base)
  (hc : cells + (s'.2.2.2.2.1 - h.2.1) ≤ R.cells) (hsl : slots + (s'.2.2.2.2.2 - h.2.2) ≤ R.slots)
  (kk : ∀ (lsC' : Array Slot) (H' : Heap) (locs' : List Loc), mj_L G i s'.2.1 lsC' → mj_Rep G s s'.2.2.2 H' → (∀ q ∈ locs', G.2.2.2 < q.base) → W p l e R s m args below meth c H' locs' (cells + (s'.2.2.2.2.1 - h.2.1)) (slots + (s'.2.2.2.2.2 - h.2.2)) Q (F0 m s'.1 lsC' (s'.2.2.1.map (mj_cv G)))) : W p l e R s m args below meth c H locs cells slots Q (F0 m pc lsC (st.map (mj_cv G))) := by
  obtain ⟨hx, hb, hml, hown, hts, hret, hlk, hnm, hfr, hlr⟩ := C
  have hdg0 := mj_dec0 hat
  have hln := mj_len0 hat
  have hck := mj_chk0 hat
  simp only [mj_lnok, mj_ln, beq_iff_eq] at hln
  subst hln
  have hdg := hdg0
  clear hdg0
  simp only [mj_step, mj_nx] at hs
  cases hs
  refine lv_ldc2 hx hb hown (hts _ (mj_lgk hck)) hdg ?_
  exact mj_w0 (x := h.2.1) (y := h.2.2) (kk lsC H locs hL hR hlo)
set_option maxHeartbeats 4000000 in
theorem mj_s_aload_n {n : Fin 4} (C : mj_Cx p s m args meth c i R) (K : mj_Kn G s) (hat : mj_at i pc = some (.aload_n n, len, a, b)) (hs : mj_step i (.aload_n n, len, a, b) pc ls st h = some (.inl s')) (hL : mj_L G i ls lsC) (hR : mj_Rep G s h H) (hlo : ∀ q ∈ locs, G.2.2.2 < q.base)
  (hc : cells + (s'.2.2.2.2.1 - h.2.1) ≤ R.cells) (hsl : slots + (s'.2.2.2.2.2 - h.2.2) ≤ R.slots)
  (kk : ∀ (lsC' : Array Slot) (H' : Heap) (locs' : List Loc), mj_L G i s'.2.1 lsC' → mj_Rep G s s'.2.2.2 H' → (∀ q ∈ locs', G.2.2.2 < q.base) → W p l e R s m args below meth c H' locs' (cells + (s'.2.2.2.2.1 - h.2.1)) (slots + (s'.2.2.2.2.2 - h.2.2)) Q (F0 m s'.1 lsC' (s'.2.2.1.map (mj_cv G)))) : W p l e R s m args below meth c H locs cells slots Q (F0 m pc lsC (st.map (mj_cv G))) := by
  obtain ⟨hx, hb, hml, hown, hts, hret, hlk, hnm, hfr, hlr⟩ := C
  have hdg0 := mj_dec0 hat
  have hln := mj_len0 hat
  have hck := mj_chk0 hat
  simp only [mj_lnok, mj_ln, beq_iff_eq] at hln
  subst hln
  have hdg := hdg0
  clear hdg0
  simp only [mj_step, mj_nx] at hs
  split at hs
  · rename_i x hl
    cases hs
    refine lv_aload_n hx hb hdg rfl (hL.get hl (fun z => by cases z)) ?_
    exact mj_w0 (x := h.2.1) (y := h.2.2) (kk lsC H locs hL hR hlo)
  · cases hs
set_option maxHeartbeats 4000000 in
theorem mj_s_iload_n {n : Fin 4} (C : mj_Cx p s m args meth c i R) (K : mj_Kn G s) (hat : mj_at i pc = some (.iload_n n, len, a, b)) (hs : mj_step i (.iload_n n, len, a, b) pc ls st h = some (.inl s')) (hL : mj_L G i ls lsC) (hR : mj_Rep G s h H) (hlo : ∀ q ∈ locs, G.2.2.2 < q.base)
  (hc : cells + (s'.2.2.2.2.1 - h.2.1) ≤ R.cells) (hsl : slots + (s'.2.2.2.2.2 - h.2.2) ≤ R.slots)
  (kk : ∀ (lsC' : Array Slot) (H' : Heap) (locs' : List Loc), mj_L G i s'.2.1 lsC' → mj_Rep G s s'.2.2.2 H' → (∀ q ∈ locs', G.2.2.2 < q.base) → W p l e R s m args below meth c H' locs' (cells + (s'.2.2.2.2.1 - h.2.1)) (slots + (s'.2.2.2.2.2 - h.2.2)) Q (F0 m s'.1 lsC' (s'.2.2.1.map (mj_cv G)))) : W p l e R s m args below meth c H locs cells slots Q (F0 m pc lsC (st.map (mj_cv G))) := by
  obtain ⟨hx, hb, hml, hown, hts, hret, hlk, hnm, hfr, hlr⟩ := C
  have hdg0 := mj_dec0 hat
  have hln := mj_len0 hat
  have hck := mj_chk0 hat
  simp only [mj_lnok, mj_ln, beq_iff_eq] at hln
  subst hln
  have hdg := hdg0
  clear hdg0
  simp only [mj_step, mj_nx] at hs
  split at hs
  · rename_i x hl
    cases hs
    refine lv_iload_n hx hb hdg rfl (hL.get hl (fun z => by cases z)) ?_
    exact mj_w0 (x := h.2.1) (y := h.2.2) (kk lsC H locs hL hR hlo)
  · cases hs
set_option maxHeartbeats 4000000 in
theorem mj_s_iload {n : Nat} (C : mj_Cx p s m args meth c i R) (K : mj_Kn G s) (hat : mj_at i pc = some (.iload n, len, a, b)) (hs : mj_step i (.iload n, len, a, b) pc ls st h = some (.inl s')) (hL : mj_L G i ls lsC) (hR : mj_Rep G s h H) (hlo : ∀ q ∈ locs, G.2.2.2 < q.base)
  (hc : cells + (s'.2.2.2.2.1 - h.2.1) ≤ R.cells) (hsl : slots + (s'.2.2.2.2.2 - h.2.2) ≤ R.slots)
  (kk : ∀ (lsC' : Array Slot) (H' : Heap) (locs' : List Loc), mj_L G i s'.2.1 lsC' → mj_Rep G s s'.2.2.2 H' → (∀ q ∈ locs', G.2.2.2 < q.base) → W p l e R s m args below meth c H' locs' (cells + (s'.2.2.2.2.1 - h.2.1)) (slots + (s'.2.2.2.2.2 - h.2.2)) Q (F0 m s'.1 lsC' (s'.2.2.1.map (mj_cv G)))) : W p l e R s m args below meth c H locs cells slots Q (F0 m pc lsC (st.map (mj_cv G))) := by
  obtain ⟨hx, hb, hml, hown, hts, hret, hlk, hnm, hfr, hlr⟩ := C
  have hdg0 := mj_dec0 hat
  have hln := mj_len0 hat
  have hck := mj_chk0 hat
  simp only [mj_lnok, mj_ln, beq_iff_eq] at hln
  subst hln
  have hdg := hdg0
  clear hdg0
  simp only [mj_step, mj_nx] at hs
  split at hs
  · rename_i x hl
    cases hs
    refine lv_iload hx hb hdg (hL.get hl (fun z => by cases z)) ?_
    exact mj_w0 (x := h.2.1) (y := h.2.2) (kk lsC H locs hL hR hlo)
  · cases hs
set_option maxHeartbeats 4000000 in
theorem mj_s_lload_n {n : Fin 4} (C : mj_Cx p s m args meth c i R) (K : mj_Kn G s) (hat : mj_at i pc = some (.lload_n n, len, a, b)) (hs : mj_step i (.lload_n n, len, a, b) pc ls st h = some (.inl s')) (hL : mj_L G i ls lsC) (hR : mj_Rep G s h H) (hlo : ∀ q ∈ locs, G.2.2.2 < q.base)
  (hc : cells + (s'.2.2.2.2.1 - h.2.1) ≤ R.cells) (hsl : slots + (s'.2.2.2.2.2 - h.2.2) ≤ R.slots)
  (kk : ∀ (lsC' : Array Slot) (H' : Heap) (locs' : List Loc), mj_L G i s'.2.1 lsC' → mj_Rep G s s'.2.2.2 H' → (∀ q ∈ locs', G.2.2.2 < q.base) → W p l e R s m args below meth c H' locs' (cells + (s'.2.2.2.2.1 - h.2.1)) (slots + (s'.2.2.2.2.2 - h.2.2)) Q (F0 m s'.1 lsC' (s'.2.2.1.map (mj_cv G)))) : W p l e R s m args below meth c H locs cells slots Q (F0 m pc lsC (st.map (mj_cv G))) := by
  obtain ⟨hx, hb, hml, hown, hts, hret, hlk, hnm, hfr, hlr⟩ := C
  have hdg0 := mj_dec0 hat
  have hln := mj_len0 hat
  have hck := mj_chk0 hat
  simp only [mj_lnok, mj_ln, beq_iff_eq] at hln
  subst hln
  have hdg := hdg0
  clear hdg0
  simp only [mj_step, mj_nx] at hs
  split at hs
  · rename_i x hl
    cases hs
    refine lv_lload_n hx hb hdg rfl (hL.get hl (fun z => by cases z)) ?_
    exact mj_w0 (x := h.2.1) (y := h.2.2) (kk lsC H locs hL hR hlo)
  · cases hs
set_option maxHeartbeats 4000000 in
theorem mj_s_lload {n : Nat} (C : mj_Cx p s m args meth c i R) (K : mj_Kn G s) (hat : mj_at i pc = some (.lload n, len, a, b)) (hs : mj_step i (.lload n, len, a, b) pc ls st h = some (.inl s')) (hL : mj_L G i ls lsC) (hR : mj_Rep G s h H) (hlo : ∀ q ∈ locs, G.2.2.2 < q.base)
  (hc : cells + (s'.2.2.2.2.1 - h.2.1) ≤ R.cells) (hsl : slots + (s'.2.2.2.2.2 - h.2.2) ≤ R.slots)
  (kk : ∀ (lsC' : Array Slot) (H' : Heap) (locs' : List Loc), mj_L G i s'.2.1 lsC' → mj_Rep G s s'.2.2.2 H' → (∀ q ∈ locs', G.2.2.2 < q.base) → W p l e R s m args below meth c H' locs' (cells + (s'.2.2.2.2.1 - h.2.1)) (slots + (s'.2.2.2.2.2 - h.2.2)) Q (F0 m s'.1 lsC' (s'.2.2.1.map (mj_cv G)))) : W p l e R s m args below meth c H locs cells slots Q (F0 m pc lsC (st.map (mj_cv G))) := by
  obtain ⟨hx, hb, hml, hown, hts, hret, hlk, hnm, hfr, hlr⟩ := C
  have hdg0 := mj_dec0 hat
  have hln := mj_len0 hat
  have hck := mj_chk0 hat
  simp only [mj_lnok, mj_ln, beq_iff_eq] at hln
  subst hln
  have hdg := hdg0
  clear hdg0
  simp only [mj_step, mj_nx] at hs
  split at hs
  · rename_i x hl
    cases hs
    refine lv_lload hx hb hdg (hL.get hl (fun z => by cases z)) ?_
    exact mj_w0 (x := h.2.1) (y := h.2.2) (kk lsC H locs hL hR hlo)
  · cases hs
set_option maxHeartbeats 4000000 in
theorem mj_s_istore_n {n : Fin 4} (C : mj_Cx p s m args meth c i R) (K : mj_Kn G s) (hat : mj_at i pc = some (.istore_n n, len, a, b)) (hs : mj_step i (.istore_n n, len, a, b) pc ls st h = some (.inl s')) (hL : mj_L G i ls lsC) (hR : mj_Rep G s h H) (hlo : ∀ q ∈ locs, G.2.2.2 < q.base)
  (hc : cells + (s'.2.2.2.2.1 - h.2.1) ≤ R.cells) (hsl : slots + (s'.2.2.2.2.2 - h.2.2) ≤ R.slots)
  (kk : ∀ (lsC' : Array Slot) (H' : Heap) (locs' : List Loc), mj_L G i s'.2.1 lsC' → mj_Rep G s s'.2.2.2 H' → (∀ q ∈ locs', G.2.2.2 < q.base) → W p l e R s m args below meth c H' locs' (cells + (s'.2.2.2.2.1 - h.2.1)) (slots + (s'.2.2.2.2.2 - h.2.2)) Q (F0 m s'.1 lsC' (s'.2.2.1.map (mj_cv G)))) : W p l e R s m args below meth c H locs cells slots Q (F0 m pc lsC (st.map (mj_cv G))) := by
  obtain ⟨hx, hb, hml, hown, hts, hret, hlk, hnm, hfr, hlr⟩ := C
  have hdg0 := mj_dec0 hat
  have hln := mj_len0 hat
  have hck := mj_chk0 hat
  simp only [mj_lnok, mj_ln, beq_iff_eq] at hln
  subst hln
  have hdg := hdg0
  clear hdg0
  simp only [mj_step, mj_nx] at hs
  split at hs
  · rename_i x st1
    split at hs
    · rename_i hcnd
      cases hs
      refine lv_istore_n (nL := mj_m i) (lv := mj_kl G ls) hx hb hdg rfl hL.has (by have := hL.1; omega) rfl (fun ls2 h2 => ?_)
      exact mj_w0 (x := h.2.1) (y := h.2.2) (kk ls2 H locs (hL.put hcnd.1 (v := .int x) rfl h2) hR hlo)
    · cases hs
  · cases hs
set_option maxHeartbeats 4000000 in
theorem mj_s_istore {n : Nat} (C : mj_Cx p s m args meth c i R) (K : mj_Kn G s) (hat : mj_at i pc = some (.istore n, len, a, b)) (hs : mj_step i (.istore n, len, a, b) pc ls st h = some (.inl s')) (hL : mj_L G i ls lsC) (hR : mj_Rep G s h H) (hlo : ∀ q ∈ locs, G.2.2.2 < q.base)
  (hc : cells + (s'.2.2.2.2.1 - h.2.1) ≤ R.cells) (hsl : slots + (s'.2.2.2.2.2 - h.2.2) ≤ R.slots)
  (kk : ∀ (lsC' : Array Slot) (H' : Heap) (locs' : List Loc), mj_L G i s'.2.1 lsC' → mj_Rep G s s'.2.2.2 H' → (∀ q ∈ locs', G.2.2.2 < q.base) → W p l e R s m args below meth c H' locs' (cells + (s'.2.2.2.2.1 - h.2.1)) (slots + (s'.2.2.2.2.2 - h.2.2)) Q (F0 m s'.1 lsC' (s'.2.2.1.map (mj_cv G)))) : W p l e R s m args below meth c H locs cells slots Q (F0 m pc lsC (st.map (mj_cv G))) := by
  obtain ⟨hx, hb, hml, hown, hts, hret, hlk, hnm, hfr, hlr⟩ := C
  have hdg0 := mj_dec0 hat
  have hln := mj_len0 hat
  have hck := mj_chk0 hat
  simp only [mj_lnok, mj_ln, beq_iff_eq] at hln
  subst hln
  have hdg := hdg0
  clear hdg0
  simp only [mj_step, mj_nx] at hs
  split at hs
  · rename_i x st1
    split at hs
    · rename_i hcnd
      cases hs
      refine lv_istore (nL := mj_m i) (lv := mj_kl G ls) hx hb hdg hL.has (by have := hL.1; omega) rfl (fun ls2 h2 => ?_)
      exact mj_w0 (x := h.2.1) (y := h.2.2) (kk ls2 H locs (hL.put hcnd.1 (v := .int x) rfl h2) hR hlo)
    · cases hs
  · cases hs
set_option maxHeartbeats 4000000 in
theorem mj_s_astore_n {n : Fin 4} (C : mj_Cx p s m args meth c i R) (K : mj_Kn G s) (hat : mj_at i pc = some (.astore_n n, len, a, b)) (hs : mj_step i (.astore_n n, len, a, b) pc ls st h = some (.inl s')) (hL : mj_L G i ls lsC) (hR : mj_Rep G s h H) (hlo : ∀ q ∈ locs, G.2.2.2 < q.base)
  (hc : cells + (s'.2.2.2.2.1 - h.2.1) ≤ R.cells) (hsl : slots + (s'.2.2.2.2.2 - h.2.2) ≤ R.slots)
  (kk : ∀ (lsC' : Array Slot) (H' : Heap) (locs' : List Loc), mj_L G i s'.2.1 lsC' → mj_Rep G s s'.2.2.2 H' → (∀ q ∈ locs', G.2.2.2 < q.base) → W p l e R s m args below meth c H' locs' (cells + (s'.2.2.2.2.1 - h.2.1)) (slots + (s'.2.2.2.2.2 - h.2.2)) Q (F0 m s'.1 lsC' (s'.2.2.1.map (mj_cv G)))) : W p l e R s m args below meth c H locs cells slots Q (F0 m pc lsC (st.map (mj_cv G))) := by
  obtain ⟨hx, hb, hml, hown, hts, hret, hlk, hnm, hfr, hlr⟩ := C
  have hdg0 := mj_dec0 hat
  have hln := mj_len0 hat
  have hck := mj_chk0 hat
  simp only [mj_lnok, mj_ln, beq_iff_eq] at hln
  subst hln
  have hdg := hdg0
  clear hdg0
  simp only [mj_step, mj_nx] at hs
  split at hs
  · rename_i x st1
    split at hs
    · rename_i hcnd
      cases hs
      refine lv_astore_n (nL := mj_m i) (lv := mj_kl G ls) hx hb hdg rfl hL.has (by have := hL.1; omega) rfl (fun ls2 h2 => ?_)
      exact mj_w0 (x := h.2.1) (y := h.2.2) (kk ls2 H locs (hL.put hcnd.1 (v := .ref x) rfl h2) hR hlo)
    · cases hs
  · cases hs
set_option maxHeartbeats 4000000 in
theorem mj_s_lstore_n {n : Fin 4} (C : mj_Cx p s m args meth c i R) (K : mj_Kn G s) (hat : mj_at i pc = some (.lstore_n n, len, a, b)) (hs : mj_step i (.lstore_n n, len, a, b) pc ls st h = some (.inl s')) (hL : mj_L G i ls lsC) (hR : mj_Rep G s h H) (hlo : ∀ q ∈ locs, G.2.2.2 < q.base)
  (hc : cells + (s'.2.2.2.2.1 - h.2.1) ≤ R.cells) (hsl : slots + (s'.2.2.2.2.2 - h.2.2) ≤ R.slots)
  (kk : ∀ (lsC' : Array Slot) (H' : Heap) (locs' : List Loc), mj_L G i s'.2.1 lsC' → mj_Rep G s s'.2.2.2 H' → (∀ q ∈ locs', G.2.2.2 < q.base) → W p l e R s m args below meth c H' locs' (cells + (s'.2.2.2.2.1 - h.2.1)) (slots + (s'.2.2.2.2.2 - h.2.2)) Q (F0 m s'.1 lsC' (s'.2.2.1.map (mj_cv G)))) : W p l e R s m args below meth c H locs cells slots Q (F0 m pc lsC (st.map (mj_cv G))) := by
  obtain ⟨hx, hb, hml, hown, hts, hret, hlk, hnm, hfr, hlr⟩ := C
  have hdg0 := mj_dec0 hat
  have hln := mj_len0 hat
  have hck := mj_chk0 hat
  simp only [mj_lnok, mj_ln, beq_iff_eq] at hln
  subst hln
  have hdg := hdg0
  clear hdg0
  simp only [mj_step, mj_nx] at hs
  split at hs
  · rename_i x st1
    split at hs
    · rename_i hcnd
      cases hs
      refine lv_lstore_n (nL := mj_m i) (lv := mj_kl G ls) hx hb hdg rfl hL.has (by have := hL.1; omega) rfl (fun ls2 h2 => ?_)
      exact mj_w0 (x := h.2.1) (y := h.2.2) (kk ls2 H locs (hL.put2 hcnd.1 hcnd.2.2 h2) hR hlo)
    · cases hs
  · cases hs
set_option maxHeartbeats 4000000 in
theorem mj_s_iinc {k : Nat} {n : Int} (C : mj_Cx p s m args meth c i R) (K : mj_Kn G s) (hat : mj_at i pc = some (.iinc k n, len, a, b)) (hs : mj_step i (.iinc k n, len, a, b) pc ls st h = some (.inl s')) (hL : mj_L G i ls lsC) (hR : mj_Rep G s h H) (hlo : ∀ q ∈ locs, G.2.2.2 < q.base)
  (hc : cells + (s'.2.2.2.2.1 - h.2.1) ≤ R.cells) (hsl : slots + (s'.2.2.2.2.2 - h.2.2) ≤ R.slots)
  (kk : ∀ (lsC' : Array Slot) (H' : Heap) (locs' : List Loc), mj_L G i s'.2.1 lsC' → mj_Rep G s s'.2.2.2 H' → (∀ q ∈ locs', G.2.2.2 < q.base) → W p l e R s m args below meth c H' locs' (cells + (s'.2.2.2.2.1 - h.2.1)) (slots + (s'.2.2.2.2.2 - h.2.2)) Q (F0 m s'.1 lsC' (s'.2.2.1.map (mj_cv G)))) : W p l e R s m args below meth c H locs cells slots Q (F0 m pc lsC (st.map (mj_cv G))) := by
  obtain ⟨hx, hb, hml, hown, hts, hret, hlk, hnm, hfr, hlr⟩ := C
  have hdg0 := mj_dec0 hat
  have hln := mj_len0 hat
  have hck := mj_chk0 hat
  simp only [mj_lnok, mj_ln, beq_iff_eq] at hln
  subst hln
  have hdg := hdg0
  clear hdg0
  simp only [mj_step, mj_nx] at hs
  split at hs
  · rename_i x hl
    split at hs
    · rename_i hcnd
      cases hs
      obtain ⟨j, hj⟩ := hL.key (G := G) hl (fun z => by cases z)
      refine lv_iinc (nL := mj_m i) (lv := mj_kl G ls) hx hb hdg hL.has hj rfl (by have h1 := (List.getElem?_eq_some_iff.mp hl).1; have := hL.1; omega) rfl (fun ls2 h2 => ?_)
      exact mj_w0 (x := h.2.1) (y := h.2.2) (kk ls2 H locs (hL.put hcnd (v := .int (x + Int32.ofInt n)) rfl h2) hR hlo)
    · cases hs
  · cases hs
set_option maxHeartbeats 4000000 in
theorem mj_s_dup (C : mj_Cx p s m args meth c i R) (K : mj_Kn G s) (hat : mj_at i pc = some (.dup, len, a, b)) (hs : mj_step i (.dup, len, a, b) pc ls st h = some (.inl s')) (hL : mj_L G i ls lsC) (hR : mj_Rep G s h H) (hlo : ∀ q ∈ locs, G.2.2.2 < q.base)
  (hc : cells + (s'.2.2.2.2.1 - h.2.1) ≤ R.cells) (hsl : slots + (s'.2.2.2.2.2 - h.2.2) ≤ R.slots)
  (kk : ∀ (lsC' : Array Slot) (H' : Heap) (locs' : List Loc), mj_L G i s'.2.1 lsC' → mj_Rep G s s'.2.2.2 H' → (∀ q ∈ locs', G.2.2.2 < q.base) → W p l e R s m args below meth c H' locs' (cells + (s'.2.2.2.2.1 - h.2.1)) (slots + (s'.2.2.2.2.2 - h.2.2)) Q (F0 m s'.1 lsC' (s'.2.2.1.map (mj_cv G)))) : W p l e R s m args below meth c H locs cells slots Q (F0 m pc lsC (st.map (mj_cv G))) := by
  obtain ⟨hx, hb, hml, hown, hts, hret, hlk, hnm, hfr, hlr⟩ := C
  have hdg0 := mj_dec0 hat
  have hln := mj_len0 hat
  have hck := mj_chk0 hat
  simp only [mj_lnok, mj_ln, beq_iff_eq] at hln
  subst hln
  have hdg := hdg0
  clear hdg0
  simp only [mj_step, mj_nx] at hs
  split at hs
  · rename_i v st1
    split at hs
    · rename_i hv
      cases hs
      refine lv_dup hx hb hdg (mj_cat hv) ?_
      exact mj_w0 (x := h.2.1) (y := h.2.2) (kk lsC H locs hL hR hlo)
    · cases hs
  · cases hs
set_option maxHeartbeats 4000000 in
theorem mj_s_pop (C : mj_Cx p s m args meth c i R) (K : mj_Kn G s) (hat : mj_at i pc = some (.pop, len, a, b)) (hs : mj_step i (.pop, len, a, b) pc ls st h = some (.inl s')) (hL : mj_L G i ls lsC) (hR : mj_Rep G s h H) (hlo : ∀ q ∈ locs, G.2.2.2 < q.base)
  (hc : cells + (s'.2.2.2.2.1 - h.2.1) ≤ R.cells) (hsl : slots + (s'.2.2.2.2.2 - h.2.2) ≤ R.slots)
  (kk : ∀ (lsC' : Array Slot) (H' : Heap) (locs' : List Loc), mj_L G i s'.2.1 lsC' → mj_Rep G s s'.2.2.2 H' → (∀ q ∈ locs', G.2.2.2 < q.base) → W p l e R s m args below meth c H' locs' (cells + (s'.2.2.2.2.1 - h.2.1)) (slots + (s'.2.2.2.2.2 - h.2.2)) Q (F0 m s'.1 lsC' (s'.2.2.1.map (mj_cv G)))) : W p l e R s m args below meth c H locs cells slots Q (F0 m pc lsC (st.map (mj_cv G))) := by
  obtain ⟨hx, hb, hml, hown, hts, hret, hlk, hnm, hfr, hlr⟩ := C
  have hdg0 := mj_dec0 hat
  have hln := mj_len0 hat
  have hck := mj_chk0 hat
  simp only [mj_lnok, mj_ln, beq_iff_eq] at hln
  subst hln
  have hdg := hdg0
  clear hdg0
  simp only [mj_step, mj_nx] at hs
  split at hs
  · rename_i v st1
    split at hs
    · rename_i hv
      cases hs
      refine lv_pop hx hb hdg (mj_cat hv) ?_
      exact mj_w0 (x := h.2.1) (y := h.2.2) (kk lsC H locs hL hR hlo)
    · cases hs
  · cases hs
set_option maxHeartbeats 4000000 in
theorem mj_s_dup2 (C : mj_Cx p s m args meth c i R) (K : mj_Kn G s) (hat : mj_at i pc = some (.dup2, len, a, b)) (hs : mj_step i (.dup2, len, a, b) pc ls st h = some (.inl s')) (hL : mj_L G i ls lsC) (hR : mj_Rep G s h H) (hlo : ∀ q ∈ locs, G.2.2.2 < q.base)
  (hc : cells + (s'.2.2.2.2.1 - h.2.1) ≤ R.cells) (hsl : slots + (s'.2.2.2.2.2 - h.2.2) ≤ R.slots)
  (kk : ∀ (lsC' : Array Slot) (H' : Heap) (locs' : List Loc), mj_L G i s'.2.1 lsC' → mj_Rep G s s'.2.2.2 H' → (∀ q ∈ locs', G.2.2.2 < q.base) → W p l e R s m args below meth c H' locs' (cells + (s'.2.2.2.2.1 - h.2.1)) (slots + (s'.2.2.2.2.2 - h.2.2)) Q (F0 m s'.1 lsC' (s'.2.2.1.map (mj_cv G)))) : W p l e R s m args below meth c H locs cells slots Q (F0 m pc lsC (st.map (mj_cv G))) := by
  obtain ⟨hx, hb, hml, hown, hts, hret, hlk, hnm, hfr, hlr⟩ := C
  have hdg0 := mj_dec0 hat
  have hln := mj_len0 hat
  have hck := mj_chk0 hat
  simp only [mj_lnok, mj_ln, beq_iff_eq] at hln
  subst hln
  have hdg := hdg0
  clear hdg0
  simp only [mj_step, mj_nx] at hs
  split at hs
  · rename_i v w st1
    split at hs
    · rename_i hv
      cases hs
      refine lv_dup2_11 hx hb hdg (mj_cat hv.1) (mj_cat hv.2) ?_
      exact mj_w0 (x := h.2.1) (y := h.2.2) (kk lsC H locs hL hR hlo)
    · cases hs
  · cases hs
set_option maxHeartbeats 4000000 in
theorem mj_s_goto {n : Int} (C : mj_Cx p s m args meth c i R) (K : mj_Kn G s) (hat : mj_at i pc = some (.goto n, len, a, b)) (hs : mj_step i (.goto n, len, a, b) pc ls st h = some (.inl s')) (hL : mj_L G i ls lsC) (hR : mj_Rep G s h H) (hlo : ∀ q ∈ locs, G.2.2.2 < q.base)
  (hc : cells + (s'.2.2.2.2.1 - h.2.1) ≤ R.cells) (hsl : slots + (s'.2.2.2.2.2 - h.2.2) ≤ R.slots)
  (kk : ∀ (lsC' : Array Slot) (H' : Heap) (locs' : List Loc), mj_L G i s'.2.1 lsC' → mj_Rep G s s'.2.2.2 H' → (∀ q ∈ locs', G.2.2.2 < q.base) → W p l e R s m args below meth c H' locs' (cells + (s'.2.2.2.2.1 - h.2.1)) (slots + (s'.2.2.2.2.2 - h.2.2)) Q (F0 m s'.1 lsC' (s'.2.2.1.map (mj_cv G)))) : W p l e R s m args below meth c H locs cells slots Q (F0 m pc lsC (st.map (mj_cv G))) := by
  obtain ⟨hx, hb, hml, hown, hts, hret, hlk, hnm, hfr, hlr⟩ := C
  have hdg0 := mj_dec0 hat
  have hln := mj_len0 hat
  have hck := mj_chk0 hat
  simp only [mj_lnok, mj_ln, beq_iff_eq] at hln
  subst hln
  have hdg := hdg0
  clear hdg0
  simp only [mj_chk, decide_eq_true_eq] at hck
  simp only [mj_step, mj_nx] at hs
  cases hs
  refine lv_goto hx hb hdg hck ?_
  exact mj_w0 (x := h.2.1) (y := h.2.2) (kk lsC H locs hL hR hlo)
set_option maxHeartbeats 4000000 in
theorem mj_s_if_eq {n : Int} (C : mj_Cx p s m args meth c i R) (K : mj_Kn G s) (hat : mj_at i pc = some (.ifCond .eq n, len, a, b)) (hs : mj_step i (.ifCond .eq n, len, a, b) pc ls st h = some (.inl s')) (hL : mj_L G i ls lsC) (hR : mj_Rep G s h H) (hlo : ∀ q ∈ locs, G.2.2.2 < q.base)
  (hc : cells + (s'.2.2.2.2.1 - h.2.1) ≤ R.cells) (hsl : slots + (s'.2.2.2.2.2 - h.2.2) ≤ R.slots)
  (kk : ∀ (lsC' : Array Slot) (H' : Heap) (locs' : List Loc), mj_L G i s'.2.1 lsC' → mj_Rep G s s'.2.2.2 H' → (∀ q ∈ locs', G.2.2.2 < q.base) → W p l e R s m args below meth c H' locs' (cells + (s'.2.2.2.2.1 - h.2.1)) (slots + (s'.2.2.2.2.2 - h.2.2)) Q (F0 m s'.1 lsC' (s'.2.2.1.map (mj_cv G)))) : W p l e R s m args below meth c H locs cells slots Q (F0 m pc lsC (st.map (mj_cv G))) := by
  obtain ⟨hx, hb, hml, hown, hts, hret, hlk, hnm, hfr, hlr⟩ := C
  have hdg0 := mj_dec0 hat
  have hln := mj_len0 hat
  have hck := mj_chk0 hat
  simp only [mj_lnok, mj_ln, beq_iff_eq] at hln
  subst hln
  have hdg := hdg0
  clear hdg0
  simp only [mj_chk, decide_eq_true_eq] at hck
  simp only [mj_step, mj_nx, mj_cond, decide_eq_true_eq] at hs
  split at hs
  · rename_i x st1
    refine lv_if_eq hx hb hdg hck (fun hz => ?_) (fun hz => ?_)
    · simp only [hz, if_true, if_false, not_true_eq_false, not_false_eq_true] at hs
      cases hs
      exact mj_w0 (x := h.2.1) (y := h.2.2) (kk lsC H locs hL hR hlo)
    · simp only [hz, if_true, if_false, not_true_eq_false, not_false_eq_true] at hs
      cases hs
      exact mj_w0 (x := h.2.1) (y := h.2.2) (kk lsC H locs hL hR hlo)
  · cases hs
set_option maxHeartbeats 4000000 in
theorem mj_s_ic_eq {n : Int} (C : mj_Cx p s m args meth c i R) (K : mj_Kn G s) (hat : mj_at i pc = some (.if_icmp .eq n, len, a, b)) (hs : mj_step i (.if_icmp .eq n, len, a, b) pc ls st h = some (.inl s')) (hL : mj_L G i ls lsC) (hR : mj_Rep G s h H) (hlo : ∀ q ∈ locs, G.2.2.2 < q.base)
  (hc : cells + (s'.2.2.2.2.1 - h.2.1) ≤ R.cells) (hsl : slots + (s'.2.2.2.2.2 - h.2.2) ≤ R.slots)
  (kk : ∀ (lsC' : Array Slot) (H' : Heap) (locs' : List Loc), mj_L G i s'.2.1 lsC' → mj_Rep G s s'.2.2.2 H' → (∀ q ∈ locs', G.2.2.2 < q.base) → W p l e R s m args below meth c H' locs' (cells + (s'.2.2.2.2.1 - h.2.1)) (slots + (s'.2.2.2.2.2 - h.2.2)) Q (F0 m s'.1 lsC' (s'.2.2.1.map (mj_cv G)))) : W p l e R s m args below meth c H locs cells slots Q (F0 m pc lsC (st.map (mj_cv G))) := by
  obtain ⟨hx, hb, hml, hown, hts, hret, hlk, hnm, hfr, hlr⟩ := C
  have hdg0 := mj_dec0 hat
  have hln := mj_len0 hat
  have hck := mj_chk0 hat
  simp only [mj_lnok, mj_ln, beq_iff_eq] at hln
  subst hln
  have hdg := hdg0
  clear hdg0
  simp only [mj_chk, decide_eq_true_eq] at hck
  simp only [mj_step, mj_nx, mj_cond, decide_eq_true_eq] at hs
  split at hs
  · rename_i y x st1
    by_cases hz : x = y
    · rw [if_pos hz] at hs
      cases hs
      exact lv_icmp_eq hx hb hdg hck (fun _ => mj_w0 (x := h.2.1) (y := h.2.2) (kk lsC H locs hL hR hlo)) (fun q => absurd hz (by simpa using q))
    · rw [if_neg hz] at hs
      cases hs
      exact lv_icmp_eq hx hb hdg hck (fun q => absurd q hz) (fun _ => mj_w0 (x := h.2.1) (y := h.2.2) (kk lsC H locs hL hR hlo))
  · cases hs
set_option maxHeartbeats 4000000 in
theorem mj_s_if_ne {n : Int} (C : mj_Cx p s m args meth c i R) (K : mj_Kn G s) (hat : mj_at i pc = some (.ifCond .ne n, len, a, b)) (hs : mj_step i (.ifCond .ne n, len, a, b) pc ls st h = some (.inl s')) (hL : mj_L G i ls lsC) (hR : mj_Rep G s h H) (hlo : ∀ q ∈ locs, G.2.2.2 < q.base)
  (hc : cells + (s'.2.2.2.2.1 - h.2.1) ≤ R.cells) (hsl : slots + (s'.2.2.2.2.2 - h.2.2) ≤ R.slots)
  (kk : ∀ (lsC' : Array Slot) (H' : Heap) (locs' : List Loc), mj_L G i s'.2.1 lsC' → mj_Rep G s s'.2.2.2 H' → (∀ q ∈ locs', G.2.2.2 < q.base) → W p l e R s m args below meth c H' locs' (cells + (s'.2.2.2.2.1 - h.2.1)) (slots + (s'.2.2.2.2.2 - h.2.2)) Q (F0 m s'.1 lsC' (s'.2.2.1.map (mj_cv G)))) : W p l e R s m args below meth c H locs cells slots Q (F0 m pc lsC (st.map (mj_cv G))) := by
  obtain ⟨hx, hb, hml, hown, hts, hret, hlk, hnm, hfr, hlr⟩ := C
  have hdg0 := mj_dec0 hat
  have hln := mj_len0 hat
  have hck := mj_chk0 hat
  simp only [mj_lnok, mj_ln, beq_iff_eq] at hln
  subst hln
  have hdg := hdg0
  clear hdg0
  simp only [mj_chk, decide_eq_true_eq] at hck
  simp only [mj_step, mj_nx, mj_cond, decide_eq_true_eq] at hs
  split at hs
  · rename_i x st1
    refine lv_if_ne hx hb hdg hck (fun hz => ?_) (fun hz => ?_)
    · simp only [hz, if_true, if_false, not_true_eq_false, not_false_eq_true] at hs
      cases hs
      exact mj_w0 (x := h.2.1) (y := h.2.2) (kk lsC H locs hL hR hlo)
    · simp only [hz, if_true, if_false, not_true_eq_false, not_false_eq_true] at hs
      cases hs
      exact mj_w0 (x := h.2.1) (y := h.2.2) (kk lsC H locs hL hR hlo)
  · cases hs
set_option maxHeartbeats 4000000 in
theorem mj_s_ic_ne {n : Int} (C : mj_Cx p s m args meth c i R) (K : mj_Kn G s) (hat : mj_at i pc = some (.if_icmp .ne n, len, a, b)) (hs : mj_step i (.if_icmp .ne n, len, a, b) pc ls st h = some (.inl s')) (hL : mj_L G i ls lsC) (hR : mj_Rep G s h H) (hlo : ∀ q ∈ locs, G.2.2.2 < q.base)
  (hc : cells + (s'.2.2.2.2.1 - h.2.1) ≤ R.cells) (hsl : slots + (s'.2.2.2.2.2 - h.2.2) ≤ R.slots)
  (kk : ∀ (lsC' : Array Slot) (H' : Heap) (locs' : List Loc), mj_L G i s'.2.1 lsC' → mj_Rep G s s'.2.2.2 H' → (∀ q ∈ locs', G.2.2.2 < q.base) → W p l e R s m args below meth c H' locs' (cells + (s'.2.2.2.2.1 - h.2.1)) (slots + (s'.2.2.2.2.2 - h.2.2)) Q (F0 m s'.1 lsC' (s'.2.2.1.map (mj_cv G)))) : W p l e R s m args below meth c H locs cells slots Q (F0 m pc lsC (st.map (mj_cv G))) := by
  obtain ⟨hx, hb, hml, hown, hts, hret, hlk, hnm, hfr, hlr⟩ := C
  have hdg0 := mj_dec0 hat
  have hln := mj_len0 hat
  have hck := mj_chk0 hat
  simp only [mj_lnok, mj_ln, beq_iff_eq] at hln
  subst hln
  have hdg := hdg0
  clear hdg0
  simp only [mj_chk, decide_eq_true_eq] at hck
  simp only [mj_step, mj_nx, mj_cond, decide_eq_true_eq] at hs
  split at hs
  · rename_i y x st1
    by_cases hz : ¬ x = y
    · rw [if_pos hz] at hs
      cases hs
      exact lv_icmp_ne hx hb hdg hck (fun _ => mj_w0 (x := h.2.1) (y := h.2.2) (kk lsC H locs hL hR hlo)) (fun q => absurd hz (by simpa using q))
    · rw [if_neg hz] at hs
      cases hs
      exact lv_icmp_ne hx hb hdg hck (fun q => absurd q hz) (fun _ => mj_w0 (x := h.2.1) (y := h.2.2) (kk lsC H locs hL hR hlo))
  · cases hs
set_option maxHeartbeats 4000000 in
theorem mj_s_if_lt {n : Int} (C : mj_Cx p s m args meth c i R) (K : mj_Kn G s) (hat : mj_at i pc = some (.ifCond .lt n, len, a, b)) (hs : mj_step i (.ifCond .lt n, len, a, b) pc ls st h = some (.inl s')) (hL : mj_L G i ls lsC) (hR : mj_Rep G s h H) (hlo : ∀ q ∈ locs, G.2.2.2 < q.base)
  (hc : cells + (s'.2.2.2.2.1 - h.2.1) ≤ R.cells) (hsl : slots + (s'.2.2.2.2.2 - h.2.2) ≤ R.slots)
  (kk : ∀ (lsC' : Array Slot) (H' : Heap) (locs' : List Loc), mj_L G i s'.2.1 lsC' → mj_Rep G s s'.2.2.2 H' → (∀ q ∈ locs', G.2.2.2 < q.base) → W p l e R s m args below meth c H' locs' (cells + (s'.2.2.2.2.1 - h.2.1)) (slots + (s'.2.2.2.2.2 - h.2.2)) Q (F0 m s'.1 lsC' (s'.2.2.1.map (mj_cv G)))) : W p l e R s m args below meth c H locs cells slots Q (F0 m pc lsC (st.map (mj_cv G))) := by
  obtain ⟨hx, hb, hml, hown, hts, hret, hlk, hnm, hfr, hlr⟩ := C
  have hdg0 := mj_dec0 hat
  have hln := mj_len0 hat
  have hck := mj_chk0 hat
  simp only [mj_lnok, mj_ln, beq_iff_eq] at hln
  subst hln
  have hdg := hdg0
  clear hdg0
  simp only [mj_chk, decide_eq_true_eq] at hck
  simp only [mj_step, mj_nx, mj_cond, decide_eq_true_eq] at hs
  split at hs
  · rename_i x st1
    refine lv_if_lt hx hb hdg hck (fun hz => ?_) (fun hz => ?_)
    · simp only [hz, if_true, if_false, not_true_eq_false, not_false_eq_true] at hs
      cases hs
      exact mj_w0 (x := h.2.1) (y := h.2.2) (kk lsC H locs hL hR hlo)
    · simp only [hz, if_true, if_false, not_true_eq_false, not_false_eq_true] at hs
      cases hs
      exact mj_w0 (x := h.2.1) (y := h.2.2) (kk lsC H locs hL hR hlo)
  · cases hs
set_option maxHeartbeats 4000000 in
theorem mj_s_ic_lt {n : Int} (C : mj_Cx p s m args meth c i R) (K : mj_Kn G s) (hat : mj_at i pc = some (.if_icmp .lt n, len, a, b)) (hs : mj_step i (.if_icmp .lt n, len, a, b) pc ls st h = some (.inl s')) (hL : mj_L G i ls lsC) (hR : mj_Rep G s h H) (hlo : ∀ q ∈ locs, G.2.2.2 < q.base)
  (hc : cells + (s'.2.2.2.2.1 - h.2.1) ≤ R.cells) (hsl : slots + (s'.2.2.2.2.2 - h.2.2) ≤ R.slots)
  (kk : ∀ (lsC' : Array Slot) (H' : Heap) (locs' : List Loc), mj_L G i s'.2.1 lsC' → mj_Rep G s s'.2.2.2 H' → (∀ q ∈ locs', G.2.2.2 < q.base) → W p l e R s m args below meth c H' locs' (cells + (s'.2.2.2.2.1 - h.2.1)) (slots + (s'.2.2.2.2.2 - h.2.2)) Q (F0 m s'.1 lsC' (s'.2.2.1.map (mj_cv G)))) : W p l e R s m args below meth c H locs cells slots Q (F0 m pc lsC (st.map (mj_cv G))) := by
  obtain ⟨hx, hb, hml, hown, hts, hret, hlk, hnm, hfr, hlr⟩ := C
  have hdg0 := mj_dec0 hat
  have hln := mj_len0 hat
  have hck := mj_chk0 hat
  simp only [mj_lnok, mj_ln, beq_iff_eq] at hln
  subst hln
  have hdg := hdg0
  clear hdg0
  simp only [mj_chk, decide_eq_true_eq] at hck
  simp only [mj_step, mj_nx, mj_cond, decide_eq_true_eq] at hs
  split at hs
  · rename_i y x st1
    by_cases hz : x < y
    · rw [if_pos hz] at hs
      cases hs
      exact lv_icmp_lt hx hb hdg hck (fun _ => mj_w0 (x := h.2.1) (y := h.2.2) (kk lsC H locs hL hR hlo)) (fun q => absurd hz (by simpa using q))
    · rw [if_neg hz] at hs
      cases hs
      exact lv_icmp_lt hx hb hdg hck (fun q => absurd q hz) (fun _ => mj_w0 (x := h.2.1) (y := h.2.2) (kk lsC H locs hL hR hlo))
  · cases hs
set_option maxHeartbeats 4000000 in
theorem mj_s_if_ge {n : Int} (C : mj_Cx p s m args meth c i R) (K : mj_Kn G s) (hat : mj_at i pc = some (.ifCond .ge n, len, a, b)) (hs : mj_step i (.ifCond .ge n, len, a, b) pc ls st h = some (.inl s')) (hL : mj_L G i ls lsC) (hR : mj_Rep G s h H) (hlo : ∀ q ∈ locs, G.2.2.2 < q.base)
  (hc : cells + (s'.2.2.2.2.1 - h.2.1) ≤ R.cells) (hsl : slots + (s'.2.2.2.2.2 - h.2.2) ≤ R.slots)
  (kk : ∀ (lsC' : Array Slot) (H' : Heap) (locs' : List Loc), mj_L G i s'.2.1 lsC' → mj_Rep G s s'.2.2.2 H' → (∀ q ∈ locs', G.2.2.2 < q.base) → W p l e R s m args below meth c H' locs' (cells + (s'.2.2.2.2.1 - h.2.1)) (slots + (s'.2.2.2.2.2 - h.2.2)) Q (F0 m s'.1 lsC' (s'.2.2.1.map (mj_cv G)))) : W p l e R s m args below meth c H locs cells slots Q (F0 m pc lsC (st.map (mj_cv G))) := by
  obtain ⟨hx, hb, hml, hown, hts, hret, hlk, hnm, hfr, hlr⟩ := C
  have hdg0 := mj_dec0 hat
  have hln := mj_len0 hat
  have hck := mj_chk0 hat
  simp only [mj_lnok, mj_ln, beq_iff_eq] at hln
  subst hln
  have hdg := hdg0
  clear hdg0
  simp only [mj_chk, decide_eq_true_eq] at hck
  simp only [mj_step, mj_nx, mj_cond, decide_eq_true_eq] at hs
  split at hs
  · rename_i x st1
    refine lv_if_ge hx hb hdg hck (fun hz => ?_) (fun hz => ?_)
    · simp only [hz, if_true, if_false, not_true_eq_false, not_false_eq_true] at hs
      cases hs
      exact mj_w0 (x := h.2.1) (y := h.2.2) (kk lsC H locs hL hR hlo)
    · simp only [hz, if_true, if_false, not_true_eq_false, not_false_eq_true] at hs
      cases hs
      exact mj_w0 (x := h.2.1) (y := h.2.2) (kk lsC H locs hL hR hlo)
  · cases hs
set_option maxHeartbeats 4000000 in
theorem mj_s_ic_ge {n : Int} (C : mj_Cx p s m args meth c i R) (K : mj_Kn G s) (hat : mj_at i pc = some (.if_icmp .ge n, len, a, b)) (hs : mj_step i (.if_icmp .ge n, len, a, b) pc ls st h = some (.inl s')) (hL : mj_L G i ls lsC) (hR : mj_Rep G s h H) (hlo : ∀ q ∈ locs, G.2.2.2 < q.base)
  (hc : cells + (s'.2.2.2.2.1 - h.2.1) ≤ R.cells) (hsl : slots + (s'.2.2.2.2.2 - h.2.2) ≤ R.slots)
  (kk : ∀ (lsC' : Array Slot) (H' : Heap) (locs' : List Loc), mj_L G i s'.2.1 lsC' → mj_Rep G s s'.2.2.2 H' → (∀ q ∈ locs', G.2.2.2 < q.base) → W p l e R s m args below meth c H' locs' (cells + (s'.2.2.2.2.1 - h.2.1)) (slots + (s'.2.2.2.2.2 - h.2.2)) Q (F0 m s'.1 lsC' (s'.2.2.1.map (mj_cv G)))) : W p l e R s m args below meth c H locs cells slots Q (F0 m pc lsC (st.map (mj_cv G))) := by
  obtain ⟨hx, hb, hml, hown, hts, hret, hlk, hnm, hfr, hlr⟩ := C
  have hdg0 := mj_dec0 hat
  have hln := mj_len0 hat
  have hck := mj_chk0 hat
  simp only [mj_lnok, mj_ln, beq_iff_eq] at hln
  subst hln
  have hdg := hdg0
  clear hdg0
  simp only [mj_chk, decide_eq_true_eq] at hck
  simp only [mj_step, mj_nx, mj_cond, decide_eq_true_eq] at hs
  split at hs
  · rename_i y x st1
    by_cases hz : y ≤ x
    · rw [if_pos hz] at hs
      cases hs
      exact lv_icmp_ge hx hb hdg hck (fun _ => mj_w0 (x := h.2.1) (y := h.2.2) (kk lsC H locs hL hR hlo)) (fun q => absurd hz (by simpa using q))
    · rw [if_neg hz] at hs
      cases hs
      exact lv_icmp_ge hx hb hdg hck (fun q => absurd q hz) (fun _ => mj_w0 (x := h.2.1) (y := h.2.2) (kk lsC H locs hL hR hlo))
  · cases hs
set_option maxHeartbeats 4000000 in
theorem mj_s_if_gt {n : Int} (C : mj_Cx p s m args meth c i R) (K : mj_Kn G s) (hat : mj_at i pc = some (.ifCond .gt n, len, a, b)) (hs : mj_step i (.ifCond .gt n, len, a, b) pc ls st h = some (.inl s')) (hL : mj_L G i ls lsC) (hR : mj_Rep G s h H) (hlo : ∀ q ∈ locs, G.2.2.2 < q.base)
  (hc : cells + (s'.2.2.2.2.1 - h.2.1) ≤ R.cells) (hsl : slots + (s'.2.2.2.2.2 - h.2.2) ≤ R.slots)
  (kk : ∀ (lsC' : Array Slot) (H' : Heap) (locs' : List Loc), mj_L G i s'.2.1 lsC' → mj_Rep G s s'.2.2.2 H' → (∀ q ∈ locs', G.2.2.2 < q.base) → W p l e R s m args below meth c H' locs' (cells + (s'.2.2.2.2.1 - h.2.1)) (slots + (s'.2.2.2.2.2 - h.2.2)) Q (F0 m s'.1 lsC' (s'.2.2.1.map (mj_cv G)))) : W p l e R s m args below meth c H locs cells slots Q (F0 m pc lsC (st.map (mj_cv G))) := by
  obtain ⟨hx, hb, hml, hown, hts, hret, hlk, hnm, hfr, hlr⟩ := C
  have hdg0 := mj_dec0 hat
  have hln := mj_len0 hat
  have hck := mj_chk0 hat
  simp only [mj_lnok, mj_ln, beq_iff_eq] at hln
  subst hln
  have hdg := hdg0
  clear hdg0
  simp only [mj_chk, decide_eq_true_eq] at hck
  simp only [mj_step, mj_nx, mj_cond, decide_eq_true_eq] at hs
  split at hs
  · rename_i x st1
    refine lv_if_gt hx hb hdg hck (fun hz => ?_) (fun hz => ?_)
    · simp only [hz, if_true, if_false, not_true_eq_false, not_false_eq_true] at hs
      cases hs
      exact mj_w0 (x := h.2.1) (y := h.2.2) (kk lsC H locs hL hR hlo)
    · simp only [hz, if_true, if_false, not_true_eq_false, not_false_eq_true] at hs
      cases hs
      exact mj_w0 (x := h.2.1) (y := h.2.2) (kk lsC H locs hL hR hlo)
  · cases hs
set_option maxHeartbeats 4000000 in
theorem mj_s_ic_gt {n : Int} (C : mj_Cx p s m args meth c i R) (K : mj_Kn G s) (hat : mj_at i pc = some (.if_icmp .gt n, len, a, b)) (hs : mj_step i (.if_icmp .gt n, len, a, b) pc ls st h = some (.inl s')) (hL : mj_L G i ls lsC) (hR : mj_Rep G s h H) (hlo : ∀ q ∈ locs, G.2.2.2 < q.base)
  (hc : cells + (s'.2.2.2.2.1 - h.2.1) ≤ R.cells) (hsl : slots + (s'.2.2.2.2.2 - h.2.2) ≤ R.slots)
  (kk : ∀ (lsC' : Array Slot) (H' : Heap) (locs' : List Loc), mj_L G i s'.2.1 lsC' → mj_Rep G s s'.2.2.2 H' → (∀ q ∈ locs', G.2.2.2 < q.base) → W p l e R s m args below meth c H' locs' (cells + (s'.2.2.2.2.1 - h.2.1)) (slots + (s'.2.2.2.2.2 - h.2.2)) Q (F0 m s'.1 lsC' (s'.2.2.1.map (mj_cv G)))) : W p l e R s m args below meth c H locs cells slots Q (F0 m pc lsC (st.map (mj_cv G))) := by
  obtain ⟨hx, hb, hml, hown, hts, hret, hlk, hnm, hfr, hlr⟩ := C
  have hdg0 := mj_dec0 hat
  have hln := mj_len0 hat
  have hck := mj_chk0 hat
  simp only [mj_lnok, mj_ln, beq_iff_eq] at hln
  subst hln
  have hdg := hdg0
  clear hdg0
  simp only [mj_chk, decide_eq_true_eq] at hck
  simp only [mj_step, mj_nx, mj_cond, decide_eq_true_eq] at hs
  split at hs
  · rename_i y x st1
    by_cases hz : y < x
    · rw [if_pos hz] at hs
      cases hs
      exact lv_icmp_gt hx hb hdg hck (fun _ => mj_w0 (x := h.2.1) (y := h.2.2) (kk lsC H locs hL hR hlo)) (fun q => absurd hz (by simpa using q))
    · rw [if_neg hz] at hs
      cases hs
      exact lv_icmp_gt hx hb hdg hck (fun q => absurd q hz) (fun _ => mj_w0 (x := h.2.1) (y := h.2.2) (kk lsC H locs hL hR hlo))
  · cases hs
set_option maxHeartbeats 4000000 in
theorem mj_s_if_le {n : Int} (C : mj_Cx p s m args meth c i R) (K : mj_Kn G s) (hat : mj_at i pc = some (.ifCond .le n, len, a, b)) (hs : mj_step i (.ifCond .le n, len, a, b) pc ls st h = some (.inl s')) (hL : mj_L G i ls lsC) (hR : mj_Rep G s h H) (hlo : ∀ q ∈ locs, G.2.2.2 < q.base)
  (hc : cells + (s'.2.2.2.2.1 - h.2.1) ≤ R.cells) (hsl : slots + (s'.2.2.2.2.2 - h.2.2) ≤ R.slots)
  (kk : ∀ (lsC' : Array Slot) (H' : Heap) (locs' : List Loc), mj_L G i s'.2.1 lsC' → mj_Rep G s s'.2.2.2 H' → (∀ q ∈ locs', G.2.2.2 < q.base) → W p l e R s m args below meth c H' locs' (cells + (s'.2.2.2.2.1 - h.2.1)) (slots + (s'.2.2.2.2.2 - h.2.2)) Q (F0 m s'.1 lsC' (s'.2.2.1.map (mj_cv G)))) : W p l e R s m args below meth c H locs cells slots Q (F0 m pc lsC (st.map (mj_cv G))) := by
  obtain ⟨hx, hb, hml, hown, hts, hret, hlk, hnm, hfr, hlr⟩ := C
  have hdg0 := mj_dec0 hat
  have hln := mj_len0 hat
  have hck := mj_chk0 hat
  simp only [mj_lnok, mj_ln, beq_iff_eq] at hln
  subst hln
  have hdg := hdg0
  clear hdg0
  simp only [mj_chk, decide_eq_true_eq] at hck
  simp only [mj_step, mj_nx, mj_cond, decide_eq_true_eq] at hs
  split at hs
  · rename_i x st1
    refine lv_if_le hx hb hdg hck (fun hz => ?_) (fun hz => ?_)
    · simp only [hz, if_true, if_false, not_true_eq_false, not_false_eq_true] at hs
      cases hs
      exact mj_w0 (x := h.2.1) (y := h.2.2) (kk lsC H locs hL hR hlo)
    · simp only [hz, if_true, if_false, not_true_eq_false, not_false_eq_true] at hs
      cases hs
      exact mj_w0 (x := h.2.1) (y := h.2.2) (kk lsC H locs hL hR hlo)
  · cases hs
set_option maxHeartbeats 4000000 in
theorem mj_s_ic_le {n : Int} (C : mj_Cx p s m args meth c i R) (K : mj_Kn G s) (hat : mj_at i pc = some (.if_icmp .le n, len, a, b)) (hs : mj_step i (.if_icmp .le n, len, a, b) pc ls st h = some (.inl s')) (hL : mj_L G i ls lsC) (hR : mj_Rep G s h H) (hlo : ∀ q ∈ locs, G.2.2.2 < q.base)
  (hc : cells + (s'.2.2.2.2.1 - h.2.1) ≤ R.cells) (hsl : slots + (s'.2.2.2.2.2 - h.2.2) ≤ R.slots)
  (kk : ∀ (lsC' : Array Slot) (H' : Heap) (locs' : List Loc), mj_L G i s'.2.1 lsC' → mj_Rep G s s'.2.2.2 H' → (∀ q ∈ locs', G.2.2.2 < q.base) → W p l e R s m args below meth c H' locs' (cells + (s'.2.2.2.2.1 - h.2.1)) (slots + (s'.2.2.2.2.2 - h.2.2)) Q (F0 m s'.1 lsC' (s'.2.2.1.map (mj_cv G)))) : W p l e R s m args below meth c H locs cells slots Q (F0 m pc lsC (st.map (mj_cv G))) := by
  obtain ⟨hx, hb, hml, hown, hts, hret, hlk, hnm, hfr, hlr⟩ := C
  have hdg0 := mj_dec0 hat
  have hln := mj_len0 hat
  have hck := mj_chk0 hat
  simp only [mj_lnok, mj_ln, beq_iff_eq] at hln
  subst hln
  have hdg := hdg0
  clear hdg0
  simp only [mj_chk, decide_eq_true_eq] at hck
  simp only [mj_step, mj_nx, mj_cond, decide_eq_true_eq] at hs
  split at hs
  · rename_i y x st1
    by_cases hz : x ≤ y
    · rw [if_pos hz] at hs
      cases hs
      exact lv_icmp_le hx hb hdg hck (fun _ => mj_w0 (x := h.2.1) (y := h.2.2) (kk lsC H locs hL hR hlo)) (fun q => absurd hz (by simpa using q))
    · rw [if_neg hz] at hs
      cases hs
      exact lv_icmp_le hx hb hdg hck (fun q => absurd q hz) (fun _ => mj_w0 (x := h.2.1) (y := h.2.2) (kk lsC H locs hL hR hlo))
  · cases hs
end MJS
