/-! A RUN OF THE PURE MACHINE IS A RUN OF THE MACHINE -/
section MJM
variable {p : Program} {l : Launch} {e : Env} {R : Room} {s : State} {m : MethodId} {args : Array Value} {below : List Frame} {meth : Method} {c : Code} {H : Heap} {locs : List Loc} {cells slots : Nat} {Q : State → Prop}
variable {G : mj_G} {i pc : Nat} {ls st : List Value} {h : mj_H} {lsC : Array Slot} {s' : mj_S}
theorem mj_call_no {a b : Nat} {st : List Value} {s' : mj_S} : mj_call a b st ≠ some (.inl s') := by
  unfold mj_call
  split <;> intro h <;> cases h
set_option maxHeartbeats 4000000 in
theorem mj_step_ok (q : Instr × Nat × Nat × Nat) (C : mj_Cx p s m args meth c i R) (K : mj_Kn G s) (hat : mj_at i pc = some q) (hs : mj_step i q pc ls st h = some (.inl s')) (hL : mj_L G i ls lsC) (hR : mj_Rep G s h H) (hlo : ∀ q ∈ locs, G.2.2.2 < q.base)
  (hc : cells + (s'.2.2.2.2.1 - h.2.1) ≤ R.cells) (hsl : slots + (s'.2.2.2.2.2 - h.2.2) ≤ R.slots)
  (kk : ∀ (lsC' : Array Slot) (H' : Heap) (locs' : List Loc), mj_L G i s'.2.1 lsC' → mj_Rep G s s'.2.2.2 H' → (∀ q ∈ locs', G.2.2.2 < q.base) → W p l e R s m args below meth c H' locs' (cells + (s'.2.2.2.2.1 - h.2.1)) (slots + (s'.2.2.2.2.2 - h.2.2)) Q (F0 m s'.1 lsC' (s'.2.2.1.map (mj_cv G)))) : W p l e R s m args below meth c H locs cells slots Q (F0 m pc lsC (st.map (mj_cv G))) := by
  obtain ⟨ins, len, a, b⟩ := q
  cases ins with
  | iadd => exact mj_s_iadd C K hat hs hL hR hlo hc hsl kk
  | isub => exact mj_s_isub C K hat hs hL hR hlo hc hsl kk
  | imul => exact mj_s_imul C K hat hs hL hR hlo hc hsl kk
  | iand => exact mj_s_iand C K hat hs hL hR hlo hc hsl kk
  | ior => exact mj_s_ior C K hat hs hL hR hlo hc hsl kk
  | ixor => exact mj_s_ixor C K hat hs hL hR hlo hc hsl kk
  | ishl => exact mj_s_ishl C K hat hs hL hR hlo hc hsl kk
  | ishr => exact mj_s_ishr C K hat hs hL hR hlo hc hsl kk
  | ladd => exact mj_s_ladd C K hat hs hL hR hlo hc hsl kk
  | lmul => exact mj_s_lmul C K hat hs hL hR hlo hc hsl kk
  | land => exact mj_s_land C K hat hs hL hR hlo hc hsl kk
  | lor => exact mj_s_lor C K hat hs hL hR hlo hc hsl kk
  | idiv => exact mj_s_idiv C K hat hs hL hR hlo hc hsl kk
  | irem => exact mj_s_irem C K hat hs hL hR hlo hc hsl kk
  | lrem => exact mj_s_lrem C K hat hs hL hR hlo hc hsl kk
  | iushr => exact mj_s_iushr C K hat hs hL hR hlo hc hsl kk
  | lushr => exact mj_s_lushr C K hat hs hL hR hlo hc hsl kk
  | lshl => exact mj_s_lshl C K hat hs hL hR hlo hc hsl kk
  | lcmp => exact mj_s_lcmp C K hat hs hL hR hlo hc hsl kk
  | i2l => exact mj_s_i2l C K hat hs hL hR hlo hc hsl kk
  | dup => exact mj_s_dup C K hat hs hL hR hlo hc hsl kk
  | pop => exact mj_s_pop C K hat hs hL hR hlo hc hsl kk
  | dup2 => exact mj_s_dup2 C K hat hs hL hR hlo hc hsl kk
  | arraylength => exact mj_s_arraylength C K hat hs hL hR hlo hc hsl kk
  | iaload => exact mj_s_iaload C K hat hs hL hR hlo hc hsl kk
  | baload => exact mj_s_baload C K hat hs hL hR hlo hc hsl kk
  | aaload => exact mj_s_aaload C K hat hs hL hR hlo hc hsl kk
  | iastore => exact mj_s_iastore C K hat hs hL hR hlo hc hsl kk
  | bastore => exact mj_s_bastore C K hat hs hL hR hlo hc hsl kk
  | aastore => exact mj_s_aastore C K hat hs hL hR hlo hc hsl kk
  | iconst n => exact mj_s_iconst C K hat hs hL hR hlo hc hsl kk
  | bipush n => exact mj_s_bipush C K hat hs hL hR hlo hc hsl kk
  | sipush n => exact mj_s_sipush C K hat hs hL hR hlo hc hsl kk
  | lconst n => exact mj_s_lconst C K hat hs hL hR hlo hc hsl kk
  | ldc_w n => exact mj_s_ldc_w C K hat hs hL hR hlo hc hsl kk
  | ldc2_w n => exact mj_s_ldc2_w C K hat hs hL hR hlo hc hsl kk
  | aload_n n => exact mj_s_aload_n C K hat hs hL hR hlo hc hsl kk
  | iload_n n => exact mj_s_iload_n C K hat hs hL hR hlo hc hsl kk
  | iload n => exact mj_s_iload C K hat hs hL hR hlo hc hsl kk
  | lload_n n => exact mj_s_lload_n C K hat hs hL hR hlo hc hsl kk
  | lload n => exact mj_s_lload C K hat hs hL hR hlo hc hsl kk
  | istore_n n => exact mj_s_istore_n C K hat hs hL hR hlo hc hsl kk
  | istore n => exact mj_s_istore C K hat hs hL hR hlo hc hsl kk
  | astore_n n => exact mj_s_astore_n C K hat hs hL hR hlo hc hsl kk
  | lstore_n n => exact mj_s_lstore_n C K hat hs hL hR hlo hc hsl kk
  | goto n => exact mj_s_goto C K hat hs hL hR hlo hc hsl kk
  | getfield n => exact mj_s_getfield C K hat hs hL hR hlo hc hsl kk
  | putfield n => exact mj_s_putfield C K hat hs hL hR hlo hc hsl kk
  | new n => exact mj_s_new C K hat hs hL hR hlo hc hsl kk
  | anewarray n => exact mj_s_anewarray C K hat hs hL hR hlo hc hsl kk
  | iinc k n => exact mj_s_iinc C K hat hs hL hR hlo hc hsl kk
  | ifCond c n =>
    cases c with
    | eq => exact mj_s_if_eq C K hat hs hL hR hlo hc hsl kk
    | ne => exact mj_s_if_ne C K hat hs hL hR hlo hc hsl kk
    | lt => exact mj_s_if_lt C K hat hs hL hR hlo hc hsl kk
    | ge => exact mj_s_if_ge C K hat hs hL hR hlo hc hsl kk
    | gt => exact mj_s_if_gt C K hat hs hL hR hlo hc hsl kk
    | le => exact mj_s_if_le C K hat hs hL hR hlo hc hsl kk
  | if_icmp c n =>
    cases c with
    | eq => exact mj_s_ic_eq C K hat hs hL hR hlo hc hsl kk
    | ne => exact mj_s_ic_ne C K hat hs hL hR hlo hc hsl kk
    | lt => exact mj_s_ic_lt C K hat hs hL hR hlo hc hsl kk
    | ge => exact mj_s_ic_ge C K hat hs hL hR hlo hc hsl kk
    | gt => exact mj_s_ic_gt C K hat hs hL hR hlo hc hsl kk
    | le => exact mj_s_ic_le C K hat hs hL hR hlo hc hsl kk
  | tableswitch d lo hi offs => exact mj_s_tableswitch C K hat hs hL hR hlo hc hsl kk
  | newarray t =>
    cases t with
    | int => exact mj_s_newarrayI C K hat hs hL hR hlo hc hsl kk
    | boolean => exact mj_s_newarrayZ C K hat hs hL hR hlo hc hsl kk
    | _ => simp [mj_step] at hs
  | invokevirtual n =>
    exfalso
    simp only [mj_step] at hs
    split at hs
    · split at hs
      · exact mj_call_no hs
      · cases hs
    · cases hs
  | invokespecial n =>
    by_cases ha : a = 999
    · exact mj_s_objinit ha C K hat hs hL hR hlo hc hsl kk
    · exfalso
      simp only [mj_step, if_neg ha] at hs
      split at hs
      · exact mj_call_no hs
      · cases hs
  | invokestatic n =>
    by_cases ha : a = 998
    · exact mj_s_mmax ha C K hat hs hL hR hlo hc hsl kk
    · by_cases ha2 : a = 997
      · exact mj_s_mmin ha2 C K hat hs hL hR hlo hc hsl kk
      · exfalso
        simp only [mj_step, if_neg ha, if_neg ha2] at hs
        exact mj_call_no hs
  | ireturn =>
    exfalso
    simp only [mj_step] at hs
    split at hs
    · split at hs <;> cases hs
    · cases hs
  | lreturn =>
    exfalso
    simp only [mj_step] at hs
    split at hs
    · split at hs <;> cases hs
    · cases hs
  | return_ =>
    exfalso
    simp only [mj_step] at hs
    split at hs
    · split at hs <;> cases hs
    · cases hs
  | _ => simp [mj_step] at hs
def mj_ws (j : Nat) : List Cond := .code (mj_y j) (mj_b j) (mj_m j) (mj_r j) :: mj_W
def mj_rm (j : Nat) (h hf : mj_H) : Room := { frames := mj_f j, cells := hf.2.1 - h.2.1, slots := hf.2.2 - h.2.2, locals := mj_o j }
def mj_Pc (G : mj_G) (as : List Value) (h : mj_H) : Array Value → State → Prop := fun v U => v = (as.map (mj_cv G)).toArray ∧ mj_Rep G U h U.heap ∧ mj_Kn G U
def mj_Qc (G : mj_G) (v : Option Value) (hf : mj_H) : Array Value → State → Outcome → State → Prop := fun _ _ o t => o = .returned (v.map (mj_cv G)) ∧ mj_Rep G t hf t.heap
theorem mj_good {w : Cond} (h : w ∈ mj_W) : w ∈ mj_W ∧ ((w.onTables && w.keeps) = true ∨ ∃ ty, w = .arrayClass ty) := ⟨h, good_of_word (List.mem_filter.mp h).2⟩
theorem mj_goodIn {j : Nat} (hj : j < 167) : GoodIn mj_W (mj_ws j) := fun w hw => by
  rcases List.mem_cons.mp hw with rfl | hw
  · exact mj_good (mj_cdA j hj)
  · exact mj_good hw
theorem mj_blind {as : List Value} {h : mj_H} : FrameBlind (mj_Pc G as h) := fun a U g mk q => ⟨q.1, q.2.1.moved (u := U) (U := U.calling g mk a) (Vm.Alike.refl U.vm), q.2.2.same (u := U) (U := U.calling g mk a) rfl⟩
def mj_Ret (i pc : Nat) (v : Option Value) : Prop := match v with
  | none => decode (mj_b i) pc = .ok (.return_, 1) ∧ mj_r i = none
  | some (.int x) => decode (mj_b i) pc = .ok (.ireturn, 1) ∧ mj_okr (mj_r i) x = true
  | some (.long _) => decode (mj_b i) pc = .ok (.lreturn, 1) ∧ mj_r i = some .long
  | _ => False
def mj_Snd (l : Launch) (n : Nat) : Prop := ∀ (i pc : Nat) (ls st : List Value) (h : mj_H) (v : Option Value) (hf : mj_H), mj_exec n i (pc, ls, st, h) = some (v, hf) →
  ∀ (p : Program) (e : Env) (R : Room) (s : State) (m : MethodId) (args : Array Value) (below : List Frame) (meth : Method) (c : Code) (H : Heap) (locs : List Loc) (cells slots : Nat) (Q : State → Prop) (lsC : Array Slot) (G : mj_G),
  mj_Cx p s m args meth c i R → mj_Kn G s → mj_L G i ls lsC → mj_Rep G s h H → (∀ q ∈ locs, G.2.2.2 < q.base) → cells + (hf.2.1 - h.2.1) ≤ R.cells → slots + (hf.2.2 - h.2.2) ≤ R.slots →
  (∀ (pc' : Nat) (lsC' : Array Slot) (H' : Heap) (locs' : List Loc), mj_Ret i pc' v → mj_Rep G s hf H' → (∀ q ∈ locs', G.2.2.2 < q.base) → W p l e R s m args below meth c H' locs' (cells + (hf.2.1 - h.2.1)) (slots + (hf.2.2 - h.2.2)) Q (F0 m pc' lsC' ((v.map (mj_cv G)).toList))) →
  W p l e R s m args below meth c H locs cells slots Q (F0 m pc lsC (st.map (mj_cv G)))
theorem mj_xp_len (as : List Value) : (lg_sl (as.map (mj_cv G))).length = (mj_xp as).length := by
  induction as with
  | nil => rfl
  | cons v as ih =>
    simp only [List.map_cons, lg_sl, List.flatMap_cons, List.length_append, mj_cv_cat, mj_xp] at ih ⊢
    split
    · simp only [List.length_cons, List.length_nil]; omega
    · simp only [List.length_cons, List.length_nil]; omega
theorem mj_xp_args (as : List Value) : ∀ (o k : Nat) (v : Value), (mj_xp as)[k]? = some v → v ≠ .null → (o + k, mj_cv G v) ∈ lv_args o (as.map (mj_cv G)) := by
  induction as with
  | nil => intro o k v h; simp [mj_xp] at h
  | cons w as ih =>
    intro o k v h hn
    simp only [mj_xp] at h
    simp only [List.map_cons, lv_args, mj_cv_cat]
    by_cases hc : w.category = 2
    · rw [if_pos hc] at h
      rw [if_pos hc]
      match k, h with
      | 0, h => cases h; exact List.mem_cons_self
      | 1, h => cases h; exact absurd rfl hn
      | k + 2, h =>
        have h2 := ih (o + 2) k v (by simpa using h) hn
        rw [show o + (k + 2) = o + 2 + k by omega]
        exact List.mem_cons_of_mem _ h2
    · rw [if_neg hc] at h
      rw [if_neg hc]
      match k, h with
      | 0, h => cases h; exact List.mem_cons_self
      | k + 1, h =>
        have h2 := ih (o + 1) k v (by simpa using h) hn
        rw [show o + (k + 1) = o + 1 + k by omega]
        exact List.mem_cons_of_mem _ h2
theorem mj_xp_noL {as : List Value} (h : ∀ v ∈ as, mj_noL v = true) : ∀ v ∈ mj_xp as, mj_noL v = true := by
  induction as with
  | nil => intro v hv; cases hv
  | cons w as ih =>
    intro v hv
    have hw := mj_noL_cat (h w List.mem_cons_self)
    simp only [mj_xp] at hv
    rw [if_neg (by omega)] at hv
    rcases List.mem_cons.mp hv with rfl | hv
    · exact h _ List.mem_cons_self
    · exact ih (fun v hv => h v (List.mem_cons_of_mem _ hv)) v hv
theorem mj_entry {j : Nat} {as : List Value} (hlen : (mj_xp as).length ≤ mj_m j) (hno : mj_t j = true → ∀ v ∈ as, mj_noL v = true) : mj_L G j (mj_ent j as) ((lg_sl (as.map (mj_cv G)) ++ List.replicate (mj_m j - (lg_sl (as.map (mj_cv G))).length) Slot.unset).toArray) := by
  have hl := lv_entry (as.map (mj_cv G)) (n := mj_m j) (by rw [mj_xp_len]; exact hlen)
  refine ⟨by simp only [mj_ent, List.length_append, List.length_replicate]; omega, hl.1, hl.2.1, fun k v hk hn => ?_, fun ht v hv => ?_⟩
  · have hk2 : (mj_xp as)[k]? = some v := by
      unfold mj_ent at hk
      by_cases hkl : k < (mj_xp as).length
      · rw [List.getElem?_append_left hkl] at hk
        exact hk
      · rw [List.getElem?_append_right (by omega)] at hk
        exact absurd (List.eq_of_mem_replicate (List.mem_of_getElem? hk)) hn
    have h1 := mj_xp_args (G := G) as 0 k v hk2 hn
    rw [Nat.zero_add] at h1
    exact hl.2.2 _ h1
  · unfold mj_ent at hv
    rcases List.mem_append.mp hv with hv | hv
    · exact mj_xp_noL (hno ht) v hv
    · rw [List.eq_of_mem_replicate hv]; rfl
theorem mj_mfacts {j : Nat} (hj : j < 167) : (if mj_z j = true then Cond.static (mj_y j) else .instanceMethod (mj_y j)) ∈ mj_W ∧ (mj_z j = false → (mj_y j).name ≠ "<init>" → Cond.selects (mj_y j).cls (mj_y j) (mj_y j) ∈ mj_W) ∧ plainName (mj_y j).cls = true ∧ ((mj_y j).cls ≠ "java/lang/invoke/MethodHandle" ∧ (mj_y j).cls ≠ "java/lang/invoke/VarHandle" ∧ (parseMethodDescriptor (mj_y j).desc).map (fun d => d.parameters.length) = some (mj_n j)) ∧ mj_w j < 11 ∧ ((mj_y j).name = "<init>" → mj_r j = none) := by
  have h := mj_chMA hj
  simp only [mj_chM, Bool.and_eq_true, Bool.or_eq_true, decide_eq_true_eq, beq_iff_eq, bne_iff_ne, ne_eq] at h
  obtain ⟨⟨⟨⟨⟨h1, h2⟩, h3⟩, h4⟩, h5⟩, h6⟩ := h
  refine ⟨mj_has_in h1, fun hz hn => ?_, h3, h4, h5, fun hn => ?_⟩
  · rcases h2 with (h2 | h2) | h2
    · rw [hz] at h2; cases h2
    · exact absurd h2 hn
    · exact mj_has_in h2
  · rcases h6 with h6 | h6
    · exact absurd hn h6
    · exact h6
set_option maxHeartbeats 4000000 in
theorem mj_met {n : Nat} (S : mj_Snd l n) {j : Nat} {as : List Value} {h hf : mj_H} {v : Option Value} (he : mj_exec n j (0, mj_ent j as, [], h) = some (v, hf)) (hj : j < 167) (hlen : (mj_xp as).length ≤ mj_m j) (hno : mj_t j = true → ∀ v ∈ as, mj_noL v = true) (G : mj_G) :
    Met l (mj_y j) (mj_ws j) (mj_rm j h hf) (mj_Pc G as h) (mj_Qc G v hf) (hf.2.1 - h.2.1) (hf.2.2 - h.2.2) (fun q => G.2.2.2 < q) := by
  obtain ⟨-, -, hplain, -, -, -⟩ := mj_mfacts hj
  refine Met.ofW (cc := mj_b j) (maxL := mj_m j) (ret := mj_r j) hplain rfl ?_
  intro p e s m args below meth c s₁ B hml hv
  obtain ⟨rfl, hR, hK⟩ := hv
  have hts := atoms_spec (ws := mj_ws j) B.pre
  have C : mj_Cx p s m ((as.map (mj_cv G)).toArray) meth c j (mj_rm j h hf) := by
    refine ⟨B.exec, B.bytes, hml, findClass_of_methodNamed B.named, fun w hw => hts w (List.mem_cons_of_mem _ hw), B.returns, B.notSynchronized, fun hn => ?_, Nat.le_refl _, Nat.le_refl _⟩
    rw [(name_of_methodNamed B.named B.method).1]
    exact hn
  rw [lg_entry_eq]
  refine S j 0 (mj_ent j as) [] h v hf he p e (mj_rm j h hf) s m _ below meth c s.heap [] 0 0 _ _ G C hK (mj_entry hlen hno) hR (fun q hq => by cases hq) (by rw [Nat.zero_add]; exact Nat.le_refl _) (by rw [Nat.zero_add]; exact Nat.le_refl _) ?_
  intro pc' lsC' H' locs' hret hR' hlo'
  refine W.cs (Nat.zero_add _) (Nat.zero_add _) ?_
  have hx := B.exec
  have hb := B.bytes
  have hr := B.returns
  have hlk := B.notSynchronized
  have hq : ∀ t : State, t.heap = H' → s.WarmedH t.vm → mj_Qc G v hf ((as.map (mj_cv G)).toArray) s (.returned (v.map (mj_cv G))) t := fun t ht hW => ⟨rfl, by rw [ht]; exact hR'.moved hW.alike⟩
  unfold mj_Ret at hret
  split at hret
  · rw [hret.2] at hr
    exact W.vret hx hb hr hq hlo' hret.1 hlk
  · rename_i x
    obtain ⟨hd, hok⟩ := hret
    unfold mj_okr at hok
    split at hok
    · rename_i hrr
      rw [hrr] at hr
      exact W.zret hx hb hr rfl hq hlo' hd hlk
    · rename_i hrr
      rw [hrr] at hr
      exact W.zret hx hb hr (mj_okv_ok (G := G) (ty := .boolean) (v := .int x) hok).1 hq hlo' hd hlk
    · cases hok
  · rename_i x
    rw [hret.2] at hr
    exact W.lret hx hb hr hq hlo' hret.1 hlk
  · exact hret.elim
theorem mj_cont {mc ms : Nat} {rest : List Value} {v : Option Value} {hf : mj_H} {ls : Array Slot} {st0 : List Value} {a : Array Value} (hr : va_Run p l e R s m args below meth c H locs cells slots mc ms (F0 m pc ls st0) rest (mj_Qc G v hf a) (fun q => G.2.2.2 < q)) (hlo : ∀ q ∈ locs, G.2.2.2 < q.base)
    (kk : ∀ (H1 : Heap) (locs1 : List Loc), mj_Rep G s hf H1 → (∀ q ∈ locs1, G.2.2.2 < q.base) → W p l e R s m args below meth c H1 locs1 (cells + mc) (slots + ms) Q (F0 m (pc + 3) ls ((v.map (mj_cv G)).toList ++ rest))) : W p l e R s m args below meth c H locs cells slots Q (F0 m pc ls st0) := by
  intro T hT X
  obtain ⟨v', st₀, t, T', L, h0, X', hL, e1, e2, ⟨hv, hR'⟩, st⟩ := hr T hT X
  have hv' : v' = v.map (mj_cv G) := by injection hv
  subst hv'
  have hal : t.vm.Alike s.vm := by
    rw [← e2]
    exact X'.warmed.alike.symm
  have hR2 : mj_Rep G s hf T'.heap := by
    rw [e1]
    exact hR'.moved hal
  obtain ⟨t2, a1, b1⟩ := kk T'.heap (locs ++ L) hR2 (fun q hq => (List.mem_append.mp hq).elim (hlo q) (hL q)) T' rfl X'
  exact ⟨t2, st t2 a1, b1⟩
theorem mj_call_of {a b j : Nat} {st as rest : List Value} (h : mj_call a b st = some (.inr (.inr (j, as, rest)))) : j = a ∧ as = (st.take b).reverse ∧ rest = st.drop b ∧ b ≤ st.length ∧ (st.drop b).length ≤ 4 ∧ (mj_t a = true → ∀ v ∈ as, mj_noL v = true) ∧ (mj_xp as).length ≤ mj_m a := by
  unfold mj_call at h
  split at h
  · rename_i hc
    cases h
    obtain ⟨h1, h2, h3, h4⟩ := hc
    refine ⟨rfl, rfl, rfl, h1, h2, fun ht v hv => ?_, h4⟩
    exact List.all_eq_true.mp (h3 ht) v (List.mem_reverse.mp hv)
  · cases h
theorem mj_take1 {st : List Value} {n : Nat} {v : Value} (h : st[n]? = some v) : (st.take (n + 1)).reverse = v :: (st.take n).reverse := by
  rw [List.take_succ, h]
  simp
theorem mj_stk {st : List Value} {b : Nat} : st.map (mj_cv G) = ((st.take b).reverse.map (mj_cv G)).reverse ++ (st.drop b).map (mj_cv G) := by
  rw [List.map_reverse, List.reverse_reverse, ← List.map_append, List.take_append_drop]
theorem mj_stk1 {st : List Value} {n x : Nat} (h : st[n]? = some (.ref x)) : st.map (mj_cv G) = ((st.take n).reverse.map (mj_cv G)).reverse ++ .ref (mj_ad G x) :: (st.drop (n + 1)).map (mj_cv G) := by
  rw [mj_stk (b := n + 1), mj_take1 h]
  simp [mj_cv]
theorem mj_ret_ok {q : Instr × Nat × Nat × Nat} {v : Option Value} (hat : mj_at i pc = some q) (hs : mj_step i q pc ls st h = some (.inr (.inl v))) : mj_Ret i pc v ∧ st.map (mj_cv G) = (v.map (mj_cv G)).toList := by
  obtain ⟨ins, len, a, b⟩ := q
  have hdg := mj_dec0 hat
  have hln := mj_len0 hat
  have hno : ∀ (a b : Nat) (st : List Value), mj_call a b st ≠ some (.inr (.inl v)) := by
    intro a b st
    unfold mj_call
    split <;> intro h <;> cases h
  cases ins with
  | ireturn =>
    simp only [mj_lnok, mj_ln, beq_iff_eq] at hln
    subst hln
    simp only [mj_step] at hs
    split at hs
    · split at hs
      · rename_i x hk
        cases hs
        exact ⟨⟨hdg, hk⟩, rfl⟩
      · cases hs
    · cases hs
  | lreturn =>
    simp only [mj_lnok, mj_ln, beq_iff_eq] at hln
    subst hln
    simp only [mj_step] at hs
    split at hs
    · split at hs
      · rename_i x hk
        cases hs
        exact ⟨⟨hdg, hk⟩, rfl⟩
      · cases hs
    · cases hs
  | return_ =>
    simp only [mj_lnok, mj_ln, beq_iff_eq] at hln
    subst hln
    simp only [mj_step] at hs
    split at hs
    · split at hs
      · rename_i hk
        cases hs
        exact ⟨⟨hdg, hk⟩, rfl⟩
      · cases hs
    · cases hs
  | newarray t =>
    exfalso
    cases t <;> simp only [mj_step, mj_nx] at hs
    all_goals (repeat' split at hs)
    all_goals (cases hs; done)
  | _ =>
    exfalso
    unfold mj_step mj_jmp mj_nx at hs
    dsimp only at hs
    repeat' split at hs
    all_goals first
      | (cases hs; done)
      | exact hno _ _ _ hs
set_option maxHeartbeats 4000000 in
theorem mj_main (l : Launch) : ∀ n, mj_Snd l n := by
  intro n
  induction n with
  | zero => intro i pc ls st h v hf he; cases he
  | succ n ih =>
    intro i pc ls st h v hf he p e R s m args below meth c H locs cells slots Q lsC G C K hL hR hlo hc hsl kret
    rw [mj_exec] at he
    split at he
    · cases he
    · rename_i q hat
      split at he
      · cases he
      · rename_i s1 hs
        obtain ⟨pc1, ls1, st1, h1⟩ := s1
        have m1 := mj_step_mono hs
        have m2 := mj_exec_mono _ _ _ _ _ he
        dsimp only at m1 m2
        refine mj_step_ok q C K hat hs hL hR hlo (by show cells + (h1.2.1 - h.2.1) ≤ _; omega) (by show slots + (h1.2.2 - h.2.2) ≤ _; omega) ?_
        intro lsC' H' locs' hL' hR' hlo'
        refine ih i pc1 ls1 st1 h1 v hf he p e R s m args below meth c H' locs' _ _ Q lsC' G C K hL' hR' hlo' (by show cells + (h1.2.1 - h.2.1) + (hf.2.1 - h1.2.1) ≤ _; omega) (by show slots + (h1.2.2 - h.2.2) + (hf.2.2 - h1.2.2) ≤ _; omega) ?_
        intro pc' lsC2 H2 locs2 r1 r2 r3
        exact W.cs (by show cells + (h1.2.1 - h.2.1) + (hf.2.1 - h1.2.1) = _; omega) (by show slots + (h1.2.2 - h.2.2) + (hf.2.2 - h1.2.2) = _; omega) (kret pc' lsC2 H2 locs2 r1 r2 r3)
      · rename_i v1 hs
        cases he
        obtain ⟨r1, r2⟩ := mj_ret_ok (G := G) hat hs
        rw [r2]
        exact mj_w0 (kret pc lsC H locs r1 hR hlo)
      · rename_i j as rest hs
        split at he
        · cases he
        · rename_i v1 h1 he1
          have m1 := mj_exec_mono _ _ _ _ _ he1
          have m2 := mj_exec_mono _ _ _ _ _ he
          dsimp only at m1 m2
          have C0 := C
          obtain ⟨hx, hb, hml, hown, hts, hret, hlk, hnm, hfr, hlr⟩ := C
          obtain ⟨ins, len, a, b⟩ := q
          have hdg := mj_dec0 hat
          have hln := mj_len0 hat
          have hck := mj_chk0 hat
          have after : ∀ (H1 : Heap) (locs1 : List Loc), mj_Rep G s h1 H1 → (∀ q ∈ locs1, G.2.2.2 < q.base) → W p l e R s m args below meth c H1 locs1 (cells + (h1.2.1 - h.2.1)) (slots + (h1.2.2 - h.2.2)) Q (F0 m (pc + 3) lsC ((v1.map (mj_cv G)).toList ++ rest.map (mj_cv G))) := by
            intro H1 locs1 q1 q2
            have hst : (v1.map (mj_cv G)).toList ++ rest.map (mj_cv G) = (v1.toList ++ rest).map (mj_cv G) := by cases v1 <;> simp
            rw [hst]
            refine ih i (pc + 3) ls (v1.toList ++ rest) h1 v hf he p e R s m args below meth c H1 locs1 _ _ Q lsC G C0 K hL q1 q2 (by omega) (by omega) ?_
            intro pc' lsC2 H2 locs2 r1 r2 r3
            exact W.cs (by omega) (by omega) (kret pc' lsC2 H2 locs2 r1 r2 r3)
          have key : ∀ {j' b' : Nat}, mj_call a b st = some (.inr (.inr (j, as, rest))) → a < 167 → mj_f a + 1 ≤ mj_f i → 8 + (mj_m a + 11) + mj_o a ≤ mj_o i → j = a ∧ as = (st.take b).reverse ∧ rest = st.drop b ∧ b ≤ st.length ∧ (st.drop b).length ≤ 4 ∧ Met l (mj_y a) (mj_ws a) (mj_rm a h h1) (mj_Pc G as h) (mj_Qc G v1 h1) (h1.2.1 - h.2.1) (h1.2.2 - h.2.2) (fun q => G.2.2.2 < q) ∧ (mj_rm a h h1).frames + 1 ≤ R.frames ∧ 8 + (mj_m a + 11) + (mj_rm a h h1).locals ≤ R.locals := by
            intro _ _ hcall ha hfr1 hlo1
            obtain ⟨rfl, r2, r3, r4, r5, r6, r7⟩ := mj_call_of hcall
            exact ⟨rfl, r2, r3, r4, r5, mj_met ih he1 ha r7 r6 G, by show mj_f j + 1 ≤ _; omega, by show 8 + (mj_m j + 11) + mj_o j ≤ _; omega⟩
          cases ins with
          | invokevirtual idx =>
            simp only [mj_lnok, mj_ln, beq_iff_eq] at hln
            subst hln
            simp only [mj_chk, Bool.and_eq_true, decide_eq_true_eq, beq_iff_eq, bne_iff_ne, ne_eq, Bool.not_eq_true'] at hck
            obtain ⟨⟨⟨⟨hlink, rfl⟩, hz⟩, hnn⟩, ha, hfr1, hlo1⟩ := hck
            simp only [mj_step, Nat.add_sub_cancel] at hs
            split at hs
            · rename_i x hxs
              split at hs
              · rename_i hisC
                obtain ⟨rfl, rfl, rfl, r4, r5, hM, r6, r7⟩ := key (j' := 0) (b' := 0) hs ha hfr1 hlo1
                obtain ⟨g1, g2, g3, g4, g5, g6⟩ := mj_mfacts ha
                rw [hz] at g1
                have hlink' : Cond.methodLink (mj_on (mj_w i)) idx (mj_y j) ∈ mj_W := mj_mth (by simpa using hlink)
                have cw : CallW R s args (mj_on (mj_w i)) (mj_on (mj_w j)) idx (mj_y j) (mj_b j) (mj_m j) (mj_r j) (mj_ws j) (mj_rm j h h1) (h1.2.1 - h.2.1) (h1.2.2 - h.2.2) (mj_n j) :=
                  ⟨callB_of (mj_n j) hts (mj_goodIn ha) rfl rfl rfl (hts _ (mj_ini g5)) (hts _ hlink') g4 ⟨r6, r7⟩, hts _ g1, hts _ (g2 hz hnn)⟩
                have htk := mj_take1 hxs
                have hPre : PreV s H (mj_on (mj_w j)) (mj_ad G x) (mj_Pc G ((st.take (mj_n j + 1)).reverse) h) ((st.take (mj_n j)).reverse.map (mj_cv G)) := by
                  refine ⟨mj_blind, ?_, fun U hU hW => ⟨?_, ?_, K.moved hW⟩⟩
                  · unfold mj_isC at hisC
                    split at hisC
                    · rename_i d fs hcell
                      have hd : d = mj_w j := by simpa using hisC
                      subst hd
                      obtain ⟨-, Cn, Tn, Nn, c1, -, cellV, k1, k2, k3, -⟩ := hR.o (by omega) hcell
                      have hcls := (K.1.1 _ _ c1).2
                      have hCn := (mj_clf c1).1
                      subst hCn
                      exact ⟨cellV, k1, by rw [k3]; rfl, by rw [k2]; exact hcls.1⟩
                    · cases hisC
                  · rw [htk]; rfl
                  · rw [hU]; exact hR.moved hW.alike
                refine mj_cont (va_runV (As := (st.take (mj_n j)).reverse.map (mj_cv G)) (rest := (st.drop (mj_n j + 1)).map (mj_cv G)) ⟨hx, hb, hml, hown, hts⟩ hM cw hPre rfl ?_ hL.2.1 (mj_stk1 hxs) ?_ hdg ⟨by omega, by omega⟩) hlo after
                · simp; omega
                · have := mj_room (G := G) r5
                  show 2 * 0 + _ ≤ 8
                  omega
              · cases hs
            · cases hs
          | invokestatic idx =>
            simp only [mj_lnok, mj_ln, beq_iff_eq] at hln
            subst hln
            by_cases ha8 : a = 998
            · exfalso
              simp only [mj_step, mj_nx, if_pos ha8] at hs
              split at hs
              · split at hs <;> cases hs
              · cases hs
            · by_cases ha7 : a = 997
              · exfalso
                simp only [mj_step, mj_nx, if_neg ha8, if_pos ha7] at hs
                split at hs
                · split at hs <;> cases hs
                · cases hs
              · simp only [mj_step, if_neg ha8, if_neg ha7] at hs
                simp only [mj_chk, Bool.or_eq_true, Bool.and_eq_true, decide_eq_true_eq, beq_iff_eq] at hck
                have hck2 : mj_lkM.any (fun w => w.1 == mj_w i && w.2.1 == idx && w.2.2.1 == a) = true ∧ b = mj_n a ∧ mj_z a = true ∧ a < 167 ∧ mj_f a + 1 ≤ mj_f i ∧ 8 + (mj_m a + 11) + mj_o a ≤ mj_o i := by
                  rcases hck with ⟨⟨⟨z1, z2⟩, z3⟩, z4⟩ | ⟨⟨-, z2⟩, -⟩
                  · exact ⟨by simpa using z1, z2, z3, z4⟩
                  · omega
                obtain ⟨hlink, rfl, hz, ha, hfr1, hlo1⟩ := hck2
                obtain ⟨rfl, rfl, rfl, r4, r5, hM, r6, r7⟩ := key (j' := 0) (b' := 0) hs ha hfr1 hlo1
                obtain ⟨g1, g2, g3, g4, g5, g6⟩ := mj_mfacts ha
                rw [hz] at g1
                have cw : CallB R s args (mj_on (mj_w i)) idx (mj_y j) (mj_b j) (mj_m j) (mj_r j) (mj_ws j) (mj_rm j h h1) (h1.2.1 - h.2.1) (h1.2.2 - h.2.2) (mj_n j) ∧ (Cond.static (mj_y j)).before args s = true :=
                  ⟨callB_of (mj_n j) hts (mj_goodIn ha) rfl rfl rfl (hts _ (mj_ini g5)) (hts _ (mj_mth hlink)) g4 ⟨r6, r7⟩, hts _ g1⟩
                have hPre : PreS s H (mj_Pc G ((st.take (mj_n j)).reverse) h) ((st.take (mj_n j)).reverse.map (mj_cv G)) :=
                  ⟨mj_blind, fun U hU hW => ⟨rfl, by rw [hU]; exact hR.moved hW.alike, K.moved hW⟩⟩
                refine mj_cont (va_runS (As := (st.take (mj_n j)).reverse.map (mj_cv G)) (rest := (st.drop (mj_n j)).map (mj_cv G)) ⟨hx, hb, hml, hown, hts⟩ hM cw hPre rfl ?_ hL.2.1 mj_stk ?_ hdg ⟨by omega, by omega⟩) hlo after
                · simp; omega
                · have := mj_room (G := G) r5
                  show 2 * 0 + _ ≤ 8
                  omega
          | invokespecial idx =>
            simp only [mj_lnok, mj_ln, beq_iff_eq] at hln
            subst hln
            by_cases ha9 : a = 999
            · exfalso
              simp only [mj_step, mj_nx, if_pos ha9] at hs
              split at hs
              · split at hs <;> cases hs
              · cases hs
            · simp only [mj_step, if_neg ha9] at hs
              simp only [mj_chk, Bool.or_eq_true, Bool.and_eq_true, decide_eq_true_eq, beq_iff_eq, Bool.not_eq_true'] at hck
              have hck2 : (mj_lkM.any (fun w => w.1 == mj_w i && w.2.1 == idx && w.2.2.1 == a) = true ∨ mj_lkN.any (fun w => w.1 == mj_w i && w.2.1 == idx && w.2.2 == a) = true) ∧ b = mj_n a + 1 ∧ mj_z a = false ∧ (mj_y a).name = "<init>" ∧ a < 167 ∧ mj_f a + 1 ≤ mj_f i ∧ 8 + (mj_m a + 11) + mj_o a ≤ mj_o i := by
                rcases hck with ⟨⟨⟨⟨z1, z2⟩, z3⟩, z4⟩, z5⟩ | ⟨⟨-, z2⟩, -⟩
                · exact ⟨by simpa using z1, z2, z3, z4, z5⟩
                · exact absurd z2 ha9
              obtain ⟨hlink, rfl, hz, hin, ha, hfr1, hlo1⟩ := hck2
              simp only [Nat.add_sub_cancel] at hs
              split at hs
              · rename_i x hxs
                obtain ⟨rfl, rfl, rfl, r4, r5, hM, r6, r7⟩ := key (j' := 0) (b' := 0) hs ha hfr1 hlo1
                obtain ⟨g1, g2, g3, g4, g5, g6⟩ := mj_mfacts ha
                rw [hz] at g1
                have htk := mj_take1 hxs
                have hPre : PreS s H (mj_Pc G ((st.take (mj_n j + 1)).reverse) h) (.ref (mj_ad G x) :: (st.take (mj_n j)).reverse.map (mj_cv G)) := by
                  refine ⟨mj_blind, fun U hU hW => ⟨?_, ?_, K.moved hW⟩⟩
                  · rw [htk]; rfl
                  · rw [hU]; exact hR.moved hW.alike
                have hrm : 2 * (F0 m pc lsC (st.map (mj_cv G))).monitorRoom + (((st.drop (mj_n j + 1)).map (mj_cv G)).map fun v => v.category).sum ≤ 8 := by
                  have := mj_room (G := G) r5
                  show 2 * 0 + _ ≤ 8
                  omega
                have hnl : ((st.take (mj_n j)).reverse.map (mj_cv G)).length = mj_n j := by simp; omega
                rcases hlink with hlink | hlink
                · have cw := callB_of (own := mj_on (mj_w i)) (index := idx) (R := R) (rm := mj_rm j h h1) (mj_n j) hts (mj_goodIn ha) rfl rfl rfl (hts _ (mj_ini g5)) (hts _ (mj_mth hlink)) g4 ⟨r6, r7⟩
                  rw [g6 hin] at cw
                  exact mj_cont (va_runI (As := (st.take (mj_n j)).reverse.map (mj_cv G)) (rest := (st.drop (mj_n j + 1)).map (mj_cv G)) ⟨hx, hb, hml, hown, hts⟩ hM ⟨cw, hin, hts _ g1⟩ hPre rfl hnl hL.2.1 (mj_stk1 hxs) hrm hdg ⟨by omega, by omega⟩) hlo after
                · have hnw := K.2.2 _ (mj_nst hlink)
                  have cw := va_cnB (own := mj_on (mj_w i)) (index := idx) (R := R) (rm := mj_rm j h h1) (mj_n j) hts (mj_goodIn ha) rfl rfl rfl hnw (hts _ (mj_ini g5)) g4 ⟨r6, r7⟩
                  rw [g6 hin] at cw
                  exact mj_cont (va_runIN (As := (st.take (mj_n j)).reverse.map (mj_cv G)) (rest := (st.drop (mj_n j + 1)).map (mj_cv G)) ⟨hx, hb, hml, hown, hts⟩ hM ⟨cw, hin, hts _ g1⟩ hPre rfl hnl hL.2.1 (mj_stk1 hxs) hrm hdg ⟨by omega, by omega⟩) hlo after
              · cases hs
          | newarray t =>
            exfalso
            cases t <;> simp only [mj_step, mj_nx] at hs
            all_goals (repeat' split at hs)
            all_goals (cases hs; done)
          | _ =>
            exfalso
            unfold mj_step mj_jmp mj_nx at hs
            dsimp only at hs
            repeat' split at hs
            all_goals (cases hs; done)
end MJM
