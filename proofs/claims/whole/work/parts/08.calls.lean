section BCC
variable {d : Nat} {L : bc_L} {y z : bc_Y} {pc : Nat} {ls st : List Value} {μ : bc_M} {Q : Option Value → bc_M → Prop}
/-- facts of a method that is called: instance methods, static ones -/
def bc_V0 (z : bc_Y) (n : Nat) : Prop := Cond.instanceMethod z.1 ∈ bc_G ∧ Cond.selects z.1.cls z.1 z.1 ∈ bc_G ∧ Cond.initialized z.1.cls ∈ bc_G ∧ Cond.code z.1 z.2.1 z.2.2.1 z.2.2.2 ∈ bc_G ∧ z.2.2.1 ≤ 40 ∧ z.1.cls ≠ "java/lang/invoke/MethodHandle" ∧ z.1.cls ≠ "java/lang/invoke/VarHandle" ∧ (parseMethodDescriptor z.1.desc).map (fun d => d.parameters.length) = some n
def bc_S0 (z : bc_Y) (n : Nat) : Prop := Cond.static z.1 ∈ bc_G ∧ Cond.initialized z.1.cls ∈ bc_G ∧ Cond.code z.1 z.2.1 z.2.2.1 z.2.2.2 ∈ bc_G ∧ z.2.2.1 ≤ 40 ∧ z.1.cls ≠ "java/lang/invoke/MethodHandle" ∧ z.1.cls ≠ "java/lang/invoke/VarHandle" ∧ (parseMethodDescriptor z.1.desc).map (fun d => d.parameters.length) = some n
theorem bc_blind {X : bc_X} {as : List Value} : FrameBlind (bc_Pre X L as μ) := by
  intro a U g mk h
  exact ⟨h.1, bc_K.same (s := U) (U := U.calling g mk a) rfl rfl h.2.1, h.2.2⟩
theorem bc_pre {X : bc_X} {as : List Value} {s : State} {H : Heap} {locs : List Loc} (hK : bc_K X L s) (hP : va_P X.2.1 vwCl (bc_ws X L μ) H) (hS : va_S (bc_A X L) s.heap H locs) : ∀ U : State, U.heap = H → s.WarmedH U.vm → bc_Pre X L as μ (as.map (bc_v X.1)).toArray U :=
  fun U hU hW => ⟨rfl, hK.moved hW (fun q h1 h2 => by rw [hU]; exact hS.2.1 q h1 h2), by rw [hU]; exact hP⟩
theorem bc_rooms (h : z.2.2.1 ≤ 40) : (bc_rm d).frames + 1 ≤ (bc_rm (d + 1)).frames ∧ 8 + (z.2.2.1 + 11) + (bc_rm d).locals ≤ (bc_rm (d + 1)).locals := by
  refine ⟨Nat.le_refl _, ?_⟩
  show 8 + (z.2.2.1 + 11) + 64 * d ≤ 64 * (d + 1)
  omega
theorem bc_run {p : Program} {l : Launch} {e : Env} {R : Room} {s : State} {m : MethodId} {args : Array Value} {below : List Frame} {meth : Method} {c : Code} {H : Heap} {locs : List Loc} {X : bc_X} {Q' : Option Value → bc_M → Prop} {a : Array Value} {sl : Array Slot} {st0 rest : List Value} {Qw : State → Prop}
    (hr : va_Run p l e R s m args below meth c H locs 0 0 0 0 (F0 m pc sl st0) rest (bc_Post X L Q' a) (bc_A X L)) (hS : va_S (bc_A X L) s.heap H locs)
    (kk : ∀ (r : Option Value) (μ' : bc_M) (H1 : Heap) (locs1 : List Loc), Q' r μ' → va_P X.2.1 vwCl (bc_ws X L μ') H1 → va_S (bc_A X L) s.heap H1 locs1 → W p l e R s m args below meth c H1 locs1 0 0 Qw (F0 m (pc + 3) sl ((r.map (bc_v X.1)).toList ++ rest))) : W p l e R s m args below meth c H locs 0 0 Qw (F0 m pc sl st0) := by
  intro T hT X'
  obtain ⟨v, st₀, t, T', L', h0, X2, hL, e1, e2, ⟨⟨r, μ', hv, hq, hP⟩, hz, hk⟩, st⟩ := hr T hT X'
  cases hv
  rw [h0] at hz hk
  obtain ⟨t2, a1, b1⟩ := kk r μ' T'.heap (locs ++ L') hq (by rw [e1]; exact hP)
    ⟨Nat.le_trans hS.1 (by rw [e1]; exact hz), fun q h1 h2 => by rw [e1, hk q (Nat.lt_of_lt_of_le h1 hS.1) h2]; exact hS.2.1 q h1 h2, fun q hq => by
      rcases List.mem_append.mp hq with h | h
      · exact hS.2.2 q h
      · exact hL q h⟩ T' rfl X2
  exact ⟨t2, st t2 a1, b1⟩
theorem bc_mapO {ad : Nat → Nat} (r : Option Value) (st : List Value) : (r.map (bc_v ad)).toList ++ st.map (bc_v ad) = (r.toList ++ st).map (bc_v ad) := by cases r <;> rfl
theorem bc_catS {ad : Nat → Nat} (st : List Value) : ((st.map (bc_v ad)).map fun v => v.category).sum = (st.map fun v => v.category).sum := by
  rw [List.map_map]
  congr 1
  apply List.map_congr_left
  intro v _
  exact bc_cat ad v
/-- invokevirtual -/
theorem bc_callV {n idx i ci N n0 : Nat} {rs : List (Option Nat)} {T : u_T} {as st0 : List Value} {Q' : Option Value → bc_M → Prop} (hd : decode y.2.1 pc = .ok (.invokevirtual idx, 3)) (hl0 : Cond.methodLink y.1.cls idx z.1 ∈ bc_G) (hz : bc_V0 z n) (ho : L[i]? = some (ci + 5, n0, rs)) (hc : vwCl[ci]? = some (z.1.cls, T, N)) (hn : as.length = n) (hs : as.reverse ++ .ref i :: st = st0) (hw : (st.map fun v => v.category).sum ≤ 8)
    (hC : bc_C d L z (.ref i :: as) μ Q') (k : ∀ (r : Option Value) (μ' : bc_M), Q' r μ' → bc_W (d + 1) L y (pc + 3) ls (r.toList ++ st) μ' Q) : bc_W (d + 1) L y pc ls st0 μ Q := by
  intro p l e s m args below meth c X C H locs sl hP hS hl
  obtain ⟨z1, z2, z3, z4, z5, z6, z7, z8⟩ := hz
  have hrecv : ∃ cellB : Cell, H[X.1 i]? = some cellB ∧ cellB.vm.isStatics = false ∧ s.vm.findClass z.1.cls = some cellB.cls := va_recv C.K.1 hP (ci := ci) (q0 := i) hc (bc_at ho)
  have hR := bc_rooms (d := d) z5
  have hb : CallB (bc_rm (d + 1)) s args y.1.cls idx z.1 z.2.1 z.2.2.1 z.2.2.2 (bc_wsy z) (bc_rm d) 0 0 n := callB_of n C.2.2.2.2.2.2.1 (bc_GG z4) rfl rfl rfl (C.word z3) (C.word hl0) ⟨z6, z7, z8⟩ hR
  have hr : va_Run p l e (bc_rm (d + 1)) s m args below meth c H locs 0 0 0 0 (F0 m pc sl (st0.map (bc_v X.1))) (st.map (bc_v X.1)) (bc_Post X L Q' (Value.ref (X.1 i) :: as.map (bc_v X.1)).toArray) (bc_A X L) :=
    va_runV (n := n) (As := as.map (bc_v X.1)) (rest := st.map (bc_v X.1)) ⟨C.1, C.2.1, C.2.2.2.1, C.own, C.2.2.2.2.2.2.1⟩ (hC l X) ⟨hb, C.word z1, C.word z2⟩ ⟨bc_blind, hrecv, bc_pre (as := .ref i :: as) C.K hP hS⟩ rfl (by rw [List.length_map]; exact hn) hl.1 (by rw [← hs]; simp [bc_v]) (by rw [← bc_catS (ad := X.1)] at hw; exact lv_room hw) hd ⟨Nat.zero_le _, Nat.zero_le _⟩
  refine bc_run hr hS (fun r μ' H1 locs1 hq hP1 hS1 => ?_)
  rw [bc_mapO]
  exact k r μ' hq p l e s m args below meth c X C H1 locs1 sl hP1 hS1 hl
/-- invokevirtual of a private method of a nest mate -/
theorem bc_callVN {n idx i ci N n0 : Nat} {host : String} {rs : List (Option Nat)} {T : u_T} {as st0 : List Value} {Q' : Option Value → bc_M → Prop} (hd : decode y.2.1 pc = .ok (.invokevirtual idx, 3)) (hl0 : Cond.methodLinkNest y.1.cls idx z.1 host ∈ bc_nest) (hz : bc_V0 z n) (ho : L[i]? = some (ci + 5, n0, rs)) (hc : vwCl[ci]? = some (z.1.cls, T, N)) (hn : as.length = n) (hs : as.reverse ++ .ref i :: st = st0) (hw : (st.map fun v => v.category).sum ≤ 8)
    (hC : bc_C d L z (.ref i :: as) μ Q') (k : ∀ (r : Option Value) (μ' : bc_M), Q' r μ' → bc_W (d + 1) L y (pc + 3) ls (r.toList ++ st) μ' Q) : bc_W (d + 1) L y pc ls st0 μ Q := by
  intro p l e s m args below meth c X C H locs sl hP hS hl
  obtain ⟨z1, z2, z3, z4, z5, z6, z7, z8⟩ := hz
  have hrecv : ∃ cellB : Cell, H[X.1 i]? = some cellB ∧ cellB.vm.isStatics = false ∧ s.vm.findClass z.1.cls = some cellB.cls := va_recv C.K.1 hP (ci := ci) (q0 := i) hc (bc_at ho)
  have hR := bc_rooms (d := d) z5
  have hb : va_CN (bc_rm (d + 1)) s args y.1.cls idx z.1 host z.2.1 z.2.2.1 z.2.2.2 (bc_wsy z) (bc_rm d) 0 0 n := va_cnB n C.2.2.2.2.2.2.1 (bc_GG z4) rfl rfl rfl (C.K.2.1 _ hl0) (C.word z3) ⟨z6, z7, z8⟩ hR
  have hr : va_Run p l e (bc_rm (d + 1)) s m args below meth c H locs 0 0 0 0 (F0 m pc sl (st0.map (bc_v X.1))) (st.map (bc_v X.1)) (bc_Post X L Q' (Value.ref (X.1 i) :: as.map (bc_v X.1)).toArray) (bc_A X L) :=
    va_runVN (n := n) (As := as.map (bc_v X.1)) (rest := st.map (bc_v X.1)) ⟨C.1, C.2.1, C.2.2.2.1, C.own, C.2.2.2.2.2.2.1⟩ (hC l X) ⟨hb, C.word z1, C.word z2⟩ ⟨bc_blind, hrecv, bc_pre (as := .ref i :: as) C.K hP hS⟩ rfl (by rw [List.length_map]; exact hn) hl.1 (by rw [← hs]; simp [bc_v]) (by rw [← bc_catS (ad := X.1)] at hw; exact lv_room hw) hd ⟨Nat.zero_le _, Nat.zero_le _⟩
  refine bc_run hr hS (fun r μ' H1 locs1 hq hP1 hS1 => ?_)
  rw [bc_mapO]
  exact k r μ' hq p l e s m args below meth c X C H1 locs1 sl hP1 hS1 hl
/-- invokestatic -/
theorem bc_callS {n idx : Nat} {as st0 : List Value} {Q' : Option Value → bc_M → Prop} (hd : decode y.2.1 pc = .ok (.invokestatic idx, 3)) (hl0 : Cond.methodLink y.1.cls idx z.1 ∈ bc_G) (hz : bc_S0 z n) (hn : as.length = n) (hs : as.reverse ++ st = st0) (hw : (st.map fun v => v.category).sum ≤ 8)
    (hC : bc_C d L z as μ Q') (k : ∀ (r : Option Value) (μ' : bc_M), Q' r μ' → bc_W (d + 1) L y (pc + 3) ls (r.toList ++ st) μ' Q) : bc_W (d + 1) L y pc ls st0 μ Q := by
  intro p l e s m args below meth c X C H locs sl hP hS hl
  obtain ⟨z1, z3, z4, z5, z6, z7, z8⟩ := hz
  have hR := bc_rooms (d := d) z5
  have hb : CallB (bc_rm (d + 1)) s args y.1.cls idx z.1 z.2.1 z.2.2.1 z.2.2.2 (bc_wsy z) (bc_rm d) 0 0 n := callB_of n C.2.2.2.2.2.2.1 (bc_GG z4) rfl rfl rfl (C.word z3) (C.word hl0) ⟨z6, z7, z8⟩ hR
  have hr : va_Run p l e (bc_rm (d + 1)) s m args below meth c H locs 0 0 0 0 (F0 m pc sl (st0.map (bc_v X.1))) (st.map (bc_v X.1)) (bc_Post X L Q' (as.map (bc_v X.1)).toArray) (bc_A X L) :=
    va_runS (n := n) (As := as.map (bc_v X.1)) (rest := st.map (bc_v X.1)) ⟨C.1, C.2.1, C.2.2.2.1, C.own, C.2.2.2.2.2.2.1⟩ (hC l X) ⟨hb, C.word z1⟩ ⟨bc_blind, bc_pre C.K hP hS⟩ rfl (by rw [List.length_map]; exact hn) hl.1 (by rw [← hs]; simp) (by rw [← bc_catS (ad := X.1)] at hw; exact lv_room hw) hd ⟨Nat.zero_le _, Nat.zero_le _⟩
  refine bc_run hr hS (fun r μ' H1 locs1 hq hP1 hS1 => ?_)
  rw [bc_mapO]
  exact k r μ' hq p l e s m args below meth c X C H1 locs1 sl hP1 hS1 hl
/-- invokestatic of a private method of a nest mate -/
theorem bc_callSN {n idx : Nat} {host : String} {as st0 : List Value} {Q' : Option Value → bc_M → Prop} (hd : decode y.2.1 pc = .ok (.invokestatic idx, 3)) (hl0 : Cond.methodLinkNest y.1.cls idx z.1 host ∈ bc_nest) (hz : bc_S0 z n) (hn : as.length = n) (hs : as.reverse ++ st = st0) (hw : (st.map fun v => v.category).sum ≤ 8)
    (hC : bc_C d L z as μ Q') (k : ∀ (r : Option Value) (μ' : bc_M), Q' r μ' → bc_W (d + 1) L y (pc + 3) ls (r.toList ++ st) μ' Q) : bc_W (d + 1) L y pc ls st0 μ Q := by
  intro p l e s m args below meth c X C H locs sl hP hS hl
  obtain ⟨z1, z3, z4, z5, z6, z7, z8⟩ := hz
  have hR := bc_rooms (d := d) z5
  have hb : va_CN (bc_rm (d + 1)) s args y.1.cls idx z.1 host z.2.1 z.2.2.1 z.2.2.2 (bc_wsy z) (bc_rm d) 0 0 n := va_cnB n C.2.2.2.2.2.2.1 (bc_GG z4) rfl rfl rfl (C.K.2.1 _ hl0) (C.word z3) ⟨z6, z7, z8⟩ hR
  have hr : va_Run p l e (bc_rm (d + 1)) s m args below meth c H locs 0 0 0 0 (F0 m pc sl (st0.map (bc_v X.1))) (st.map (bc_v X.1)) (bc_Post X L Q' (as.map (bc_v X.1)).toArray) (bc_A X L) :=
    va_runSN (n := n) (As := as.map (bc_v X.1)) (rest := st.map (bc_v X.1)) ⟨C.1, C.2.1, C.2.2.2.1, C.own, C.2.2.2.2.2.2.1⟩ (hC l X) ⟨hb, C.word z1, trivial⟩ ⟨bc_blind, bc_pre C.K hP hS⟩ rfl (by rw [List.length_map]; exact hn) hl.1 (by rw [← hs]; simp) (by rw [← bc_catS (ad := X.1)] at hw; exact lv_room hw) hd ⟨Nat.zero_le _, Nat.zero_le _⟩
  refine bc_run hr hS (fun r μ' H1 locs1 hq hP1 hS1 => ?_)
  rw [bc_mapO]
  exact k r μ' hq p l e s m args below meth c X C H1 locs1 sl hP1 hS1 hl
/-- a method's entry -/
def bc_ent : List Value → List Value
  | [] => []
  | v :: vs => if v.category = 2 then v :: .null :: bc_ent vs else v :: bc_ent vs
theorem bc_ent_len (ad : Nat → Nat) (as : List Value) : (lg_sl (as.map (bc_v ad))).length = (bc_ent as).length := by
  induction as with
  | nil => rfl
  | cons v vs ih =>
    have h1 : lg_sl ((v :: vs).map (bc_v ad)) = (if v.category = 2 then [.val (bc_v ad v), .second] else [.val (bc_v ad v)]) ++ lg_sl (vs.map (bc_v ad)) := by
      simp only [lg_sl, List.map_cons, List.flatMap_cons, bc_cat]
    rw [h1, List.length_append, ih]
    by_cases h : v.category = 2
    · simp [bc_ent, h]; omega
    · simp [bc_ent, h]; omega
theorem bc_ent_args (ad : Nat → Nat) (as : List Value) : ∀ (b : Nat) (i : Nat) (v : Value), (bc_ent as)[i]? = some v → v ≠ .null → (b + i, bc_v ad v) ∈ lv_args b (as.map (bc_v ad)) := by
  induction as with
  | nil => intro b i v h; simp [bc_ent] at h
  | cons w vs ih =>
    intro b i v h hn
    simp only [List.map_cons, lv_args, bc_cat]
    by_cases hw : w.category = 2
    · simp only [bc_ent, hw, if_true] at h ⊢
      match i with
      | 0 => simp at h; subst h; exact List.mem_cons_self
      | 1 => simp at h; exact absurd h.symm hn
      | i + 2 =>
        have := ih (b + 2) i v (by simpa using h) hn
        rw [show b + (i + 2) = b + 2 + i by omega]
        exact List.mem_cons_of_mem _ this
    · simp only [bc_ent, hw, if_false] at h ⊢
      match i with
      | 0 => simp at h; subst h; exact List.mem_cons_self
      | i + 1 =>
        have := ih (b + 1) i v (by simpa using h) hn
        rw [show b + (i + 1) = b + 1 + i by omega]
        exact List.mem_cons_of_mem _ this
theorem bc_enter {as ls : List Value} (hy : plainName y.1.cls = true) (hlen : (bc_ent as).length ≤ y.2.2.1) (hls : bc_ent as ++ List.replicate (y.2.2.1 - (bc_ent as).length) .null = ls) (h : bc_W d L y 0 ls [] μ Q) : bc_C d L y as μ Q := by
  intro l X
  refine Met.ofW (cc := y.2.1) (maxL := y.2.2.1) (ret := y.2.2.2) hy rfl ?_
  intro p e s m args below meth c s₁ B hml hv
  obtain ⟨rfl, hK, hP⟩ := hv
  have hts := atoms_spec (ws := bc_wsy y) B.pre
  have hl := lv_entry (as.map (bc_v X.1)) (n := y.2.2.1) (by rw [bc_ent_len]; exact hlen)
  rw [lg_entry_eq]
  generalize (lg_sl (as.map (bc_v X.1)) ++ List.replicate (y.2.2.1 - (lg_sl (as.map (bc_v X.1))).length) Slot.unset).toArray = sl at hl ⊢
  refine h p l e s m _ below meth c X ⟨B.exec, B.bytes, B.returns, hml, B.notSynchronized, findClass_of_methodNamed B.named, hts, hK⟩ s.heap [] sl hP va_S.rf ⟨hl.1, hl.2.1, fun i v hi hn => ?_⟩
  subst hls
  by_cases hi2 : i < (bc_ent as).length
  · rw [List.getElem?_append_left hi2] at hi
    have := bc_ent_args X.1 as 0 i v hi hn
    rw [Nat.zero_add] at this
    exact hl.2.2 _ this
  · rw [List.getElem?_append_right (by omega), List.getElem?_replicate] at hi
    split at hi
    · exact absurd (Option.some.inj hi).symm hn
    · cases hi
end BCC
