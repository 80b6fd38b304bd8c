/-! calls that throw: contract, walk, rows -/
def bc_rmX (d : Nat) : Room := { frames := d, cells := 1, slots := 6, locals := 64 * d }
def bx_B : List Cond := [.declares (Bundle.initS "java/lang/RuntimeException"), .declares (Bundle.initS "java/lang/Exception"), .declares (Bundle.initS "java/lang/Throwable"), .castable "java/lang/IllegalArgumentException" "java/lang/IllegalArgumentException", .castable "java/util/NoSuchElementException" "java/util/NoSuchElementException"]
theorem bx_Bt : ∀ w ∈ bx_B, w.onTables = true := by
  intro w hw
  simp only [bx_B, List.mem_cons, List.not_mem_nil, or_false] at hw
  rcases hw with rfl | rfl | rfl | rfl | rfl <;> rfl
def bc_Zs (X : bc_X) (L : bc_L) (U : State) : Prop := vx_Zq Bundle.tN "UNASSIGNED_STACK" Bundle.steD (bc_A X L) U U.heap ∧ vx_Zq Bundle.tN "SUPPRESSED_SENTINEL" Bundle.listD (bc_A X L) U U.heap ∧ ∀ w ∈ bx_B, va_Nw w U
theorem bc_Zs.moved {X : bc_X} {L : bc_L} {s U : State} (hW : s.WarmedH U.vm) (hh : ∀ q : Nat, q < s.heap.size → ¬ bc_A X L q → U.heap[q]? = s.heap[q]?) (h : bc_Zs X L s) : bc_Zs X L U := ⟨(vx_Zq.moved hW.alike h.1).kept hh, (vx_Zq.moved hW.alike h.2.1).kept hh, fun w hw => by
  have h2 := h.2.2 w hw
  simp only [bx_B, List.mem_cons, List.not_mem_nil, or_false] at hw
  rcases hw with rfl | rfl | rfl | rfl | rfl
  · exact va_Nw.warmD hW h2
  · exact va_Nw.warmD hW h2
  · exact va_Nw.warmD hW h2
  · exact va_Nw.warmC hW h2
  · exact va_Nw.warmC hW h2⟩
theorem bc_Zs.same {X : bc_X} {L : bc_L} {s U : State} (hv : U.vm = s.vm) (hh : U.heap = s.heap) (h : bc_Zs X L s) : bc_Zs X L U := by
  have ha : s.vm.Alike U.vm := by rw [hv]; exact Vm.Alike.refl s.vm
  exact ⟨by rw [hh]; exact vx_Zq.moved ha h.1, by rw [hh]; exact vx_Zq.moved ha h.2.1, fun w hw => va_Nw.same (bx_Bt w hw) hv.symm (h.2.2 w hw)⟩
def bc_PreX (X : bc_X) (L : bc_L) (as : List Value) (μ : bc_M) : Array Value → State → Prop := va_Pc (as.map (bc_v X.1)) (fun U => (bc_K X L U ∧ bc_Zs X L U) ∧ va_P X.2.1 vwCl (bc_ws X L μ) U.heap)
def bc_XC (X : bc_X) (L : bc_L) (E : String) (ν : bc_M) : String → State → State → Prop := fun E' st t => E' = E ∧ va_P X.2.1 vwCl (bc_ws X L ν) t.heap ∧ va_F (bc_A X L) st t
def bc_no : Array Value → State → Outcome → State → Prop := fun _ _ _ _ => False
def bc_CX (d : Nat) (L : bc_L) (y : bc_Y) (as : List Value) (μ : bc_M) (E : String) (ν : bc_M) : Prop :=
  ∀ (l : Launch) (X : bc_X), l.stackTraces = false → vx_Met l y.1 (bc_wsy y) (bc_rmX d) (bc_PreX X L as μ) bc_no (bc_XC X L E ν) 1 6 (bc_A X L)
def bc_HX (L : bc_L) (y : bc_Y) (p : Program) (l : Launch) (s : State) (m : MethodId) (args : Array Value) (meth : Method) (c : Code) (X : bc_X) : Prop := bc_H L y p s m args meth c X ∧ bc_Zs X L s ∧ (∀ x ∈ c.exceptionTable.toList, False) ∧ l.stackTraces = false
def bc_WX (d : Nat) (L : bc_L) (y : bc_Y) (pc : Nat) (ls st : List Value) (μ : bc_M) (E : String) (ν : bc_M) : Prop :=
  ∀ (p : Program) (l : Launch) (e : Env) (s : State) (m : MethodId) (args : Array Value) (below : List Frame) (meth : Method) (c : Code) (X : bc_X), bc_HX L y p l s m args meth c X →
    ∀ (H : Heap) (locs : List Loc) (sl : Array Slot), va_P X.2.1 vwCl (bc_ws X L μ) H → va_S (bc_A X L) s.heap H locs → bc_lv X.1 sl y.2.2.1 ls →
      W p l e (bc_rmX d) s m args below meth c H locs 0 0 (vx_MQ below bc_no (bc_XC X L E ν) args s 1 6 (bc_A X L)) (F0 m pc sl (st.map (bc_v X.1)))
section BXS
variable {d : Nat} {L : bc_L} {y z : bc_Y} {pc : Nat} {ls st : List Value} {μ ν : bc_M} {E : String}
theorem bx_iconst {n : Int} {v : Int32} (hd : decode y.2.1 pc = .ok (.iconst n, 1)) (hv : Int32.ofInt n = v) (k : bc_WX d L y (pc + 1) ls (.int v :: st) μ E ν) : bc_WX d L y pc ls st μ E ν := by
  intro p l e s m args below meth c X C H locs sl hP hS hl
  exact lv_iconst C.1.1 C.1.2.1 hd hv (k p l e s m args below meth c X C H locs sl hP hS hl)
theorem bx_bipush {n : Int} {v : Int32} (hd : decode y.2.1 pc = .ok (.bipush n, 2)) (hv : (Int8.ofInt n).toInt32 = v) (k : bc_WX d L y (pc + 2) ls (.int v :: st) μ E ν) : bc_WX d L y pc ls st μ E ν := by
  intro p l e s m args below meth c X C H locs sl hP hS hl
  exact lv_bipush C.1.1 C.1.2.1 hd hv (k p l e s m args below meth c X C H locs sl hP hS hl)
theorem bx_sipush {n : Int} {v : Int32} (hd : decode y.2.1 pc = .ok (.sipush n, 3)) (hv : (Int16.ofInt n).toInt32 = v) (k : bc_WX d L y (pc + 3) ls (.int v :: st) μ E ν) : bc_WX d L y pc ls st μ E ν := by
  intro p l e s m args below meth c X C H locs sl hP hS hl
  exact lv_sipush C.1.1 C.1.2.1 hd hv (k p l e s m args below meth c X C H locs sl hP hS hl)
theorem bx_iload_n {k9 : Fin 4} {x : Int32} (hd : decode y.2.1 pc = .ok (.iload_n k9, 1)) (h : ls[(k9 : Nat)]? = some (.int x)) (k : bc_WX d L y (pc + 1) ls (.int x :: st) μ E ν) : bc_WX d L y pc ls st μ E ν := by
  intro p l e s m args below meth c X C H locs sl hP hS hl
  exact lv_iload_n C.1.1 C.1.2.1 hd rfl (hl.2.2 _ _ h (fun q => by cases q)) (k p l e s m args below meth c X C H locs sl hP hS hl)
theorem bx_iload {i : Nat} {x : Int32} (hd : decode y.2.1 pc = .ok (.iload i, 2)) (h : ls[i]? = some (.int x)) (k : bc_WX d L y (pc + 2) ls (.int x :: st) μ E ν) : bc_WX d L y pc ls st μ E ν := by
  intro p l e s m args below meth c X C H locs sl hP hS hl
  exact lv_iload C.1.1 C.1.2.1 hd (hl.2.2 _ _ h (fun q => by cases q)) (k p l e s m args below meth c X C H locs sl hP hS hl)
theorem bx_aload_n {k9 : Fin 4} {x : Nat} (hd : decode y.2.1 pc = .ok (.aload_n k9, 1)) (h : ls[(k9 : Nat)]? = some (.ref x)) (k : bc_WX d L y (pc + 1) ls (.ref x :: st) μ E ν) : bc_WX d L y pc ls st μ E ν := by
  intro p l e s m args below meth c X C H locs sl hP hS hl
  exact lv_aload_n C.1.1 C.1.2.1 hd rfl (hl.2.2 _ _ h (fun q => by cases q)) (k p l e s m args below meth c X C H locs sl hP hS hl)
theorem bx_iadd {x w : Int32} (hd : decode y.2.1 pc = .ok (.iadd, 1)) (k : bc_WX d L y (pc + 1) ls (.int (x + w) :: st) μ E ν) : bc_WX d L y pc ls (.int w :: .int x :: st) μ E ν := by
  intro p l e s m args below meth c X C H locs sl hP hS hl
  exact lv_iadd C.1.1 C.1.2.1 hd (k p l e s m args below meth c X C H locs sl hP hS hl)
theorem bx_isub {x w : Int32} (hd : decode y.2.1 pc = .ok (.isub, 1)) (k : bc_WX d L y (pc + 1) ls (.int (x - w) :: st) μ E ν) : bc_WX d L y pc ls (.int w :: .int x :: st) μ E ν := by
  intro p l e s m args below meth c X C H locs sl hP hS hl
  exact lv_isub C.1.1 C.1.2.1 hd (k p l e s m args below meth c X C H locs sl hP hS hl)
theorem bx_dup {v : Value} (hd : decode y.2.1 pc = .ok (.dup, 1)) (hv : v.category = 1) (k : bc_WX d L y (pc + 1) ls (v :: v :: st) μ E ν) : bc_WX d L y pc ls (v :: st) μ E ν := by
  intro p l e s m args below meth c X C H locs sl hP hS hl
  exact lv_dup C.1.1 C.1.2.1 hd (by rw [bc_cat]; exact hv) (k p l e s m args below meth c X C H locs sl hP hS hl)
theorem bx_if_lt {x : Int32} {off : Int} {tgt : Nat} (hd : decode y.2.1 pc = .ok (.ifCond .lt off, 3)) (ht : (pc : Int) + off = (tgt : Int)) (kt : x < 0 → bc_WX d L y tgt ls st μ E ν) (kf : ¬ x < 0 → bc_WX d L y (pc + 3) ls st μ E ν) : bc_WX d L y pc ls (.int x :: st) μ E ν := by
  intro p l e s m args below meth c X C H locs sl hP hS hl
  exact lv_if_lt C.1.1 C.1.2.1 hd ht (fun h9 => kt h9 p l e s m args below meth c X C H locs sl hP hS hl) (fun h9 => kf h9 p l e s m args below meth c X C H locs sl hP hS hl)
theorem bx_icmp_lt {x w : Int32} {off : Int} {tgt : Nat} (hd : decode y.2.1 pc = .ok (.if_icmp .lt off, 3)) (ht : (pc : Int) + off = (tgt : Int)) (kt : x < w → bc_WX d L y tgt ls st μ E ν) (kf : ¬ x < w → bc_WX d L y (pc + 3) ls st μ E ν) : bc_WX d L y pc ls (.int w :: .int x :: st) μ E ν := by
  intro p l e s m args below meth c X C H locs sl hP hS hl
  exact lv_icmp_lt C.1.1 C.1.2.1 hd ht (fun h9 => kt h9 p l e s m args below meth c X C H locs sl hP hS hl) (fun h9 => kf h9 p l e s m args below meth c X C H locs sl hP hS hl)
theorem bx_icmp_le {x w : Int32} {off : Int} {tgt : Nat} (hd : decode y.2.1 pc = .ok (.if_icmp .le off, 3)) (ht : (pc : Int) + off = (tgt : Int)) (kt : x ≤ w → bc_WX d L y tgt ls st μ E ν) (kf : ¬ x ≤ w → bc_WX d L y (pc + 3) ls st μ E ν) : bc_WX d L y pc ls (.int w :: .int x :: st) μ E ν := by
  intro p l e s m args below meth c X C H locs sl hP hS hl
  exact lv_icmp_le C.1.1 C.1.2.1 hd ht (fun h9 => kt h9 p l e s m args below meth c X C H locs sl hP hS hl) (fun h9 => kf h9 p l e s m args below meth c X C H locs sl hP hS hl)
theorem bx_geti {idx ci k i n : Nat} {rs : List (Option Nat)} (hd : decode y.2.1 pc = .ok (.getfield idx, 3)) (hF : bc_F y.1.cls idx ci k) (ho : L[i]? = some (ci + 5, n, rs)) (hr : rs[k]? = some none) (k9 : bc_WX d L y (pc + 3) ls (.int (μ i k) :: st) μ E ν) : bc_WX d L y pc ls (.ref i :: st) μ E ν := by
  intro p l e s m args below meth c X C H locs sl hP hS hl
  obtain ⟨C', T, N, h1, h2, h3, h4⟩ := hF
  exact va_get (D := X.2.1) (ci := ci) (v := .int (μ i k)) (C := C') (T := T) (N := N) C.1.1 C.1.2.1 C.1.words h3 C.1.own C.1.K.1 hP i (bc_at ho) h1 k h2 (C.1.word h4) (fun _ h9 => h9) (bc_fs_at hr) hd (k9 p l e s m args below meth c X C H locs sl hP hS hl)
theorem bx_getr {idx ci k i j n : Nat} {rs : List (Option Nat)} (hd : decode y.2.1 pc = .ok (.getfield idx, 3)) (hF : bc_F y.1.cls idx ci k) (ho : L[i]? = some (ci + 5, n, rs)) (hr : rs[k]? = some (some j)) (k9 : bc_WX d L y (pc + 3) ls (.ref j :: st) μ E ν) : bc_WX d L y pc ls (.ref i :: st) μ E ν := by
  intro p l e s m args below meth c X C H locs sl hP hS hl
  obtain ⟨C', T, N, h1, h2, h3, h4⟩ := hF
  exact va_get (D := X.2.1) (ci := ci) (v := .ref (X.1 j)) (C := C') (T := T) (N := N) C.1.1 C.1.2.1 C.1.words h3 C.1.own C.1.K.1 hP i (bc_at ho) h1 k h2 (C.1.word h4) (fun _ h9 => h9) (bc_fs_at hr) hd (k9 p l e s m args below meth c X C H locs sl hP hS hl)
theorem bx_blind {X : bc_X} {as : List Value} : FrameBlind (bc_PreX X L as μ) := by
  intro a U g mk h
  exact ⟨h.1, ⟨bc_K.same (s := U) (U := U.calling g mk a) rfl rfl h.2.1.1, bc_Zs.same (s := U) (U := U.calling g mk a) rfl rfl h.2.1.2⟩, h.2.2⟩
theorem bx_pre {X : bc_X} {as : List Value} {s : State} {H : Heap} {locs : List Loc} (hK : bc_K X L s) (hZ : bc_Zs X L s) (hP : va_P X.2.1 vwCl (bc_ws X L μ) H) (hS : va_S (bc_A X L) s.heap H locs) : ∀ U : State, U.heap = H → s.WarmedH U.vm → bc_PreX X L as μ (as.map (bc_v X.1)).toArray U :=
  fun U hU hW => ⟨rfl, ⟨hK.moved hW (fun q h1 h2 => by rw [hU]; exact hS.2.1 q h1 h2), hZ.moved hW (fun q h1 h2 => by rw [hU]; exact hS.2.1 q h1 h2)⟩, by rw [hU]; exact hP⟩
/-- a call that returns -/
theorem bx_callV {n idx i ci N n0 : Nat} {rs : List (Option Nat)} {T : u_T} {as st0 : List Value} {Q' : Option Value → bc_M → Prop} (hd : decode y.2.1 pc = .ok (.invokevirtual idx, 3)) (hl0 : Cond.methodLink y.1.cls idx z.1 ∈ bc_G) (hz : bc_V0 z n) (ho : L[i]? = some (ci + 5, n0, rs)) (hc : vwCl[ci]? = some (z.1.cls, T, N)) (hn : as.length = n) (hs : as.reverse ++ .ref i :: st = st0) (hw : (st.map fun v => v.category).sum ≤ 8)
    (hC : bc_C d L z (.ref i :: as) μ Q') (k : ∀ (r : Option Value) (μ' : bc_M), Q' r μ' → bc_WX (d + 1) L y (pc + 3) ls (r.toList ++ st) μ' E ν) : bc_WX (d + 1) L y pc ls st0 μ E ν := by
  intro p l e s m args below meth c X C H locs sl hP hS hl
  obtain ⟨z1, z2, z3, z4, z5, z6, z7, z8⟩ := hz
  have hrecv : ∃ cellB : Cell, H[X.1 i]? = some cellB ∧ cellB.vm.isStatics = false ∧ s.vm.findClass z.1.cls = some cellB.cls := va_recv C.1.K.1 hP (ci := ci) (q0 := i) hc (bc_at ho)
  have hR : (bc_rm d).frames + 1 ≤ (bc_rmX (d + 1)).frames ∧ 8 + (z.2.2.1 + 11) + (bc_rm d).locals ≤ (bc_rmX (d + 1)).locals := bc_rooms (d := d) z5
  have hb : CallB (bc_rmX (d + 1)) s args y.1.cls idx z.1 z.2.1 z.2.2.1 z.2.2.2 (bc_wsy z) (bc_rm d) 0 0 n := callB_of n C.1.2.2.2.2.2.2.1 (bc_GG z4) rfl rfl rfl (C.1.word z3) (C.1.word hl0) ⟨z6, z7, z8⟩ hR
  have hr : va_Run p l e (bc_rmX (d + 1)) s m args below meth c H locs 0 0 0 0 (F0 m pc sl (st0.map (bc_v X.1))) (st.map (bc_v X.1)) (bc_Post X L Q' (Value.ref (X.1 i) :: as.map (bc_v X.1)).toArray) (bc_A X L) :=
    va_runV (n := n) (As := as.map (bc_v X.1)) (rest := st.map (bc_v X.1)) ⟨C.1.1, C.1.2.1, C.1.2.2.2.1, C.1.own, C.1.2.2.2.2.2.2.1⟩ (hC l X) ⟨hb, C.1.word z1, C.1.word z2⟩ ⟨bc_blind, hrecv, bc_pre (as := .ref i :: as) C.1.K hP hS⟩ rfl (by rw [List.length_map]; exact hn) hl.1 (by rw [← hs]; simp [bc_v]) (by rw [← bc_catS (ad := X.1)] at hw; exact lv_room hw) hd ⟨Nat.zero_le _, Nat.zero_le _⟩
  refine bc_run hr hS (fun r μ' H1 locs1 hq hP1 hS1 => ?_)
  rw [bc_mapO]
  exact k r μ' hq p l e s m args below meth c X C H1 locs1 sl hP1 hS1 hl
theorem bx_callS {n idx : Nat} {as st0 : List Value} {Q' : Option Value → bc_M → Prop} (hd : decode y.2.1 pc = .ok (.invokestatic idx, 3)) (hl0 : Cond.methodLink y.1.cls idx z.1 ∈ bc_G) (hz : bc_S0 z n) (hn : as.length = n) (hs : as.reverse ++ st = st0) (hw : (st.map fun v => v.category).sum ≤ 8)
    (hC : bc_C d L z as μ Q') (k : ∀ (r : Option Value) (μ' : bc_M), Q' r μ' → bc_WX (d + 1) L y (pc + 3) ls (r.toList ++ st) μ' E ν) : bc_WX (d + 1) L y pc ls st0 μ E ν := by
  intro p l e s m args below meth c X C H locs sl hP hS hl
  obtain ⟨z1, z3, z4, z5, z6, z7, z8⟩ := hz
  have hR : (bc_rm d).frames + 1 ≤ (bc_rmX (d + 1)).frames ∧ 8 + (z.2.2.1 + 11) + (bc_rm d).locals ≤ (bc_rmX (d + 1)).locals := bc_rooms (d := d) z5
  have hb : CallB (bc_rmX (d + 1)) s args y.1.cls idx z.1 z.2.1 z.2.2.1 z.2.2.2 (bc_wsy z) (bc_rm d) 0 0 n := callB_of n C.1.2.2.2.2.2.2.1 (bc_GG z4) rfl rfl rfl (C.1.word z3) (C.1.word hl0) ⟨z6, z7, z8⟩ hR
  have hr : va_Run p l e (bc_rmX (d + 1)) s m args below meth c H locs 0 0 0 0 (F0 m pc sl (st0.map (bc_v X.1))) (st.map (bc_v X.1)) (bc_Post X L Q' (as.map (bc_v X.1)).toArray) (bc_A X L) :=
    va_runS (n := n) (As := as.map (bc_v X.1)) (rest := st.map (bc_v X.1)) ⟨C.1.1, C.1.2.1, C.1.2.2.2.1, C.1.own, C.1.2.2.2.2.2.2.1⟩ (hC l X) ⟨hb, C.1.word z1⟩ ⟨bc_blind, bc_pre (as := as) C.1.K hP hS⟩ rfl (by rw [List.length_map]; exact hn) hl.1 (by rw [← hs]; simp [bc_v]) (by rw [← bc_catS (ad := X.1)] at hw; exact lv_room hw) hd ⟨Nat.zero_le _, Nat.zero_le _⟩
  refine bc_run hr hS (fun r μ' H1 locs1 hq hP1 hS1 => ?_)
  rw [bc_mapO]
  exact k r μ' hq p l e s m args below meth c X C H1 locs1 sl hP1 hS1 hl
/-- a call that throws: nothing here catches it -/
theorem bx_callX {n idx i ci N n0 : Nat} {rs : List (Option Nat)} {T : u_T} {as st0 : List Value} (hd : decode y.2.1 pc = .ok (.invokevirtual idx, 3)) (hl0 : Cond.methodLink y.1.cls idx z.1 ∈ bc_G) (hz : bc_V0 z n) (ho : L[i]? = some (ci + 5, n0, rs)) (hc : vwCl[ci]? = some (z.1.cls, T, N)) (hn : as.length = n) (hs : as.reverse ++ .ref i :: st = st0) (hw : (st.map fun v => v.category).sum ≤ 8)
    (hC : bc_CX d L z (.ref i :: as) μ E ν) : bc_WX (d + 1) L y pc ls st0 μ E ν := by
  intro p l e s m args below meth c X C H locs sl hP hS hl
  obtain ⟨z1, z2, z3, z4, z5, z6, z7, z8⟩ := hz
  have hrecv : ∃ cellB : Cell, H[X.1 i]? = some cellB ∧ cellB.vm.isStatics = false ∧ s.vm.findClass z.1.cls = some cellB.cls := va_recv C.1.K.1 hP (ci := ci) (q0 := i) hc (bc_at ho)
  have hR : (bc_rmX d).frames + 1 ≤ (bc_rmX (d + 1)).frames ∧ 8 + (z.2.2.1 + 11) + (bc_rmX d).locals ≤ (bc_rmX (d + 1)).locals := bc_rooms (d := d) z5
  have hb : CallB (bc_rmX (d + 1)) s args y.1.cls idx z.1 z.2.1 z.2.2.1 z.2.2.2 (bc_wsy z) (bc_rmX d) 1 6 n := callB_of n C.1.2.2.2.2.2.2.1 (bc_GG z4) rfl rfl rfl (C.1.word z3) (C.1.word hl0) ⟨z6, z7, z8⟩ hR
  have hr : vx_Run p l e (bc_rmX (d + 1)) s m args below meth c H locs 0 0 1 6 (F0 m pc sl (st0.map (bc_v X.1))) (st.map (bc_v X.1)) (bc_no (Value.ref (X.1 i) :: as.map (bc_v X.1)).toArray) (bc_XC X L E ν) (bc_A X L) :=
    vx_runV (n := n) (As := as.map (bc_v X.1)) (rest := st.map (bc_v X.1)) ⟨C.1.1, C.1.2.1, C.1.2.2.2.1, C.1.own, C.1.2.2.2.2.2.2.1⟩ (hC l X C.2.2.2) ⟨hb, C.1.word z1, C.1.word z2⟩ ⟨bx_blind, hrecv, bx_pre (as := .ref i :: as) C.1.K C.2.1 hP hS⟩ rfl (by rw [List.length_map]; exact hn) hl.1 (by rw [← hs]; simp [bc_v]) (by rw [← bc_catS (ad := X.1)] at hw; exact lv_room hw) hd ⟨Nat.le_refl _, Nat.le_refl _⟩
  intro T' hT' X'
  rcases hr T' hT' X' with ⟨v, st₀, t, T2, L', h0, X2, hL, e1, e2, hq, hg⟩ | ⟨q, st₀, t, T2, L', E', ce, h0, X2, hL, e1, e2, ⟨rfl, hPν, hF⟩, hce, hcv, hcl, hst⟩
  · exact hq.elim
  · obtain ⟨k1, k2, k3⟩ := vx_keep h0 e1 hS (fun q _ h => h) (fun q h => h) hL hF
    obtain ⟨t2, a1, b1⟩ := vx_out (p := p) (l := l) (e := e) (R := bc_rmX (d + 1)) (below := below) (Qc := bc_no) (XC := bc_XC X L E' ν) (mc := 1) (ms := 6) (free := bc_A X L) (cells := 0 + 1) (slots := 0 + 6) (locs := locs ++ L') (H := T2.heap) (args := args) (pc := pc) (ls := sl) (rest := st.map (bc_v X.1)) (fun x hx => (C.2.2.1 x hx).elim) C.1.2.2.2.2.1 (by rw [e1]; exact hce) hcv hcl (fun t' ht' _ => ⟨rfl, by rw [ht', e1]; exact hPν, by rw [ht']; exact k3.1, fun q h1 h2 => by rw [ht']; exact k3.2.1 q h1 h2⟩) k3.2.2 (Nat.le_refl _) (Nat.le_refl _) T2 rfl X2
    exact ⟨t2, hst.trans a1, b1⟩
theorem bx_enter {as : List Value} (hy : plainName y.1.cls = true) (hlen : (bc_ent as).length ≤ y.2.2.1) (hls : bc_ent as ++ List.replicate (y.2.2.1 - (bc_ent as).length) .null = ls) (h : bc_WX d L y 0 ls [] μ E ν) : bc_CX d L y as μ E ν := by
  intro l X hst
  refine vx_ofW (cc := y.2.1) (maxL := y.2.2.1) (ret := y.2.2.2) hy rfl ?_
  intro p e s m args below meth c s₁ B hml ht hv
  obtain ⟨rfl, ⟨hK, hZ⟩, hP⟩ := hv
  have hts := atoms_spec (ws := bc_wsy y) B.pre
  have hl := lv_entry (as.map (bc_v X.1)) (n := y.2.2.1) (by rw [bc_ent_len]; exact hlen)
  rw [lg_entry_eq]
  generalize (lg_sl (as.map (bc_v X.1)) ++ List.replicate (y.2.2.1 - (lg_sl (as.map (bc_v X.1))).length) Slot.unset).toArray = sl at hl ⊢
  refine h p l e s m _ below meth c X ⟨⟨B.exec, B.bytes, B.returns, hml, B.notSynchronized, findClass_of_methodNamed B.named, hts, hK⟩, hZ, ht, hst⟩ s.heap [] sl hP va_S.rf ⟨hl.1, hl.2.1, fun i v hi hn => ?_⟩
  subst hls
  by_cases hi2 : i < (bc_ent as).length
  · rw [List.getElem?_append_left hi2] at hi
    have := bc_ent_args X.1 as 0 i v hi hn
    rw [Nat.zero_add] at this
    exact hl.2.2 _ this
  · rw [List.getElem?_append_right (by omega), List.getElem?_replicate] at hi
    split at hi
    · exact absurd (Option.some.inj hi).symm hn
    · cases hi
theorem bx_put {idx ci k i n : Nat} {rs : List (Option Nat)} {v : Int32} {ty : FieldType} (hd : decode y.2.1 pc = .ok (.putfield idx, 3)) (hF : bc_F y.1.cls idx ci k) (hT : bc_FT ci) (hp : bc_FP ci k ty) (hn : narrow ty (.int v) = .int v) (hf : fits ty (.int v) = true) (ho : L[i]? = some (ci + 5, n, rs)) (hr : rs[k]? = some none) (k9 : bc_WX d L y (pc + 3) ls st (bc_u μ i k v) E ν) : bc_WX d L y pc ls (.int v :: .ref i :: st) μ E ν := by
  intro p l e s m args below meth c X C H locs sl hP hS hl
  obtain ⟨C', T, N, h1, h2, h3, h4⟩ := hF
  obtain ⟨C'', T', N', ty0, g1, g2, g3⟩ := hT
  obtain ⟨C3, T3, N3, f1, f2, f3⟩ := hp
  rw [h1] at g1 f1
  obtain ⟨rfl, rfl, rfl⟩ : C' = C'' ∧ T = T' ∧ N = N' := by simpa using g1
  obtain ⟨rfl, rfl, rfl⟩ : C' = C3 ∧ T = T3 ∧ N = N3 := by simpa using f1
  have hlen : k < (bc_fs X.1 (μ i) rs).length := (List.getElem?_eq_some_iff.mp (bc_fs_at (ad := X.1) (f := μ i) hr)).1
  refine va_put (D := X.2.1) (ci := ci) (v := .int v) (ty := ty) (C := C') (T := T) (N := N) C.1.1 C.1.2.1 C.1.words h3 ty0 g2 g3 C.1.own C.1.K.1 hP (bc_Dof C.1.K.2.2.1) hS i (bc_at ho) h1 k h2 (C.1.word h4) (fun _ h9 => h9) f2 f3 hn hf hlen hd (fun H1 locs1 hP1 _ hS1 => ?_)
  refine k9 p l e s m args below meth c X C H1 locs1 sl ?_ hS1 hl
  rw [← bc_set (μ := μ) (e' := .inr (ci, (bc_fs X.1 (μ i) rs).set k (.int v))) ho (by rw [bc_u_at, bc_fs_set hr]; rfl) (fun j hj => bc_u_ne μ k v hj)]
  exact hP1
def bx_names : List String := ["java/lang/RuntimeException", "java/lang/Exception"]
/-- 'throw new E("text")' -/
theorem bx_throw {ik is ic K : Nat} {text : String} (hd6 : 6 ≤ d) (hE : Bundle.fit E = true) (hk : Cond.classLink y.1.cls ik E ∈ bc_G) (hi : Cond.initialized E ∈ bc_G) (hq : (y.1.cls, is, text, K) ∈ bc_strs) (hat : ∀ w ∈ vx_atS y.1.cls ic E bx_names, w ∈ bc_G ∨ w ∈ bx_B) (hw : (st.map fun v => v.category).sum ≤ 8)
    (d0 : decode y.2.1 pc = .ok (.new ik, 3)) (d3 : decode y.2.1 (pc + 3) = .ok (.dup, 1)) (d4 : decode y.2.1 (pc + 4) = .ok (.ldc_w is, 3)) (d7 : decode y.2.1 (pc + 7) = .ok (.invokespecial ic, 3)) (d10 : decode y.2.1 (pc + 10) = .ok (.athrow, 1)) : bc_WX d L y pc ls st ν E ν := by
  intro p l e s m args below meth c X C H locs sl hP hS hl
  have hg : ∀ w ∈ bc_G, vx_ot w = true := fun w h => by
    unfold vx_ot
    rw [(List.mem_filter.mp h).2, Bool.or_true]
  refine vx_throwSW (cc := y.2.1) (own := y.1.cls) (cls := E) (text := text) (names := bx_names) (ik := ik) (is := is) (ic := ic) (sa := X.1 (1000 + K)) (A := bc_A X L) C.1.1 C.1.2.1 C.2.2.2 C.1.own hE (by decide) (C.1.word hk) (C.1.word hi) (C.1.K.2.2.2.2.1 _ hq) (fun w h => (hat w h).elim (fun q => C.1.word q) (fun q => (C.2.1.2.2 w q).use (bx_Bt w q))) (fun w h => ?_) C.2.1.1 C.2.1.2.1 hS (hl.1.trans C.1.2.2.2.1.symm) d0 d3 d4 d7 d10 (fun x hx => (C.2.2.1 x hx).elim) ?_ ?_ (Nat.le_refl _) (Nat.le_refl _) C.1.2.2.2.2.1 (fun t _ h1 h2 => ⟨rfl, hP.kept (fun k q hq => h2 _ (vx_lt hP hq)), Nat.le_trans hS.1 h1, fun q h3 h4 => (h2 q (Nat.lt_of_lt_of_le h3 hS.1)).trans (hS.2.1 q h3 h4)⟩) hS.2.2 (Nat.le_refl _) (Nat.le_refl _)
  · rcases List.mem_cons.mp h with rfl | h
    · exact hg _ hk
    · rcases List.mem_cons.mp h with rfl | h
      · exact hg _ hi
      · rcases hat w h with q | q
        · exact hg _ q
        · unfold vx_ot
          rw [bx_Bt w q, Bool.true_or]
  · show 2 + 3 < d
    omega
  · rw [bc_catS]
    show _ + (13 * (2 + 1) + 43) ≤ 64 * d
    omega
/-- .. where the constructor calls on by another constant -/
theorem bx_throwX {ik is ic K ix : Nat} {rx : ByteArray} {text : String} (x0 : decode rx 0 = .ok (.aload_n 0, 1)) (x1 : decode rx 1 = .ok (.aload_n 1, 1)) (x2 : decode rx 2 = .ok (.invokespecial ix, 3)) (x5 : decode rx 5 = .ok (.return_, 1)) (hd6 : 6 ≤ d) (hE : Bundle.fit E = true) (hk : Cond.classLink y.1.cls ik E ∈ bc_G) (hi : Cond.initialized E ∈ bc_G) (hq : (y.1.cls, is, text, K) ∈ bc_strs) (hat : ∀ w ∈ bx_atX y.1.cls ic E ix rx bx_names, w ∈ bc_G ∨ w ∈ bx_B) (hw : (st.map fun v => v.category).sum ≤ 8)
    (d0 : decode y.2.1 pc = .ok (.new ik, 3)) (d3 : decode y.2.1 (pc + 3) = .ok (.dup, 1)) (d4 : decode y.2.1 (pc + 4) = .ok (.ldc_w is, 3)) (d7 : decode y.2.1 (pc + 7) = .ok (.invokespecial ic, 3)) (d10 : decode y.2.1 (pc + 10) = .ok (.athrow, 1)) : bc_WX d L y pc ls st ν E ν := by
  intro p l e s m args below meth c X C H locs sl hP hS hl
  have hg : ∀ w ∈ bc_G, vx_ot w = true := fun w h => by
    unfold vx_ot
    rw [(List.mem_filter.mp h).2, Bool.or_true]
  refine bx_throwSWX (cc := y.2.1) (own := y.1.cls) (cls := E) (text := text) (names := bx_names) (ik := ik) (is := is) (ic := ic) (sa := X.1 (1000 + K)) (A := bc_A X L) C.1.1 C.1.2.1 C.2.2.2 x0 x1 x2 x5 C.1.own hE (by decide) (C.1.word hk) (C.1.word hi) (C.1.K.2.2.2.2.1 _ hq) (fun w h => (hat w h).elim (fun q => C.1.word q) (fun q => (C.2.1.2.2 w q).use (bx_Bt w q))) (fun w h => ?_) C.2.1.1 C.2.1.2.1 hS (hl.1.trans C.1.2.2.2.1.symm) d0 d3 d4 d7 d10 (fun x hx => (C.2.2.1 x hx).elim) ?_ ?_ (Nat.le_refl _) (Nat.le_refl _) C.1.2.2.2.2.1 (fun t _ h1 h2 => ⟨rfl, hP.kept (fun k q hq => h2 _ (vx_lt hP hq)), Nat.le_trans hS.1 h1, fun q h3 h4 => (h2 q (Nat.lt_of_lt_of_le h3 hS.1)).trans (hS.2.1 q h3 h4)⟩) hS.2.2 (Nat.le_refl _) (Nat.le_refl _)
  · rcases List.mem_cons.mp h with rfl | h
    · exact hg _ hk
    · rcases List.mem_cons.mp h with rfl | h
      · exact hg _ hi
      · rcases hat w h with q | q
        · exact hg _ q
        · unfold vx_ot
          rw [bx_Bt w q, Bool.true_or]
  · show 2 + 3 < d
    omega
  · rw [bc_catS]
    show _ + (13 * (2 + 1) + 43) ≤ 64 * d
    omega
end BXS
