/-! THE CLAIM OUT OF ONE WALK OF THE LAW'S BODY (the skeleton's words) -/
def R_law : String := "BreadCityLaw"
def lw_P (b : Addr) (xs : List Int32) (args : Array Value) (s : State) : Prop := args = #[.ref b] ∧ s.IntsAt b xs ∧ xs.length ≤ 4096 ∧ (Jvm.Cond.and given_1 narrow_1).before args s = true
def lw_Q (_ : Array Value) (s : State) (o : Outcome) (t : State) : Prop := o = .returned (some (.int 1)) ∧ Framed s o t [] 601024 7293034
def lw_Z (below : List Frame) (a : Array Value) (s : State) : State → Prop := fun t => ∃ o, t.status = .running ∧ Ended t below o ∧ lw_Q a s o t
theorem lw_ret {p : Program} {l : Launch} {e : Env} {s : State} {m : MethodId} {below : List Frame} {meth : Method} {c : Code} {b : Nat} (hx : p.tables.exec = Jvm.exec) (hb : c.code = code) (hr : meth.sig.returnType = ret) (hlocks : meth.locks = false) {pc : Nat} {H : Heap} {ls : Array Slot} (hdg : decode code pc = .ok (.ireturn, 1)) : W p l e room_1 s m #[Value.ref b] below meth c H [] 601024 7293034 (lw_Z below #[Value.ref b] s) (F0 m pc ls [.int 1]) := by
  intro T hT X
  obtain ⟨fs, hret, hrun, hended, hW, hframe⟩ := X.leave (v := some (.int 1)) (hlocks := hlocks) (fun h => by rw [hr] at h; cases h)
  have hmeth' : T.vm.method? m = some meth := X.method'
  refine ⟨T.setFrames fs, ?_, .returned (some (.int 1)), hrun, hended, rfl, ⟨_, rfl⟩, hW, hframe⟩
  jvm_step X.here [X.here.top, hx, hb, hdg, hmeth', hr, ret, narrow_b1]
  (try refine ⟨rfl, ?_⟩); (try refine ⟨rfl, ?_⟩)
  first | (intro acts; rw [hret _ acts rfl rfl rfl]) | rw [hret _ _ rfl rfl rfl]
  exact Steps.refl _
/-! ===== the law's walk: script, class, reference, long[1] ===== -/
abbrev lj_Z : Type := Program × Launch × Env × State × MethodId × List Frame × Method × Code × Nat × Nat × (Nat → Int32) × bc_X × bc_X × Nat
def lj_H : lj_Z → Prop
  | (p, l, _, s, m, _, meth, c, b, L, xs, X, X', o) => (p.tables.exec = Jvm.exec ∧ c.code = code ∧ meth.sig.returnType = ret ∧ c.maxLocals = 8 ∧ meth.locks = false ∧ s.vm.findClass RL = some m.cls ∧ ∀ w ∈ bc_G, w.before #[Value.ref b] s = true) ∧ (va_X b L xs s s.heap ∧ b < s.heap.size ∧ L ≤ 4096) ∧ bw_K X s ∧ bc_K X' LM s ∧ l.stackTraces = false ∧ (∀ q, bc_A X LC q → s.heap.size ≤ q) ∧ (∀ q, bc_A X' LM q → s.heap.size ≤ q) ∧ s.heap.size ≤ o ∧ (∀ q, bc_A X LC q → ¬ bc_A X' LM q) ∧ ¬ bc_A X LC o ∧ ¬ bc_A X' LM o
def lj (Z : lj_Z) (pc : Nat) (lv : List (Nat × Value)) (st : List Value) (M m9 : bc_M) (f : Nat → Int64) (cells slots : Nat) : Prop := match Z with
  | (p, l, e, s, m, below, meth, c, b, _, _, X, X', o) => ∀ (H : Heap) (locs : List Loc) (sl : Array Slot), va_P X.2.1 vwCl (bc_ws X LC M) H → va_P X'.2.1 vwCl (bc_ws X' LM m9) H → va_P X.2.1 vwCl (bw_o X o f) H → va_S (fun q => s.heap.size ≤ q) s.heap H locs → lv_has sl 8 lv →
    W p l e room_1 s m #[Value.ref b] below meth c H locs cells slots (lw_Z below #[Value.ref b] s) (F0 m pc sl st)
def lj_s : lj_Z → Nat | (_, _, _, _, _, _, _, _, b, _, _, _, _, _) => b
def lj_n : lj_Z → Nat | (_, _, _, _, _, _, _, _, _, L, _, _, _, _) => L
def lj_v : lj_Z → Nat → Int32 | (_, _, _, _, _, _, _, _, _, _, xs, _, _, _) => xs
def lj_x : lj_Z → Nat | (_, _, _, _, _, _, _, _, _, _, _, X, _, _) => X.1 0
def lj_r : lj_Z → Nat | (_, _, _, _, _, _, _, _, _, _, _, _, X', _) => X'.1 0
def lj_o : lj_Z → Nat | (_, _, _, _, _, _, _, _, _, _, _, _, _, o) => o
def lj_b (Z : lj_Z) (i : Nat) : List (Nat × Value) := [(0, .ref (lj_s Z)), (1, .ref (lj_x Z)), (2, .ref (lj_r Z)), (3, .ref (lj_o Z)), (4, .int (nI i))]
def lj_L (Z : lj_Z) (i : Nat) (lv : List (Nat × Value)) : Prop := ∀ q ∈ lj_b Z i, q ∈ lv
section LJ
variable {Z : lj_Z} {pc i cells slots : Nat} {lv : List (Nat × Value)} {st : List Value} {M m9 : bc_M} {f : Nat → Int64}
theorem lj_L.rf : lj_L Z i (lj_b Z i) := fun _ h => h
theorem lj_L.c {q : Nat × Value} (h : lj_L Z i lv) : lj_L Z i (q :: lv) := fun x hx => List.mem_cons_of_mem _ (h x hx)
theorem lj_L.get (h : lj_L Z i lv) {sl : Array Slot} (hl : lv_has sl 8 lv) (k : Nat) {j : Nat} {v : Value} (hk : (lj_b Z i)[k]? = some (j, v)) : sl[j]? = some (.val v) := hl.2.2 _ (h _ (List.mem_of_getElem? hk))
theorem lj_al {k : Fin 4} {x : Nat} (C : lj_H Z) (hL : lj_L Z i lv) (j : Nat) (hk : (lj_b Z i)[j]? = some ((k : Nat), .ref x)) (d : decode code pc = .ok (.aload_n k, 1)) (kk : lj Z (pc + 1) lv (.ref x :: st) M m9 f cells slots) : lj Z pc lv st M m9 f cells slots := by
  obtain ⟨p, l, e, s, m, below, meth, c, b, L, xs, X, X', o⟩ := Z
  intro H locs sl h1 h2 h3 hS hl
  exact lv_aload_n C.1.1 C.1.2.1 d rfl (hL.get hl j hk) (kk H locs sl h1 h2 h3 hS hl)
/-- script[i + k] -/
theorem lj_arg {k : Nat} {n : Int} (C : lj_H Z) (hL : lj_L Z i lv) (hk : Int32.ofInt n = nI k) (hi : i + k < lj_n Z) (d0 : decode code pc = .ok (.aload_n 0, 1)) (d1 : decode code (pc + 1) = .ok (.iload 4, 2)) (d3 : decode code (pc + 3) = .ok (.iconst n, 1)) (d4 : decode code (pc + 4) = .ok (.iadd, 1)) (d5 : decode code (pc + 5) = .ok (.iaload, 1)) (kk : lj Z (pc + 6) lv (.int (lj_v Z (i + k)) :: st) M m9 f cells slots) : lj Z pc lv st M m9 f cells slots := by
  obtain ⟨p, l, e, s, m, below, meth, c, b, L, xs, X, X', o⟩ := Z
  have hi : i + k < L := hi
  intro H locs sl h1 h2 h3 hS hl
  refine lv_aload_n C.1.1 C.1.2.1 d0 rfl (hL.get hl 0 rfl) ?_
  refine lv_iload C.1.1 C.1.2.1 d1 (hL.get hl 4 rfl) ?_
  refine lv_iconst C.1.1 C.1.2.1 d3 hk ?_
  refine lv_iadd C.1.1 C.1.2.1 d4 ?_
  have h4 := C.2.1.2.2
  rw [nI_add]
  refine va_sld C.1.1 C.1.2.1 C.2.1.1 C.2.1.2.1 (A := fun q => s.heap.size ≤ q) (Nat.not_le.mpr C.2.1.2.1) hS (vp_in_nI hi (by omega)) d5 ?_
  rw [nI_clamp (by omega)]
  exact kk H locs sl h1 h2 h3 hS hl
theorem lj_arg7 {k : Nat} {n : Int} (C : lj_H Z) (hL : lj_L Z i lv) (hk : (Int8.ofInt n).toInt32 = nI k) (hi : i + k < lj_n Z) (d0 : decode code pc = .ok (.aload_n 0, 1)) (d1 : decode code (pc + 1) = .ok (.iload 4, 2)) (d3 : decode code (pc + 3) = .ok (.bipush n, 2)) (d4 : decode code (pc + 5) = .ok (.iadd, 1)) (d5 : decode code (pc + 6) = .ok (.iaload, 1)) (kk : lj Z (pc + 7) lv (.int (lj_v Z (i + k)) :: st) M m9 f cells slots) : lj Z pc lv st M m9 f cells slots := by
  obtain ⟨p, l, e, s, m, below, meth, c, b, L, xs, X, X', o⟩ := Z
  have hi : i + k < L := hi
  intro H locs sl h1 h2 h3 hS hl
  refine lv_aload_n C.1.1 C.1.2.1 d0 rfl (hL.get hl 0 rfl) ?_
  refine lv_iload C.1.1 C.1.2.1 d1 (hL.get hl 4 rfl) ?_
  refine lv_bipush C.1.1 C.1.2.1 d3 hk ?_
  refine lv_iadd C.1.1 C.1.2.1 d4 ?_
  have h4 := C.2.1.2.2
  rw [nI_add]
  refine va_sld C.1.1 C.1.2.1 C.2.1.1 C.2.1.2.1 (A := fun q => s.heap.size ≤ q) (Nat.not_le.mpr C.2.1.2.1) hS (vp_in_nI hi (by omega)) d5 ?_
  rw [nI_clamp (by omega)]
  exact kk H locs sl h1 h2 h3 hS hl
theorem bw_K.moved {X : bc_X} {s U : State} (hW : s.WarmedH U.vm) (hh : ∀ q : Nat, q < s.heap.size → ¬ bc_A X LC q → U.heap[q]? = s.heap[q]?) (h : bw_K X s) : bw_K X U := ⟨h.1.moved hW hh, h.2.1.moved hW hh, va_Nc.moved hW.alike h.2.2⟩
theorem bw_blind {X : bc_X} {o : Nat} {as : List Value} : FrameBlind (bw_Pre X o as M f) := by
  intro a U g mk h
  exact ⟨h.1, ⟨bc_K.same (s := U) (U := U.calling g mk a) rfl rfl h.2.1.1, bc_Zs.same (s := U) (U := U.calling g mk a) rfl rfl h.2.1.2.1, va_Nc.moved (u := U) (U := U.calling g mk a) (Vm.Alike.refl U.vm) h.2.1.2.2⟩, h.2.2⟩
theorem bw_G {y : bw_Y} (h : Cond.codeWith y.1 y.2.1 y.2.2.1 (some .int) y.2.2.2 ∈ bc_G) : GoodIn bc_G (bw_ws y) := by
  intro w hw
  rcases List.mem_cons.mp hw with rfl | hw
  · exact ⟨h, bc_good h⟩
  · exact ⟨hw, bc_good hw⟩
theorem bc_GL {z : bc_Y} (h : Cond.code z.1 z.2.1 z.2.2.1 z.2.2.2 ∈ bc_G) : GoodIn bc_G (bc_wsy z) := by
  intro w hw
  rcases List.mem_cons.mp hw with rfl | hw
  · exact ⟨h, bc_good h⟩
  · exact ⟨hw, bc_good hw⟩
/-- a wrapper is called -/
theorem lj_wr {y : bw_Y} {as : List Value} {idx n : Nat} {Q : (Nat → Int64) → Int32 → (Nat → Int64) → bc_M → Prop} (C : lj_H Z) (d : decode code pc = .ok (.invokestatic idx, 3)) (hl0 : Cond.methodLink RL idx y.1 ∈ bc_G) (hk : Cond.codeWith y.1 y.2.1 y.2.2.1 (some .int) y.2.2.2 ∈ bc_G) (hst : Cond.static y.1 ∈ bc_G) (hcls : y.1.cls = RL) (hmx : y.2.2.1 ≤ 40) (hdesc : (parseMethodDescriptor y.1.desc).map (fun d => d.parameters.length) = some n) (hn : as.length + 2 = n) (hw : bw_C y as M Q) (hc : cells + 1 ≤ 601024) (hs : slots + 6 ≤ 7293034) (hst0 : .ref (lj_o Z) :: (as.reverse ++ [.ref (lj_x Z)]) = st)
    (kk : ∀ r f' ν, Q f r f' ν → lj Z (pc + 3) lv [.int r] ν m9 f' (cells + 1) (slots + 6)) : lj Z pc lv st M m9 f cells slots := by
  subst hst0
  obtain ⟨p, l, e, s, m, below, meth, c, b, L, xs, X, X', o⟩ := Z
  intro H locs sl h1 h2 h3 hS hl
  obtain ⟨⟨hx, hb, hr, hml, hlk, hown, hts⟩, hscr, hK, hK', htr, hA, hA', ho, hdis, hno, hno'⟩ := C
  have hcw : vx_CSW room_1 s #[Value.ref b] RL idx y.1 y.2.1 y.2.2.1 (some .int) y.2.2.2 (bw_ws y) (bc_rmX 41) 1 6 n := ⟨⟨rfl, rfl, by decide, by show 8 + (y.2.2.1 + 11) + 64 * 41 ≤ 84000; omega, pay_in hts (bw_G hk), List.mem_cons_self⟩, hts _ hk, by rw [hcls]; exact hts _ iL, by rw [hcls]; exact ⟨by decide +kernel, by decide +kernel⟩, fun sig h => by
    rw [h] at hdesc
    exact (Option.some.inj hdesc).symm, hts _ hl0, hts _ hst⟩
  have hrun : va_Run p l e room_1 s m #[Value.ref b] below meth c H locs cells slots 1 6 (F0 m pc sl (.ref o :: (as.reverse ++ [.ref (X.1 0)]))) [] (bw_Post X o (Q f) (.ref (X.1 0) :: (as ++ [.ref o])).toArray) (bw_A X o) :=
    vx_runSW (hh := y.2.2.2) (As := .ref (X.1 0) :: (as ++ [.ref o])) (rest := []) ⟨hx, hb, hml, hown, hts⟩ (hw l X o f htr hno) hcw ⟨bw_blind, fun U hU hW => ⟨rfl, hK.moved hW (fun q g1 g2 => by rw [hU]; exact hS.2.1 q g1 (Nat.not_le.mpr g1)), by rw [hU]; exact h1, by rw [hU]; exact h3⟩⟩ rfl (by rw [← hn]; simp) hl.1 (by simp) (lv_room (by decide)) d ⟨hc, hs⟩
  intro T hT XT
  obtain ⟨v, st₀, t, T', Lc, h0, X2, hLc, e1, e2, ⟨⟨r, f', ν, hv, hq, hP1, hPo1⟩, hF⟩, hgo⟩ := hrun T hT XT
  cases hv
  have hsub : ∀ q, bw_A X o q → s.heap.size ≤ q := fun q h => h.elim (hA q) (fun e => by rw [e]; exact ho)
  obtain ⟨k1, k2, k3⟩ := vx_keep h0 e1 hS (fun q _ h => hsub q h) hsub hLc hF
  obtain ⟨t2, a1, b1⟩ := kk r f' ν hq T'.heap (locs ++ Lc) sl (by rw [e1]; exact hP1) (h2.kept (fun k q hq' => by
    obtain ⟨o9, h9, rfl⟩ := bc_of hq'
    have hin : bc_A X' LM (X'.1 k) := ⟨k, (List.getElem?_eq_some_iff.mp h9).1, rfl⟩
    exact k2 _ (h2 k _ hq').lt (fun h => h.elim (fun g => hdis _ g hin) (fun g => hno' (g ▸ hin))))) (by rw [e1]; exact hPo1) k3 hl T' rfl X2
  exact ⟨t2, hgo t2 a1, b1⟩
/-- a method of the reference is called -/
theorem lj_rf {z : bc_Y} {as : List Value} {idx n : Nat} {v : Value} {B : bc_M → Prop} {st0 : List Value} (C : lj_H Z) (d : decode code pc = .ok (.invokevirtual idx, 3)) (hl0 : Cond.methodLink RL idx z.1 ∈ bc_G) (hz : bc_V0 z n) (hcl : z.1.cls = RX10) (hn : as.length = n) (has : ∀ ad : Nat → Nat, as.map (bc_v ad) = as) (hv : ∀ ad : Nat → Nat, bc_v ad v = v) (hs : as.reverse ++ .ref (lj_r Z) :: st = st0) (hw : (st.map fun v => v.category).sum ≤ 8) (hcc : cells ≤ 601024) (hss : slots ≤ 7293034)
    (hC : bc_C 40 LM z (.ref 0 :: as) m9 (fun r ξ => r = some v ∧ B ξ)) (kk : ∀ ξ, B ξ → lj Z (pc + 3) lv (v :: st) M ξ f cells slots) : lj Z pc lv st0 M m9 f cells slots := by
  subst hs
  obtain ⟨p, l, e, s, m, below, meth, c, b, L, xs, X, X', o⟩ := Z
  intro H locs sl h1 h2 h3 hS hl
  obtain ⟨⟨hx, hb, hr, hml, hlk, hown, hts⟩, hscr, hK, hK', htr, hA, hA', ho, hdis, hno, hno'⟩ := C
  obtain ⟨z1, z2, z3, z4, z5, z6, z7, z8⟩ := hz
  have hrecv : ∃ cellB : Cell, H[X'.1 0]? = some cellB ∧ cellB.vm.isStatics = false ∧ s.vm.findClass z.1.cls = some cellB.cls := by
    obtain ⟨rs0, h0⟩ := LM_0
    rw [hcl]
    exact va_recv hK'.1 h2 (ci := 10) (q0 := 0) rfl (bc_at h0)
  have hcb : CallB room_1 s #[Value.ref b] RL idx z.1 z.2.1 z.2.2.1 z.2.2.2 (bc_wsy z) (bc_rm 40) 0 0 n := callB_of n hts (bc_GL z4) rfl rfl rfl (hts _ z3) (hts _ hl0) ⟨z6, z7, z8⟩ ⟨by decide, by show 8 + (z.2.2.1 + 11) + 64 * 40 ≤ 84000; omega⟩
  have hrun : va_Run p l e room_1 s m #[Value.ref b] below meth c H locs cells slots 0 0 (F0 m pc sl (as.reverse ++ .ref (X'.1 0) :: st)) st (bc_Post X' LM (fun r ξ => r = some v ∧ B ξ) (Value.ref (X'.1 0) :: as.map (bc_v X'.1)).toArray) (bc_A X' LM) :=
    va_runV (n := n) (As := as.map (bc_v X'.1)) (rest := st) ⟨hx, hb, hml, hown, hts⟩ (hC l X') ⟨hcb, hts _ z1, hts _ z2⟩ ⟨bc_blind, hrecv, fun U hU hW => ⟨rfl, hK'.moved hW (fun q g1 g2 => by rw [hU]; exact hS.2.1 q g1 (Nat.not_le.mpr g1)), by rw [hU]; exact h2⟩⟩ rfl (by rw [List.length_map]; exact hn) hl.1 (by rw [has]) (lv_room hw) d ⟨hcc, hss⟩
  intro T hT XT
  obtain ⟨v', st₀, t, T', Lc, h0, X2, hLc, e1, e2, ⟨⟨r, ξ, hv', ⟨rfl, hB⟩, hP1⟩, hF⟩, hgo⟩ := hrun T hT XT
  cases hv'
  obtain ⟨k1, k2, k3⟩ := vx_keep h0 e1 hS (fun q _ h => hA' q h) hA' hLc hF
  have kept : ∀ q, q < H.size → ¬ bc_A X' LM q → T'.heap[q]? = H[q]? := k2
  obtain ⟨t2, a1, b1⟩ := kk ξ hB T'.heap (locs ++ Lc) sl (h1.kept (fun k q hq' => by
    obtain ⟨o9, h9, rfl⟩ := bc_of hq'
    exact kept _ (h1 k _ hq').lt (hdis _ ⟨k, (List.getElem?_eq_some_iff.mp h9).1, rfl⟩))) (by rw [e1]; exact hP1) (h3.kept (fun k q hq' => by
    obtain ⟨-, rfl⟩ := bw_oAt hq'
    exact kept _ (h3 k _ hq').lt hno')) k3 hl T' rfl X2
  refine ⟨t2, hgo t2 ?_, b1⟩
  have e9 : ((some v).map (bc_v X'.1)).toList ++ st = v :: st := by
    show bc_v X'.1 v :: st = v :: st
    rw [hv]
  rw [e9]
  exact a1
/-- a method of the class is called -/
theorem lj_cl {z : bc_Y} {as : List Value} {idx n : Nat} {v : Value} {A : bc_M → Prop} {st0 : List Value} (C : lj_H Z) (d : decode code pc = .ok (.invokevirtual idx, 3)) (hl0 : Cond.methodLink RL idx z.1 ∈ bc_G) (hz : bc_V0 z n) (hcl : z.1.cls = RX9) (hn : as.length = n) (has : ∀ ad : Nat → Nat, as.map (bc_v ad) = as) (hv : ∀ ad : Nat → Nat, bc_v ad v = v) (hs : as.reverse ++ .ref (lj_x Z) :: st = st0) (hw : (st.map fun v => v.category).sum ≤ 8) (hcc : cells ≤ 601024) (hss : slots ≤ 7293034)
    (hC : bc_C 40 LC z (.ref 0 :: as) M (fun r ξ => r = some v ∧ A ξ)) (kk : ∀ ν, A ν → lj Z (pc + 3) lv (v :: st) ν m9 f cells slots) : lj Z pc lv st0 M m9 f cells slots := by
  subst hs
  obtain ⟨p, l, e, s, m, below, meth, c, b, L, xs, X, X', o⟩ := Z
  intro H locs sl h1 h2 h3 hS hl
  obtain ⟨⟨hx, hb, hr, hml, hlk, hown, hts⟩, hscr, hK, hK', htr, hA, hA', ho, hdis, hno, hno'⟩ := C
  obtain ⟨z1, z2, z3, z4, z5, z6, z7, z8⟩ := hz
  have hrecv : ∃ cellB : Cell, H[X.1 0]? = some cellB ∧ cellB.vm.isStatics = false ∧ s.vm.findClass z.1.cls = some cellB.cls := by
    obtain ⟨rs0, h0⟩ := LC_0
    rw [hcl]
    exact va_recv hK.1.1 h1 (ci := 9) (q0 := 0) rfl (bc_at h0)
  have hcb : CallB room_1 s #[Value.ref b] RL idx z.1 z.2.1 z.2.2.1 z.2.2.2 (bc_wsy z) (bc_rm 40) 0 0 n := callB_of n hts (bc_GL z4) rfl rfl rfl (hts _ z3) (hts _ hl0) ⟨z6, z7, z8⟩ ⟨by decide, by show 8 + (z.2.2.1 + 11) + 64 * 40 ≤ 84000; omega⟩
  have hrun : va_Run p l e room_1 s m #[Value.ref b] below meth c H locs cells slots 0 0 (F0 m pc sl (as.reverse ++ .ref (X.1 0) :: st)) st (bc_Post X LC (fun r ξ => r = some v ∧ A ξ) (Value.ref (X.1 0) :: as.map (bc_v X.1)).toArray) (bc_A X LC) :=
    va_runV (n := n) (As := as.map (bc_v X.1)) (rest := st) ⟨hx, hb, hml, hown, hts⟩ (hC l X) ⟨hcb, hts _ z1, hts _ z2⟩ ⟨bc_blind, hrecv, fun U hU hW => ⟨rfl, hK.1.moved hW (fun q g1 g2 => by rw [hU]; exact hS.2.1 q g1 (Nat.not_le.mpr g1)), by rw [hU]; exact h1⟩⟩ rfl (by rw [List.length_map]; exact hn) hl.1 (by rw [has]) (lv_room hw) d ⟨hcc, hss⟩
  intro T hT XT
  obtain ⟨v', st₀, t, T', Lc, h0, X2, hLc, e1, e2, ⟨⟨r, ξ, hv', ⟨rfl, hB⟩, hP1⟩, hF⟩, hgo⟩ := hrun T hT XT
  cases hv'
  obtain ⟨k1, k2, k3⟩ := vx_keep h0 e1 hS (fun q _ h => hA q h) hA hLc hF
  obtain ⟨t2, a1, b1⟩ := kk ξ hB T'.heap (locs ++ Lc) sl (by rw [e1]; exact hP1) (h2.kept (fun k q hq' => by
    obtain ⟨o9, h9, rfl⟩ := bc_of hq'
    exact k2 _ (h2 k _ hq').lt (fun g => hdis _ g ⟨k, (List.getElem?_eq_some_iff.mp h9).1, rfl⟩))) (h3.kept (fun k q hq' => by
    obtain ⟨-, rfl⟩ := bw_oAt hq'
    exact k2 _ (h3 k _ hq').lt hno)) k3 hl T' rfl X2
  refine ⟨t2, hgo t2 ?_, b1⟩
  have e9 : ((some v).map (bc_v X.1)).toList ++ st = v :: st := by
    show bc_v X.1 v :: st = v :: st
    rw [hv]
  rw [e9]
  exact a1
theorem vT.v {y : bc_Y} {v : Value} (h : vT y v) (ad : Nat → Nat) : bc_v ad v = v := by
  rcases h with ⟨-, x, rfl⟩ | ⟨-, x, rfl⟩ <;> rfl
end LJ
