/-! the law's wrappers: a call of the class; its answer is laid into a long[1], or the number of what was thrown comes back -/
/-- a wrapper: name, code, locals, table -/
abbrev bw_Y : Type := MethodName × ByteArray × Nat × List (Nat × Nat × Nat × Nat)
def bw_ws (y : bw_Y) : List Cond := .codeWith y.1 y.2.1 y.2.2.1 (some .int) y.2.2.2 :: bc_G
def bw_o (X : bc_X) (o : Nat) (f : Nat → Int64) : va_W := [(o, .inl (X.2.2.1 3, 1, .inr (.inl f)))]
def bw_A (X : bc_X) (o : Nat) : Nat → Prop := fun q => bc_A X LC q ∨ q = o
def bw_K (X : bc_X) (U : State) : Prop := bc_K X LC U ∧ bc_Zs X LC U ∧ va_Nc eIA eNS U
def bw_Pre (X : bc_X) (o : Nat) (as : List Value) (M : bc_M) (f : Nat → Int64) : Array Value → State → Prop := va_Pc (.ref (X.1 0) :: (as ++ [.ref o])) (fun U => bw_K X U ∧ va_P X.2.1 vwCl (bc_ws X LC M) U.heap ∧ va_P X.2.1 vwCl (bw_o X o f) U.heap)
def bw_Post (X : bc_X) (o : Nat) (Q : Int32 → (Nat → Int64) → bc_M → Prop) : Array Value → State → Outcome → State → Prop := fun _ st oc t =>
  (∃ (k : Int32) (f : Nat → Int64) (ν : bc_M), oc = .returned (some (.int k)) ∧ Q k f ν ∧ va_P X.2.1 vwCl (bc_ws X LC ν) t.heap ∧ va_P X.2.1 vwCl (bw_o X o f) t.heap) ∧ va_F (bw_A X o) st t
def bw_C (y : bw_Y) (as : List Value) (M : bc_M) (Q : (Nat → Int64) → Int32 → (Nat → Int64) → bc_M → Prop) : Prop :=
  ∀ (l : Launch) (X : bc_X) (o : Nat) (f : Nat → Int64), l.stackTraces = false → ¬ bc_A X LC o → Met l y.1 (bw_ws y) (bc_rmX 41) (bw_Pre X o as M f) (bw_Post X o (Q f)) 1 6 (bw_A X o)
def bw_H (y : bw_Y) (p : Program) (l : Launch) (s : State) (m : MethodId) (args : Array Value) (meth : Method) (c : Code) (X : bc_X) (o : Nat) : Prop :=
  p.tables.exec = Jvm.exec ∧ c.code = y.2.1 ∧ meth.sig.returnType = some .int ∧ c.maxLocals = y.2.2.1 ∧ meth.locks = false ∧ s.vm.findClass y.1.cls = some m.cls ∧ (∀ w ∈ bw_ws y, w.before args s = true) ∧ c.exceptionTable.toList = tableOf y.2.2.2 ∧ bw_K X s ∧ l.stackTraces = false ∧ ¬ bc_A X LC o
/-- from the wrapper's entry to its call -/
def bw_E (y : bw_Y) (pcC : Nat) (as : List Value) : Prop :=
  ∀ (p : Program) (l : Launch) (e : Env) (R : Room) (s : State) (m : MethodId) (args : Array Value) (below : List Frame) (meth : Method) (c : Code) (H : Heap) (Q : State → Prop) (x o : Nat) (sl : Array Slot), p.tables.exec = Jvm.exec → c.code = y.2.1 → lv_has sl y.2.2.1 (lv_args 0 (.ref x :: (as ++ [.ref o]))) →
    W p l e R s m args below meth c H [] 0 0 Q (F0 m pcC sl (as.reverse ++ [.ref x, .int 0, .ref o])) → W p l e R s m args below meth c H [] 0 0 Q (F0 m 0 sl [])
/-- a handler: its number on the stack -/
def bw_D (y : bw_Y) (pcH pcR : Nat) (code : Int32) : Prop :=
  ∀ (p : Program) (l : Launch) (e : Env) (R : Room) (s : State) (m : MethodId) (args : Array Value) (below : List Frame) (meth : Method) (c : Code) (H : Heap) (locs : List Loc) (cells slots : Nat) (Q : State → Prop) (q : Nat) (sl : Array Slot) (lv : List (Nat × Value)), p.tables.exec = Jvm.exec → c.code = y.2.1 → lv_has sl y.2.2.1 lv →
    (∀ sl' : Array Slot, W p l e R s m args below meth c H locs cells slots Q (F0 m pcR sl' [.int code])) → W p l e R s m args below meth c H locs cells slots Q (F0 m pcH sl [.ref q])
theorem LC_0 : ∃ rs, LC[0]? = some (9 + 5, 0, rs) := ⟨_, rfl⟩
theorem LM_0 : ∃ rs, LM[0]? = some (10 + 5, 0, rs) := ⟨_, rfl⟩
theorem vp_in01 : vp_in 0 1 := vp_in_nI (n := 0) (by decide) (by decide)
theorem bw_GG {y : bw_Y} {z : bc_Y} (h : Cond.code z.1 z.2.1 z.2.2.1 z.2.2.2 ∈ bc_G) : GoodIn (bw_ws y) (bc_wsy z) := by
  intro w hw
  rcases List.mem_cons.mp hw with rfl | hw
  · exact ⟨List.mem_cons_of_mem _ h, bc_good h⟩
  · exact ⟨List.mem_cons_of_mem _ hw, bc_good hw⟩
theorem bw_Pl {D : va_G} {cl : List vw_C} {a b : va_W} {H : Heap} (h : va_P D cl (a ++ b) H) : va_P D cl a H := fun k q hk => h k q (by rw [List.getElem?_append_left (List.getElem?_eq_some_iff.mp hk).1]; exact hk)
theorem bw_Pr {D : va_G} {cl : List vw_C} {a b : va_W} {H : Heap} (h : va_P D cl (a ++ b) H) : va_P D cl b H := fun k q hk => h (a.length + k) q (by rw [List.getElem?_append_right (by omega), Nat.add_sub_cancel_left]; exact hk)
theorem bw_Smono {A B : Nat → Prop} {H0 H : Heap} {locs : List Loc} (h : va_S A H0 H locs) (hAB : ∀ q, A q → B q) : va_S B H0 H locs := ⟨h.1, fun q h1 h2 => h.2.1 q h1 (fun z => h2 (hAB q z)), fun l hl => hAB _ (h.2.2 l hl)⟩
theorem bw_oAt {X : bc_X} {o : Nat} {f : Nat → Int64} {k : Nat} {q : Nat × va_E} (h : (bw_o X o f)[k]? = some q) : k = 0 ∧ q = (o, .inl (X.2.2.1 3, 1, .inr (.inl f))) := by
  cases k with
  | zero => exact ⟨rfl, (Option.some.inj h).symm⟩
  | succ k => simp [bw_o] at h
theorem bw_oD {X : bc_X} {o : Nat} {f : Nat → Int64} {A : Nat → Prop} (h : A o) : va_D A (bw_o X o f) := by
  refine ⟨fun i j p q hp hq _ => ?_, fun k q hq => ?_⟩
  · rw [(bw_oAt hp).1, (bw_oAt hq).1]
  · rw [(bw_oAt hq).2]; exact h
theorem bw_ofW {l : Launch} {y : bw_Y} {rm : Room} {Pc : Array Value → State → Prop} {Qc : Array Value → State → Outcome → State → Prop} {mc ms : Nat} {free : Addr → Prop} (hy : plainName y.1.cls = true)
    (body : ∀ p e s m args below meth c s₁, BodyLoose p l y.1 (headSpec (bw_ws y) rm) y.2.1 y.2.2.1 (some .int) e s m args below meth c s₁ → c.maxLocals = y.2.2.1 → c.exceptionTable.toList = tableOf y.2.2.2 → Pc args s →
      W p l e (headSpec (bw_ws y) rm).room s m args below meth c s.heap [] 0 0 (MQ below Qc args s mc ms free) (entryFrame m args y.2.2.1)) : Met l y.1 (bw_ws y) rm Pc Qc mc ms free := by
  refine MetFree.of_bodyS (code := y.2.1) (maxLocals := y.2.2.1) (ret := some .int) hy ?_ ?_
  · intro args s m h hn
    obtain ⟨m9, meth, c, hn9, h1, h2, h3, h4, -, h5, h6, -⟩ := Cond.codeWith_spec (atoms_spec (ws := bw_ws y) h _ List.mem_cons_self)
    cases hn.symm.trans hn9
    exact ⟨meth, c, h1, h2, h3, h4, h5, h6⟩
  · intro p e s m args below meth c s₁ B hml hP _
    have hh0 : s₁.heap = s.heap := by rw [B.state]; rfl
    have ht : c.exceptionTable.toList = tableOf y.2.2.2 := vx_table (x := y.1) B (atoms_spec (ws := bw_ws y) B.pre _ List.mem_cons_self)
    obtain ⟨t, a1, o, b1, b2, b3⟩ := body p e s m args below meth c s₁ B hml ht hP s₁ hh0 (Stand.of_body B)
    exact ⟨t, o, a1, b1, b2, b3⟩
theorem bw_enter {y : bw_Y} {as : List Value} {M : bc_M} {Q : (Nat → Int64) → Int32 → (Nat → Int64) → bc_M → Prop} {pcC : Nat} (hy : plainName y.1.cls = true) (hlen : ∀ x o : Nat, (lg_sl (.ref x :: (as ++ [.ref o]))).length ≤ y.2.2.1) (hE : bw_E y pcC as)
    (k : ∀ (p : Program) (l : Launch) (e : Env) (s : State) (m : MethodId) (args : Array Value) (below : List Frame) (meth : Method) (c : Code) (X : bc_X) (o : Nat) (f : Nat → Int64), bw_H y p l s m args meth c X o → ∀ sl : Array Slot, lv_has sl y.2.2.1 (lv_args 0 (.ref (X.1 0) :: (as ++ [.ref o]))) → va_P X.2.1 vwCl (bc_ws X LC M) s.heap → va_P X.2.1 vwCl (bw_o X o f) s.heap →
      W p l e (bc_rmX 41) s m args below meth c s.heap [] 0 0 (MQ below (bw_Post X o (Q f)) args s 1 6 (bw_A X o)) (F0 m pcC sl (as.reverse ++ [.ref (X.1 0), .int 0, .ref o]))) : bw_C y as M Q := by
  intro l X o f hst hno
  refine bw_ofW hy ?_
  intro p e s m args below meth c s₁ B hml ht hv
  obtain ⟨rfl, hK, hP, hPo⟩ := hv
  have hts := atoms_spec (ws := bw_ws y) B.pre
  have hl := lv_entry (.ref (X.1 0) :: (as ++ [.ref o])) (n := y.2.2.1) (hlen _ _)
  rw [lg_entry_eq]
  generalize (lg_sl (.ref (X.1 0) :: (as ++ [.ref o])) ++ List.replicate (y.2.2.1 - (lg_sl (.ref (X.1 0) :: (as ++ [.ref o]))).length) Slot.unset).toArray = sl at hl ⊢
  refine hE p l e _ s m _ below meth c s.heap _ (X.1 0) o sl B.exec B.bytes hl ?_
  exact k p l e s m _ below meth c X o f ⟨B.exec, B.bytes, B.returns, hml, B.notSynchronized, findClass_of_methodNamed B.named, hts, ht, hK, hst, hno⟩ sl hl hP hPo
/-- the call returns -/
theorem bw_ret {y : bw_Y} {z : bc_Y} {as : List Value} {M : bc_M} {pcC pcS pcZ idx n : Nat} {off : Int} {v : Value} {x64 : Int64} {A : bc_M → Prop} (hy : plainName y.1.cls = true) (hlen : ∀ x o : Nat, (lg_sl (.ref x :: (as ++ [.ref o]))).length ≤ y.2.2.1) (hE : bw_E y pcC as)
    (hl0 : Cond.methodLink y.1.cls idx z.1 ∈ bc_G) (hz : bc_V0 z n) (hcl : z.1.cls = RX9) (hn : as.length = n) (has : ∀ ad : Nat → Nat, as.map (bc_v ad) = as) (dC : decode y.2.1 pcC = .ok (.invokevirtual idx, 3))
    (hput : (∃ x : Int32, v = .int x ∧ x.toInt64 = x64 ∧ decode y.2.1 (pcC + 3) = .ok (.i2l, 1) ∧ pcS = pcC + 4) ∨ (v = .long x64 ∧ pcS = pcC + 3)) (dS : decode y.2.1 pcS = .ok (.lastore, 1)) (dG : decode y.2.1 (pcS + 1) = .ok (.goto off, 3)) (ht : ((pcS + 1 : Nat) : Int) + off = (pcZ : Int)) (d0 : decode y.2.1 pcZ = .ok (.iconst 0, 1)) (d1 : decode y.2.1 (pcZ + 1) = .ok (.ireturn, 1))
    (hC : bc_C 40 LC z (.ref 0 :: as) M (fun r ν => r = some v ∧ A ν)) : bw_C y as M (fun _ k f ν => k = 0 ∧ f 0 = x64 ∧ A ν) := by
  refine bw_enter hy hlen hE ?_
  intro p l e s m args below meth c X o f C sl hl hP hPo
  obtain ⟨hx, hb, hr, hml, hlk, hown, hts, -, ⟨hK, hZ, hNc⟩, hst, hno⟩ := C
  obtain ⟨z1, z2, z3, z4, z5, z6, z7, z8⟩ := hz
  have word : ∀ {w : Cond}, w ∈ bc_G → w.before args s = true := fun h => hts _ (List.mem_cons_of_mem _ h)
  have hrecv : ∃ cellB : Cell, s.heap[X.1 0]? = some cellB ∧ cellB.vm.isStatics = false ∧ s.vm.findClass z.1.cls = some cellB.cls := by
    obtain ⟨rs0, h0⟩ := LC_0
    rw [hcl]
    exact va_recv hK.1 hP (ci := 9) (q0 := 0) rfl (bc_at h0)
  have hR : (bc_rm 40).frames + 1 ≤ (bc_rmX 41).frames ∧ 8 + (z.2.2.1 + 11) + (bc_rm 40).locals ≤ (bc_rmX 41).locals := bc_rooms (d := 40) z5
  have hcb : CallB (bc_rmX 41) s args y.1.cls idx z.1 z.2.1 z.2.2.1 z.2.2.2 (bc_wsy z) (bc_rm 40) 0 0 n := callB_of n hts (bw_GG z4) rfl rfl rfl (word z3) (word hl0) ⟨z6, z7, z8⟩ hR
  have hrun : va_Run p l e (bc_rmX 41) s m args below meth c s.heap [] 0 0 0 0 (F0 m pcC sl (as.reverse ++ [.ref (X.1 0), .int 0, .ref o])) [.int 0, .ref o] (bc_Post X LC (fun r ν => r = some v ∧ A ν) (Value.ref (X.1 0) :: as.map (bc_v X.1)).toArray) (bc_A X LC) :=
    va_runV (n := n) (As := as.map (bc_v X.1)) (rest := [.int 0, .ref o]) ⟨hx, hb, hml, hown, hts⟩ (hC l X) ⟨hcb, word z1, word z2⟩ ⟨bc_blind, hrecv, bc_pre (as := .ref 0 :: as) hK hP va_S.rf⟩ rfl (by rw [List.length_map]; exact hn) hl.1 (by rw [has]) (lv_room (Nat.le_of_ble_eq_true rfl)) dC ⟨Nat.zero_le _, Nat.zero_le _⟩
  refine bc_run hrun va_S.rf (fun r ν H1 locs1 hq hP1 hS1 => ?_)
  obtain ⟨rfl, hA⟩ := hq
  have holt : o < s.heap.size := (hPo 0 _ rfl).lt
  have hPo1 : va_P X.2.1 vwCl (bw_o X o f) H1 := hPo.kept (fun k q hq => by
    rw [(bw_oAt hq).2]
    exact hS1.2.1 o holt hno)
  have hS2 : va_S (bw_A X o) s.heap H1 locs1 := bw_Smono hS1 (fun q h => Or.inl h)
  have hPP : va_P X.2.1 vwCl (bw_o X o f ++ bc_ws X LC ν) H1 := va_P.app hPo1 hP1
  have hDD : va_D (bw_A X o) (bw_o X o f ++ bc_ws X LC ν) := va_D.app (bw_oD (Or.inr rfl)) ((bc_Dof hK.2.2.1).weaken (fun k q _ h => Or.inl h)) (fun i j x' y' hx' hy' hxy => by
    rw [(bw_oAt hx').2] at hxy
    exact hno (by rw [show o = y'.1 from hxy]; exact (bc_Dof (μ := ν) hK.2.2.1).2 j y' hy'))
  have kS : W p l e (bc_rmX 41) s m args below meth c H1 locs1 0 0 (MQ below (bw_Post X o ((fun _ k f ν => k = 0 ∧ f 0 = x64 ∧ A ν) f)) args s 1 6 (bw_A X o)) (F0 m pcS sl [.long x64, .int 0, .ref o]) := by
    refine va_last (D := X.2.1) (i := 0) hx hb hK.1 hPP hDD hS2 0 3 rfl rfl vp_in01 dS (fun H2 locs2 hP2 _ hS3 => ?_)
    have hP2 : va_P X.2.1 vwCl (bw_o X o (vp_updL f 0 x64) ++ bc_ws X LC ν) H2 := hP2
    refine lv_goto hx hb dG ht ?_
    refine lv_iconst (v := 0) hx hb d0 rfl ?_
    refine W.widen (k := 1) (n := 6) (by omega) (by omega) ?_
    exact W.iret hx hb hr (fun t ht _ => ⟨⟨0, vp_updL f 0 x64, ν, rfl, ⟨rfl, by simp [vp_updL], hA⟩, by rw [ht]; exact bw_Pr hP2, by rw [ht]; exact bw_Pl hP2⟩, hS3.F ht⟩) hS3.2.2 d1 hlk
  rcases hput with ⟨x, rfl, h64, di, rfl⟩ | ⟨rfl, rfl⟩
  · exact lv_i2l hx hb di h64 kS
  · exact kS
/-- the call throws: the row x of the table takes it -/
theorem bw_thr {y : bw_Y} {z : bc_Y} {as : List Value} {M ν : bc_M} {pcC pcR idx n : Nat} {code : Int32} {E : String} (pre : List ExceptionTableEntry) (x : ExceptionTableEntry) (suf : List ExceptionTableEntry) (hsplit : tableOf y.2.2.2 = pre ++ x :: suf) (hy : plainName y.1.cls = true) (hlen : ∀ x o : Nat, (lg_sl (.ref x :: (as ++ [.ref o]))).length ≤ y.2.2.1) (hE : bw_E y pcC as)
    (hl0 : Cond.methodLink y.1.cls idx z.1 ∈ bc_G) (hz : bc_V0 z n) (hcl : z.1.cls = RX9) (hn : as.length = n) (has : ∀ ad : Nat → Nat, as.map (bc_v ad) = as) (dC : decode y.2.1 pcC = .ok (.invokevirtual idx, 3))
    (hpass : ∀ z ∈ pre, z.catchType ≠ 0 ∧ Cond.classLink y.1.cls z.catchType eNS ∈ bc_G ∧ E = eIA) (hcov : covers x pcC = true) (hc0 : x.catchType ≠ 0) (hlink : Cond.classLink y.1.cls x.catchType E ∈ bc_G) (hcast : Cond.castable E E ∈ bx_B) (hD : bw_D y x.handlerPc pcR code) (d1 : decode y.2.1 pcR = .ok (.ireturn, 1))
    (hC : bc_CX 40 LC z (.ref 0 :: as) M E ν) : bw_C y as M (fun f k f' ν' => k = code ∧ f' = f ∧ ν' = ν) := by
  refine bw_enter hy hlen hE ?_
  intro p l e s m args below meth c X o f C sl hl hP hPo
  obtain ⟨hx, hb, hr, hml, hlk, hown, hts, htb, ⟨hK, hZ, hNc⟩, hst, hno⟩ := C
  obtain ⟨z1, z2, z3, z4, z5, z6, z7, z8⟩ := hz
  have word : ∀ {w : Cond}, w ∈ bc_G → w.before args s = true := fun h => hts _ (List.mem_cons_of_mem _ h)
  have hrecv : ∃ cellB : Cell, s.heap[X.1 0]? = some cellB ∧ cellB.vm.isStatics = false ∧ s.vm.findClass z.1.cls = some cellB.cls := by
    obtain ⟨rs0, h0⟩ := LC_0
    rw [hcl]
    exact va_recv hK.1 hP (ci := 9) (q0 := 0) rfl (bc_at h0)
  have hR : (bc_rmX 40).frames + 1 ≤ (bc_rmX 41).frames ∧ 8 + (z.2.2.1 + 11) + (bc_rmX 40).locals ≤ (bc_rmX 41).locals := bc_rooms (d := 40) z5
  have hcb : CallB (bc_rmX 41) s args y.1.cls idx z.1 z.2.1 z.2.2.1 z.2.2.2 (bc_wsy z) (bc_rmX 40) 1 6 n := callB_of n hts (bw_GG z4) rfl rfl rfl (word z3) (word hl0) ⟨z6, z7, z8⟩ hR
  have hrun : vx_Run p l e (bc_rmX 41) s m args below meth c s.heap [] 0 0 1 6 (F0 m pcC sl (as.reverse ++ [.ref (X.1 0), .int 0, .ref o])) [.int 0, .ref o] (bc_no (Value.ref (X.1 0) :: as.map (bc_v X.1)).toArray) (bc_XC X LC E ν) (bc_A X LC) :=
    vx_runV (n := n) (As := as.map (bc_v X.1)) (rest := [.int 0, .ref o]) ⟨hx, hb, hml, hown, hts⟩ (hC l X hst) ⟨hcb, word z1, word z2⟩ ⟨bx_blind, hrecv, bx_pre (as := .ref 0 :: as) hK hZ hP va_S.rf⟩ rfl (by rw [List.length_map]; exact hn) hl.1 (by rw [has]) (lv_room (Nat.le_of_ble_eq_true rfl)) dC ⟨Nat.le_refl _, Nat.le_refl _⟩
  intro T' hT' X'
  rcases hrun T' hT' X' with ⟨v, st₀, t, T2, L', h0, X2, hL, e1, e2, hq, hg⟩ | ⟨q, st₀, t, T2, L', E', ce, h0, X2, hL, e1, e2, ⟨rfl, hPν, hF⟩, hce, hcv, hcls, hst2⟩
  · exact hq.elim
  · obtain ⟨k1, k2, k3⟩ := vx_keep (A0 := bw_A X o) h0 e1 va_S.rf (fun q _ h => Or.inl h) (fun q h => Or.inl h) hL hF
    have holt : o < s.heap.size := (hPo 0 _ rfl).lt
    have hPo1 : va_P X.2.1 vwCl (bw_o X o f) T2.heap := hPo.kept (fun k q hq => by
      rw [(bw_oAt hq).2]
      exact k2 o holt hno)
    have hPc1 : va_P X.2.1 vwCl (bc_ws X LC ν) T2.heap := by rw [e1]; exact hPν
    have hcast2 : (Cond.castable E' E').before args s = true := (hZ.2.2 _ hcast).use (bx_Bt _ hcast)
    have kW : vx_W p l e (bc_rmX 41) s m args below meth c T2.heap ([] ++ L') (0 + 1) (0 + 6) (MQ below (bw_Post X o ((fun f k f' ν' => k = code ∧ f' = f ∧ ν' = ν) f)) args s 1 6 (bw_A X o)) (F0 m pcC sl [.int 0, .ref o]) q :=
      vx_catch hown pre x suf (htb.trans hsplit) (fun z hz => Or.inr ⟨(hpass z hz).1, eNS, word (hpass z hz).2.1, by rw [(hpass z hz).2.2]; exact hNc⟩) hcov hc0 (word hlink) hcast2 (by rw [e1]; exact hce) hcv hcls
        (hD p l e _ s m args below meth c T2.heap _ _ _ _ q sl _ hx hb hl (fun sl' => W.iret hx hb hr (fun t ht _ => ⟨⟨code, f, ν, rfl, ⟨rfl, rfl, rfl⟩, by rw [ht]; exact hPc1, by rw [ht]; exact hPo1⟩, k3.F ht⟩) k3.2.2 d1 hlk))
    obtain ⟨t2, a1, b1⟩ := kW T2 rfl X2
    exact ⟨t2, hst2.trans a1, b1⟩
