/-! ===== memory, layouts, worlds: one picture for a whole system of cells =====
An object has a number, its place in a layout L. A layout's entry: (kind, length, references): kind 0 int[], 1 byte[], 2 boolean[], 3 long[], 4 int[][] (its rows by number), c + 5 an object of class c of vwCl: for each field either the number that it always refers to, or none: then it holds an int, which the memory has. -/
abbrev bc_M : Type := Nat → Nat → Int32
abbrev bc_O : Type := Nat × Nat × List (Option Nat)
abbrev bc_L : Type := List bc_O
abbrev bc_Y : Type := MethodName × ByteArray × Nat × Option FieldType
/-- addresses, class and slot numbers, array classes, where the String constants' bytes lie -/
abbrev bc_X : Type := (Nat → Nat) × va_G × (Nat → ClassId) × (Nat → Nat)
def bc_u (μ : bc_M) (i k : Nat) (v : Int32) : bc_M := fun a => if a = i then upd (μ a) k v else μ a
def bc_us (μ : bc_M) (i : Nat) (f : Nat → Int32) : bc_M := fun a => if a = i then f else μ a
def bc_j (h l : Int32) : Int64 := Int64.ofBitVec (h.toBitVec ++ l.toBitVec)
def bc_hi (x : Int64) : Int32 := Int32.ofBitVec (x.toBitVec.extractLsb' 32 32)
def bc_lo (x : Int64) : Int32 := Int32.ofBitVec (x.toBitVec.extractLsb' 0 32)
def bc_v (ad : Nat → Nat) : Value → Value
  | .ref i => .ref (ad i)
  | v => v
def bc_fv (ad : Nat → Nat) (f : Nat → Int32) (k : Nat) : Option Nat → Value
  | some j => .ref (ad j)
  | none => .int (f k)
def bc_fs (ad : Nat → Nat) (f : Nat → Int32) (rs : List (Option Nat)) : List Value := rs.mapIdx (fun k r => bc_fv ad f k r)
def bc_e (ad : Nat → Nat) (cA : Nat → ClassId) (f : Nat → Int32) : bc_O → va_E
  | (0, n, _) => .inl (cA 0, n, .inl f)
  | (1, n, _) => .inl (cA 1, n, .inl f)
  | (2, n, _) => .inl (cA 2, n, .inl f)
  | (3, n, _) => .inl (cA 3, n, .inr (.inl (fun k => bc_j (f (2 * k)) (f (2 * k + 1)))))
  | (4, n, rs) => .inl (cA 4, n, .inr (.inr (.inr (.inr (fun k => (rs.getD k none).map ad)))))
  | (c + 5, _, rs) => .inr (c, bc_fs ad f rs)
def bc_ws (X : bc_X) (L : bc_L) (μ : bc_M) : va_W := L.mapIdx (fun i o => (X.1 i, bc_e X.1 X.2.2.1 (μ i) o))
def bc_tys (cA : Nat → ClassId) : List (ClassId × FieldType) := [(cA 0, .int), (cA 1, .byte), (cA 2, .boolean), (cA 3, .long), (cA 4, .array .int)]
def bc_A (X : bc_X) (L : bc_L) : Nat → Prop := fun q => ∃ i, i < L.length ∧ q = X.1 i
def bc_inj (X : bc_X) (L : bc_L) : Prop := ∀ i j, i < L.length → j < L.length → X.1 i = X.1 j → i = j
theorem bc_at {X : bc_X} {L : bc_L} {μ : bc_M} {i : Nat} {o : bc_O} (h : L[i]? = some o) : (bc_ws X L μ)[i]? = some (X.1 i, bc_e X.1 X.2.2.1 (μ i) o) := by
  unfold bc_ws
  rw [List.getElem?_mapIdx, h]
  rfl
theorem bc_of {X : bc_X} {L : bc_L} {μ : bc_M} {i : Nat} {q : Nat × va_E} (h : (bc_ws X L μ)[i]? = some q) : ∃ o, L[i]? = some o ∧ q = (X.1 i, bc_e X.1 X.2.2.1 (μ i) o) := by
  unfold bc_ws at h
  rw [List.getElem?_mapIdx] at h
  cases ho : L[i]? with
  | none => rw [ho] at h; cases h
  | some o => rw [ho] at h; exact ⟨o, rfl, (Option.some.inj h).symm⟩
theorem bc_set {X : bc_X} {L : bc_L} {μ μ' : bc_M} {i : Nat} {o : bc_O} {e' : va_E} (h : L[i]? = some o) (he : e' = bc_e X.1 X.2.2.1 (μ' i) o) (hm : ∀ j, j ≠ i → μ' j = μ j) : (bc_ws X L μ).set i (X.1 i, e') = bc_ws X L μ' := by
  apply List.ext_getElem?
  intro j
  rw [List.getElem?_set]
  by_cases hj : i = j
  · subst hj
    have hl : i < (bc_ws X L μ).length := (List.getElem?_eq_some_iff.mp (bc_at (X := X) (μ := μ) h)).1
    rw [if_pos rfl, if_pos hl, bc_at h, he]
  · rw [if_neg hj]
    cases ho : L[j]? with
    | none =>
      unfold bc_ws
      rw [List.getElem?_mapIdx, List.getElem?_mapIdx, ho]
      rfl
    | some o' => rw [bc_at ho, bc_at ho, hm j (fun q => hj q.symm)]
theorem bc_Dof {X : bc_X} {L : bc_L} {μ : bc_M} (h : bc_inj X L) : va_D (bc_A X L) (bc_ws X L μ) := by
  refine ⟨fun i j p q hp hq hpq => ?_, fun k q hq => ?_⟩
  · obtain ⟨o, h1, rfl⟩ := bc_of hp
    obtain ⟨o', h2, rfl⟩ := bc_of hq
    exact h i j (List.getElem?_eq_some_iff.mp h1).1 (List.getElem?_eq_some_iff.mp h2).1 hpq
  · obtain ⟨o, h1, rfl⟩ := bc_of hq
    exact ⟨k, (List.getElem?_eq_some_iff.mp h1).1, rfl⟩
/-! ===== words: all of the tables that stay, for every method ===== -/
def bc_G : List Cond := lw_tbl.filter goodWord
def bc_isN : Cond → Bool
  | .methodLinkNest _ _ _ _ => true
  | _ => false
def bc_nest : List Cond := lw_tbl.filter bc_isN
def bc_wsy (y : bc_Y) : List Cond := .code y.1 y.2.1 y.2.2.1 y.2.2.2 :: bc_G
theorem bc_good {w : Cond} (h : w ∈ bc_G) : (w.onTables && w.keeps) = true ∨ ∃ ty, w = .arrayClass ty := good_of_word (List.mem_filter.mp h).2
theorem bc_GG {y z : bc_Y} (h : Cond.code z.1 z.2.1 z.2.2.1 z.2.2.2 ∈ bc_G) : GoodIn (bc_wsy y) (bc_wsy z) := by
  intro w hw
  rcases List.mem_cons.mp hw with rfl | hw
  · exact ⟨List.mem_cons_of_mem _ h, bc_good h⟩
  · exact ⟨List.mem_cons_of_mem _ hw, bc_good hw⟩
/-! ===== what stands still: classes, arrays, String constants ===== -/
def bc_St (X : bc_X) (L : bc_L) (U : State) : Prop := vk_S 24 bc_len bc_byt (fun k => X.1 (1000 + k)) (fun k => X.1 (2000 + k)) (bc_A X L) U U.heap ∧ (∀ q ∈ bc_strs, vk_R q.1 q.2.1 q.2.2.1 (X.1 (1000 + q.2.2.2)) U) ∧ va_Z "java/lang/String" "COMPACT_STRINGS" "Z" (.int 1) (bc_A X L) U U.heap ∧ (va_Z "jdk/internal/util/Preconditions" "SIOOBE_FORMATTER" "Ljava/util/function/BiFunction;" .null (bc_A X L) U U.heap ∨ va_Z "jdk/internal/util/Preconditions" "SIOOBE_FORMATTER" "Ljava/util/function/BiFunction;" (.ref (X.1 3000)) (bc_A X L) U U.heap)
theorem bc_St.moved {X : bc_X} {L : bc_L} {s U : State} (hW : s.WarmedH U.vm) (hh : ∀ q : Nat, q < s.heap.size → ¬ bc_A X L q → U.heap[q]? = s.heap[q]?) (h : bc_St X L s) : bc_St X L U :=
  ⟨(vk_S.moved hW.alike h.1).kept hh, fun q hq => vk_R.warm hW (h.2.1 q hq), (va_Z.moved hW.alike h.2.2.1).kept hh, h.2.2.2.imp (fun q => (va_Z.moved hW.alike q).kept hh) (fun q => (va_Z.moved hW.alike q).kept hh)⟩
theorem bc_St.same {X : bc_X} {L : bc_L} {s U : State} (hv : U.vm = s.vm) (hh : U.heap = s.heap) (h : bc_St X L s) : bc_St X L U := by
  have ha : s.vm.Alike U.vm := by rw [hv]; exact Vm.Alike.refl s.vm
  exact ⟨by rw [hh]; exact vk_S.moved ha h.1, fun q hq => vk_R.same hv (h.2.1 q hq), by rw [hh]; exact va_Z.moved ha h.2.2.1, by rw [hh]; exact h.2.2.2.imp (va_Z.moved ha) (va_Z.moved ha)⟩
def bc_K (X : bc_X) (L : bc_L) (U : State) : Prop := va_K X.2.1 vwCl (bc_tys X.2.2.1) U ∧ (∀ w ∈ bc_nest, va_Nw w U) ∧ bc_inj X L ∧ bc_St X L U
theorem bc_K.moved {X : bc_X} {L : bc_L} {s U : State} (hW : s.WarmedH U.vm) (hh : ∀ q : Nat, q < s.heap.size → ¬ bc_A X L q → U.heap[q]? = s.heap[q]?) (h : bc_K X L s) : bc_K X L U := by
  refine ⟨va_K.moved hW.alike h.1, fun w hw => ?_, h.2.2.1, h.2.2.2.moved hW hh⟩
  have h1 := (List.mem_filter.mp hw).2
  have h2 := h.2.1 w hw
  cases w <;> first | (simp [bc_isN] at h1; done) | exact va_Nw.warmM hW h2
theorem bc_K.same {X : bc_X} {L : bc_L} {s U : State} (hv : s.vm = U.vm) (hh : U.heap = s.heap) (h : bc_K X L s) : bc_K X L U := by
  refine ⟨va_K.moved (by rw [hv]; exact Vm.Alike.refl U.vm) h.1, fun w hw => ?_, h.2.2.1, h.2.2.2.same hv.symm hh⟩
  have h1 := (List.mem_filter.mp hw).2
  have h2 := h.2.1 w hw
  cases w <;> first | (simp [bc_isN] at h1; done) | exact va_Nw.same rfl hv h2
/-! ===== a method's contract, and its walk ===== -/
def bc_rm (d : Nat) : Room := { frames := d, cells := 0, slots := 0, locals := 64 * d }
def bc_Pre (X : bc_X) (L : bc_L) (as : List Value) (μ : bc_M) : Array Value → State → Prop := va_Pc (as.map (bc_v X.1)) (fun U => bc_K X L U ∧ va_P X.2.1 vwCl (bc_ws X L μ) U.heap)
def bc_Post (X : bc_X) (L : bc_L) (Q : Option Value → bc_M → Prop) : Array Value → State → Outcome → State → Prop := fun _ st oc t =>
  (∃ (r : Option Value) (μ' : bc_M), oc = .returned (r.map (bc_v X.1)) ∧ Q r μ' ∧ va_P X.2.1 vwCl (bc_ws X L μ') t.heap) ∧ va_F (bc_A X L) st t
def bc_C (d : Nat) (L : bc_L) (y : bc_Y) (as : List Value) (μ : bc_M) (Q : Option Value → bc_M → Prop) : Prop :=
  ∀ (l : Launch) (X : bc_X), Met l y.1 (bc_wsy y) (bc_rm d) (bc_Pre X L as μ) (bc_Post X L Q) 0 0 (bc_A X L)
def bc_H (L : bc_L) (y : bc_Y) (p : Program) (s : State) (m : MethodId) (args : Array Value) (meth : Method) (c : Code) (X : bc_X) : Prop :=
  p.tables.exec = Jvm.exec ∧ c.code = y.2.1 ∧ meth.sig.returnType = y.2.2.2 ∧ c.maxLocals = y.2.2.1 ∧ meth.locks = false ∧ s.vm.findClass y.1.cls = some m.cls ∧ (∀ w ∈ bc_wsy y, w.before args s = true) ∧ bc_K X L s
def bc_lv (ad : Nat → Nat) (sl : Array Slot) (n : Nat) (ls : List Value) : Prop := sl.size = n ∧ lv_wf sl ∧ ∀ (i : Nat) (v : Value), ls[i]? = some v → v ≠ .null → sl[i]? = some (.val (bc_v ad v))
def bc_W (d : Nat) (L : bc_L) (y : bc_Y) (pc : Nat) (ls st : List Value) (μ : bc_M) (Q : Option Value → bc_M → Prop) : Prop :=
  ∀ (p : Program) (l : Launch) (e : Env) (s : State) (m : MethodId) (args : Array Value) (below : List Frame) (meth : Method) (c : Code) (X : bc_X), bc_H L y p s m args meth c X →
    ∀ (H : Heap) (locs : List Loc) (sl : Array Slot), va_P X.2.1 vwCl (bc_ws X L μ) H → va_S (bc_A X L) s.heap H locs → bc_lv X.1 sl y.2.2.1 ls →
      W p l e (bc_rm d) s m args below meth c H locs 0 0 (MQ below (bc_Post X L Q) args s 0 0 (bc_A X L)) (F0 m pc sl (st.map (bc_v X.1)))
/-! ===== locals ===== -/
def bc_nc (ls : List Value) : Nat → Bool
  | 0 => true
  | j + 1 => match ls[j]? with
    | some v => v.category == 1
    | none => true
def bc_pk (ad : Nat → Nat) (i : Nat) : Option Value → Option (Nat × Value)
  | some .null => none
  | some v => some (i, bc_v ad v)
  | none => none
def bc_pr (ad : Nat → Nat) (ls : List Value) : List (Nat × Value) := (List.range ls.length).filterMap (fun i => bc_pk ad i ls[i]?)
theorem bc_cat (ad : Nat → Nat) (v : Value) : (bc_v ad v).category = v.category := by cases v <;> rfl
theorem bc_pr.mem {ad : Nat → Nat} {ls : List Value} {i : Nat} {v : Value} (h : ls[i]? = some v) (hn : v ≠ .null) : (i, bc_v ad v) ∈ bc_pr ad ls := by
  unfold bc_pr
  rw [List.mem_filterMap]
  refine ⟨i, List.mem_range.mpr (List.getElem?_eq_some_iff.mp h).1, ?_⟩
  rw [h]
  cases v <;> first | rfl | exact absurd rfl hn
theorem bc_pr.of {ad : Nat → Nat} {ls : List Value} {q : Nat × Value} (h : q ∈ bc_pr ad ls) : ∃ v, ls[q.1]? = some v ∧ v ≠ .null ∧ q.2 = bc_v ad v := by
  unfold bc_pr at h
  rw [List.mem_filterMap] at h
  obtain ⟨i, -, hi⟩ := h
  cases hv : ls[i]? with
  | none => rw [hv] at hi; cases hi
  | some v =>
    rw [hv] at hi
    cases v <;> first | (cases hi; done) | (cases hi; exact ⟨_, hv, (fun q => by cases q), rfl⟩)
theorem bc_lv.has {ad : Nat → Nat} {sl : Array Slot} {n : Nat} {ls : List Value} (h : bc_lv ad sl n ls) : lv_has sl n (bc_pr ad ls) := by
  refine ⟨h.1, h.2.1, fun q hq => ?_⟩
  obtain ⟨v, h1, h2, h3⟩ := bc_pr.of hq
  rw [h3]
  exact h.2.2 _ _ h1 h2
theorem bc_lv.store {ad : Nat → Nat} {sl sl' : Array Slot} {n i : Nat} {ls : List Value} {v : Value} (h' : lv_has sl' n ((i, bc_v ad v) :: (bc_pr ad ls).filter (fun q => !(q.1 == i) && !(q.1 + 1 == i && q.2.category == 2)))) (_ : v.category = 1) (hc : bc_nc ls i = true) (_ : i < n) (_ : bc_lv ad sl n ls) : bc_lv ad sl' n (ls.set i v) := by
  refine ⟨h'.1, h'.2.1, fun j w hj hw => ?_⟩
  rw [List.getElem?_set] at hj
  by_cases hij : i = j
  · subst hij
    rw [if_pos rfl] at hj
    by_cases hl : i < ls.length
    · rw [if_pos hl] at hj
      cases hj
      exact h'.2.2 _ List.mem_cons_self
    · rw [if_neg hl] at hj
      cases hj
  · rw [if_neg hij] at hj
    refine h'.2.2 (j, bc_v ad w) (List.mem_cons_of_mem _ (List.mem_filter.mpr ⟨bc_pr.mem hj hw, ?_⟩))
    have h1 : (j == i) = false := by simp; exact fun q => hij q.symm
    by_cases h2 : j + 1 = i
    · subst h2
      simp only [bc_nc, hj] at hc
      have h3 : w.category = 1 := by simpa using hc
      simp [h1, bc_cat, h3]
    · simp [h1, h2]
theorem bc_lv.store2 {ad : Nat → Nat} {sl sl' : Array Slot} {n i : Nat} {ls : List Value} {x : Int64} (h' : lv_has sl' n ((i, .long x) :: (bc_pr ad ls).filter (fun q => !(q.1 == i) && (!(q.1 == i + 1) && !(q.1 + 1 == i && q.2.category == 2))))) (hc : bc_nc ls i = true) (_ : i + 1 < n) (_ : bc_lv ad sl n ls) : bc_lv ad sl' n ((ls.set i (.long x)).set (i + 1) .null) := by
  refine ⟨h'.1, h'.2.1, fun j w hj hw => ?_⟩
  rw [List.getElem?_set] at hj
  by_cases hij : i + 1 = j
  · subst hij
    rw [if_pos rfl] at hj
    by_cases hl : i + 1 < (ls.set i (.long x)).length
    · rw [if_pos hl] at hj
      cases hj
      exact absurd rfl hw
    · rw [if_neg hl] at hj
      cases hj
  · rw [if_neg hij, List.getElem?_set] at hj
    by_cases hij2 : i = j
    · subst hij2
      rw [if_pos rfl] at hj
      by_cases hl : i < ls.length
      · rw [if_pos hl] at hj
        cases hj
        exact h'.2.2 _ List.mem_cons_self
      · rw [if_neg hl] at hj
        cases hj
    · rw [if_neg hij2] at hj
      refine h'.2.2 (j, bc_v ad w) (List.mem_cons_of_mem _ (List.mem_filter.mpr ⟨bc_pr.mem hj hw, ?_⟩))
      have h1 : (j == i) = false := by simp; exact fun q => hij2 q.symm
      have h1' : (j == i + 1) = false := by simp; exact fun q => hij q.symm
      by_cases h2 : j + 1 = i
      · subst h2
        simp only [bc_nc, hj] at hc
        have h3 : w.category = 1 := by simpa using hc
        simp [h1, h1', bc_cat, h3]
      · simp [h1, h1', h2]
theorem bc_H.own {L : bc_L} {y : bc_Y} {p : Program} {s : State} {m : MethodId} {args : Array Value} {meth : Method} {c : Code} {X : bc_X} (C : bc_H L y p s m args meth c X) : s.vm.findClass y.1.cls = some m.cls := C.2.2.2.2.2.1
theorem bc_H.word {L : bc_L} {y : bc_Y} {p : Program} {s : State} {m : MethodId} {args : Array Value} {meth : Method} {c : Code} {X : bc_X} (C : bc_H L y p s m args meth c X) {w : Cond} (h : w ∈ bc_G) : w.before args s = true := C.2.2.2.2.2.2.1 w (List.mem_cons_of_mem _ h)
theorem bc_H.words {L : bc_L} {y : bc_Y} {p : Program} {s : State} {m : MethodId} {args : Array Value} {meth : Method} {c : Code} {X : bc_X} (C : bc_H L y p s m args meth c X) : ∀ w ∈ bc_G, w.before args s = true := fun _ h => C.word h
theorem bc_H.K {L : bc_L} {y : bc_Y} {p : Program} {s : State} {m : MethodId} {args : Array Value} {meth : Method} {c : Code} {X : bc_X} (C : bc_H L y p s m args meth c X) : bc_K X L s := C.2.2.2.2.2.2.2
