section BCH
variable {d : Nat} {L : bc_L} {y : bc_Y} {pc : Nat} {ls st : List Value} {μ : bc_M} {Q : Option Value → bc_M → Prop}
/-- the pool's entry idx of class own links the field k of the class ci -/
def bc_F (own : String) (idx ci k : Nat) : Prop := ∃ (C : String) (T : u_T) (N : Nat), vwCl[ci]? = some (C, T, N) ∧ k < N ∧ (∀ w ∈ u_ws C T N, w ∈ bc_G) ∧ Cond.fieldLink own idx (T k).1 (T k).2.1 (T k).2.2.1 ∈ bc_G
/-- a class's fields by names and types -/
def bc_FT (ci : Nat) : Prop := ∃ (C : String) (T : u_T) (N : Nat) (ty : Nat → FieldType), vwCl[ci]? = some (C, T, N) ∧ (∀ k, k < N → parseFieldDescriptor (T k).2.2.1 = some (ty k)) ∧ (∀ a, a < N → ∀ b, b < N → a ≠ b → (T a).2.1 ≠ (T b).2.1)
/-- the field k of class ci isn't final, and of the type ty -/
def bc_FP (ci k : Nat) (ty : FieldType) : Prop := ∃ (C : String) (T : u_T) (N : Nat), vwCl[ci]? = some (C, T, N) ∧ (T k).2.2.2 = false ∧ parseFieldDescriptor (T k).2.2.1 = some ty
theorem bc_fs_at {ad : Nat → Nat} {f : Nat → Int32} {rs : List (Option Nat)} {k : Nat} {r : Option Nat} (h : rs[k]? = some r) : (bc_fs ad f rs)[k]? = some (bc_fv ad f k r) := by
  unfold bc_fs
  rw [List.getElem?_mapIdx, h]
  rfl
theorem bc_fs_set {ad : Nat → Nat} {f : Nat → Int32} {rs : List (Option Nat)} {k : Nat} (h : rs[k]? = some none) (v : Int32) : (bc_fs ad f rs).set k (.int v) = bc_fs ad (upd f k v) rs := by
  apply List.ext_getElem?
  intro j
  rw [List.getElem?_set]
  by_cases hj : k = j
  · subst hj
    have hl : k < (bc_fs ad f rs).length := (List.getElem?_eq_some_iff.mp (bc_fs_at (ad := ad) (f := f) h)).1
    rw [if_pos rfl, if_pos hl, bc_fs_at h]
    simp [bc_fv, upd]
  · rw [if_neg hj]
    cases hr : rs[j]? with
    | none => simp [bc_fs, hr]
    | some r =>
      rw [bc_fs_at hr, bc_fs_at hr]
      cases r with
      | none =>
        have h2 : ¬ j = k := fun q => hj q.symm
        simp [bc_fv, upd, h2]
      | some z => rfl
theorem bc_u_at (μ : bc_M) (i k : Nat) (v : Int32) : bc_u μ i k v i = upd (μ i) k v := by simp [bc_u]
theorem bc_u_ne (μ : bc_M) {i j : Nat} (k : Nat) (v : Int32) (h : j ≠ i) : bc_u μ i k v j = μ j := by simp [bc_u, h]
theorem bc_us_at (μ : bc_M) (i : Nat) (f : Nat → Int32) : bc_us μ i f i = f := by simp [bc_us]
theorem bc_us_ne (μ : bc_M) {i j : Nat} (f : Nat → Int32) (h : j ≠ i) : bc_us μ i f j = μ j := by simp [bc_us, h]
/-- getfield of an int -/
theorem bc_geti {idx ci k i n : Nat} {rs : List (Option Nat)} (hd : decode y.2.1 pc = .ok (.getfield idx, 3)) (hF : bc_F y.1.cls idx ci k) (ho : L[i]? = some (ci + 5, n, rs)) (hr : rs[k]? = some none) (k9 : bc_W d L y (pc + 3) ls (.int (μ i k) :: st) μ Q) : bc_W d L y pc ls (.ref i :: st) μ Q := by
  intro p l e s m args below meth c X C H locs sl hP hS hl
  obtain ⟨C', T, N, h1, h2, h3, h4⟩ := hF
  exact va_get (D := X.2.1) (ci := ci) (v := .int (μ i k)) (C := C') (T := T) (N := N) C.1 C.2.1 C.words h3 C.own C.K.1 hP i (bc_at ho) h1 k h2 (C.word h4) (fun _ h9 => h9) (bc_fs_at hr) hd (k9 p l e s m args below meth c X C H locs sl hP hS hl)
/-- getfield of a reference -/
theorem bc_getr {idx ci k i j n : Nat} {rs : List (Option Nat)} (hd : decode y.2.1 pc = .ok (.getfield idx, 3)) (hF : bc_F y.1.cls idx ci k) (ho : L[i]? = some (ci + 5, n, rs)) (hr : rs[k]? = some (some j)) (k9 : bc_W d L y (pc + 3) ls (.ref j :: st) μ Q) : bc_W d L y pc ls (.ref i :: st) μ Q := by
  intro p l e s m args below meth c X C H locs sl hP hS hl
  obtain ⟨C', T, N, h1, h2, h3, h4⟩ := hF
  exact va_get (D := X.2.1) (ci := ci) (v := .ref (X.1 j)) (C := C') (T := T) (N := N) C.1 C.2.1 C.words h3 C.own C.K.1 hP i (bc_at ho) h1 k h2 (C.word h4) (fun _ h9 => h9) (bc_fs_at hr) hd (k9 p l e s m args below meth c X C H locs sl hP hS hl)
/-- putfield of an int -/
theorem bc_put {idx ci k i n : Nat} {rs : List (Option Nat)} {v : Int32} {ty : FieldType} (hd : decode y.2.1 pc = .ok (.putfield idx, 3)) (hF : bc_F y.1.cls idx ci k) (hT : bc_FT ci) (hp : bc_FP ci k ty) (hn : narrow ty (.int v) = .int v) (hf : fits ty (.int v) = true) (ho : L[i]? = some (ci + 5, n, rs)) (hr : rs[k]? = some none) (k9 : bc_W d L y (pc + 3) ls st (bc_u μ i k v) Q) : bc_W d L y pc ls (.int v :: .ref i :: st) μ Q := by
  intro p l e s m args below meth c X C H locs sl hP hS hl
  obtain ⟨C', T, N, h1, h2, h3, h4⟩ := hF
  obtain ⟨C'', T', N', ty0, g1, g2, g3⟩ := hT
  obtain ⟨C3, T3, N3, f1, f2, f3⟩ := hp
  rw [h1] at g1 f1
  obtain ⟨rfl, rfl, rfl⟩ : C' = C'' ∧ T = T' ∧ N = N' := by simpa using g1
  obtain ⟨rfl, rfl, rfl⟩ : C' = C3 ∧ T = T3 ∧ N = N3 := by simpa using f1
  have hlen : k < (bc_fs X.1 (μ i) rs).length := (List.getElem?_eq_some_iff.mp (bc_fs_at (ad := X.1) (f := μ i) hr)).1
  refine va_put (D := X.2.1) (ci := ci) (v := .int v) (ty := ty) (C := C') (T := T) (N := N) C.1 C.2.1 C.words h3 ty0 g2 g3 C.own C.K.1 hP (bc_Dof C.K.2.2.1) hS i (bc_at ho) h1 k h2 (C.word h4) (fun _ h9 => h9) f2 f3 hn hf hlen hd (fun H1 locs1 hP1 _ hS1 => ?_)
  refine k9 p l e s m args below meth c X C H1 locs1 sl ?_ hS1 hl
  rw [← bc_set (μ := μ) (e' := .inr (ci, (bc_fs X.1 (μ i) rs).set k (.int v))) ho (by rw [bc_u_at, bc_fs_set hr]; rfl) (fun j hj => bc_u_ne μ k v hj)]
  exact hP1
/-- array elements: int, byte, boolean -/
theorem bc_iald {i n : Nat} {rs : List (Option Nat)} {j : Int32} (hd : decode y.2.1 pc = .ok (.iaload, 1)) (ho : L[i]? = some (0, n, rs)) (hin : vp_in j n) (k9 : bc_W d L y (pc + 1) ls (.int (μ i j.toNatClampNeg) :: st) μ Q) : bc_W d L y pc ls (.int j :: .ref i :: st) μ Q := by
  intro p l e s m args below meth c X C H locs sl hP hS hl
  exact va_iald (D := X.2.1) C.1 C.2.1 C.K.1 hP i 0 (bc_at ho) rfl hin hd (k9 p l e s m args below meth c X C H locs sl hP hS hl)
theorem bc_bald {i n : Nat} {rs : List (Option Nat)} {j : Int32} (hd : decode y.2.1 pc = .ok (.baload, 1)) (ho : L[i]? = some (1, n, rs)) (hin : vp_in j n) (k9 : bc_W d L y (pc + 1) ls (.int (μ i j.toNatClampNeg) :: st) μ Q) : bc_W d L y pc ls (.int j :: .ref i :: st) μ Q := by
  intro p l e s m args below meth c X C H locs sl hP hS hl
  exact va_bald (D := X.2.1) C.1 C.2.1 C.K.1 hP i 1 (bc_at ho) rfl hin hd (k9 p l e s m args below meth c X C H locs sl hP hS hl)
theorem bc_zald {i n : Nat} {rs : List (Option Nat)} {j : Int32} (hd : decode y.2.1 pc = .ok (.baload, 1)) (ho : L[i]? = some (2, n, rs)) (hin : vp_in j n) (k9 : bc_W d L y (pc + 1) ls (.int (μ i j.toNatClampNeg) :: st) μ Q) : bc_W d L y pc ls (.int j :: .ref i :: st) μ Q := by
  intro p l e s m args below meth c X C H locs sl hP hS hl
  exact va_zald (D := X.2.1) C.1 C.2.1 C.K.1 hP i 2 (bc_at ho) rfl hin hd (k9 p l e s m args below meth c X C H locs sl hP hS hl)
theorem bc_iast {i n : Nat} {rs : List (Option Nat)} {j v : Int32} (hd : decode y.2.1 pc = .ok (.iastore, 1)) (ho : L[i]? = some (0, n, rs)) (hin : vp_in j n) (k9 : bc_W d L y (pc + 1) ls st (bc_u μ i j.toNatClampNeg v) Q) : bc_W d L y pc ls (.int v :: .int j :: .ref i :: st) μ Q := by
  intro p l e s m args below meth c X C H locs sl hP hS hl
  refine va_iast (D := X.2.1) C.1 C.2.1 C.K.1 hP (bc_Dof C.K.2.2.1) hS i 0 (bc_at ho) rfl hin hd (fun H1 locs1 hP1 _ hS1 => ?_)
  refine k9 p l e s m args below meth c X C H1 locs1 sl ?_ hS1 hl
  rw [← bc_set (μ := μ) (e' := .inl (X.2.2.1 0, n, .inl (upd (μ i) j.toNatClampNeg v))) ho (by rw [bc_u_at]; rfl) (fun j' hj => bc_u_ne μ _ v hj)]
  exact hP1
theorem bc_bast {i n : Nat} {rs : List (Option Nat)} {j v : Int32} (hd : decode y.2.1 pc = .ok (.bastore, 1)) (ho : L[i]? = some (1, n, rs)) (hin : vp_in j n) (k9 : bc_W d L y (pc + 1) ls st (bc_u μ i j.toNatClampNeg (vp_nar .byte v)) Q) : bc_W d L y pc ls (.int v :: .int j :: .ref i :: st) μ Q := by
  intro p l e s m args below meth c X C H locs sl hP hS hl
  refine va_bast (D := X.2.1) C.1 C.2.1 C.K.1 hP (bc_Dof C.K.2.2.1) hS i 1 (bc_at ho) rfl hin hd (fun H1 locs1 hP1 _ hS1 => ?_)
  refine k9 p l e s m args below meth c X C H1 locs1 sl ?_ hS1 hl
  rw [← bc_set (μ := μ) (e' := .inl (X.2.2.1 1, n, .inl (upd (μ i) j.toNatClampNeg (vp_nar .byte v)))) ho (by rw [bc_u_at]; rfl) (fun j' hj => bc_u_ne μ _ _ hj)]
  exact hP1
theorem bc_zast {i n : Nat} {rs : List (Option Nat)} {j v : Int32} (hd : decode y.2.1 pc = .ok (.bastore, 1)) (ho : L[i]? = some (2, n, rs)) (hin : vp_in j n) (k9 : bc_W d L y (pc + 1) ls st (bc_u μ i j.toNatClampNeg (vp_nar .boolean v)) Q) : bc_W d L y pc ls (.int v :: .int j :: .ref i :: st) μ Q := by
  intro p l e s m args below meth c X C H locs sl hP hS hl
  refine va_zast (D := X.2.1) C.1 C.2.1 C.K.1 hP (bc_Dof C.K.2.2.1) hS i 2 (bc_at ho) rfl hin hd (fun H1 locs1 hP1 _ hS1 => ?_)
  refine k9 p l e s m args below meth c X C H1 locs1 sl ?_ hS1 hl
  rw [← bc_set (μ := μ) (e' := .inl (X.2.2.1 2, n, .inl (upd (μ i) j.toNatClampNeg (vp_nar .boolean v)))) ho (by rw [bc_u_at]; rfl) (fun j' hj => bc_u_ne μ _ _ hj)]
  exact hP1
/-- arraylength -/
theorem bc_len0 {i n : Nat} {rs : List (Option Nat)} (hd : decode y.2.1 pc = .ok (.arraylength, 1)) (ho : L[i]? = some (0, n, rs)) (k9 : bc_W d L y (pc + 1) ls (.int (nI n) :: st) μ Q) : bc_W d L y pc ls (.ref i :: st) μ Q := by
  intro p l e s m args below meth c X C H locs sl hP hS hl
  exact va_alen (D := X.2.1) C.1 C.2.1 C.K.1 hP i 0 (bc_at ho) rfl rfl hd (k9 p l e s m args below meth c X C H locs sl hP hS hl)
theorem bc_len1 {i n : Nat} {rs : List (Option Nat)} (hd : decode y.2.1 pc = .ok (.arraylength, 1)) (ho : L[i]? = some (1, n, rs)) (k9 : bc_W d L y (pc + 1) ls (.int (nI n) :: st) μ Q) : bc_W d L y pc ls (.ref i :: st) μ Q := by
  intro p l e s m args below meth c X C H locs sl hP hS hl
  exact va_alen (D := X.2.1) C.1 C.2.1 C.K.1 hP i 1 (bc_at ho) rfl rfl hd (k9 p l e s m args below meth c X C H locs sl hP hS hl)
theorem bc_len2 {i n : Nat} {rs : List (Option Nat)} (hd : decode y.2.1 pc = .ok (.arraylength, 1)) (ho : L[i]? = some (2, n, rs)) (k9 : bc_W d L y (pc + 1) ls (.int (nI n) :: st) μ Q) : bc_W d L y pc ls (.ref i :: st) μ Q := by
  intro p l e s m args below meth c X C H locs sl hP hS hl
  exact va_alen (D := X.2.1) C.1 C.2.1 C.K.1 hP i 2 (bc_at ho) rfl rfl hd (k9 p l e s m args below meth c X C H locs sl hP hS hl)
theorem bc_len4 {i n : Nat} {rs : List (Option Nat)} (hd : decode y.2.1 pc = .ok (.arraylength, 1)) (ho : L[i]? = some (4, n, rs)) (k9 : bc_W d L y (pc + 1) ls (.int (nI n) :: st) μ Q) : bc_W d L y pc ls (.ref i :: st) μ Q := by
  intro p l e s m args below meth c X C H locs sl hP hS hl
  exact va_alen (D := X.2.1) C.1 C.2.1 C.K.1 hP i 4 (bc_at ho) rfl rfl hd (k9 p l e s m args below meth c X C H locs sl hP hS hl)
/-- returns -/
theorem bc_ret {r : Option Value} {p : Program} {s : State} {m : MethodId} {args : Array Value} {meth : Method} {c : Code} {X : bc_X} {H : Heap} {locs : List Loc} (_ : bc_H L y p s m args meth c X) (hP : va_P X.2.1 vwCl (bc_ws X L μ) H) (hS : va_S (bc_A X L) s.heap H locs) (hq : Q r μ) : ∀ t : State, t.heap = H → s.WarmedH t.vm → bc_Post X L Q args s (.returned (r.map (bc_v X.1))) t :=
  fun _ ht _ => ⟨⟨r, μ, rfl, hq, by rw [ht]; exact hP⟩, hS.F ht⟩
theorem bc_ireturn {v : Int32} {ty : FieldType} (hd : decode y.2.1 pc = .ok (.ireturn, 1)) (hr : y.2.2.2 = some ty) (hn : narrow ty (.int v) = .int v) (hq : Q (some (.int v)) μ) : bc_W d L y pc ls [.int v] μ Q := by
  intro p l e s m args below meth c X C H locs sl hP hS hl
  exact W.zret (v := v) C.1 C.2.1 (C.2.2.1.trans hr) hn (bc_ret C hP hS hq) hS.2.2 hd C.2.2.2.2.1
theorem bc_lreturn {v : Int64} (hd : decode y.2.1 pc = .ok (.lreturn, 1)) (hr : y.2.2.2 = some .long) (hq : Q (some (.long v)) μ) : bc_W d L y pc ls [.long v] μ Q := by
  intro p l e s m args below meth c X C H locs sl hP hS hl
  exact W.lret (v := v) C.1 C.2.1 (C.2.2.1.trans hr) (bc_ret C hP hS hq) hS.2.2 hd C.2.2.2.2.1
theorem bc_return (hd : decode y.2.1 pc = .ok (.return_, 1)) (hr : y.2.2.2 = none) (hq : Q none μ) : bc_W d L y pc ls [] μ Q := by
  intro p l e s m args below meth c X C H locs sl hP hS hl
  exact W.vret C.1 C.2.1 (C.2.2.1.trans hr) (bc_ret C hP hS hq) hS.2.2 hd C.2.2.2.2.1
end BCH
