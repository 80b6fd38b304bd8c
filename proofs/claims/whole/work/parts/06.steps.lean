section BCS
variable {d : Nat} {L : bc_L} {y : bc_Y} {pc : Nat} {ls st : List Value} {μ : bc_M} {Q : Option Value → bc_M → Prop}
theorem bc_iconst {n : Int} {v : Int32} (hd : decode y.2.1 pc = .ok (.iconst n, 1)) (hv : Int32.ofInt n = v) (k : bc_W d L y (pc + 1) ls (.int v :: st) μ Q) : bc_W d L y pc ls st μ Q := by
  intro p l e s m args below meth c X C H locs sl hP hS hl
  exact lv_iconst C.1 C.2.1 hd hv (k p l e s m args below meth c X C H locs sl hP hS hl)
theorem bc_bipush {n : Int} {v : Int32} (hd : decode y.2.1 pc = .ok (.bipush n, 2)) (hv : (Int8.ofInt n).toInt32 = v) (k : bc_W d L y (pc + 2) ls (.int v :: st) μ Q) : bc_W d L y pc ls st μ Q := by
  intro p l e s m args below meth c X C H locs sl hP hS hl
  exact lv_bipush C.1 C.2.1 hd hv (k p l e s m args below meth c X C H locs sl hP hS hl)
theorem bc_sipush {n : Int} {v : Int32} (hd : decode y.2.1 pc = .ok (.sipush n, 3)) (hv : (Int16.ofInt n).toInt32 = v) (k : bc_W d L y (pc + 3) ls (.int v :: st) μ Q) : bc_W d L y pc ls st μ Q := by
  intro p l e s m args below meth c X C H locs sl hP hS hl
  exact lv_sipush C.1 C.2.1 hd hv (k p l e s m args below meth c X C H locs sl hP hS hl)
theorem bc_lconst {n : Fin 2} {v : Int64} (hd : decode y.2.1 pc = .ok (.lconst n, 1)) (hv : Int64.ofNat (n : Nat) = v) (k : bc_W d L y (pc + 1) ls (.long v :: st) μ Q) : bc_W d L y pc ls st μ Q := by
  intro p l e s m args below meth c X C H locs sl hP hS hl
  exact lv_lconst C.1 C.2.1 hd hv (k p l e s m args below meth c X C H locs sl hP hS hl)
theorem bc_iload_n {k9 : Fin 4} {x : Int32} (hd : decode y.2.1 pc = .ok (.iload_n k9, 1)) (h : ls[(k9 : Nat)]? = some (.int x)) (k : bc_W d L y (pc + 1) ls (.int x :: st) μ Q) : bc_W d L y pc ls st μ Q := by
  intro p l e s m args below meth c X C H locs sl hP hS hl
  exact lv_iload_n C.1 C.2.1 hd rfl (hl.2.2 _ _ h (fun q => by cases q)) (k p l e s m args below meth c X C H locs sl hP hS hl)
theorem bc_iload {i : Nat} {x : Int32} (hd : decode y.2.1 pc = .ok (.iload i, 2)) (h : ls[i]? = some (.int x)) (k : bc_W d L y (pc + 2) ls (.int x :: st) μ Q) : bc_W d L y pc ls st μ Q := by
  intro p l e s m args below meth c X C H locs sl hP hS hl
  exact lv_iload C.1 C.2.1 hd (hl.2.2 _ _ h (fun q => by cases q)) (k p l e s m args below meth c X C H locs sl hP hS hl)
theorem bc_lload_n {k9 : Fin 4} {x : Int64} (hd : decode y.2.1 pc = .ok (.lload_n k9, 1)) (h : ls[(k9 : Nat)]? = some (.long x)) (k : bc_W d L y (pc + 1) ls (.long x :: st) μ Q) : bc_W d L y pc ls st μ Q := by
  intro p l e s m args below meth c X C H locs sl hP hS hl
  exact lv_lload_n C.1 C.2.1 hd rfl (hl.2.2 _ _ h (fun q => by cases q)) (k p l e s m args below meth c X C H locs sl hP hS hl)
theorem bc_lload {i : Nat} {x : Int64} (hd : decode y.2.1 pc = .ok (.lload i, 2)) (h : ls[i]? = some (.long x)) (k : bc_W d L y (pc + 2) ls (.long x :: st) μ Q) : bc_W d L y pc ls st μ Q := by
  intro p l e s m args below meth c X C H locs sl hP hS hl
  exact lv_lload C.1 C.2.1 hd (hl.2.2 _ _ h (fun q => by cases q)) (k p l e s m args below meth c X C H locs sl hP hS hl)
theorem bc_aload_n {k9 : Fin 4} {x : Nat} (hd : decode y.2.1 pc = .ok (.aload_n k9, 1)) (h : ls[(k9 : Nat)]? = some (.ref x)) (k : bc_W d L y (pc + 1) ls (.ref x :: st) μ Q) : bc_W d L y pc ls st μ Q := by
  intro p l e s m args below meth c X C H locs sl hP hS hl
  exact lv_aload_n C.1 C.2.1 hd rfl (hl.2.2 _ _ h (fun q => by cases q)) (k p l e s m args below meth c X C H locs sl hP hS hl)
theorem bc_aload {i : Nat} {x : Nat} (hd : decode y.2.1 pc = .ok (.aload i, 2)) (h : ls[i]? = some (.ref x)) (k : bc_W d L y (pc + 2) ls (.ref x :: st) μ Q) : bc_W d L y pc ls st μ Q := by
  intro p l e s m args below meth c X C H locs sl hP hS hl
  exact lv_aload C.1 C.2.1 hd (hl.2.2 _ _ h (fun q => by cases q)) (k p l e s m args below meth c X C H locs sl hP hS hl)
theorem bc_istore_n {k9 : Fin 4} {x : Int32} (hd : decode y.2.1 pc = .ok (.istore_n k9, 1)) (h : (k9 : Nat) < y.2.2.1) (hc : bc_nc ls k9 = true) (k : bc_W d L y (pc + 1) (ls.set k9 (.int x)) st μ Q) : bc_W d L y pc ls (.int x :: st) μ Q := by
  intro p l e s m args below meth c X C H locs sl hP hS hl
  exact lv_istore_n (nL := y.2.2.1) (lv := bc_pr X.1 ls) C.1 C.2.1 hd rfl hl.has h rfl (fun sl' h' => k p l e s m args below meth c X C H locs sl' hP hS (bc_lv.store (v := .int x) h' rfl hc h hl))
theorem bc_istore {i : Nat} {x : Int32} (hd : decode y.2.1 pc = .ok (.istore i, 2)) (h : i < y.2.2.1) (hc : bc_nc ls i = true) (k : bc_W d L y (pc + 2) (ls.set i (.int x)) st μ Q) : bc_W d L y pc ls (.int x :: st) μ Q := by
  intro p l e s m args below meth c X C H locs sl hP hS hl
  exact lv_istore (nL := y.2.2.1) (lv := bc_pr X.1 ls) C.1 C.2.1 hd hl.has h rfl (fun sl' h' => k p l e s m args below meth c X C H locs sl' hP hS (bc_lv.store (v := .int x) h' rfl hc h hl))
theorem bc_astore_n {k9 : Fin 4} {x : Nat} (hd : decode y.2.1 pc = .ok (.astore_n k9, 1)) (h : (k9 : Nat) < y.2.2.1) (hc : bc_nc ls k9 = true) (k : bc_W d L y (pc + 1) (ls.set k9 (.ref x)) st μ Q) : bc_W d L y pc ls (.ref x :: st) μ Q := by
  intro p l e s m args below meth c X C H locs sl hP hS hl
  exact lv_astore_n (nL := y.2.2.1) (lv := bc_pr X.1 ls) C.1 C.2.1 hd rfl hl.has h rfl (fun sl' h' => k p l e s m args below meth c X C H locs sl' hP hS (bc_lv.store (v := .ref x) h' rfl hc h hl))
theorem bc_astore {i : Nat} {x : Nat} (hd : decode y.2.1 pc = .ok (.astore i, 2)) (h : i < y.2.2.1) (hc : bc_nc ls i = true) (k : bc_W d L y (pc + 2) (ls.set i (.ref x)) st μ Q) : bc_W d L y pc ls (.ref x :: st) μ Q := by
  intro p l e s m args below meth c X C H locs sl hP hS hl
  exact lv_astore (nL := y.2.2.1) (lv := bc_pr X.1 ls) C.1 C.2.1 hd hl.has h rfl (fun sl' h' => k p l e s m args below meth c X C H locs sl' hP hS (bc_lv.store (v := .ref x) h' rfl hc h hl))
theorem bc_lstore_n {k9 : Fin 4} {x : Int64} (hd : decode y.2.1 pc = .ok (.lstore_n k9, 1)) (h : (k9 : Nat) + 1 < y.2.2.1) (hc : bc_nc ls k9 = true) (k : bc_W d L y (pc + 1) ((ls.set k9 (.long x)).set (k9 + 1) .null) st μ Q) : bc_W d L y pc ls (.long x :: st) μ Q := by
  intro p l e s m args below meth c X C H locs sl hP hS hl
  exact lv_lstore_n (nL := y.2.2.1) (lv := bc_pr X.1 ls) C.1 C.2.1 hd rfl hl.has h rfl (fun sl' h' => k p l e s m args below meth c X C H locs sl' hP hS (bc_lv.store2 h' hc h hl))
theorem bc_lstore {i : Nat} {x : Int64} (hd : decode y.2.1 pc = .ok (.lstore i, 2)) (h : i + 1 < y.2.2.1) (hc : bc_nc ls i = true) (k : bc_W d L y (pc + 2) ((ls.set i (.long x)).set (i + 1) .null) st μ Q) : bc_W d L y pc ls (.long x :: st) μ Q := by
  intro p l e s m args below meth c X C H locs sl hP hS hl
  exact lv_lstore (nL := y.2.2.1) (lv := bc_pr X.1 ls) C.1 C.2.1 hd hl.has h rfl (fun sl' h' => k p l e s m args below meth c X C H locs sl' hP hS (bc_lv.store2 h' hc h hl))
theorem bc_iinc {i : Nat} {n : Int} {x v : Int32} (hd : decode y.2.1 pc = .ok (.iinc i n, 3)) (hx : ls[i]? = some (.int x)) (hv : x + Int32.ofInt n = v) (h : i < y.2.2.1) (hc : bc_nc ls i = true) (k : bc_W d L y (pc + 3) (ls.set i (.int v)) st μ Q) : bc_W d L y pc ls st μ Q := by
  intro p l e s m args below meth c X C H locs sl hP hS hl
  obtain ⟨k0, hk0⟩ := List.getElem?_of_mem (bc_pr.mem (ad := X.1) hx (fun q => by cases q))
  exact lv_iinc (nL := y.2.2.1) (lv := bc_pr X.1 ls) (k := k0) C.1 C.2.1 hd hl.has hk0 hv h rfl (fun sl' h' => k p l e s m args below meth c X C H locs sl' hP hS (bc_lv.store (v := .int v) h' rfl hc h hl))
theorem bc_iadd {x z : Int32} (hd : decode y.2.1 pc = .ok (.iadd, 1)) (k : bc_W d L y (pc + 1) ls (.int (x + z) :: st) μ Q) : bc_W d L y pc ls (.int z :: .int x :: st) μ Q := by
  intro p l e s m args below meth c X C H locs sl hP hS hl
  exact lv_iadd C.1 C.2.1 hd (k p l e s m args below meth c X C H locs sl hP hS hl)
theorem bc_isub {x z : Int32} (hd : decode y.2.1 pc = .ok (.isub, 1)) (k : bc_W d L y (pc + 1) ls (.int (x - z) :: st) μ Q) : bc_W d L y pc ls (.int z :: .int x :: st) μ Q := by
  intro p l e s m args below meth c X C H locs sl hP hS hl
  exact lv_isub C.1 C.2.1 hd (k p l e s m args below meth c X C H locs sl hP hS hl)
theorem bc_imul {x z : Int32} (hd : decode y.2.1 pc = .ok (.imul, 1)) (k : bc_W d L y (pc + 1) ls (.int (x * z) :: st) μ Q) : bc_W d L y pc ls (.int z :: .int x :: st) μ Q := by
  intro p l e s m args below meth c X C H locs sl hP hS hl
  exact lv_imul C.1 C.2.1 hd (k p l e s m args below meth c X C H locs sl hP hS hl)
theorem bc_iand {x z : Int32} (hd : decode y.2.1 pc = .ok (.iand, 1)) (k : bc_W d L y (pc + 1) ls (.int (x &&& z) :: st) μ Q) : bc_W d L y pc ls (.int z :: .int x :: st) μ Q := by
  intro p l e s m args below meth c X C H locs sl hP hS hl
  exact lv_iand C.1 C.2.1 hd (k p l e s m args below meth c X C H locs sl hP hS hl)
theorem bc_ior {x z : Int32} (hd : decode y.2.1 pc = .ok (.ior, 1)) (k : bc_W d L y (pc + 1) ls (.int (x ||| z) :: st) μ Q) : bc_W d L y pc ls (.int z :: .int x :: st) μ Q := by
  intro p l e s m args below meth c X C H locs sl hP hS hl
  exact lv_ior C.1 C.2.1 hd (k p l e s m args below meth c X C H locs sl hP hS hl)
theorem bc_ixor {x z : Int32} (hd : decode y.2.1 pc = .ok (.ixor, 1)) (k : bc_W d L y (pc + 1) ls (.int (x ^^^ z) :: st) μ Q) : bc_W d L y pc ls (.int z :: .int x :: st) μ Q := by
  intro p l e s m args below meth c X C H locs sl hP hS hl
  exact lv_ixor C.1 C.2.1 hd (k p l e s m args below meth c X C H locs sl hP hS hl)
theorem bc_ishl {x z : Int32} (hd : decode y.2.1 pc = .ok (.ishl, 1)) (k : bc_W d L y (pc + 1) ls (.int (x <<< (z &&& 31)) :: st) μ Q) : bc_W d L y pc ls (.int z :: .int x :: st) μ Q := by
  intro p l e s m args below meth c X C H locs sl hP hS hl
  exact lv_ishl C.1 C.2.1 hd (k p l e s m args below meth c X C H locs sl hP hS hl)
theorem bc_ishr {x z : Int32} (hd : decode y.2.1 pc = .ok (.ishr, 1)) (k : bc_W d L y (pc + 1) ls (.int (x >>> (z &&& 31)) :: st) μ Q) : bc_W d L y pc ls (.int z :: .int x :: st) μ Q := by
  intro p l e s m args below meth c X C H locs sl hP hS hl
  exact lv_ishr C.1 C.2.1 hd (k p l e s m args below meth c X C H locs sl hP hS hl)
theorem bc_iushr {x z v : Int32} (hd : decode y.2.1 pc = .ok (.iushr, 1)) (hv : (x.toUInt32 >>> (z.toUInt32 &&& Int32.toUInt32 31)).toInt32 = v) (k : bc_W d L y (pc + 1) ls (.int v :: st) μ Q) : bc_W d L y pc ls (.int z :: .int x :: st) μ Q := by
  intro p l e s m args below meth c X C H locs sl hP hS hl
  exact lv_iushr C.1 C.2.1 hd hv (k p l e s m args below meth c X C H locs sl hP hS hl)
theorem bc_idiv {x z : Int32} (hd : decode y.2.1 pc = .ok (.idiv, 1)) (hz : ¬ z = 0) (k : bc_W d L y (pc + 1) ls (.int (x / z) :: st) μ Q) : bc_W d L y pc ls (.int z :: .int x :: st) μ Q := by
  intro p l e s m args below meth c X C H locs sl hP hS hl
  exact lv_idiv C.1 C.2.1 hd hz (k p l e s m args below meth c X C H locs sl hP hS hl)
theorem bc_irem {x z : Int32} (hd : decode y.2.1 pc = .ok (.irem, 1)) (hz : ¬ z = 0) (k : bc_W d L y (pc + 1) ls (.int (x - x / z * z) :: st) μ Q) : bc_W d L y pc ls (.int z :: .int x :: st) μ Q := by
  intro p l e s m args below meth c X C H locs sl hP hS hl
  exact lv_irem C.1 C.2.1 hd hz (k p l e s m args below meth c X C H locs sl hP hS hl)
theorem bc_ineg {x : Int32} (hd : decode y.2.1 pc = .ok (.ineg, 1)) (k : bc_W d L y (pc + 1) ls (.int (-x) :: st) μ Q) : bc_W d L y pc ls (.int x :: st) μ Q := by
  intro p l e s m args below meth c X C H locs sl hP hS hl
  exact lv_ineg C.1 C.2.1 hd (k p l e s m args below meth c X C H locs sl hP hS hl)
theorem bc_ladd {x z : Int64} (hd : decode y.2.1 pc = .ok (.ladd, 1)) (k : bc_W d L y (pc + 1) ls (.long (x + z) :: st) μ Q) : bc_W d L y pc ls (.long z :: .long x :: st) μ Q := by
  intro p l e s m args below meth c X C H locs sl hP hS hl
  exact lv_ladd C.1 C.2.1 hd (k p l e s m args below meth c X C H locs sl hP hS hl)
theorem bc_lmul {x z : Int64} (hd : decode y.2.1 pc = .ok (.lmul, 1)) (k : bc_W d L y (pc + 1) ls (.long (x * z) :: st) μ Q) : bc_W d L y pc ls (.long z :: .long x :: st) μ Q := by
  intro p l e s m args below meth c X C H locs sl hP hS hl
  exact lv_lmul C.1 C.2.1 hd (k p l e s m args below meth c X C H locs sl hP hS hl)
theorem bc_ldiv {x z : Int64} (hd : decode y.2.1 pc = .ok (.ldiv, 1)) (hz : ¬ z = 0) (k : bc_W d L y (pc + 1) ls (.long (x / z) :: st) μ Q) : bc_W d L y pc ls (.long z :: .long x :: st) μ Q := by
  intro p l e s m args below meth c X C H locs sl hP hS hl
  exact lv_ldiv C.1 C.2.1 hd hz (k p l e s m args below meth c X C H locs sl hP hS hl)
theorem bc_lrem {x z : Int64} (hd : decode y.2.1 pc = .ok (.lrem, 1)) (hz : ¬ z = 0) (k : bc_W d L y (pc + 1) ls (.long (x - x / z * z) :: st) μ Q) : bc_W d L y pc ls (.long z :: .long x :: st) μ Q := by
  intro p l e s m args below meth c X C H locs sl hP hS hl
  exact lv_lrem C.1 C.2.1 hd hz (k p l e s m args below meth c X C H locs sl hP hS hl)
theorem bc_i2l {x : Int32} {v : Int64} (hd : decode y.2.1 pc = .ok (.i2l, 1)) (hv : x.toInt64 = v) (k : bc_W d L y (pc + 1) ls (.long v :: st) μ Q) : bc_W d L y pc ls (.int x :: st) μ Q := by
  intro p l e s m args below meth c X C H locs sl hP hS hl
  exact lv_i2l C.1 C.2.1 hd hv (k p l e s m args below meth c X C H locs sl hP hS hl)
theorem bc_i2b {x v : Int32} (hd : decode y.2.1 pc = .ok (.i2b, 1)) (hv : x.toInt8.toInt32 = v) (k : bc_W d L y (pc + 1) ls (.int v :: st) μ Q) : bc_W d L y pc ls (.int x :: st) μ Q := by
  intro p l e s m args below meth c X C H locs sl hP hS hl
  exact lv_i2b C.1 C.2.1 hd hv (k p l e s m args below meth c X C H locs sl hP hS hl)
theorem bc_lcmp {x z : Int64} (hd : decode y.2.1 pc = .ok (.lcmp, 1)) (k : bc_W d L y (pc + 1) ls (.int (lg_cmp x z) :: st) μ Q) : bc_W d L y pc ls (.long z :: .long x :: st) μ Q := by
  intro p l e s m args below meth c X C H locs sl hP hS hl
  exact W.lcmp C.1 C.2.1 hd (k p l e s m args below meth c X C H locs sl hP hS hl)
theorem bc_dup {v : Value} (hd : decode y.2.1 pc = .ok (.dup, 1)) (hv : v.category = 1) (k : bc_W d L y (pc + 1) ls (v :: v :: st) μ Q) : bc_W d L y pc ls (v :: st) μ Q := by
  intro p l e s m args below meth c X C H locs sl hP hS hl
  exact lv_dup C.1 C.2.1 hd (by rw [bc_cat]; exact hv) (k p l e s m args below meth c X C H locs sl hP hS hl)
theorem bc_pop {v : Value} (hd : decode y.2.1 pc = .ok (.pop, 1)) (hv : v.category = 1) (k : bc_W d L y (pc + 1) ls st μ Q) : bc_W d L y pc ls (v :: st) μ Q := by
  intro p l e s m args below meth c X C H locs sl hP hS hl
  exact lv_pop C.1 C.2.1 hd (by rw [bc_cat]; exact hv) (k p l e s m args below meth c X C H locs sl hP hS hl)
theorem bc_dup2 {v w : Value} (hd : decode y.2.1 pc = .ok (.dup2, 1)) (hv : v.category = 1) (hw : w.category = 1) (k : bc_W d L y (pc + 1) ls (v :: w :: v :: w :: st) μ Q) : bc_W d L y pc ls (v :: w :: st) μ Q := by
  intro p l e s m args below meth c X C H locs sl hP hS hl
  exact lv_dup2_11 C.1 C.2.1 hd (by rw [bc_cat]; exact hv) (by rw [bc_cat]; exact hw) (k p l e s m args below meth c X C H locs sl hP hS hl)
theorem bc_dup2l {v : Value} (hd : decode y.2.1 pc = .ok (.dup2, 1)) (hv : v.category = 2) (k : bc_W d L y (pc + 1) ls (v :: v :: st) μ Q) : bc_W d L y pc ls (v :: st) μ Q := by
  intro p l e s m args below meth c X C H locs sl hP hS hl
  exact lv_dup2_2 C.1 C.2.1 hd (by rw [bc_cat]; exact hv) (k p l e s m args below meth c X C H locs sl hP hS hl)
theorem bc_if_eq {x : Int32} {off : Int} {tgt : Nat} (hd : decode y.2.1 pc = .ok (.ifCond .eq off, 3)) (ht : (pc : Int) + off = (tgt : Int)) (kt : x = 0 → bc_W d L y tgt ls st μ Q) (kf : ¬ x = 0 → bc_W d L y (pc + 3) ls st μ Q) : bc_W d L y pc ls (.int x :: st) μ Q := by
  intro p l e s m args below meth c X C H locs sl hP hS hl
  exact lv_if_eq C.1 C.2.1 hd ht (fun h9 => kt h9 p l e s m args below meth c X C H locs sl hP hS hl) (fun h9 => kf h9 p l e s m args below meth c X C H locs sl hP hS hl)
theorem bc_if_ne {x : Int32} {off : Int} {tgt : Nat} (hd : decode y.2.1 pc = .ok (.ifCond .ne off, 3)) (ht : (pc : Int) + off = (tgt : Int)) (kt : ¬ x = 0 → bc_W d L y tgt ls st μ Q) (kf : x = 0 → bc_W d L y (pc + 3) ls st μ Q) : bc_W d L y pc ls (.int x :: st) μ Q := by
  intro p l e s m args below meth c X C H locs sl hP hS hl
  exact lv_if_ne C.1 C.2.1 hd ht (fun h9 => kt h9 p l e s m args below meth c X C H locs sl hP hS hl) (fun h9 => kf h9 p l e s m args below meth c X C H locs sl hP hS hl)
theorem bc_if_lt {x : Int32} {off : Int} {tgt : Nat} (hd : decode y.2.1 pc = .ok (.ifCond .lt off, 3)) (ht : (pc : Int) + off = (tgt : Int)) (kt : x < 0 → bc_W d L y tgt ls st μ Q) (kf : ¬ x < 0 → bc_W d L y (pc + 3) ls st μ Q) : bc_W d L y pc ls (.int x :: st) μ Q := by
  intro p l e s m args below meth c X C H locs sl hP hS hl
  exact lv_if_lt C.1 C.2.1 hd ht (fun h9 => kt h9 p l e s m args below meth c X C H locs sl hP hS hl) (fun h9 => kf h9 p l e s m args below meth c X C H locs sl hP hS hl)
theorem bc_if_ge {x : Int32} {off : Int} {tgt : Nat} (hd : decode y.2.1 pc = .ok (.ifCond .ge off, 3)) (ht : (pc : Int) + off = (tgt : Int)) (kt : 0 ≤ x → bc_W d L y tgt ls st μ Q) (kf : ¬ 0 ≤ x → bc_W d L y (pc + 3) ls st μ Q) : bc_W d L y pc ls (.int x :: st) μ Q := by
  intro p l e s m args below meth c X C H locs sl hP hS hl
  exact lv_if_ge C.1 C.2.1 hd ht (fun h9 => kt h9 p l e s m args below meth c X C H locs sl hP hS hl) (fun h9 => kf h9 p l e s m args below meth c X C H locs sl hP hS hl)
theorem bc_if_gt {x : Int32} {off : Int} {tgt : Nat} (hd : decode y.2.1 pc = .ok (.ifCond .gt off, 3)) (ht : (pc : Int) + off = (tgt : Int)) (kt : 0 < x → bc_W d L y tgt ls st μ Q) (kf : ¬ 0 < x → bc_W d L y (pc + 3) ls st μ Q) : bc_W d L y pc ls (.int x :: st) μ Q := by
  intro p l e s m args below meth c X C H locs sl hP hS hl
  exact lv_if_gt C.1 C.2.1 hd ht (fun h9 => kt h9 p l e s m args below meth c X C H locs sl hP hS hl) (fun h9 => kf h9 p l e s m args below meth c X C H locs sl hP hS hl)
theorem bc_if_le {x : Int32} {off : Int} {tgt : Nat} (hd : decode y.2.1 pc = .ok (.ifCond .le off, 3)) (ht : (pc : Int) + off = (tgt : Int)) (kt : x ≤ 0 → bc_W d L y tgt ls st μ Q) (kf : ¬ x ≤ 0 → bc_W d L y (pc + 3) ls st μ Q) : bc_W d L y pc ls (.int x :: st) μ Q := by
  intro p l e s m args below meth c X C H locs sl hP hS hl
  exact lv_if_le C.1 C.2.1 hd ht (fun h9 => kt h9 p l e s m args below meth c X C H locs sl hP hS hl) (fun h9 => kf h9 p l e s m args below meth c X C H locs sl hP hS hl)
theorem bc_icmp_eq {x z : Int32} {off : Int} {tgt : Nat} (hd : decode y.2.1 pc = .ok (.if_icmp .eq off, 3)) (ht : (pc : Int) + off = (tgt : Int)) (kt : x = z → bc_W d L y tgt ls st μ Q) (kf : ¬ x = z → bc_W d L y (pc + 3) ls st μ Q) : bc_W d L y pc ls (.int z :: .int x :: st) μ Q := by
  intro p l e s m args below meth c X C H locs sl hP hS hl
  exact lv_icmp_eq C.1 C.2.1 hd ht (fun h9 => kt h9 p l e s m args below meth c X C H locs sl hP hS hl) (fun h9 => kf h9 p l e s m args below meth c X C H locs sl hP hS hl)
theorem bc_icmp_ne {x z : Int32} {off : Int} {tgt : Nat} (hd : decode y.2.1 pc = .ok (.if_icmp .ne off, 3)) (ht : (pc : Int) + off = (tgt : Int)) (kt : ¬ x = z → bc_W d L y tgt ls st μ Q) (kf : x = z → bc_W d L y (pc + 3) ls st μ Q) : bc_W d L y pc ls (.int z :: .int x :: st) μ Q := by
  intro p l e s m args below meth c X C H locs sl hP hS hl
  exact lv_icmp_ne C.1 C.2.1 hd ht (fun h9 => kt h9 p l e s m args below meth c X C H locs sl hP hS hl) (fun h9 => kf h9 p l e s m args below meth c X C H locs sl hP hS hl)
theorem bc_icmp_lt {x z : Int32} {off : Int} {tgt : Nat} (hd : decode y.2.1 pc = .ok (.if_icmp .lt off, 3)) (ht : (pc : Int) + off = (tgt : Int)) (kt : x < z → bc_W d L y tgt ls st μ Q) (kf : ¬ x < z → bc_W d L y (pc + 3) ls st μ Q) : bc_W d L y pc ls (.int z :: .int x :: st) μ Q := by
  intro p l e s m args below meth c X C H locs sl hP hS hl
  exact lv_icmp_lt C.1 C.2.1 hd ht (fun h9 => kt h9 p l e s m args below meth c X C H locs sl hP hS hl) (fun h9 => kf h9 p l e s m args below meth c X C H locs sl hP hS hl)
theorem bc_icmp_ge {x z : Int32} {off : Int} {tgt : Nat} (hd : decode y.2.1 pc = .ok (.if_icmp .ge off, 3)) (ht : (pc : Int) + off = (tgt : Int)) (kt : z ≤ x → bc_W d L y tgt ls st μ Q) (kf : ¬ z ≤ x → bc_W d L y (pc + 3) ls st μ Q) : bc_W d L y pc ls (.int z :: .int x :: st) μ Q := by
  intro p l e s m args below meth c X C H locs sl hP hS hl
  exact lv_icmp_ge C.1 C.2.1 hd ht (fun h9 => kt h9 p l e s m args below meth c X C H locs sl hP hS hl) (fun h9 => kf h9 p l e s m args below meth c X C H locs sl hP hS hl)
theorem bc_icmp_gt {x z : Int32} {off : Int} {tgt : Nat} (hd : decode y.2.1 pc = .ok (.if_icmp .gt off, 3)) (ht : (pc : Int) + off = (tgt : Int)) (kt : z < x → bc_W d L y tgt ls st μ Q) (kf : ¬ z < x → bc_W d L y (pc + 3) ls st μ Q) : bc_W d L y pc ls (.int z :: .int x :: st) μ Q := by
  intro p l e s m args below meth c X C H locs sl hP hS hl
  exact lv_icmp_gt C.1 C.2.1 hd ht (fun h9 => kt h9 p l e s m args below meth c X C H locs sl hP hS hl) (fun h9 => kf h9 p l e s m args below meth c X C H locs sl hP hS hl)
theorem bc_icmp_le {x z : Int32} {off : Int} {tgt : Nat} (hd : decode y.2.1 pc = .ok (.if_icmp .le off, 3)) (ht : (pc : Int) + off = (tgt : Int)) (kt : x ≤ z → bc_W d L y tgt ls st μ Q) (kf : ¬ x ≤ z → bc_W d L y (pc + 3) ls st μ Q) : bc_W d L y pc ls (.int z :: .int x :: st) μ Q := by
  intro p l e s m args below meth c X C H locs sl hP hS hl
  exact lv_icmp_le C.1 C.2.1 hd ht (fun h9 => kt h9 p l e s m args below meth c X C H locs sl hP hS hl) (fun h9 => kf h9 p l e s m args below meth c X C H locs sl hP hS hl)
theorem bc_goto {off : Int} {tgt : Nat} (hd : decode y.2.1 pc = .ok (.goto off, 3)) (ht : (pc : Int) + off = (tgt : Int)) (k : bc_W d L y tgt ls st μ Q) : bc_W d L y pc ls st μ Q := by
  intro p l e s m args below meth c X C H locs sl hP hS hl
  exact lv_goto C.1 C.2.1 hd ht (k p l e s m args below meth c X C H locs sl hP hS hl)
theorem bc_lookup {dflt : Int} {ps : Array (Int × Int)} {len : Nat} {x : Int32} {off : Int} {tgt : Nat} (hd : decode y.2.1 pc = .ok (.lookupswitch dflt ps, len)) (hp : (ps.toList.zip (ps.toList.drop 1)).all (fun (a, next) => a.1 < next.1) = true) (ho : Op.lookupswitch.offset ps.toList dflt x.toInt = off) (ht : (pc : Int) + off = (tgt : Int)) (k : bc_W d L y tgt ls st μ Q) : bc_W d L y pc ls (.int x :: st) μ Q := by
  intro p l e s m args below meth c X C H locs sl hP hS hl
  exact lv_lookup C.1 C.2.1 hd hp ho ht (k p l e s m args below meth c X C H locs sl hP hS hl)
theorem bc_tableOut {dflt lo hi : Int} {offs : Array Int} {len : Nat} {x : Int32} {tgt : Nat} (hd : decode y.2.1 pc = .ok (.tableswitch dflt lo hi offs, len)) (h : x.toInt < lo ∨ hi < x.toInt) (ht : (pc : Int) + dflt = (tgt : Int)) (k : bc_W d L y tgt ls st μ Q) : bc_W d L y pc ls (.int x :: st) μ Q := by
  intro p l e s m args below meth c X C H locs sl hP hS hl
  exact lv_tableOut C.1 C.2.1 hd h ht (k p l e s m args below meth c X C H locs sl hP hS hl)
theorem bc_tableIn {dflt lo hi : Int} {offs : Array Int} {len : Nat} {x : Int32} {off : Int} {tgt : Nat} (hd : decode y.2.1 pc = .ok (.tableswitch dflt lo hi offs, len)) (h1 : ¬ x.toInt < lo) (h2 : ¬ hi < x.toInt) (ho : offs[(x.toInt - lo).toNat]? = some off) (ht : (pc : Int) + off = (tgt : Int)) (k : bc_W d L y tgt ls st μ Q) : bc_W d L y pc ls (.int x :: st) μ Q := by
  intro p l e s m args below meth c X C H locs sl hP hS hl
  exact lv_tableIn C.1 C.2.1 hd h1 h2 ho ht (k p l e s m args below meth c X C H locs sl hP hS hl)
theorem bc_ldc {i : Nat} {v : Int32} (hd : decode y.2.1 pc = .ok (.ldc i, 2)) (hw : Cond.constant y.1.cls i v ∈ bc_G) (k : bc_W d L y (pc + 2) ls (.int v :: st) μ Q) : bc_W d L y pc ls st μ Q := by
  intro p l e s m args below meth c X C H locs sl hP hS hl
  exact lv_ldc C.1 C.2.1 C.own (C.word hw) hd (k p l e s m args below meth c X C H locs sl hP hS hl)
theorem bc_ldc_w {i : Nat} {v : Int32} (hd : decode y.2.1 pc = .ok (.ldc_w i, 3)) (hw : Cond.constant y.1.cls i v ∈ bc_G) (k : bc_W d L y (pc + 3) ls (.int v :: st) μ Q) : bc_W d L y pc ls st μ Q := by
  intro p l e s m args below meth c X C H locs sl hP hS hl
  exact lv_ldcw C.1 C.2.1 C.own (C.word hw) hd (k p l e s m args below meth c X C H locs sl hP hS hl)
theorem bc_ldc2_w {i : Nat} {v : Int64} (hd : decode y.2.1 pc = .ok (.ldc2_w i, 3)) (hw : Cond.constantLong y.1.cls i v ∈ bc_G) (k : bc_W d L y (pc + 3) ls (.long v :: st) μ Q) : bc_W d L y pc ls st μ Q := by
  intro p l e s m args below meth c X C H locs sl hP hS hl
  exact lv_ldc2 C.1 C.2.1 C.own (C.word hw) hd (k p l e s m args below meth c X C H locs sl hP hS hl)
end BCS
