section BCT
variable {d : Nat} {L : bc_L} {y z : bc_Y} {pc : Nat} {ls st : List Value} {μ : bc_M} {Q : Option Value → bc_M → Prop}
theorem bc_H.St {p : Program} {s : State} {m : MethodId} {args : Array Value} {meth : Method} {c : Code} {X : bc_X} (C : bc_H L y p s m args meth c X) : bc_St X L s := C.K.2.2.2
theorem bc_ldcS {i k : Nat} {tx : String} (hd : decode y.2.1 pc = .ok (.ldc i, 2)) (hq : (y.1.cls, i, tx, k) ∈ bc_strs) (k9 : bc_W d L y (pc + 2) ls (.ref (1000 + k) :: st) μ Q) : bc_W d L y pc ls st μ Q := by
  intro p l e s m args below meth c X C H locs sl hP hS hl
  exact va_ldcS C.1 C.2.1 C.own (C.St.2.1 _ hq) hd (k9 p l e s m args below meth c X C H locs sl hP hS hl)
theorem bc_ldcSw {i k : Nat} {tx : String} (hd : decode y.2.1 pc = .ok (.ldc_w i, 3)) (hq : (y.1.cls, i, tx, k) ∈ bc_strs) (k9 : bc_W d L y (pc + 3) ls (.ref (1000 + k) :: st) μ Q) : bc_W d L y pc ls st μ Q := by
  intro p l e s m args below meth c X C H locs sl hP hS hl T hT X'
  obtain ⟨t, a1, b1⟩ := k9 p l e s m args below meth c X C H locs sl hP hS hl T hT X'
  have hZ := C.St.2.1 _ hq
  refine ⟨t, ?_, b1⟩
  obtain ⟨k1, cf, j, a', hk, hcf, hcp, -, hr, hev'⟩ := Cond.stringRef_spec C.own hZ.1
  have haa := hZ.2.symm.trans hev'
  cases haa
  obtain ⟨k', hk', he⟩ := X'.warmed.alike.2.2 _ _ hk
  have hr' : k'.resolved[i]? = some (some (.string (X.1 (1000 + k)))) := by
    rcases X'.warmed.entry hk hk' i with h | ⟨h, -⟩
    · rw [h]; exact hr
    · rw [hr] at h; cases h
  jvm_step X'.here [C.1, C.2.1, hd, ldc_w.wp_string (e := e) (s := T) (f := F0 m pc sl (st.map (bc_v X.1))) X'.here.top hk' (by rw [he]; exact hcf) hcp hr']
  exact a1
theorem bc_sval {i k : Nat} (hk : k < 24) (hd : decode y.2.1 pc = .ok (.getfield i, 3)) (hl0 : Cond.fieldLink y.1.cls i "java/lang/String" "value" "[B" ∈ bc_G) (k9 : bc_W d L y (pc + 3) ls (.ref (2000 + k) :: st) μ Q) : bc_W d L y pc ls (.ref (1000 + k) :: st) μ Q := by
  intro p l e s m args below meth c X C H locs sl hP hS hl
  exact vk_getf C.1 C.2.1 (C.St.1.1 k hk).2.2.1 hS C.own (C.word hl0) (fun _ h9 => h9) hd (k9 p l e s m args below meth c X C H locs sl hP hS hl)
theorem bc_scod {i k : Nat} (hk : k < 24) (hd : decode y.2.1 pc = .ok (.getfield i, 3)) (hl0 : Cond.fieldLink y.1.cls i "java/lang/String" "coder" "B" ∈ bc_G) (k9 : bc_W d L y (pc + 3) ls (.int 0 :: st) μ Q) : bc_W d L y pc ls (.ref (1000 + k) :: st) μ Q := by
  intro p l e s m args below meth c X C H locs sl hP hS hl
  exact vk_getf C.1 C.2.1 (C.St.1.1 k hk).2.1 hS C.own (C.word hl0) (fun _ h9 => h9) hd (k9 p l e s m args below meth c X C H locs sl hP hS hl)
theorem bc_slen {k : Nat} (hk : k < 24) (hd : decode y.2.1 pc = .ok (.arraylength, 1)) (k9 : bc_W d L y (pc + 1) ls (.int (nI (bc_len.getD k 0)) :: st) μ Q) : bc_W d L y pc ls (.ref (2000 + k) :: st) μ Q := by
  intro p l e s m args below meth c X C H locs sl hP hS hl
  exact va_tlen C.1 C.2.1 (C.St.1.1 k hk).2.2.2 hS rfl hd (k9 p l e s m args below meth c X C H locs sl hP hS hl)
theorem bc_sbal {k j : Nat} {i : Int32} (hk : k < 24) (hd : decode y.2.1 pc = .ok (.baload, 1)) (hi : i = nI j) (hj : j < bc_len.getD k 0 ∧ j < 1000) (k9 : bc_W d L y (pc + 1) ls (.int ((bc_byt.getD k []).getD j 0) :: st) μ Q) : bc_W d L y pc ls (.int i :: .ref (2000 + k) :: st) μ Q := by
  subst hi
  intro p l e s m args below meth c X C H locs sl hP hS hl
  have hb : (bc_len.getD k 0) < 2147483648 := (by decide +kernel : ∀ k, k < 24 → (bc_len.getD k 0) < 2147483648) k hk
  exact va_tb C.1 C.2.1 (C.St.1.1 k hk).2.2.2 hS (vp_in_nI hj.1 hb) (by rw [nI_clamp (by omega)]; rfl) hd (k9 p l e s m args below meth c X C H locs sl hP hS hl)
theorem bc_gst {i : Nat} (hd : decode y.2.1 pc = .ok (.getstatic i, 3)) (hl0 : Cond.fieldLink y.1.cls i "java/lang/String" "COMPACT_STRINGS" "Z" ∈ bc_G) (k9 : bc_W d L y (pc + 3) ls (.int 1 :: st) μ Q) : bc_W d L y pc ls st μ Q := by
  intro p l e s m args below meth c X C H locs sl hP hS hl
  exact va_gets C.1 C.2.1 C.St.2.2.1 hS C.own (C.word hl0) (fun _ h9 => h9) hd (k9 p l e s m args below meth c X C H locs sl hP hS hl)
theorem bc_gsF {i : Nat} (hd : decode y.2.1 pc = .ok (.getstatic i, 3)) (hl0 : Cond.fieldLink y.1.cls i "jdk/internal/util/Preconditions" "SIOOBE_FORMATTER" "Ljava/util/function/BiFunction;" ∈ bc_G) (k9 : ∀ v : Value, v = .null ∨ v = .ref 3000 → bc_W d L y (pc + 3) ls (v :: st) μ Q) : bc_W d L y pc ls st μ Q := by
  intro p l e s m args below meth c X C H locs sl hP hS hl
  rcases C.St.2.2.2 with h | h
  · exact va_gets C.1 C.2.1 h hS C.own (C.word hl0) (fun _ h9 => h9) hd (k9 .null (.inl rfl) p l e s m args below meth c X C H locs sl hP hS hl)
  · exact va_gets C.1 C.2.1 h hS C.own (C.word hl0) (fun _ h9 => h9) hd (k9 (.ref 3000) (.inr rfl) p l e s m args below meth c X C H locs sl hP hS hl)
theorem bc_i2c {x v : Int32} (hd : decode y.2.1 pc = .ok (.i2c, 1)) (hv : (x.toUInt32 % 65536).toInt32 = v) (k : bc_W d L y (pc + 1) ls (.int v :: st) μ Q) : bc_W d L y pc ls (.int x :: st) μ Q := by
  intro p l e s m args below meth c X C H locs sl hP hS hl
  exact lv_i2c C.1 C.2.1 hd hv (k p l e s m args below meth c X C H locs sl hP hS hl)
/-- invokevirtual on a String constant -/
theorem bc_callVS {n idx i : Nat} {as st0 : List Value} {Q' : Option Value → bc_M → Prop} (hi : i < 24) (hd : decode y.2.1 pc = .ok (.invokevirtual idx, 3)) (hl0 : Cond.methodLink y.1.cls idx z.1 ∈ bc_G) (hz : bc_V0 z n) (hc : z.1.cls = "java/lang/String") (hn : as.length = n) (hs : as.reverse ++ .ref (1000 + i) :: st = st0) (hw : (st.map fun v => v.category).sum ≤ 8)
    (hC : bc_C d L z (.ref (1000 + i) :: as) μ Q') (k : ∀ (r : Option Value) (μ' : bc_M), Q' r μ' → bc_W (d + 1) L y (pc + 3) ls (r.toList ++ st) μ' Q) : bc_W (d + 1) L y pc ls st0 μ Q := by
  intro p l e s m args below meth c X C H locs sl hP hS hl
  obtain ⟨z1, z2, z3, z4, z5, z6, z7, z8⟩ := hz
  have hrecv : ∃ cellB : Cell, H[X.1 (1000 + i)]? = some cellB ∧ cellB.vm.isStatics = false ∧ s.vm.findClass z.1.cls = some cellB.cls := by rw [hc]; exact vk_recv (adK := fun k => X.1 (1000 + k)) C.St.1 hi hS
  have hR := bc_rooms (d := d) z5
  have hb : CallB (bc_rm (d + 1)) s args y.1.cls idx z.1 z.2.1 z.2.2.1 z.2.2.2 (bc_wsy z) (bc_rm d) 0 0 n := callB_of n C.2.2.2.2.2.2.1 (bc_GG z4) rfl rfl rfl (C.word z3) (C.word hl0) ⟨z6, z7, z8⟩ hR
  have hr : va_Run p l e (bc_rm (d + 1)) s m args below meth c H locs 0 0 0 0 (F0 m pc sl (st0.map (bc_v X.1))) (st.map (bc_v X.1)) (bc_Post X L Q' (Value.ref (X.1 (1000 + i)) :: as.map (bc_v X.1)).toArray) (bc_A X L) :=
    va_runV (n := n) (As := as.map (bc_v X.1)) (rest := st.map (bc_v X.1)) ⟨C.1, C.2.1, C.2.2.2.1, C.own, C.2.2.2.2.2.2.1⟩ (hC l X) ⟨hb, C.word z1, C.word z2⟩ ⟨bc_blind, hrecv, bc_pre (as := .ref (1000 + i) :: as) C.K hP hS⟩ rfl (by rw [List.length_map]; exact hn) hl.1 (by rw [← hs]; simp [bc_v]) (by rw [← bc_catS (ad := X.1)] at hw; exact lv_room hw) hd ⟨Nat.zero_le _, Nat.zero_le _⟩
  refine bc_run hr hS (fun r μ' H1 locs1 hq hP1 hS1 => ?_)
  rw [bc_mapO]
  exact k r μ' hq p l e s m args below meth c X C H1 locs1 sl hP1 hS1 hl
end BCT
