section BCE
variable {d : Nat} {L : bc_L} {y : bc_Y} {pc : Nat} {ls st : List Value} {μ : bc_M} {Q : Option Value → bc_M → Prop}
theorem bc_iinc1 {i : Nat} {x : Int32} (hd : decode y.2.1 pc = .ok (.iinc i 1, 3)) (hx : ls[i]? = some (.int x)) (h : i < y.2.2.1) (hc : bc_nc ls i = true) (k : bc_W d L y (pc + 3) (ls.set i (.int (x + 1))) st μ Q) : bc_W d L y pc ls st μ Q := bc_iinc hd hx rfl h hc k
theorem bc_ialdE {i n k : Nat} {rs : List (Option Nat)} {j : Int32} (hd : decode y.2.1 pc = .ok (.iaload, 1)) (ho : L[i]? = some (0, n, rs)) (hj : j = nI k) (hk : k < n ∧ n < 2147483648) (k9 : bc_W d L y (pc + 1) ls (.int (μ i k) :: st) μ Q) : bc_W d L y pc ls (.int j :: .ref i :: st) μ Q := by
  subst hj
  exact bc_iald hd ho (vp_in_nI hk.1 hk.2) (by rw [nI_clamp (by omega)]; exact k9)
theorem bc_baldE {i n k : Nat} {rs : List (Option Nat)} {j : Int32} (hd : decode y.2.1 pc = .ok (.baload, 1)) (ho : L[i]? = some (1, n, rs)) (hj : j = nI k) (hk : k < n ∧ n < 2147483648) (k9 : bc_W d L y (pc + 1) ls (.int (μ i k) :: st) μ Q) : bc_W d L y pc ls (.int j :: .ref i :: st) μ Q := by
  subst hj
  exact bc_bald hd ho (vp_in_nI hk.1 hk.2) (by rw [nI_clamp (by omega)]; exact k9)
theorem bc_zaldE {i n k : Nat} {rs : List (Option Nat)} {j : Int32} (hd : decode y.2.1 pc = .ok (.baload, 1)) (ho : L[i]? = some (2, n, rs)) (hj : j = nI k) (hk : k < n ∧ n < 2147483648) (k9 : bc_W d L y (pc + 1) ls (.int (μ i k) :: st) μ Q) : bc_W d L y pc ls (.int j :: .ref i :: st) μ Q := by
  subst hj
  exact bc_zald hd ho (vp_in_nI hk.1 hk.2) (by rw [nI_clamp (by omega)]; exact k9)
theorem bc_iastE {i n k : Nat} {rs : List (Option Nat)} {j v : Int32} (hd : decode y.2.1 pc = .ok (.iastore, 1)) (ho : L[i]? = some (0, n, rs)) (hj : j = nI k) (hk : k < n ∧ n < 2147483648) (k9 : bc_W d L y (pc + 1) ls st (bc_u μ i k v) Q) : bc_W d L y pc ls (.int v :: .int j :: .ref i :: st) μ Q := by
  subst hj
  exact bc_iast hd ho (vp_in_nI hk.1 hk.2) (by rw [nI_clamp (by omega)]; exact k9)
theorem bc_bastE {i n k : Nat} {rs : List (Option Nat)} {j v : Int32} (hd : decode y.2.1 pc = .ok (.bastore, 1)) (ho : L[i]? = some (1, n, rs)) (hj : j = nI k) (hk : k < n ∧ n < 2147483648) (k9 : bc_W d L y (pc + 1) ls st (bc_u μ i k v.toInt8.toInt32) Q) : bc_W d L y pc ls (.int v :: .int j :: .ref i :: st) μ Q := by
  subst hj
  exact bc_bast hd ho (vp_in_nI hk.1 hk.2) (by rw [nI_clamp (by omega), vp_nar_byte]; exact k9)
theorem bc_zastE {i n k : Nat} {rs : List (Option Nat)} {j v : Int32} (hd : decode y.2.1 pc = .ok (.bastore, 1)) (ho : L[i]? = some (2, n, rs)) (hj : j = nI k) (hk : k < n ∧ n < 2147483648) (k9 : bc_W d L y (pc + 1) ls st (bc_u μ i k (vp_nar .boolean v)) Q) : bc_W d L y pc ls (.int v :: .int j :: .ref i :: st) μ Q := by
  subst hj
  exact bc_zast hd ho (vp_in_nI hk.1 hk.2) (by rw [nI_clamp (by omega)]; exact k9)
theorem bc_aaldE {i n k z : Nat} {rs : List (Option Nat)} {j : Int32} (hd : decode y.2.1 pc = .ok (.aaload, 1)) (ho : L[i]? = some (4, n, rs)) (hj : j = nI k) (hk : k < n ∧ n < 2147483648) (hz : rs.getD k none = some z) (k9 : bc_W d L y (pc + 1) ls (.ref z :: st) μ Q) : bc_W d L y pc ls (.int j :: .ref i :: st) μ Q := by
  subst hj
  intro p l e s m args below meth c X C H locs sl hP hS hl
  have hin : vp_in (nI k) n := vp_in_nI hk.1 hk.2
  have hc : (nI k).toNatClampNeg = k := nI_clamp (by omega)
  have hP0 : H[X.1 i]? = some (vp_cell (X.2.2.1 4) (n, .inr (.inr (.inr (.inr (fun k => (rs.getD k none).map X.1)))))) := hP i _ (bc_at ho)
  refine W.aald (v := .ref (X.1 z)) (ty := .array .int) C.1 C.2.1 hP0 ((C.K.1.2 4 (X.2.2.1 4, .array .int) rfl).1 n (fun j => va_rf ((rs.getD j none).map X.1))) rfl (fun q => by cases q) (by show ¬ (nI k < 0 ∨ (arrV _ _ _).slots.size ≤ _); rw [arrV_size]; exact hin) (by show (arrV _ _ _).slots[_]? = _; rw [hc, arrV_read _ _ hk.1]; show some (va_rf (Option.map X.1 (rs.getD k none))) = _; rw [hz]; rfl) rfl rfl hd (k9 p l e s m args below meth c X C H locs sl hP hS hl)
/-- Math -/
def bc_Mth (own : String) (idx : Nat) (nm : MethodName) (cd : ByteArray) (n : Nat) : Prop := Cond.methodLink own idx nm ∈ bc_G ∧ Cond.static nm ∈ bc_G ∧ Cond.initialized "java/lang/Math" ∈ bc_G ∧ Cond.code nm cd n (some .int) ∈ bc_G
theorem bc_room2 (hw : (st.map fun v => v.category).sum ≤ 8) (X : bc_X) (n : Nat) (hn : n ≤ 56) : ((st.map (bc_v X.1)).map fun v => v.category).sum + n ≤ (bc_rm (d + 1)).locals := by
  rw [bc_catS]
  show _ ≤ 64 * (d + 1)
  omega
theorem bc_max {idx : Nat} {x z : Int32} (hd : decode y.2.1 pc = .ok (.invokestatic idx, 3)) (hm : bc_Mth y.1.cls idx Lib.Math.max.name Lib.Math.max.code 2) (hw : (st.map fun v => v.category).sum ≤ 8) (k : bc_W (d + 1) L y (pc + 3) ls (.int (if x < z then z else x) :: st) μ Q) : bc_W (d + 1) L y pc ls (.int z :: .int x :: st) μ Q := by
  intro p l e s m args below meth c X C H locs sl hP hS hl
  exact va_mmax C.1 C.2.1 (C.2.2.2.1.trans hl.1.symm) C.own (C.word hm.1) (C.word hm.2.1) (C.word hm.2.2.1) (C.word hm.2.2.2) (Nat.le_add_left 1 d) (bc_room2 hw X 13 (by omega)) (Nat.zero_le _) (Nat.zero_le _) hd (k p l e s m args below meth c X C H locs sl hP hS hl)
theorem bc_min {idx : Nat} {x z : Int32} (hd : decode y.2.1 pc = .ok (.invokestatic idx, 3)) (hm : bc_Mth y.1.cls idx Lib.Math.min.name Lib.Math.min.code 2) (hw : (st.map fun v => v.category).sum ≤ 8) (k : bc_W (d + 1) L y (pc + 3) ls (.int (if z < x then z else x) :: st) μ Q) : bc_W (d + 1) L y pc ls (.int z :: .int x :: st) μ Q := by
  intro p l e s m args below meth c X C H locs sl hP hS hl
  exact va_mmin C.1 C.2.1 (C.2.2.2.1.trans hl.1.symm) C.own (C.word hm.1) (C.word hm.2.1) (C.word hm.2.2.1) (C.word hm.2.2.2) (Nat.le_add_left 1 d) (bc_room2 hw X 13 (by omega)) (Nat.zero_le _) (Nat.zero_le _) hd (k p l e s m args below meth c X C H locs sl hP hS hl)
theorem bc_abs {idx : Nat} {x : Int32} (hd : decode y.2.1 pc = .ok (.invokestatic idx, 3)) (hm : bc_Mth y.1.cls idx Lib.Math.abs.name Lib.Math.abs.code 1) (hw : (st.map fun v => v.category).sum ≤ 8) (k : bc_W (d + 1) L y (pc + 3) ls (.int (if 0 ≤ x then x else 0 - x) :: st) μ Q) : bc_W (d + 1) L y pc ls (.int x :: st) μ Q := by
  intro p l e s m args below meth c X C H locs sl hP hS hl
  exact va_mabs C.1 C.2.1 (C.2.2.2.1.trans hl.1.symm) C.own (C.word hm.1) (C.word hm.2.1) (C.word hm.2.2.1) (C.word hm.2.2.2) (Nat.le_add_left 1 d) (bc_room2 hw X 13 (by omega)) (Nat.zero_le _) (Nat.zero_le _) hd (k p l e s m args below meth c X C H locs sl hP hS hl)
/-- System.arraycopy between two int arrays -/
def bc_Acp (own : String) (idx : Nat) : Prop := Cond.methodLink own idx arraycopyName ∈ bc_G ∧ Cond.native arraycopyName ∈ bc_G ∧ Cond.static arraycopyName ∈ bc_G ∧ Cond.initialized "java/lang/System" ∈ bc_G
theorem bc_acopy {idx i j n0 n1 a b n : Nat} {rs rs' : List (Option Nat)} {sp dp nn : Int32} (hd : decode y.2.1 pc = .ok (.invokestatic idx, 3)) (hm : bc_Acp y.1.cls idx) (ho : L[i]? = some (0, n0, rs)) (ho' : L[j]? = some (0, n1, rs')) (ha : sp = nI a) (hb : dp = nI b) (hn : nn = nI n) (h1 : a + n ≤ n0) (h2 : b + n ≤ n1) (h3 : n0 < 2147483648 ∧ n1 < 2147483648) (hw : (st.map fun v => v.category).sum ≤ 8) (k : bc_W (d + 1) L y (pc + 3) ls st (bc_us μ j (va_cpy (μ i) (μ j) a b n)) Q) : bc_W (d + 1) L y pc ls (.int nn :: .int dp :: .ref j :: .int sp :: .ref i :: st) μ Q := by
  subst ha; subst hb; subst hn
  intro p l e s m args below meth c X C H locs sl hP hS hl
  have ca : (nI a).toNatClampNeg = a := nI_clamp (by omega)
  have cb : (nI b).toNatClampNeg = b := nI_clamp (by omega)
  have cn : (nI n).toNatClampNeg = n := nI_clamp (by omega)
  refine va_copyi (D := X.2.1) C.1 C.2.1 (C.2.2.2.1.trans hl.1.symm) C.own (C.word hm.1) (C.word hm.2.1) (C.word hm.2.2.1) (C.word hm.2.2.2) C.K.1 hP (bc_Dof C.K.2.2.1) hS i j 0 0 (bc_at ho) (bc_at ho') rfl rfl rfl (nI_pos (by omega)) (nI_pos (by omega)) (nI_pos (by omega)) (by rw [ca, cn]; exact h1) (by rw [cb, cn]; exact h2) (fun _ _ => rfl) (Nat.le_add_left 1 d) (bc_room2 hw X _ (by decide)) hd (fun H1 locs1 hP1 _ hS1 => ?_)
  refine k p l e s m args below meth c X C H1 locs1 sl ?_ hS1 hl
  rw [ca, cb, cn] at hP1
  rw [← bc_set (μ := μ) (e' := .inl (X.2.2.1 0, n1, .inl (va_cpy (μ i) (μ j) a b n))) ho' (by rw [bc_us_at]; rfl) (fun j' hj => bc_us_ne μ _ hj)]
  exact hP1
end BCE
theorem bc_C.weaken {d : Nat} {L : bc_L} {y : bc_Y} {as : List Value} {μ : bc_M} {Q Q' : Option Value → bc_M → Prop} (h : bc_C d L y as μ Q) (hq : ∀ r ν, Q r ν → Q' r ν) : bc_C d L y as μ Q' := by
  intro l X
  have h1 := h l X
  intro p e a1 a2 a3 s m args below hf ha hP hK
  obtain ⟨n, o, g1, g2, g3, ⟨⟨⟨r, μ', e1, e2, e3⟩, e4⟩, e5⟩⟩ := h1 p e a1 a2 a3 s m args below hf ha hP hK
  exact ⟨n, o, g1, g2, g3, ⟨⟨r, μ', e1, hq _ _ e2, e3⟩, e4⟩, e5⟩
theorem bc_W.weaken {d : Nat} {L : bc_L} {y : bc_Y} {pc : Nat} {ls st : List Value} {μ : bc_M} {Q Q' : Option Value → bc_M → Prop} (hq : ∀ r ν, Q r ν → Q' r ν) (h : bc_W d L y pc ls st μ Q) : bc_W d L y pc ls st μ Q' := by
  intro p l e s m args below meth c X C H locs sl hP hS hl T hT X'
  obtain ⟨t, a1, o, b1, b2, ⟨⟨r, μ', e1, e2, e3⟩, e4⟩, b4⟩ := h p l e s m args below meth c X C H locs sl hP hS hl T hT X'
  exact ⟨t, a1, o, b1, b2, ⟨⟨r, μ', e1, hq _ _ e2, e3⟩, e4⟩, b4⟩
