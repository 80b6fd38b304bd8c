/-! BreadCity$Text begins, takes bytes; BreadCity$Lines and BreadCity$Law forget -/
section BEG
variable {d : Nat} {μ μ0 : bc_M} {n a k : Nat} {f q : Int32}
theorem tx_of {μ : bc_M} (h3 : μ 1 3 = nI a) (h4 : μ 1 4 = nI k) (h5 : μ 1 5 = f) (h6 : μ 1 6 = q) : μ = tx μ a k f q := by
  funext i j
  by_cases h : i = 1
  · subst h
    simp only [tx, bc_us, if_true]
    by_cases e3 : j = 3
    · subst e3; rw [if_pos rfl]; exact h3
    · rw [if_neg e3]
      by_cases e4 : j = 4
      · subst e4; rw [if_pos rfl]; exact h4
      · rw [if_neg e4]
        by_cases e5 : j = 5
        · subst e5; rw [if_pos rfl]; exact h5
        · rw [if_neg e5]
          by_cases e6 : j = 6
          · subst e6; rw [if_pos rfl]; exact h6
          · rw [if_neg e6]
  · rw [tx_i _ _ _ _ _ h]
theorem bu2 {μ : bc_M} {i j x y : Nat} {v : Int32} (h : ¬ (x = i ∧ y = j)) : bc_u μ i j v x y = μ x y := by
  by_cases e : x = i
  · subst e
    rw [bc_u_s]
    simp only [upd]
    rw [if_neg (fun z => h ⟨rfl, z⟩)]
  · rw [bc_u_i e]
theorem bu1 {μ : bc_M} {i j : Nat} {v : Int32} : bc_u μ i j v i j = v := by rw [bc_u_s]; simp [upd]
def bgT (μ : bc_M) (n : Nat) : bc_M := bc_u (bc_u μ 1 1 0) 1 2 (nI n)
theorem s_begin (hn : n ≤ 600) : bc_C (d + 1) LC mX7_begin [.ref 1, .int (nI n)] μ (fun r ν => r = none ∧ ν = tx (bgT μ n) (skp (μ 2) n 0) 0 0 (-1)) := by
  have e1 : (if (nI 600 : Int32) < nI n then nI 600 else nI n) = nI n := by rw [if_neg (nI_nlt hn (by omega))]
  have e2 : (if (0 : Int32) < nI n then nI n else 0) = nI n := by
    by_cases h : n = 0
    · subst h; rfl
    · rw [if_pos]; exact nI_lt (a := 0) (by omega) (by omega)
  refine bc_enter (by decide) (Nat.le_of_ble_eq_true rfl) rfl ?_
  refine bc_aload_n dX7_begin_0 rfl ?_
  refine bc_iconst (v := 0) dX7_begin_1 (by decide) ?_
  refine bc_put dX7_begin_2 fX7_19 ftX7 fpX7_1 rfl rfl (rfl) rfl ?_
  refine bc_aload_n dX7_begin_5 rfl ?_
  refine bc_iconst (v := 0) dX7_begin_6 (by decide) ?_
  refine bc_iload_n dX7_begin_7 rfl ?_
  refine bc_aload_n dX7_begin_8 rfl ?_
  refine bc_getr dX7_begin_9 fX7_9 (rfl) rfl ?_
  refine bc_len1 dX7_begin_12 (rfl) ?_
  refine bc_min dX7_begin_13 wX7_22 (Nat.le_of_ble_eq_true rfl) ?_
  rw [e1]
  refine bc_max dX7_begin_16 wX7_28 (Nat.le_of_ble_eq_true rfl) ?_
  rw [e2]
  refine bc_put dX7_begin_19 fX7_31 ftX7 fpX7_2 rfl rfl (rfl) rfl ?_
  refine bc_aload_n dX7_begin_22 rfl ?_
  refine bc_iconst (v := 0) dX7_begin_23 (by decide) ?_
  refine bc_put dX7_begin_24 fX7_34 ftX7 fpX7_3 rfl rfl (rfl) rfl ?_
  refine bc_aload_n dX7_begin_27 rfl ?_
  refine bc_iconst (v := 0) dX7_begin_28 (by decide) ?_
  refine bc_put dX7_begin_29 fX7_37 ftX7 fpX7_4 rfl rfl (rfl) rfl ?_
  refine bc_aload_n dX7_begin_32 rfl ?_
  refine bc_iconst (v := 0) dX7_begin_33 (by decide) ?_
  refine bc_put dX7_begin_34 fX7_40 ftX7 fpX7_5 rfl rfl (rfl) rfl ?_
  refine bc_aload_n dX7_begin_37 rfl ?_
  refine bc_iconst (v := (-1)) dX7_begin_38 (by decide) ?_
  refine bc_put dX7_begin_39 fX7_15 ftX7 fpX7_6 rfl rfl (rfl) rfl ?_
  have e9 := tx_of (a := 0) (k := 0) (f := 0) (q := -1) (μ := bc_u (bc_u (bc_u (bc_u (bgT μ n) 1 3 0) 1 4 0) 1 5 0) 1 6 (-1)) (by rw [bu2 (by omega), bu2 (by omega), bu2 (by omega), bu1]; rfl) (by rw [bu2 (by omega), bu2 (by omega), bu1]; rfl) (by rw [bu2 (by omega), bu1]) bu1
  have e8 : tx (bc_u (bc_u (bc_u (bc_u (bgT μ n) 1 3 0) 1 4 0) 1 5 0) 1 6 (-1)) 0 0 0 (-1) = tx (bgT μ n) 0 0 0 (-1) := by
    funext i j
    by_cases h : i = 1
    · subst h
      by_cases e : j = 3 ∨ j = 4 ∨ j = 5 ∨ j = 6
      · rcases e with e | e | e | e <;> subst e <;> simp [tx, bc_us]
      · simp only [tx, bc_us, if_true]
        rw [if_neg (by omega), if_neg (by omega), if_neg (by omega), if_neg (by omega), if_neg (by omega), if_neg (by omega), if_neg (by omega), if_neg (by omega), bu2 (by omega), bu2 (by omega), bu2 (by omega), bu2 (by omega)]
    · rw [tx_i _ _ _ _ _ h, tx_i _ _ _ _ _ h, bc_u_i h, bc_u_i h, bc_u_i h, bc_u_i h]
  rw [show bc_u (bc_u (bc_u (bc_u (bc_u (bc_u μ 1 1 0) 1 2 (nI n)) 1 3 0) 1 4 0) 1 5 0) 1 6 (-1) = tx (bgT μ n) 0 0 0 (-1) from e9.trans e8]
  refine bc_aload_n dX7_begin_42 rfl ?_
  refine bc_callV (z := mX7_passBlanks) (ci := 7) dX7_begin_43 lX7_43 qX7_passBlanks (by rfl) (by rfl) (by rfl) (by rfl) (Nat.le_of_ble_eq_true rfl) (s_pass hn (show bgT μ n 1 2 = nI n from bu1) (Nat.zero_le _)) (fun r43 μ43 e43 => ?_)
  obtain ⟨rfl, q43⟩ := e43
  obtain rfl := q43.symm
  exact bc_return dX7_begin_46 rfl (by
have e : bgT μ n 2 = μ 2 := by unfold bgT; rw [bc_u_i (by decide), bc_u_i (by decide)]
rw [e]
exact ⟨rfl, rfl⟩)
/-- the byte i of v -/
def byI (v : Int32) (i : Nat) : Int32 := (v >>> (nI (24 - 8 * i) &&& 31)).toInt8.toInt32
def apS (v : Int32) (k : Nat) (μ ν : bc_M) : Prop := (∀ i j, i ≠ 2 → ¬ (i = 1 ∧ j = 1) → ν i j = μ i j) ∧ ν 1 1 = nI (k + 4) ∧ (∀ j, j < k ∨ k + 4 ≤ j → ν 2 j = μ 2 j) ∧ ∀ i, i < 4 → ν 2 (k + i) = byI v i
theorem s_append (hk : μ 1 1 = nI k) (hk4 : k + 4 ≤ 600) (v : Int32) : bc_C d LC mX7_append [.ref 1, .int v] μ (fun r ν => r = none ∧ apS v k μ ν) := by
  refine bc_enter (by decide) (Nat.le_of_ble_eq_true rfl) rfl ?_
  have loop : ∀ (m i : Nat) (ν : bc_M), i + m = 4 → (∀ x j, x ≠ 2 → ¬ (x = 1 ∧ j = 1) → ν x j = μ x j) → ν 1 1 = nI (k + i) → (∀ j, j < k ∨ k + i ≤ j → ν 2 j = μ 2 j) → (∀ j, j < i → ν 2 (k + j) = byI v j) → bc_W d LC mX7_append 3 [.ref 1, .int v, .int (if i = 4 then -8 else nI (24 - 8 * i))] [] ν (fun r ν => r = none ∧ apS v k μ ν) := by
    intro m
    induction m with
    | zero =>
      intro i ν hi h1 h2 h3 g4
      have hi : i = 4 := by omega
      subst hi
      rw [if_pos rfl]
      refine bc_iload_n dX7_append_3 rfl ?_
      refine bc_if_lt (tgt := 55) dX7_append_4 (by decide) (fun h4 => ?_) (fun h4 => absurd h4 (fun x => x (by decide)))
      exact bc_return dX7_append_55 rfl (⟨rfl, h1, h2, h3, g4⟩)
    | succ m ih =>
      intro i ν hi h1 h2 h3 g4
      have hv : nI (24 - 8 * i) + Int32.ofInt (-8) = (if i + 1 = 4 then -8 else nI (24 - 8 * (i + 1))) := by
        have : i = 0 ∨ i = 1 ∨ i = 2 ∨ i = 3 := by omega
        rcases this with rfl | rfl | rfl | rfl <;> decide
      have hb : (v >>> (nI (24 - 8 * i) &&& 31)).toInt8.toInt32.toInt8.toInt32 = byI v i := by unfold byI; simp
      rw [if_neg (by omega)]
      refine bc_iload_n dX7_append_3 rfl ?_
      refine bc_if_lt (tgt := 55) dX7_append_4 (by decide) (fun h4 => absurd h4 (nI_pos (by omega))) (fun h4 => ?_)
      refine bc_aload_n dX7_append_7 rfl ?_
      refine bc_geti dX7_append_8 fX7_19 (rfl) rfl ?_
      refine bc_if_lt (tgt := 49) dX7_append_11 (by decide) (fun h11 => absurd h11 (by rw [h2]; exact nI_pos (by omega))) (fun h11 => ?_)
      refine bc_aload_n dX7_append_14 rfl ?_
      refine bc_geti dX7_append_15 fX7_19 (rfl) rfl ?_
      refine bc_aload_n dX7_append_18 rfl ?_
      refine bc_getr dX7_append_19 fX7_9 (rfl) rfl ?_
      refine bc_len1 dX7_append_22 (rfl) ?_
      refine bc_icmp_ge (tgt := 49) dX7_append_23 (by decide) (fun h23 => absurd h23 (by rw [h2]; exact nI_ge (by omega) (by omega))) (fun h23 => ?_)
      refine bc_aload_n dX7_append_26 rfl ?_
      refine bc_getr dX7_append_27 fX7_9 (rfl) rfl ?_
      refine bc_aload_n dX7_append_30 rfl ?_
      refine bc_geti dX7_append_31 fX7_19 (rfl) rfl ?_
      refine bc_iload_n dX7_append_34 rfl ?_
      refine bc_iload_n dX7_append_35 rfl ?_
      refine bc_ishr dX7_append_36 ?_
      refine bc_i2b dX7_append_37 rfl ?_
      refine bc_bastE dX7_append_38 (rfl) (h2) (by omega) ?_
      refine bc_aload_n dX7_append_39 rfl ?_
      refine bc_dup dX7_append_40 rfl ?_
      refine bc_geti dX7_append_41 fX7_19 (rfl) rfl ?_
      refine bc_iconst (v := 1) dX7_append_44 (by decide) ?_
      refine bc_iadd dX7_append_45 ?_
      refine bc_put dX7_append_46 fX7_19 ftX7 fpX7_1 rfl rfl (rfl) rfl ?_
      refine bc_iinc (v := (if i + 1 = 4 then -8 else nI (24 - 8 * (i + 1)))) dX7_append_49 rfl (hv) (by decide) rfl ?_
      refine bc_goto (tgt := 3) dX7_append_52 (by decide) ?_
      rw [hb, bu2 (by omega), h2, bn_add1]
      refine ih (i + 1) _ (by omega) (fun x j a b => ?_) bu1 (fun j hj => ?_) (fun j hj => ?_)
      · rw [bu2 b, bu2 (by omega)]; exact h1 x j a b
      · rw [bu2 (by omega), bu2 (by omega)]; exact h3 j (by omega)
      · rw [bu2 (by omega)]
        by_cases e : j = i
        · subst e; exact bu1
        · rw [bu2 (by omega)]; exact g4 j (by omega)
  have h0 := loop 4 0 μ (by omega) (fun _ _ _ _ => rfl) hk (fun _ _ => rfl) (fun j hj => absurd hj (Nat.not_lt_zero _))
  refine bc_bipush (v := 24) dX7_append_0 (by decide) ?_
  refine bc_istore_n dX7_append_2 (by decide) rfl ?_
  exact h0
theorem s_kAdopt : bc_C (d + 2) LC mX3_adopt [.ref 28] μ (fun r ν => r = none ∧ (∀ i j, i ≠ 29 → ¬ (i = 28 ∧ j = 1) → ν i j = μ i j) ∧ ν 28 1 = μ 28 3 ∧ ∀ h, h < 13 → ν 29 h = μ 30 h) := by
  refine bc_enter (by decide) (Nat.le_of_ble_eq_true rfl) rfl ?_
  refine bc_aload_n dX3_adopt_0 rfl ?_
  refine bc_getr dX3_adopt_1 fX3_15 (rfl) rfl ?_
  refine bc_aload_n dX3_adopt_4 rfl ?_
  refine bc_getr dX3_adopt_5 fX3_9 (rfl) rfl ?_
  refine bc_callSN (z := mX9_copyRow) dX3_adopt_8 lX3_31 qX9_copyRow (by rfl) (by rfl) (Nat.le_of_ble_eq_true rfl) (s_copyRow (d := d) (n := 13) (n' := 13) (by rfl) (by rfl) (by decide) (by decide)) (fun r8 μ8 e8 => ?_)
  obtain ⟨rfl, q8⟩ := e8
  obtain rfl := q8.symm
  refine bc_aload_n dX3_adopt_11 rfl ?_
  refine bc_aload_n dX3_adopt_12 rfl ?_
  refine bc_geti dX3_adopt_13 fX3_27 (rfl) rfl ?_
  refine bc_put dX3_adopt_16 fX3_35 ftX3 fpX3_1 rfl rfl (rfl) rfl ?_
  exact bc_return dX3_adopt_19 rfl (by
refine ⟨rfl, fun i j a b => ?_, ?_, fun h hh => ?_⟩
· rw [bu2 b]; simp [bc_us, a]
· rw [bu1]; simp [bc_us]
· rw [bu2 (by omega)]
  simp only [bc_us, if_true]
  rw [pk_cpy_in (by omega) (by omega)]
  simp)
theorem s_kForget : bc_C (d + 3) LC mX3_forget [.ref 28] μ (fun r ν => r = none ∧ (∀ i j, i ≠ 29 → i ≠ 30 → ¬ (i = 28 ∧ (j = 1 ∨ j = 3)) → ν i j = μ i j) ∧ ν 28 1 = 0 ∧ ∀ h, h < 13 → ν 29 h = -1) := by
  refine bc_enter (by decide) (Nat.le_of_ble_eq_true rfl) rfl ?_
  refine bc_aload_n dX3_forget_0 rfl ?_
  refine bc_callV (z := mX3_beginDraft) (ci := 3) dX3_forget_1 lX3_21 qX3_beginDraft (by rfl) (by rfl) (by rfl) (by rfl) (Nat.le_of_ble_eq_true rfl) (s_beginDraft) (fun r1 μ1 e1 => ?_)
  obtain ⟨rfl, e1, e2⟩ := e1
  refine bc_aload_n dX3_forget_4 rfl ?_
  refine bc_callV (z := mX3_adopt) (ci := 3) dX3_forget_5 lX3_24 qX3_adopt (by rfl) (by rfl) (by rfl) (by rfl) (Nat.le_of_ble_eq_true rfl) (s_kAdopt (d := d)) (fun r5 μ5 e5 => ?_)
  obtain ⟨rfl, e3, e4, e5⟩ := e5
  exact bc_return dX3_forget_8 rfl (by
refine ⟨rfl, fun i j a b c => ?_, by rw [e4, e2.1]; rfl, fun h hh => by rw [e5 h hh]; exact e2.2 h hh⟩
rw [e3 i j a (by omega)]
by_cases h : i = 28
· subst h; exact e1.2 j (by omega)
· rw [e1.1 i h b])
def fstL : List Nat := [1000, 1001, 1009, 10, 1010, 1004, 1008]
theorem s_becomeFirst : bc_C (d + 3) LC mX2_becomeFirst [.ref 19] μ (fun r ν => r = none ∧ (∀ i j, i ≠ 20 → i ≠ 21 → ¬ (i = 19 ∧ (j = 1 ∨ j = 3)) → ν i j = μ i j) ∧ ν 19 1 = nI 7 ∧ ∀ i x, fstL[i]? = some x → ν 20 i = nI x) := by
  refine bc_enter (by decide) (Nat.le_of_ble_eq_true rfl) rfl ?_
  refine bc_aload_n dX2_becomeFirst_0 rfl ?_
  refine bc_iconst (v := 0) dX2_becomeFirst_1 (by decide) ?_
  refine bc_put dX2_becomeFirst_2 fX2_27 ftX2 fpX2_3 rfl rfl (rfl) rfl ?_
  refine bc_aload_n dX2_becomeFirst_5 rfl ?_
  refine bc_sipush (v := 1000) dX2_becomeFirst_6 (by decide) ?_
  refine bc_callV (z := mX2_put) (ci := 2) dX2_becomeFirst_9 lX2_31 qX2_put (by rfl) (by rfl) (by rfl) (by rfl) (Nat.le_of_ble_eq_true rfl) (s_putN (d := d + 2) (k := 0) LC_w (by decide) bu1 _) (fun r9 μ9 e9 => ?_)
  obtain ⟨rfl, q9⟩ := e9
  obtain rfl := q9.symm
  refine bc_aload_n dX2_becomeFirst_12 rfl ?_
  refine bc_sipush (v := 1001) dX2_becomeFirst_13 (by decide) ?_
  refine bc_callV (z := mX2_put) (ci := 2) dX2_becomeFirst_16 lX2_31 qX2_put (by rfl) (by rfl) (by rfl) (by rfl) (Nat.le_of_ble_eq_true rfl) (s_putN (d := d + 2) (k := 1) LC_w (by decide) bu1 _) (fun r16 μ16 e16 => ?_)
  obtain ⟨rfl, q16⟩ := e16
  obtain rfl := q16.symm
  refine bc_aload_n dX2_becomeFirst_19 rfl ?_
  refine bc_sipush (v := 1009) dX2_becomeFirst_20 (by decide) ?_
  refine bc_callV (z := mX2_put) (ci := 2) dX2_becomeFirst_23 lX2_31 qX2_put (by rfl) (by rfl) (by rfl) (by rfl) (Nat.le_of_ble_eq_true rfl) (s_putN (d := d + 2) (k := 2) LC_w (by decide) bu1 _) (fun r23 μ23 e23 => ?_)
  obtain ⟨rfl, q23⟩ := e23
  obtain rfl := q23.symm
  refine bc_aload_n dX2_becomeFirst_26 rfl ?_
  refine bc_bipush (v := 10) dX2_becomeFirst_27 (by decide) ?_
  refine bc_callV (z := mX2_put) (ci := 2) dX2_becomeFirst_29 lX2_31 qX2_put (by rfl) (by rfl) (by rfl) (by rfl) (Nat.le_of_ble_eq_true rfl) (s_putN (d := d + 2) (k := 3) LC_w (by decide) bu1 _) (fun r29 μ29 e29 => ?_)
  obtain ⟨rfl, q29⟩ := e29
  obtain rfl := q29.symm
  refine bc_aload_n dX2_becomeFirst_32 rfl ?_
  refine bc_sipush (v := 1010) dX2_becomeFirst_33 (by decide) ?_
  refine bc_callV (z := mX2_put) (ci := 2) dX2_becomeFirst_36 lX2_31 qX2_put (by rfl) (by rfl) (by rfl) (by rfl) (Nat.le_of_ble_eq_true rfl) (s_putN (d := d + 2) (k := 4) LC_w (by decide) bu1 _) (fun r36 μ36 e36 => ?_)
  obtain ⟨rfl, q36⟩ := e36
  obtain rfl := q36.symm
  refine bc_aload_n dX2_becomeFirst_39 rfl ?_
  refine bc_sipush (v := 1004) dX2_becomeFirst_40 (by decide) ?_
  refine bc_callV (z := mX2_put) (ci := 2) dX2_becomeFirst_43 lX2_31 qX2_put (by rfl) (by rfl) (by rfl) (by rfl) (Nat.le_of_ble_eq_true rfl) (s_putN (d := d + 2) (k := 5) LC_w (by decide) bu1 _) (fun r43 μ43 e43 => ?_)
  obtain ⟨rfl, q43⟩ := e43
  obtain rfl := q43.symm
  refine bc_aload_n dX2_becomeFirst_46 rfl ?_
  refine bc_sipush (v := 1008) dX2_becomeFirst_47 (by decide) ?_
  refine bc_callV (z := mX2_put) (ci := 2) dX2_becomeFirst_50 lX2_31 qX2_put (by rfl) (by rfl) (by rfl) (by rfl) (Nat.le_of_ble_eq_true rfl) (s_putN (d := d + 2) (k := 6) LC_w (by decide) bu1 _) (fun r50 μ50 e50 => ?_)
  obtain ⟨rfl, q50⟩ := e50
  obtain rfl := q50.symm
  refine bc_aload_n dX2_becomeFirst_53 rfl ?_
  refine bc_callV (z := mX2_adopt) (ci := 2) dX2_becomeFirst_54 lX2_35 qX2_adopt (by rfl) (by rfl) (by rfl) (by rfl) (Nat.le_of_ble_eq_true rfl) (s_adopt (d := d) LC_w) (fun r54 μ54 e54 => ?_)
  obtain ⟨rfl, q54⟩ := e54
  obtain rfl := q54.symm
  exact bc_return dX2_becomeFirst_57 rfl (by
refine ⟨rfl, fun i j a b c => ?_, ?_, fun i x hx => ?_⟩
· rw [bu2 (by omega)]
  simp only [bc_us]
  rw [if_neg (by omega)]
  iterate 15 rw [bu2 (by omega)]
· rw [bu1, bu1]
· rw [bu2 (by omega)]
  simp only [bc_us, if_true]
  have hi : i < 7 := (List.getElem?_eq_some_iff.mp hx).1
  rw [pk_cpy_in (by omega) (by omega)]
  have : i = 0 ∨ i = 1 ∨ i = 2 ∨ i = 3 ∨ i = 4 ∨ i = 5 ∨ i = 6 := by omega
  rcases this with rfl | rfl | rfl | rfl | rfl | rfl | rfl <;> (simp [fstL] at hx; subst hx; simp [bc_u, upd]; rfl))
end BEG
