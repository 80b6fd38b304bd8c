/-! Lines and Law by themselves: layouts of their own -/
section W3
variable {d : Nat} {μ : bc_M}
def LLn : bc_L := [(8, 0, [some 1, none, some 2, none]), (0, 13, []), (0, 13, [])]
def LLw : bc_L := [(7, 0, [some 1, none, some 2, none, some 3, some 4]), (0, 150, []), (0, 150, []), (0, 150, []), (0, 7, [])]
theorem LLw_w : bc_isW LLw 0 := ⟨rfl, rfl, rfl, rfl, rfl⟩
def fr0 (μ ν : bc_M) : Prop := (∀ i, i ≠ 0 → i ≠ 2 → ν i = μ i) ∧ ∀ j, j ≠ 3 → ν 0 j = μ 0 j
theorem u_beginDraft : bc_C d LLn mX3_beginDraft [.ref 0] μ (fun r ν => r = none ∧ fr0 μ ν ∧ ν 0 3 = 0 ∧ ∀ j, j < 13 → ν 2 j = -1) := by
  refine bc_enter (by decide) (Nat.le_of_ble_eq_true rfl) rfl ?_
  have loop : ∀ (m h : Nat) (ν : bc_M), h + m = 13 → fr0 μ ν → ν 0 3 = 0 → (∀ j, j < h → ν 2 j = -1) → bc_W d LLn mX3_beginDraft 7 [.ref 0, .int (nI h)] [] ν (fun r ν => r = none ∧ fr0 μ ν ∧ ν 0 3 = 0 ∧ ∀ j, j < 13 → ν 2 j = -1) := by
    intro m
    induction m with
    | zero =>
      intro h ν hh hf h3 hj
      have hh : h = 13 := by omega
      subst hh
      refine bc_iload_n dX3_beginDraft_7 rfl ?_
      refine bc_aload_n dX3_beginDraft_8 rfl ?_
      refine bc_getr dX3_beginDraft_9 fX3_15 (rfl) rfl ?_
      refine bc_len0 dX3_beginDraft_12 (rfl) ?_
      refine bc_icmp_ge (tgt := 29) dX3_beginDraft_13 (by decide) (fun h13 => ?_) (fun h13 => absurd h13 (fun x => x (Int32.le_refl _)))
      exact bc_return dX3_beginDraft_29 rfl (⟨rfl, hf, h3, hj⟩)
    | succ m ih =>
      intro h ν hh hf h3 hj
      refine bc_iload_n dX3_beginDraft_7 rfl ?_
      refine bc_aload_n dX3_beginDraft_8 rfl ?_
      refine bc_getr dX3_beginDraft_9 fX3_15 (rfl) rfl ?_
      refine bc_len0 dX3_beginDraft_12 (rfl) ?_
      refine bc_icmp_ge (tgt := 29) dX3_beginDraft_13 (by decide) (fun h13 => absurd h13 (by rw [bn_leN (by omega) (by omega)]; omega)) (fun h13 => ?_)
      refine bc_aload_n dX3_beginDraft_16 rfl ?_
      refine bc_getr dX3_beginDraft_17 fX3_15 (rfl) rfl ?_
      refine bc_iload_n dX3_beginDraft_20 rfl ?_
      refine bc_iconst (v := (-1)) dX3_beginDraft_21 (by decide) ?_
      refine bc_iastE dX3_beginDraft_22 (rfl) (rfl) (by omega) ?_
      refine bc_iinc1 dX3_beginDraft_23 rfl (by decide) rfl ?_
      refine bc_goto (tgt := 7) dX3_beginDraft_26 (by decide) ?_
      rw [bn_add1]
      refine ih (h + 1) _ (by omega) ⟨fun i x y => by rw [bc_u_i y]; exact hf.1 i x y, fun j y => by rw [bc_u_i (by decide)]; exact hf.2 j y⟩ (by rw [bc_u_i (by decide)]; exact h3) (fun j hj2 => ?_)
      rw [bc_u_s]
      simp only [upd]
      by_cases e : j = h
      · rw [if_pos e]
      · rw [if_neg e]; exact hj j (by omega)
  refine bc_aload_n dX3_beginDraft_0 rfl ?_
  refine bc_iconst (v := 0) dX3_beginDraft_1 (by decide) ?_
  refine bc_put dX3_beginDraft_2 fX3_27 ftX3 fpX3_3 rfl rfl (rfl) rfl ?_
  refine bc_iconst (v := 0) dX3_beginDraft_5 (by decide) ?_
  refine bc_istore_n dX3_beginDraft_6 (by decide) rfl ?_
  exact loop 13 0 _ (by omega) ⟨fun i x y => bc_u_i x, fun j y => by rw [bc_u_s]; simp only [upd, if_neg y]⟩ (by rw [bc_u_s]; simp [upd]) (fun j hj => absurd hj (Nat.not_lt_zero _))
theorem u_kAdopt : bc_C (d + 2) LLn mX3_adopt [.ref 0] μ (fun r ν => r = none ∧ (∀ i j, i ≠ 1 → ¬ (i = 0 ∧ j = 1) → ν i j = μ i j) ∧ ν 0 1 = μ 0 3 ∧ ∀ h, h < 13 → ν 1 h = μ 2 h) := by
  refine bc_enter (by decide) (Nat.le_of_ble_eq_true rfl) rfl ?_
  refine bc_aload_n dX3_adopt_0 rfl ?_
  refine bc_getr dX3_adopt_1 fX3_15 (rfl) rfl ?_
  refine bc_aload_n dX3_adopt_4 rfl ?_
  refine bc_getr dX3_adopt_5 fX3_9 (rfl) rfl ?_
  refine bc_callSN (z := mX9_copyRow) dX3_adopt_8 lX3_31 qX9_copyRow (by rfl) (by rfl) (Nat.le_of_ble_eq_true rfl) (s_copyRow (d := d) (n := 13) (n' := 13) (by rfl) (by rfl) (by decide) (by decide)) (fun r8 μ8 e8 => ?_)
  obtain ⟨rfl, q8⟩ := e8
  obtain rfl := q8.symm
  refine bc_aload_n dX3_adopt_11 rfl ?_
  refine bc_aload_n dX3_adopt_12 rfl ?_
  refine bc_geti dX3_adopt_13 fX3_27 (rfl) rfl ?_
  refine bc_put dX3_adopt_16 fX3_35 ftX3 fpX3_1 rfl rfl (rfl) rfl ?_
  exact bc_return dX3_adopt_19 rfl (by
refine ⟨rfl, fun i j a b => ?_, ?_, fun h hh => ?_⟩
· rw [bu2 b]; simp [bc_us, a]
· rw [bu1]; simp [bc_us]
· rw [bu2 (by omega)]
  simp only [bc_us, if_true]
  rw [pk_cpy_in (by omega) (by omega)]
  simp)
theorem u_kForget : bc_C (d + 3) LLn mX3_forget [.ref 0] μ (fun r ν => r = none ∧ ν 0 1 = 0 ∧ ∀ h, h < 13 → ν 1 h = -1) := by
  refine bc_enter (by decide) (Nat.le_of_ble_eq_true rfl) rfl ?_
  refine bc_aload_n dX3_forget_0 rfl ?_
  refine bc_callV (z := mX3_beginDraft) (ci := 3) dX3_forget_1 lX3_21 qX3_beginDraft (by rfl) (by rfl) (by rfl) (by rfl) (Nat.le_of_ble_eq_true rfl) (u_beginDraft) (fun r1 μ1 e1 => ?_)
  obtain ⟨rfl, e1, e2, e6⟩ := e1
  refine bc_aload_n dX3_forget_4 rfl ?_
  refine bc_callV (z := mX3_adopt) (ci := 3) dX3_forget_5 lX3_24 qX3_adopt (by rfl) (by rfl) (by rfl) (by rfl) (Nat.le_of_ble_eq_true rfl) (u_kAdopt (d := d)) (fun r5 μ5 e5 => ?_)
  obtain ⟨rfl, e3, e4, e5⟩ := e5
  exact bc_return dX3_forget_8 rfl (by
refine ⟨rfl, by rw [e4, e2], fun h hh => by rw [e5 h hh]; exact e6 h hh⟩)
theorem u_becomeFirst : bc_C (d + 3) LLw mX2_becomeFirst [.ref 0] μ (fun r ν => r = none ∧ ν 0 1 = nI 7 ∧ ∀ i x, fstL[i]? = some x → ν 1 i = nI x) := by
  refine bc_enter (by decide) (Nat.le_of_ble_eq_true rfl) rfl ?_
  refine bc_aload_n dX2_becomeFirst_0 rfl ?_
  refine bc_iconst (v := 0) dX2_becomeFirst_1 (by decide) ?_
  refine bc_put dX2_becomeFirst_2 fX2_27 ftX2 fpX2_3 rfl rfl (rfl) rfl ?_
  refine bc_aload_n dX2_becomeFirst_5 rfl ?_
  refine bc_sipush (v := 1000) dX2_becomeFirst_6 (by decide) ?_
  refine bc_callV (z := mX2_put) (ci := 2) dX2_becomeFirst_9 lX2_31 qX2_put (by rfl) (by rfl) (by rfl) (by rfl) (Nat.le_of_ble_eq_true rfl) (s_putN (d := d + 2) (k := 0) LLw_w (by decide) bu1 _) (fun r9 μ9 e9 => ?_)
  obtain ⟨rfl, q9⟩ := e9
  obtain rfl := q9.symm
  refine bc_aload_n dX2_becomeFirst_12 rfl ?_
  refine bc_sipush (v := 1001) dX2_becomeFirst_13 (by decide) ?_
  refine bc_callV (z := mX2_put) (ci := 2) dX2_becomeFirst_16 lX2_31 qX2_put (by rfl) (by rfl) (by rfl) (by rfl) (Nat.le_of_ble_eq_true rfl) (s_putN (d := d + 2) (k := 1) LLw_w (by decide) bu1 _) (fun r16 μ16 e16 => ?_)
  obtain ⟨rfl, q16⟩ := e16
  obtain rfl := q16.symm
  refine bc_aload_n dX2_becomeFirst_19 rfl ?_
  refine bc_sipush (v := 1009) dX2_becomeFirst_20 (by decide) ?_
  refine bc_callV (z := mX2_put) (ci := 2) dX2_becomeFirst_23 lX2_31 qX2_put (by rfl) (by rfl) (by rfl) (by rfl) (Nat.le_of_ble_eq_true rfl) (s_putN (d := d + 2) (k := 2) LLw_w (by decide) bu1 _) (fun r23 μ23 e23 => ?_)
  obtain ⟨rfl, q23⟩ := e23
  obtain rfl := q23.symm
  refine bc_aload_n dX2_becomeFirst_26 rfl ?_
  refine bc_bipush (v := 10) dX2_becomeFirst_27 (by decide) ?_
  refine bc_callV (z := mX2_put) (ci := 2) dX2_becomeFirst_29 lX2_31 qX2_put (by rfl) (by rfl) (by rfl) (by rfl) (Nat.le_of_ble_eq_true rfl) (s_putN (d := d + 2) (k := 3) LLw_w (by decide) bu1 _) (fun r29 μ29 e29 => ?_)
  obtain ⟨rfl, q29⟩ := e29
  obtain rfl := q29.symm
  refine bc_aload_n dX2_becomeFirst_32 rfl ?_
  refine bc_sipush (v := 1010) dX2_becomeFirst_33 (by decide) ?_
  refine bc_callV (z := mX2_put) (ci := 2) dX2_becomeFirst_36 lX2_31 qX2_put (by rfl) (by rfl) (by rfl) (by rfl) (Nat.le_of_ble_eq_true rfl) (s_putN (d := d + 2) (k := 4) LLw_w (by decide) bu1 _) (fun r36 μ36 e36 => ?_)
  obtain ⟨rfl, q36⟩ := e36
  obtain rfl := q36.symm
  refine bc_aload_n dX2_becomeFirst_39 rfl ?_
  refine bc_sipush (v := 1004) dX2_becomeFirst_40 (by decide) ?_
  refine bc_callV (z := mX2_put) (ci := 2) dX2_becomeFirst_43 lX2_31 qX2_put (by rfl) (by rfl) (by rfl) (by rfl) (Nat.le_of_ble_eq_true rfl) (s_putN (d := d + 2) (k := 5) LLw_w (by decide) bu1 _) (fun r43 μ43 e43 => ?_)
  obtain ⟨rfl, q43⟩ := e43
  obtain rfl := q43.symm
  refine bc_aload_n dX2_becomeFirst_46 rfl ?_
  refine bc_sipush (v := 1008) dX2_becomeFirst_47 (by decide) ?_
  refine bc_callV (z := mX2_put) (ci := 2) dX2_becomeFirst_50 lX2_31 qX2_put (by rfl) (by rfl) (by rfl) (by rfl) (Nat.le_of_ble_eq_true rfl) (s_putN (d := d + 2) (k := 6) LLw_w (by decide) bu1 _) (fun r50 μ50 e50 => ?_)
  obtain ⟨rfl, q50⟩ := e50
  obtain rfl := q50.symm
  refine bc_aload_n dX2_becomeFirst_53 rfl ?_
  refine bc_callV (z := mX2_adopt) (ci := 2) dX2_becomeFirst_54 lX2_35 qX2_adopt (by rfl) (by rfl) (by rfl) (by rfl) (Nat.le_of_ble_eq_true rfl) (s_adopt (d := d) LLw_w) (fun r54 μ54 e54 => ?_)
  obtain ⟨rfl, q54⟩ := e54
  obtain rfl := q54.symm
  exact bc_return dX2_becomeFirst_57 rfl (by
refine ⟨rfl, ?_, fun i x hx => ?_⟩
· rw [bu1, bu1]
· rw [bu2 (by omega)]
  simp only [bc_us, if_true]
  have hi : i < 7 := (List.getElem?_eq_some_iff.mp hx).1
  rw [pk_cpy_in (by omega) (by omega)]
  have : i = 0 ∨ i = 1 ∨ i = 2 ∨ i = 3 ∨ i = 4 ∨ i = 5 ∨ i = 6 := by omega
  rcases this with rfl | rfl | rfl | rfl | rfl | rfl | rfl <;> (simp [fstL] at hx; subst hx; simp [bc_u, upd]; rfl))
end W3
