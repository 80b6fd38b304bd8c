/-! sacks; calls that take a text -/
section T92
variable {d : Nat} {μ : bc_M}
theorem bx_room2 {st : List Value} (hw : (st.map fun v => v.category).sum ≤ 8) (X : bc_X) (n : Nat) (hn : n ≤ 56) : ((st.map (bc_v X.1)).map fun v => v.category).sum + n ≤ (bc_rmX (d + 1)).locals := by
  rw [bc_catS]
  show _ ≤ 64 * (d + 1)
  omega
theorem bx_min {L : bc_L} {y : bc_Y} {pc : Nat} {ls st : List Value} {ν : bc_M} {E : String} {idx : Nat} {x z : Int32} (hd : decode y.2.1 pc = .ok (.invokestatic idx, 3)) (hm : bc_Mth y.1.cls idx Lib.Math.min.name Lib.Math.min.code 2) (hw : (st.map fun v => v.category).sum ≤ 8) (k : bc_WX (d + 1) L y (pc + 3) ls (.int (if z < x then z else x) :: st) μ E ν) : bc_WX (d + 1) L y pc ls (.int z :: .int x :: st) μ E ν := by
  intro p l e s m args below meth c X C H locs sl hP hS hl
  exact va_mmin C.1.1 C.1.2.1 (C.1.2.2.2.1.trans hl.1.symm) C.1.own (C.1.word hm.1) (C.1.word hm.2.1) (C.1.word hm.2.2.1) (C.1.word hm.2.2.2) (Nat.le_add_left 1 d) (bx_room2 hw X 13 (by omega)) (Nat.zero_le _) (Nat.zero_le _) hd (k p l e s m args below meth c X C H locs sl hP hS hl)
theorem x_needX {v b : Int32} (g : ¬ (0 ≤ v ∧ v ≤ μ 1 1 ∧ v ≤ b)) : bc_CX (d + 7) LC mX9_needText [.ref 0, .int v, .int b] μ eIA (rfC μ 1) := by
  refine bx_enter (by decide) (Nat.le_of_ble_eq_true rfl) rfl ?_
  refine bx_aload_n dX9_needText_0 rfl ?_
  refine bx_iload_n dX9_needText_1 rfl ?_
  refine bx_iconst (v := 0) dX9_needText_2 (by decide) ?_
  refine bx_aload_n dX9_needText_3 rfl ?_
  refine bx_getr dX9_needText_4 fX9_10 (rfl) rfl ?_
  refine bx_geti dX9_needText_7 fX9_84 (rfl) rfl ?_
  refine bx_iload_n dX9_needText_10 rfl ?_
  refine bx_min dX9_needText_11 wX9_333 (Nat.le_of_ble_eq_true rfl) ?_
  refine bx_callX (z := mX9_needWithin) (ci := 9) dX9_needText_14 lX9_172 qX9_needWithin (by rfl) (by rfl) (by rfl) (by rfl) (Nat.le_of_ble_eq_true rfl) (x_needW (Classical.byContradiction (fun n => g ?_)))
  have h0 : 0 ≤ v := Int32.not_lt.mp (fun y => n (.inl y))
  have h1 : v ≤ (if b < μ 1 1 then b else μ 1 1) := Classical.byContradiction (fun y => n (.inr y))
  by_cases q : b < μ 1 1
  · rw [if_pos q] at h1
    exact ⟨h0, Int32.le_trans h1 (Int32.le_of_lt q), h1⟩
  · rw [if_neg q] at h1
    exact ⟨h0, h1, Int32.le_trans h1 (Int32.not_lt.mp q)⟩
theorem x_bog {a1 : Int32} (g : ¬ (0 ≤ a1 ∧ a1 ≤ μ 1 1 ∧ a1 ≤ 600)) : bc_CX (d + 8) LC mX9_bog [.ref 0, .int a1] μ eIA (rfC μ 1) := by
  refine bx_enter (by decide) (Nat.le_of_ble_eq_true rfl) rfl ?_
  refine bx_aload_n dX9_bog_0 rfl ?_
  refine bx_iload_n dX9_bog_1 rfl ?_
  refine bx_sipush (v := 600) dX9_bog_2 (by decide) ?_
  exact bx_callX (z := mX9_needText) (ci := 9) dX9_bog_5 lX9_92 qX9_needText (by rfl) (by rfl) (by rfl) (by rfl) (Nat.le_of_ble_eq_true rfl) (x_needX g)
theorem x_law {a1 : Int32} (g : ¬ (0 ≤ a1 ∧ a1 ≤ μ 1 1 ∧ a1 ≤ 150)) : bc_CX (d + 8) LC mX9_law [.ref 0, .int a1] μ eIA (rfC μ 1) := by
  refine bx_enter (by decide) (Nat.le_of_ble_eq_true rfl) rfl ?_
  refine bx_aload_n dX9_law_0 rfl ?_
  refine bx_iload_n dX9_law_1 rfl ?_
  refine bx_sipush (v := 150) dX9_law_2 (by decide) ?_
  exact bx_callX (z := mX9_needText) (ci := 9) dX9_law_5 lX9_92 qX9_needText (by rfl) (by rfl) (by rfl) (by rfl) (Nat.le_of_ble_eq_true rfl) (x_needX g)
theorem x_work {a1 : Int32} (g : ¬ (0 ≤ a1 ∧ a1 ≤ μ 1 1 ∧ a1 ≤ 150)) : bc_CX (d + 8) LC mX9_work [.ref 0, .int a1] μ eIA (rfC μ 1) := by
  refine bx_enter (by decide) (Nat.le_of_ble_eq_true rfl) rfl ?_
  refine bx_aload_n dX9_work_0 rfl ?_
  refine bx_iload_n dX9_work_1 rfl ?_
  refine bx_sipush (v := 150) dX9_work_2 (by decide) ?_
  exact bx_callX (z := mX9_needText) (ci := 9) dX9_work_5 lX9_92 qX9_needText (by rfl) (by rfl) (by rfl) (by rfl) (Nat.le_of_ble_eq_true rfl) (x_needX g)
theorem x_book {a1 : Int32} (g : ¬ (0 ≤ a1 ∧ a1 ≤ μ 1 1 ∧ a1 ≤ 60)) : bc_CX (d + 8) LC mX9_book [.ref 0, .int a1] μ eIA (rfC μ 1) := by
  refine bx_enter (by decide) (Nat.le_of_ble_eq_true rfl) rfl ?_
  refine bx_aload_n dX9_book_0 rfl ?_
  refine bx_iload_n dX9_book_1 rfl ?_
  refine bx_bipush (v := 60) dX9_book_2 (by decide) ?_
  exact bx_callX (z := mX9_needText) (ci := 9) dX9_book_4 lX9_92 qX9_needText (by rfl) (by rfl) (by rfl) (by rfl) (Nat.le_of_ble_eq_true rfl) (x_needX g)
theorem x_sacksT {a1 a2 a3 : Int32} (g : ¬ (0 ≤ a1 ∧ a1 < μ 3 0)) : bc_CX (d + 7) LC mX9_sacks [.ref 0, .int a1, .int a2, .int a3] μ eNS (rfC μ 0) := by
  refine bx_enter (by decide) (Nat.le_of_ble_eq_true rfl) rfl ?_
  refine bx_aload_n dX9_sacks_0 rfl ?_
  refine bx_iload_n dX9_sacks_1 rfl ?_
  refine bx_aload_n dX9_sacks_2 rfl ?_
  refine bx_getr dX9_sacks_3 fX9_19 (rfl) rfl ?_
  refine bx_geti dX9_sacks_6 fX9_176 (rfl) rfl ?_
  exact bx_callX (z := mX9_needThere) (ci := 9) dX9_sacks_9 lX9_204 qX9_needThere (by rfl) (by rfl) (by rfl) (by rfl) (Nat.le_of_ble_eq_true rfl) (x_needT (Classical.byContradiction (fun n => g ⟨Int32.not_lt.mp (fun y => n (.inl y)), Classical.byContradiction (fun y => n (.inr y))⟩)))
theorem x_sacksW {a1 a2 a3 : Int32} (q0 : 0 ≤ a1 ∧ a1 < μ 3 0) (g : ¬ ((0 ≤ a2 ∧ a2 ≤ 1 <<< (μ 3 0 &&& 31) - 1) ∧ (0 ≤ a3 ∧ a3 ≤ 999))) : bc_CX (d + 7) LC mX9_sacks [.ref 0, .int a1, .int a2, .int a3] μ eIA (rfC μ 1) := by
  refine bx_enter (by decide) (Nat.le_of_ble_eq_true rfl) rfl ?_
  refine bx_aload_n dX9_sacks_0 rfl ?_
  refine bx_iload_n dX9_sacks_1 rfl ?_
  refine bx_aload_n dX9_sacks_2 rfl ?_
  refine bx_getr dX9_sacks_3 fX9_19 (rfl) rfl ?_
  refine bx_geti dX9_sacks_6 fX9_176 (rfl) rfl ?_
  refine bx_callV (z := mX9_needThere) (ci := 9) dX9_sacks_9 lX9_204 qX9_needThere (by rfl) (by rfl) (by rfl) (by rfl) (Nat.le_of_ble_eq_true rfl) (s_needT (Int32.not_lt.mpr q0.1) q0.2) (fun r9 μ9 e9 => ?_)
  obtain ⟨rfl, e9⟩ := e9
  obtain rfl := e9.symm
  refine bx_aload_n dX9_sacks_12 rfl ?_
  refine bx_iload_n dX9_sacks_13 rfl ?_
  refine bx_iconst (v := 0) dX9_sacks_14 (by decide) ?_
  refine bx_aload_n dX9_sacks_15 rfl ?_
  refine bx_getr dX9_sacks_16 fX9_19 (rfl) rfl ?_
  refine bx_callV (z := mX0_quarterSets) (ci := 0) dX9_sacks_19 lX9_326 qX0_quarterSets (by rfl) (by rfl) (by rfl) (by rfl) (Nat.le_of_ble_eq_true rfl) (s_quarterSets LC_b3) (fun r19 μ19 e19 => ?_)
  obtain ⟨rfl, e19⟩ := e19
  obtain rfl := e19.symm
  refine bx_iconst (v := 1) dX9_sacks_22 (by decide) ?_
  refine bx_isub dX9_sacks_23 ?_
  by_cases q1 : (0 ≤ a2 ∧ a2 ≤ 1 <<< (μ 3 0 &&& 31) - 1)
  rotate_left
  · exact bx_callX (z := mX9_needWithin) (ci := 9) dX9_sacks_24 lX9_172 qX9_needWithin (by rfl) (by rfl) (by rfl) (by rfl) (Nat.le_of_ble_eq_true rfl) (x_needW (Classical.byContradiction (fun n => q1 ⟨Int32.not_lt.mp (fun y => n (.inl y)), Classical.byContradiction (fun y => n (.inr y))⟩)))
  refine bx_callV (z := mX9_needWithin) (ci := 9) dX9_sacks_24 lX9_172 qX9_needWithin (by rfl) (by rfl) (by rfl) (by rfl) (Nat.le_of_ble_eq_true rfl) (s_needW (Int32.not_lt.mpr q1.1) q1.2) (fun r24 μ24 e24 => ?_)
  obtain ⟨rfl, e24⟩ := e24
  obtain rfl := e24.symm
  refine bx_aload_n dX9_sacks_27 rfl ?_
  refine bx_iload_n dX9_sacks_28 rfl ?_
  refine bx_iconst (v := 0) dX9_sacks_29 (by decide) ?_
  refine bx_sipush (v := 999) dX9_sacks_30 (by decide) ?_
  exact bx_callX (z := mX9_needWithin) (ci := 9) dX9_sacks_33 lX9_172 qX9_needWithin (by rfl) (by rfl) (by rfl) (by rfl) (Nat.le_of_ble_eq_true rfl) (x_needW (Classical.byContradiction (fun n => g ⟨q1, Int32.not_lt.mp (fun y => n (.inl y)), Classical.byContradiction (fun y => n (.inr y))⟩)))
end T92
