/-! public methods of the class that refuse a call -/
section T91
variable {d : Nat} {μ : bc_M}
theorem x_told {a1 : Int32} (g : ¬ ((0 ≤ a1 ∧ a1 ≤ 11))) : bc_CX (d + 7) LC mX9_told [.ref 0, .int a1] μ eIA (rfC μ 1) := by
  refine bx_enter (by decide) (Nat.le_of_ble_eq_true rfl) rfl ?_
  refine bx_aload_n dX9_told_0 rfl ?_
  refine bx_iload_n dX9_told_1 rfl ?_
  refine bx_iconst (v := 0) dX9_told_2 (by decide) ?_
  refine bx_bipush (v := 11) dX9_told_3 (by decide) ?_
  by_cases q0 : (0 ≤ a1 ∧ a1 ≤ 11)
  rotate_left
  · exact bx_callX (z := mX9_needWithin) (ci := 9) dX9_told_5 lX9_172 qX9_needWithin (by rfl) (by rfl) (by rfl) (by rfl) (Nat.le_of_ble_eq_true rfl) (x_needW (Classical.byContradiction (fun n => q0 ⟨Int32.not_lt.mp (fun y => n (.inl y)), Classical.byContradiction (fun y => n (.inr y))⟩)))
  refine bx_callV (z := mX9_needWithin) (ci := 9) dX9_told_5 lX9_172 qX9_needWithin (by rfl) (by rfl) (by rfl) (by rfl) (Nat.le_of_ble_eq_true rfl) (s_needW (Int32.not_lt.mpr q0.1) q0.2) (fun r5 μ5 e5 => ?_)
  obtain ⟨rfl, e5⟩ := e5
  obtain rfl := e5.symm
  exact absurd q0 g
theorem x_quarterT {a1 a2 : Int32} (g : ¬ ((0 ≤ a1 ∧ a1 < μ 3 0))) : bc_CX (d + 7) LC mX9_quarter [.ref 0, .int a1, .int a2] μ eNS (rfC μ 0) := by
  refine bx_enter (by decide) (Nat.le_of_ble_eq_true rfl) rfl ?_
  refine bx_aload_n dX9_quarter_0 rfl ?_
  refine bx_iload_n dX9_quarter_1 rfl ?_
  refine bx_aload_n dX9_quarter_2 rfl ?_
  refine bx_getr dX9_quarter_3 fX9_19 (rfl) rfl ?_
  refine bx_geti dX9_quarter_6 fX9_176 (rfl) rfl ?_
  by_cases q0 : (0 ≤ a1 ∧ a1 < μ 3 0)
  rotate_left
  · exact bx_callX (z := mX9_needThere) (ci := 9) dX9_quarter_9 lX9_204 qX9_needThere (by rfl) (by rfl) (by rfl) (by rfl) (Nat.le_of_ble_eq_true rfl) (x_needT (Classical.byContradiction (fun n => q0 ⟨Int32.not_lt.mp (fun y => n (.inl y)), Classical.byContradiction (fun y => n (.inr y))⟩)))
  refine bx_callV (z := mX9_needThere) (ci := 9) dX9_quarter_9 lX9_204 qX9_needThere (by rfl) (by rfl) (by rfl) (by rfl) (Nat.le_of_ble_eq_true rfl) (s_needT (Int32.not_lt.mpr q0.1) q0.2) (fun r9 μ9 e9 => ?_)
  obtain ⟨rfl, e9⟩ := e9
  obtain rfl := e9.symm
  exact absurd q0 g
theorem x_quarterW {a1 a2 : Int32} (q0 : (0 ≤ a1 ∧ a1 < μ 3 0)) (g : ¬ ((0 ≤ a2 ∧ a2 ≤ 6))) : bc_CX (d + 7) LC mX9_quarter [.ref 0, .int a1, .int a2] μ eIA (rfC μ 1) := by
  refine bx_enter (by decide) (Nat.le_of_ble_eq_true rfl) rfl ?_
  refine bx_aload_n dX9_quarter_0 rfl ?_
  refine bx_iload_n dX9_quarter_1 rfl ?_
  refine bx_aload_n dX9_quarter_2 rfl ?_
  refine bx_getr dX9_quarter_3 fX9_19 (rfl) rfl ?_
  refine bx_geti dX9_quarter_6 fX9_176 (rfl) rfl ?_
  refine bx_callV (z := mX9_needThere) (ci := 9) dX9_quarter_9 lX9_204 qX9_needThere (by rfl) (by rfl) (by rfl) (by rfl) (Nat.le_of_ble_eq_true rfl) (s_needT (Int32.not_lt.mpr q0.1) q0.2) (fun r9 μ9 e9 => ?_)
  obtain ⟨rfl, e9⟩ := e9
  obtain rfl := e9.symm
  refine bx_aload_n dX9_quarter_12 rfl ?_
  refine bx_iload_n dX9_quarter_13 rfl ?_
  refine bx_iconst (v := 0) dX9_quarter_14 (by decide) ?_
  refine bx_bipush (v := 6) dX9_quarter_15 (by decide) ?_
  by_cases q1 : (0 ≤ a2 ∧ a2 ≤ 6)
  rotate_left
  · exact bx_callX (z := mX9_needWithin) (ci := 9) dX9_quarter_17 lX9_172 qX9_needWithin (by rfl) (by rfl) (by rfl) (by rfl) (Nat.le_of_ble_eq_true rfl) (x_needW (Classical.byContradiction (fun n => q1 ⟨Int32.not_lt.mp (fun y => n (.inl y)), Classical.byContradiction (fun y => n (.inr y))⟩)))
  refine bx_callV (z := mX9_needWithin) (ci := 9) dX9_quarter_17 lX9_172 qX9_needWithin (by rfl) (by rfl) (by rfl) (by rfl) (Nat.le_of_ble_eq_true rfl) (s_needW (Int32.not_lt.mpr q1.1) q1.2) (fun r17 μ17 e17 => ?_)
  obtain ⟨rfl, e17⟩ := e17
  obtain rfl := e17.symm
  exact absurd q1 g
theorem x_ovenT {a1 a2 : Int32} (g : ¬ ((0 ≤ a1 ∧ a1 < μ 3 1))) : bc_CX (d + 7) LC mX9_oven [.ref 0, .int a1, .int a2] μ eNS (rfC μ 0) := by
  refine bx_enter (by decide) (Nat.le_of_ble_eq_true rfl) rfl ?_
  refine bx_aload_n dX9_oven_0 rfl ?_
  refine bx_iload_n dX9_oven_1 rfl ?_
  refine bx_aload_n dX9_oven_2 rfl ?_
  refine bx_getr dX9_oven_3 fX9_19 (rfl) rfl ?_
  refine bx_geti dX9_oven_6 fX9_126 (rfl) rfl ?_
  by_cases q0 : (0 ≤ a1 ∧ a1 < μ 3 1)
  rotate_left
  · exact bx_callX (z := mX9_needThere) (ci := 9) dX9_oven_9 lX9_204 qX9_needThere (by rfl) (by rfl) (by rfl) (by rfl) (Nat.le_of_ble_eq_true rfl) (x_needT (Classical.byContradiction (fun n => q0 ⟨Int32.not_lt.mp (fun y => n (.inl y)), Classical.byContradiction (fun y => n (.inr y))⟩)))
  refine bx_callV (z := mX9_needThere) (ci := 9) dX9_oven_9 lX9_204 qX9_needThere (by rfl) (by rfl) (by rfl) (by rfl) (Nat.le_of_ble_eq_true rfl) (s_needT (Int32.not_lt.mpr q0.1) q0.2) (fun r9 μ9 e9 => ?_)
  obtain ⟨rfl, e9⟩ := e9
  obtain rfl := e9.symm
  exact absurd q0 g
theorem x_ovenW {a1 a2 : Int32} (q0 : (0 ≤ a1 ∧ a1 < μ 3 1)) (g : ¬ ((0 ≤ a2 ∧ a2 ≤ 3))) : bc_CX (d + 7) LC mX9_oven [.ref 0, .int a1, .int a2] μ eIA (rfC μ 1) := by
  refine bx_enter (by decide) (Nat.le_of_ble_eq_true rfl) rfl ?_
  refine bx_aload_n dX9_oven_0 rfl ?_
  refine bx_iload_n dX9_oven_1 rfl ?_
  refine bx_aload_n dX9_oven_2 rfl ?_
  refine bx_getr dX9_oven_3 fX9_19 (rfl) rfl ?_
  refine bx_geti dX9_oven_6 fX9_126 (rfl) rfl ?_
  refine bx_callV (z := mX9_needThere) (ci := 9) dX9_oven_9 lX9_204 qX9_needThere (by rfl) (by rfl) (by rfl) (by rfl) (Nat.le_of_ble_eq_true rfl) (s_needT (Int32.not_lt.mpr q0.1) q0.2) (fun r9 μ9 e9 => ?_)
  obtain ⟨rfl, e9⟩ := e9
  obtain rfl := e9.symm
  refine bx_aload_n dX9_oven_12 rfl ?_
  refine bx_iload_n dX9_oven_13 rfl ?_
  refine bx_iconst (v := 0) dX9_oven_14 (by decide) ?_
  refine bx_iconst (v := 3) dX9_oven_15 (by decide) ?_
  by_cases q1 : (0 ≤ a2 ∧ a2 ≤ 3)
  rotate_left
  · exact bx_callX (z := mX9_needWithin) (ci := 9) dX9_oven_16 lX9_172 qX9_needWithin (by rfl) (by rfl) (by rfl) (by rfl) (Nat.le_of_ble_eq_true rfl) (x_needW (Classical.byContradiction (fun n => q1 ⟨Int32.not_lt.mp (fun y => n (.inl y)), Classical.byContradiction (fun y => n (.inr y))⟩)))
  refine bx_callV (z := mX9_needWithin) (ci := 9) dX9_oven_16 lX9_172 qX9_needWithin (by rfl) (by rfl) (by rfl) (by rfl) (Nat.le_of_ble_eq_true rfl) (s_needW (Int32.not_lt.mpr q1.1) q1.2) (fun r16 μ16 e16 => ?_)
  obtain ⟨rfl, e16⟩ := e16
  obtain rfl := e16.symm
  exact absurd q1 g
theorem x_mooringT {a1 a2 : Int32} (g : ¬ ((0 ≤ a1 ∧ a1 < μ 3 3))) : bc_CX (d + 7) LC mX9_mooring [.ref 0, .int a1, .int a2] μ eNS (rfC μ 0) := by
  refine bx_enter (by decide) (Nat.le_of_ble_eq_true rfl) rfl ?_
  refine bx_aload_n dX9_mooring_0 rfl ?_
  refine bx_iload_n dX9_mooring_1 rfl ?_
  refine bx_aload_n dX9_mooring_2 rfl ?_
  refine bx_getr dX9_mooring_3 fX9_19 (rfl) rfl ?_
  refine bx_geti dX9_mooring_6 fX9_182 (rfl) rfl ?_
  by_cases q0 : (0 ≤ a1 ∧ a1 < μ 3 3)
  rotate_left
  · exact bx_callX (z := mX9_needThere) (ci := 9) dX9_mooring_9 lX9_204 qX9_needThere (by rfl) (by rfl) (by rfl) (by rfl) (Nat.le_of_ble_eq_true rfl) (x_needT (Classical.byContradiction (fun n => q0 ⟨Int32.not_lt.mp (fun y => n (.inl y)), Classical.byContradiction (fun y => n (.inr y))⟩)))
  refine bx_callV (z := mX9_needThere) (ci := 9) dX9_mooring_9 lX9_204 qX9_needThere (by rfl) (by rfl) (by rfl) (by rfl) (Nat.le_of_ble_eq_true rfl) (s_needT (Int32.not_lt.mpr q0.1) q0.2) (fun r9 μ9 e9 => ?_)
  obtain ⟨rfl, e9⟩ := e9
  obtain rfl := e9.symm
  exact absurd q0 g
theorem x_mooringW {a1 a2 : Int32} (q0 : (0 ≤ a1 ∧ a1 < μ 3 3)) (g : ¬ ((0 ≤ a2 ∧ a2 ≤ 2))) : bc_CX (d + 7) LC mX9_mooring [.ref 0, .int a1, .int a2] μ eIA (rfC μ 1) := by
  refine bx_enter (by decide) (Nat.le_of_ble_eq_true rfl) rfl ?_
  refine bx_aload_n dX9_mooring_0 rfl ?_
  refine bx_iload_n dX9_mooring_1 rfl ?_
  refine bx_aload_n dX9_mooring_2 rfl ?_
  refine bx_getr dX9_mooring_3 fX9_19 (rfl) rfl ?_
  refine bx_geti dX9_mooring_6 fX9_182 (rfl) rfl ?_
  refine bx_callV (z := mX9_needThere) (ci := 9) dX9_mooring_9 lX9_204 qX9_needThere (by rfl) (by rfl) (by rfl) (by rfl) (Nat.le_of_ble_eq_true rfl) (s_needT (Int32.not_lt.mpr q0.1) q0.2) (fun r9 μ9 e9 => ?_)
  obtain ⟨rfl, e9⟩ := e9
  obtain rfl := e9.symm
  refine bx_aload_n dX9_mooring_12 rfl ?_
  refine bx_iload_n dX9_mooring_13 rfl ?_
  refine bx_iconst (v := 0) dX9_mooring_14 (by decide) ?_
  refine bx_iconst (v := 2) dX9_mooring_15 (by decide) ?_
  by_cases q1 : (0 ≤ a2 ∧ a2 ≤ 2)
  rotate_left
  · exact bx_callX (z := mX9_needWithin) (ci := 9) dX9_mooring_16 lX9_172 qX9_needWithin (by rfl) (by rfl) (by rfl) (by rfl) (Nat.le_of_ble_eq_true rfl) (x_needW (Classical.byContradiction (fun n => q1 ⟨Int32.not_lt.mp (fun y => n (.inl y)), Classical.byContradiction (fun y => n (.inr y))⟩)))
  refine bx_callV (z := mX9_needWithin) (ci := 9) dX9_mooring_16 lX9_172 qX9_needWithin (by rfl) (by rfl) (by rfl) (by rfl) (Nat.le_of_ble_eq_true rfl) (s_needW (Int32.not_lt.mpr q1.1) q1.2) (fun r16 μ16 e16 => ?_)
  obtain ⟨rfl, e16⟩ := e16
  obtain rfl := e16.symm
  exact absurd q1 g
theorem x_reed {a1 a2 : Int32} (g : ¬ ((0 ≤ a1 ∧ a1 ≤ 30) ∧ (0 ≤ a2 ∧ a2 ≤ 30))) : bc_CX (d + 7) LC mX9_reed [.ref 0, .int a1, .int a2] μ eIA (rfC μ 1) := by
  refine bx_enter (by decide) (Nat.le_of_ble_eq_true rfl) rfl ?_
  refine bx_aload_n dX9_reed_0 rfl ?_
  refine bx_iload_n dX9_reed_1 rfl ?_
  refine bx_iconst (v := 0) dX9_reed_2 (by decide) ?_
  refine bx_bipush (v := 30) dX9_reed_3 (by decide) ?_
  by_cases q0 : (0 ≤ a1 ∧ a1 ≤ 30)
  rotate_left
  · exact bx_callX (z := mX9_needWithin) (ci := 9) dX9_reed_5 lX9_172 qX9_needWithin (by rfl) (by rfl) (by rfl) (by rfl) (Nat.le_of_ble_eq_true rfl) (x_needW (Classical.byContradiction (fun n => q0 ⟨Int32.not_lt.mp (fun y => n (.inl y)), Classical.byContradiction (fun y => n (.inr y))⟩)))
  refine bx_callV (z := mX9_needWithin) (ci := 9) dX9_reed_5 lX9_172 qX9_needWithin (by rfl) (by rfl) (by rfl) (by rfl) (Nat.le_of_ble_eq_true rfl) (s_needW (Int32.not_lt.mpr q0.1) q0.2) (fun r5 μ5 e5 => ?_)
  obtain ⟨rfl, e5⟩ := e5
  obtain rfl := e5.symm
  refine bx_aload_n dX9_reed_8 rfl ?_
  refine bx_iload_n dX9_reed_9 rfl ?_
  refine bx_iconst (v := 0) dX9_reed_10 (by decide) ?_
  refine bx_bipush (v := 30) dX9_reed_11 (by decide) ?_
  by_cases q1 : (0 ≤ a2 ∧ a2 ≤ 30)
  rotate_left
  · exact bx_callX (z := mX9_needWithin) (ci := 9) dX9_reed_13 lX9_172 qX9_needWithin (by rfl) (by rfl) (by rfl) (by rfl) (Nat.le_of_ble_eq_true rfl) (x_needW (Classical.byContradiction (fun n => q1 ⟨Int32.not_lt.mp (fun y => n (.inl y)), Classical.byContradiction (fun y => n (.inr y))⟩)))
  refine bx_callV (z := mX9_needWithin) (ci := 9) dX9_reed_13 lX9_172 qX9_needWithin (by rfl) (by rfl) (by rfl) (by rfl) (Nat.le_of_ble_eq_true rfl) (s_needW (Int32.not_lt.mpr q1.1) q1.2) (fun r13 μ13 e13 => ?_)
  obtain ⟨rfl, e13⟩ := e13
  obtain rfl := e13.symm
  exact absurd ⟨q0, q1⟩ g
theorem x_drift {a1 : Int32} (g : ¬ ((0 ≤ a1 ∧ a1 ≤ 1))) : bc_CX (d + 7) LC mX9_drift [.ref 0, .int a1] μ eIA (rfC μ 1) := by
  refine bx_enter (by decide) (Nat.le_of_ble_eq_true rfl) rfl ?_
  refine bx_aload_n dX9_drift_0 rfl ?_
  refine bx_iload_n dX9_drift_1 rfl ?_
  refine bx_iconst (v := 0) dX9_drift_2 (by decide) ?_
  refine bx_iconst (v := 1) dX9_drift_3 (by decide) ?_
  by_cases q0 : (0 ≤ a1 ∧ a1 ≤ 1)
  rotate_left
  · exact bx_callX (z := mX9_needWithin) (ci := 9) dX9_drift_4 lX9_172 qX9_needWithin (by rfl) (by rfl) (by rfl) (by rfl) (Nat.le_of_ble_eq_true rfl) (x_needW (Classical.byContradiction (fun n => q0 ⟨Int32.not_lt.mp (fun y => n (.inl y)), Classical.byContradiction (fun y => n (.inr y))⟩)))
  refine bx_callV (z := mX9_needWithin) (ci := 9) dX9_drift_4 lX9_172 qX9_needWithin (by rfl) (by rfl) (by rfl) (by rfl) (Nat.le_of_ble_eq_true rfl) (s_needW (Int32.not_lt.mpr q0.1) q0.2) (fun r4 μ4 e4 => ?_)
  obtain ⟨rfl, e4⟩ := e4
  obtain rfl := e4.symm
  exact absurd q0 g
theorem x_would {a1 a2 a3 a4 a5 a6 a7 : Int32} (g : ¬ ((0 ≤ a1 ∧ a1 ≤ 72) ∧ (0 ≤ a2 ∧ a2 ≤ 99) ∧ (0 ≤ a3 ∧ a3 ≤ 8) ∧ (0 ≤ a4 ∧ a4 ≤ 72) ∧ (0 ≤ a5 ∧ a5 ≤ 99) ∧ (0 ≤ a6 ∧ a6 ≤ 3) ∧ (0 ≤ a7 ∧ a7 ≤ 900))) : bc_CX (d + 7) LC mX9_would [.ref 0, .int a1, .int a2, .int a3, .int a4, .int a5, .int a6, .int a7] μ eIA (rfC μ 1) := by
  refine bx_enter (by decide) (Nat.le_of_ble_eq_true rfl) rfl ?_
  refine bx_aload_n dX9_would_0 rfl ?_
  refine bx_iload_n dX9_would_1 rfl ?_
  refine bx_iconst (v := 0) dX9_would_2 (by decide) ?_
  refine bx_bipush (v := 72) dX9_would_3 (by decide) ?_
  by_cases q0 : (0 ≤ a1 ∧ a1 ≤ 72)
  rotate_left
  · exact bx_callX (z := mX9_needWithin) (ci := 9) dX9_would_5 lX9_172 qX9_needWithin (by rfl) (by rfl) (by rfl) (by rfl) (Nat.le_of_ble_eq_true rfl) (x_needW (Classical.byContradiction (fun n => q0 ⟨Int32.not_lt.mp (fun y => n (.inl y)), Classical.byContradiction (fun y => n (.inr y))⟩)))
  refine bx_callV (z := mX9_needWithin) (ci := 9) dX9_would_5 lX9_172 qX9_needWithin (by rfl) (by rfl) (by rfl) (by rfl) (Nat.le_of_ble_eq_true rfl) (s_needW (Int32.not_lt.mpr q0.1) q0.2) (fun r5 μ5 e5 => ?_)
  obtain ⟨rfl, e5⟩ := e5
  obtain rfl := e5.symm
  refine bx_aload_n dX9_would_8 rfl ?_
  refine bx_iload_n dX9_would_9 rfl ?_
  refine bx_iconst (v := 0) dX9_would_10 (by decide) ?_
  refine bx_bipush (v := 99) dX9_would_11 (by decide) ?_
  by_cases q1 : (0 ≤ a2 ∧ a2 ≤ 99)
  rotate_left
  · exact bx_callX (z := mX9_needWithin) (ci := 9) dX9_would_13 lX9_172 qX9_needWithin (by rfl) (by rfl) (by rfl) (by rfl) (Nat.le_of_ble_eq_true rfl) (x_needW (Classical.byContradiction (fun n => q1 ⟨Int32.not_lt.mp (fun y => n (.inl y)), Classical.byContradiction (fun y => n (.inr y))⟩)))
  refine bx_callV (z := mX9_needWithin) (ci := 9) dX9_would_13 lX9_172 qX9_needWithin (by rfl) (by rfl) (by rfl) (by rfl) (Nat.le_of_ble_eq_true rfl) (s_needW (Int32.not_lt.mpr q1.1) q1.2) (fun r13 μ13 e13 => ?_)
  obtain ⟨rfl, e13⟩ := e13
  obtain rfl := e13.symm
  refine bx_aload_n dX9_would_16 rfl ?_
  refine bx_iload_n dX9_would_17 rfl ?_
  refine bx_iconst (v := 0) dX9_would_18 (by decide) ?_
  refine bx_bipush (v := 8) dX9_would_19 (by decide) ?_
  by_cases q2 : (0 ≤ a3 ∧ a3 ≤ 8)
  rotate_left
  · exact bx_callX (z := mX9_needWithin) (ci := 9) dX9_would_21 lX9_172 qX9_needWithin (by rfl) (by rfl) (by rfl) (by rfl) (Nat.le_of_ble_eq_true rfl) (x_needW (Classical.byContradiction (fun n => q2 ⟨Int32.not_lt.mp (fun y => n (.inl y)), Classical.byContradiction (fun y => n (.inr y))⟩)))
  refine bx_callV (z := mX9_needWithin) (ci := 9) dX9_would_21 lX9_172 qX9_needWithin (by rfl) (by rfl) (by rfl) (by rfl) (Nat.le_of_ble_eq_true rfl) (s_needW (Int32.not_lt.mpr q2.1) q2.2) (fun r21 μ21 e21 => ?_)
  obtain ⟨rfl, e21⟩ := e21
  obtain rfl := e21.symm
  refine bx_aload_n dX9_would_24 rfl ?_
  refine bx_iload dX9_would_25 rfl ?_
  refine bx_iconst (v := 0) dX9_would_27 (by decide) ?_
  refine bx_bipush (v := 72) dX9_would_28 (by decide) ?_
  by_cases q3 : (0 ≤ a4 ∧ a4 ≤ 72)
  rotate_left
  · exact bx_callX (z := mX9_needWithin) (ci := 9) dX9_would_30 lX9_172 qX9_needWithin (by rfl) (by rfl) (by rfl) (by rfl) (Nat.le_of_ble_eq_true rfl) (x_needW (Classical.byContradiction (fun n => q3 ⟨Int32.not_lt.mp (fun y => n (.inl y)), Classical.byContradiction (fun y => n (.inr y))⟩)))
  refine bx_callV (z := mX9_needWithin) (ci := 9) dX9_would_30 lX9_172 qX9_needWithin (by rfl) (by rfl) (by rfl) (by rfl) (Nat.le_of_ble_eq_true rfl) (s_needW (Int32.not_lt.mpr q3.1) q3.2) (fun r30 μ30 e30 => ?_)
  obtain ⟨rfl, e30⟩ := e30
  obtain rfl := e30.symm
  refine bx_aload_n dX9_would_33 rfl ?_
  refine bx_iload dX9_would_34 rfl ?_
  refine bx_iconst (v := 0) dX9_would_36 (by decide) ?_
  refine bx_bipush (v := 99) dX9_would_37 (by decide) ?_
  by_cases q4 : (0 ≤ a5 ∧ a5 ≤ 99)
  rotate_left
  · exact bx_callX (z := mX9_needWithin) (ci := 9) dX9_would_39 lX9_172 qX9_needWithin (by rfl) (by rfl) (by rfl) (by rfl) (Nat.le_of_ble_eq_true rfl) (x_needW (Classical.byContradiction (fun n => q4 ⟨Int32.not_lt.mp (fun y => n (.inl y)), Classical.byContradiction (fun y => n (.inr y))⟩)))
  refine bx_callV (z := mX9_needWithin) (ci := 9) dX9_would_39 lX9_172 qX9_needWithin (by rfl) (by rfl) (by rfl) (by rfl) (Nat.le_of_ble_eq_true rfl) (s_needW (Int32.not_lt.mpr q4.1) q4.2) (fun r39 μ39 e39 => ?_)
  obtain ⟨rfl, e39⟩ := e39
  obtain rfl := e39.symm
  refine bx_aload_n dX9_would_42 rfl ?_
  refine bx_iload dX9_would_43 rfl ?_
  refine bx_iconst (v := 0) dX9_would_45 (by decide) ?_
  refine bx_iconst (v := 3) dX9_would_46 (by decide) ?_
  by_cases q5 : (0 ≤ a6 ∧ a6 ≤ 3)
  rotate_left
  · exact bx_callX (z := mX9_needWithin) (ci := 9) dX9_would_47 lX9_172 qX9_needWithin (by rfl) (by rfl) (by rfl) (by rfl) (Nat.le_of_ble_eq_true rfl) (x_needW (Classical.byContradiction (fun n => q5 ⟨Int32.not_lt.mp (fun y => n (.inl y)), Classical.byContradiction (fun y => n (.inr y))⟩)))
  refine bx_callV (z := mX9_needWithin) (ci := 9) dX9_would_47 lX9_172 qX9_needWithin (by rfl) (by rfl) (by rfl) (by rfl) (Nat.le_of_ble_eq_true rfl) (s_needW (Int32.not_lt.mpr q5.1) q5.2) (fun r47 μ47 e47 => ?_)
  obtain ⟨rfl, e47⟩ := e47
  obtain rfl := e47.symm
  refine bx_aload_n dX9_would_50 rfl ?_
  refine bx_iload dX9_would_51 rfl ?_
  refine bx_iconst (v := 0) dX9_would_53 (by decide) ?_
  refine bx_sipush (v := 900) dX9_would_54 (by decide) ?_
  by_cases q6 : (0 ≤ a7 ∧ a7 ≤ 900)
  rotate_left
  · exact bx_callX (z := mX9_needWithin) (ci := 9) dX9_would_57 lX9_172 qX9_needWithin (by rfl) (by rfl) (by rfl) (by rfl) (Nat.le_of_ble_eq_true rfl) (x_needW (Classical.byContradiction (fun n => q6 ⟨Int32.not_lt.mp (fun y => n (.inl y)), Classical.byContradiction (fun y => n (.inr y))⟩)))
  refine bx_callV (z := mX9_needWithin) (ci := 9) dX9_would_57 lX9_172 qX9_needWithin (by rfl) (by rfl) (by rfl) (by rfl) (Nat.le_of_ble_eq_true rfl) (s_needW (Int32.not_lt.mpr q6.1) q6.2) (fun r57 μ57 e57 => ?_)
  obtain ⟨rfl, e57⟩ := e57
  obtain rfl := e57.symm
  exact absurd ⟨q0, q1, q2, q3, q4, q5, q6⟩ g
theorem x_ahead {a1 a2 : Int32} (g : ¬ ((0 ≤ a1 ∧ a1 ≤ 99) ∧ (0 ≤ a2 ∧ a2 ≤ 3))) : bc_CX (d + 7) LC mX9_ahead [.ref 0, .int a1, .int a2] μ eIA (rfC μ 1) := by
  refine bx_enter (by decide) (Nat.le_of_ble_eq_true rfl) rfl ?_
  refine bx_aload_n dX9_ahead_0 rfl ?_
  refine bx_iload_n dX9_ahead_1 rfl ?_
  refine bx_iconst (v := 0) dX9_ahead_2 (by decide) ?_
  refine bx_bipush (v := 99) dX9_ahead_3 (by decide) ?_
  by_cases q0 : (0 ≤ a1 ∧ a1 ≤ 99)
  rotate_left
  · exact bx_callX (z := mX9_needWithin) (ci := 9) dX9_ahead_5 lX9_172 qX9_needWithin (by rfl) (by rfl) (by rfl) (by rfl) (Nat.le_of_ble_eq_true rfl) (x_needW (Classical.byContradiction (fun n => q0 ⟨Int32.not_lt.mp (fun y => n (.inl y)), Classical.byContradiction (fun y => n (.inr y))⟩)))
  refine bx_callV (z := mX9_needWithin) (ci := 9) dX9_ahead_5 lX9_172 qX9_needWithin (by rfl) (by rfl) (by rfl) (by rfl) (Nat.le_of_ble_eq_true rfl) (s_needW (Int32.not_lt.mpr q0.1) q0.2) (fun r5 μ5 e5 => ?_)
  obtain ⟨rfl, e5⟩ := e5
  obtain rfl := e5.symm
  refine bx_aload_n dX9_ahead_8 rfl ?_
  refine bx_iload_n dX9_ahead_9 rfl ?_
  refine bx_iconst (v := 0) dX9_ahead_10 (by decide) ?_
  refine bx_iconst (v := 3) dX9_ahead_11 (by decide) ?_
  by_cases q1 : (0 ≤ a2 ∧ a2 ≤ 3)
  rotate_left
  · exact bx_callX (z := mX9_needWithin) (ci := 9) dX9_ahead_12 lX9_172 qX9_needWithin (by rfl) (by rfl) (by rfl) (by rfl) (Nat.le_of_ble_eq_true rfl) (x_needW (Classical.byContradiction (fun n => q1 ⟨Int32.not_lt.mp (fun y => n (.inl y)), Classical.byContradiction (fun y => n (.inr y))⟩)))
  refine bx_callV (z := mX9_needWithin) (ci := 9) dX9_ahead_12 lX9_172 qX9_needWithin (by rfl) (by rfl) (by rfl) (by rfl) (Nat.le_of_ble_eq_true rfl) (s_needW (Int32.not_lt.mpr q1.1) q1.2) (fun r12 μ12 e12 => ?_)
  obtain ⟨rfl, e12⟩ := e12
  obtain rfl := e12.symm
  exact absurd ⟨q0, q1⟩ g
theorem x_pilotT {a1 a2 : Int32} (g : ¬ ((0 ≤ a1 ∧ a1 < μ 3 3))) : bc_CX (d + 7) LC mX9_pilot [.ref 0, .int a1, .int a2] μ eNS (rfC μ 0) := by
  refine bx_enter (by decide) (Nat.le_of_ble_eq_true rfl) rfl ?_
  refine bx_aload_n dX9_pilot_0 rfl ?_
  refine bx_iload_n dX9_pilot_1 rfl ?_
  refine bx_aload_n dX9_pilot_2 rfl ?_
  refine bx_getr dX9_pilot_3 fX9_19 (rfl) rfl ?_
  refine bx_geti dX9_pilot_6 fX9_182 (rfl) rfl ?_
  by_cases q0 : (0 ≤ a1 ∧ a1 < μ 3 3)
  rotate_left
  · exact bx_callX (z := mX9_needThere) (ci := 9) dX9_pilot_9 lX9_204 qX9_needThere (by rfl) (by rfl) (by rfl) (by rfl) (Nat.le_of_ble_eq_true rfl) (x_needT (Classical.byContradiction (fun n => q0 ⟨Int32.not_lt.mp (fun y => n (.inl y)), Classical.byContradiction (fun y => n (.inr y))⟩)))
  refine bx_callV (z := mX9_needThere) (ci := 9) dX9_pilot_9 lX9_204 qX9_needThere (by rfl) (by rfl) (by rfl) (by rfl) (Nat.le_of_ble_eq_true rfl) (s_needT (Int32.not_lt.mpr q0.1) q0.2) (fun r9 μ9 e9 => ?_)
  obtain ⟨rfl, e9⟩ := e9
  obtain rfl := e9.symm
  exact absurd q0 g
theorem x_pilotW {a1 a2 : Int32} (q0 : (0 ≤ a1 ∧ a1 < μ 3 3)) (g : ¬ ((0 ≤ a2 ∧ a2 ≤ 12))) : bc_CX (d + 7) LC mX9_pilot [.ref 0, .int a1, .int a2] μ eIA (rfC μ 1) := by
  refine bx_enter (by decide) (Nat.le_of_ble_eq_true rfl) rfl ?_
  refine bx_aload_n dX9_pilot_0 rfl ?_
  refine bx_iload_n dX9_pilot_1 rfl ?_
  refine bx_aload_n dX9_pilot_2 rfl ?_
  refine bx_getr dX9_pilot_3 fX9_19 (rfl) rfl ?_
  refine bx_geti dX9_pilot_6 fX9_182 (rfl) rfl ?_
  refine bx_callV (z := mX9_needThere) (ci := 9) dX9_pilot_9 lX9_204 qX9_needThere (by rfl) (by rfl) (by rfl) (by rfl) (Nat.le_of_ble_eq_true rfl) (s_needT (Int32.not_lt.mpr q0.1) q0.2) (fun r9 μ9 e9 => ?_)
  obtain ⟨rfl, e9⟩ := e9
  obtain rfl := e9.symm
  refine bx_aload_n dX9_pilot_12 rfl ?_
  refine bx_iload_n dX9_pilot_13 rfl ?_
  refine bx_iconst (v := 0) dX9_pilot_14 (by decide) ?_
  refine bx_bipush (v := 12) dX9_pilot_15 (by decide) ?_
  by_cases q1 : (0 ≤ a2 ∧ a2 ≤ 12)
  rotate_left
  · exact bx_callX (z := mX9_needWithin) (ci := 9) dX9_pilot_17 lX9_172 qX9_needWithin (by rfl) (by rfl) (by rfl) (by rfl) (Nat.le_of_ble_eq_true rfl) (x_needW (Classical.byContradiction (fun n => q1 ⟨Int32.not_lt.mp (fun y => n (.inl y)), Classical.byContradiction (fun y => n (.inr y))⟩)))
  refine bx_callV (z := mX9_needWithin) (ci := 9) dX9_pilot_17 lX9_172 qX9_needWithin (by rfl) (by rfl) (by rfl) (by rfl) (Nat.le_of_ble_eq_true rfl) (s_needW (Int32.not_lt.mpr q1.1) q1.2) (fun r17 μ17 e17 => ?_)
  obtain ⟨rfl, e17⟩ := e17
  obtain rfl := e17.symm
  exact absurd q1 g
theorem x_trimT {a1 : Int32} (g : ¬ ((0 ≤ a1 ∧ a1 < μ 3 0))) : bc_CX (d + 7) LC mX9_trim [.ref 0, .int a1] μ eNS (rfC μ 0) := by
  refine bx_enter (by decide) (Nat.le_of_ble_eq_true rfl) rfl ?_
  refine bx_aload_n dX9_trim_0 rfl ?_
  refine bx_iload_n dX9_trim_1 rfl ?_
  refine bx_aload_n dX9_trim_2 rfl ?_
  refine bx_getr dX9_trim_3 fX9_19 (rfl) rfl ?_
  refine bx_geti dX9_trim_6 fX9_176 (rfl) rfl ?_
  by_cases q0 : (0 ≤ a1 ∧ a1 < μ 3 0)
  rotate_left
  · exact bx_callX (z := mX9_needThere) (ci := 9) dX9_trim_9 lX9_204 qX9_needThere (by rfl) (by rfl) (by rfl) (by rfl) (Nat.le_of_ble_eq_true rfl) (x_needT (Classical.byContradiction (fun n => q0 ⟨Int32.not_lt.mp (fun y => n (.inl y)), Classical.byContradiction (fun y => n (.inr y))⟩)))
  refine bx_callV (z := mX9_needThere) (ci := 9) dX9_trim_9 lX9_204 qX9_needThere (by rfl) (by rfl) (by rfl) (by rfl) (Nat.le_of_ble_eq_true rfl) (s_needT (Int32.not_lt.mpr q0.1) q0.2) (fun r9 μ9 e9 => ?_)
  obtain ⟨rfl, e9⟩ := e9
  obtain rfl := e9.symm
  exact absurd q0 g
theorem x_stepsT {a1 : Int32} (g : ¬ ((0 ≤ a1 ∧ a1 < μ 3 3))) : bc_CX (d + 7) LC mX9_steps [.ref 0, .int a1] μ eNS (rfC μ 0) := by
  refine bx_enter (by decide) (Nat.le_of_ble_eq_true rfl) rfl ?_
  refine bx_aload_n dX9_steps_0 rfl ?_
  refine bx_iload_n dX9_steps_1 rfl ?_
  refine bx_aload_n dX9_steps_2 rfl ?_
  refine bx_getr dX9_steps_3 fX9_19 (rfl) rfl ?_
  refine bx_geti dX9_steps_6 fX9_182 (rfl) rfl ?_
  by_cases q0 : (0 ≤ a1 ∧ a1 < μ 3 3)
  rotate_left
  · exact bx_callX (z := mX9_needThere) (ci := 9) dX9_steps_9 lX9_204 qX9_needThere (by rfl) (by rfl) (by rfl) (by rfl) (Nat.le_of_ble_eq_true rfl) (x_needT (Classical.byContradiction (fun n => q0 ⟨Int32.not_lt.mp (fun y => n (.inl y)), Classical.byContradiction (fun y => n (.inr y))⟩)))
  refine bx_callV (z := mX9_needThere) (ci := 9) dX9_steps_9 lX9_204 qX9_needThere (by rfl) (by rfl) (by rfl) (by rfl) (Nat.le_of_ble_eq_true rfl) (s_needT (Int32.not_lt.mpr q0.1) q0.2) (fun r9 μ9 e9 => ?_)
  obtain ⟨rfl, e9⟩ := e9
  obtain rfl := e9.symm
  exact absurd q0 g
theorem x_fits {a1 : Int32} (g : ¬ ((0 ≤ a1 ∧ a1 ≤ 2))) : bc_CX (d + 7) LC mX9_fits [.ref 0, .int a1] μ eIA (rfC μ 1) := by
  refine bx_enter (by decide) (Nat.le_of_ble_eq_true rfl) rfl ?_
  refine bx_aload_n dX9_fits_0 rfl ?_
  refine bx_iload_n dX9_fits_1 rfl ?_
  refine bx_iconst (v := 0) dX9_fits_2 (by decide) ?_
  refine bx_iconst (v := 2) dX9_fits_3 (by decide) ?_
  by_cases q0 : (0 ≤ a1 ∧ a1 ≤ 2)
  rotate_left
  · exact bx_callX (z := mX9_needWithin) (ci := 9) dX9_fits_4 lX9_172 qX9_needWithin (by rfl) (by rfl) (by rfl) (by rfl) (Nat.le_of_ble_eq_true rfl) (x_needW (Classical.byContradiction (fun n => q0 ⟨Int32.not_lt.mp (fun y => n (.inl y)), Classical.byContradiction (fun y => n (.inr y))⟩)))
  refine bx_callV (z := mX9_needWithin) (ci := 9) dX9_fits_4 lX9_172 qX9_needWithin (by rfl) (by rfl) (by rfl) (by rfl) (Nat.le_of_ble_eq_true rfl) (s_needW (Int32.not_lt.mpr q0.1) q0.2) (fun r4 μ4 e4 => ?_)
  obtain ⟨rfl, e4⟩ := e4
  obtain rfl := e4.symm
  exact absurd q0 g
theorem x_look {a1 : Int32} (g : ¬ ((0 ≤ a1 ∧ a1 ≤ 1))) : bc_CX (d + 7) LC mX9_look [.ref 0, .int a1] μ eIA (rfC μ 1) := by
  refine bx_enter (by decide) (Nat.le_of_ble_eq_true rfl) rfl ?_
  refine bx_aload_n dX9_look_0 rfl ?_
  refine bx_iload_n dX9_look_1 rfl ?_
  refine bx_iconst (v := 0) dX9_look_2 (by decide) ?_
  refine bx_iconst (v := 1) dX9_look_3 (by decide) ?_
  by_cases q0 : (0 ≤ a1 ∧ a1 ≤ 1)
  rotate_left
  · exact bx_callX (z := mX9_needWithin) (ci := 9) dX9_look_4 lX9_172 qX9_needWithin (by rfl) (by rfl) (by rfl) (by rfl) (Nat.le_of_ble_eq_true rfl) (x_needW (Classical.byContradiction (fun n => q0 ⟨Int32.not_lt.mp (fun y => n (.inl y)), Classical.byContradiction (fun y => n (.inr y))⟩)))
  refine bx_callV (z := mX9_needWithin) (ci := 9) dX9_look_4 lX9_172 qX9_needWithin (by rfl) (by rfl) (by rfl) (by rfl) (Nat.le_of_ble_eq_true rfl) (s_needW (Int32.not_lt.mpr q0.1) q0.2) (fun r4 μ4 e4 => ?_)
  obtain ⟨rfl, e4⟩ := e4
  obtain rfl := e4.symm
  exact absurd q0 g
theorem x_gusts {a1 a2 a3 a4 : Int32} (g : ¬ ((0 ≤ a1 ∧ a1 ≤ 12) ∧ (0 ≤ a2 ∧ a2 ≤ 12) ∧ (0 ≤ a3 ∧ a3 ≤ 16) ∧ (0 ≤ a4 ∧ a4 ≤ 1))) : bc_CX (d + 7) LC mX9_gusts [.ref 0, .int a1, .int a2, .int a3, .int a4] μ eIA (rfC μ 1) := by
  refine bx_enter (by decide) (Nat.le_of_ble_eq_true rfl) rfl ?_
  refine bx_aload_n dX9_gusts_0 rfl ?_
  refine bx_iload_n dX9_gusts_1 rfl ?_
  refine bx_iconst (v := 0) dX9_gusts_2 (by decide) ?_
  refine bx_bipush (v := 12) dX9_gusts_3 (by decide) ?_
  by_cases q0 : (0 ≤ a1 ∧ a1 ≤ 12)
  rotate_left
  · exact bx_callX (z := mX9_needWithin) (ci := 9) dX9_gusts_5 lX9_172 qX9_needWithin (by rfl) (by rfl) (by rfl) (by rfl) (Nat.le_of_ble_eq_true rfl) (x_needW (Classical.byContradiction (fun n => q0 ⟨Int32.not_lt.mp (fun y => n (.inl y)), Classical.byContradiction (fun y => n (.inr y))⟩)))
  refine bx_callV (z := mX9_needWithin) (ci := 9) dX9_gusts_5 lX9_172 qX9_needWithin (by rfl) (by rfl) (by rfl) (by rfl) (Nat.le_of_ble_eq_true rfl) (s_needW (Int32.not_lt.mpr q0.1) q0.2) (fun r5 μ5 e5 => ?_)
  obtain ⟨rfl, e5⟩ := e5
  obtain rfl := e5.symm
  refine bx_aload_n dX9_gusts_8 rfl ?_
  refine bx_iload_n dX9_gusts_9 rfl ?_
  refine bx_iconst (v := 0) dX9_gusts_10 (by decide) ?_
  refine bx_bipush (v := 12) dX9_gusts_11 (by decide) ?_
  by_cases q1 : (0 ≤ a2 ∧ a2 ≤ 12)
  rotate_left
  · exact bx_callX (z := mX9_needWithin) (ci := 9) dX9_gusts_13 lX9_172 qX9_needWithin (by rfl) (by rfl) (by rfl) (by rfl) (Nat.le_of_ble_eq_true rfl) (x_needW (Classical.byContradiction (fun n => q1 ⟨Int32.not_lt.mp (fun y => n (.inl y)), Classical.byContradiction (fun y => n (.inr y))⟩)))
  refine bx_callV (z := mX9_needWithin) (ci := 9) dX9_gusts_13 lX9_172 qX9_needWithin (by rfl) (by rfl) (by rfl) (by rfl) (Nat.le_of_ble_eq_true rfl) (s_needW (Int32.not_lt.mpr q1.1) q1.2) (fun r13 μ13 e13 => ?_)
  obtain ⟨rfl, e13⟩ := e13
  obtain rfl := e13.symm
  refine bx_aload_n dX9_gusts_16 rfl ?_
  refine bx_iload_n dX9_gusts_17 rfl ?_
  refine bx_iconst (v := 0) dX9_gusts_18 (by decide) ?_
  refine bx_bipush (v := 16) dX9_gusts_19 (by decide) ?_
  by_cases q2 : (0 ≤ a3 ∧ a3 ≤ 16)
  rotate_left
  · exact bx_callX (z := mX9_needWithin) (ci := 9) dX9_gusts_21 lX9_172 qX9_needWithin (by rfl) (by rfl) (by rfl) (by rfl) (Nat.le_of_ble_eq_true rfl) (x_needW (Classical.byContradiction (fun n => q2 ⟨Int32.not_lt.mp (fun y => n (.inl y)), Classical.byContradiction (fun y => n (.inr y))⟩)))
  refine bx_callV (z := mX9_needWithin) (ci := 9) dX9_gusts_21 lX9_172 qX9_needWithin (by rfl) (by rfl) (by rfl) (by rfl) (Nat.le_of_ble_eq_true rfl) (s_needW (Int32.not_lt.mpr q2.1) q2.2) (fun r21 μ21 e21 => ?_)
  obtain ⟨rfl, e21⟩ := e21
  obtain rfl := e21.symm
  refine bx_aload_n dX9_gusts_24 rfl ?_
  refine bx_iload dX9_gusts_25 rfl ?_
  refine bx_iconst (v := 0) dX9_gusts_27 (by decide) ?_
  refine bx_iconst (v := 1) dX9_gusts_28 (by decide) ?_
  by_cases q3 : (0 ≤ a4 ∧ a4 ≤ 1)
  rotate_left
  · exact bx_callX (z := mX9_needWithin) (ci := 9) dX9_gusts_29 lX9_172 qX9_needWithin (by rfl) (by rfl) (by rfl) (by rfl) (Nat.le_of_ble_eq_true rfl) (x_needW (Classical.byContradiction (fun n => q3 ⟨Int32.not_lt.mp (fun y => n (.inl y)), Classical.byContradiction (fun y => n (.inr y))⟩)))
  refine bx_callV (z := mX9_needWithin) (ci := 9) dX9_gusts_29 lX9_172 qX9_needWithin (by rfl) (by rfl) (by rfl) (by rfl) (Nat.le_of_ble_eq_true rfl) (s_needW (Int32.not_lt.mpr q3.1) q3.2) (fun r29 μ29 e29 => ?_)
  obtain ⟨rfl, e29⟩ := e29
  obtain rfl := e29.symm
  exact absurd ⟨q0, q1, q2, q3⟩ g
theorem x_bakers {a1 a2 a3 : Int32} (g : ¬ ((0 ≤ a1 ∧ a1 ≤ 9) ∧ (0 ≤ a2 ∧ a2 ≤ 99) ∧ (0 ≤ a3 ∧ a3 ≤ 2))) : bc_CX (d + 7) LC mX9_bakers [.ref 0, .int a1, .int a2, .int a3] μ eIA (rfC μ 1) := by
  refine bx_enter (by decide) (Nat.le_of_ble_eq_true rfl) rfl ?_
  refine bx_aload_n dX9_bakers_0 rfl ?_
  refine bx_iload_n dX9_bakers_1 rfl ?_
  refine bx_iconst (v := 0) dX9_bakers_2 (by decide) ?_
  refine bx_bipush (v := 9) dX9_bakers_3 (by decide) ?_
  by_cases q0 : (0 ≤ a1 ∧ a1 ≤ 9)
  rotate_left
  · exact bx_callX (z := mX9_needWithin) (ci := 9) dX9_bakers_5 lX9_172 qX9_needWithin (by rfl) (by rfl) (by rfl) (by rfl) (Nat.le_of_ble_eq_true rfl) (x_needW (Classical.byContradiction (fun n => q0 ⟨Int32.not_lt.mp (fun y => n (.inl y)), Classical.byContradiction (fun y => n (.inr y))⟩)))
  refine bx_callV (z := mX9_needWithin) (ci := 9) dX9_bakers_5 lX9_172 qX9_needWithin (by rfl) (by rfl) (by rfl) (by rfl) (Nat.le_of_ble_eq_true rfl) (s_needW (Int32.not_lt.mpr q0.1) q0.2) (fun r5 μ5 e5 => ?_)
  obtain ⟨rfl, e5⟩ := e5
  obtain rfl := e5.symm
  refine bx_aload_n dX9_bakers_8 rfl ?_
  refine bx_iload_n dX9_bakers_9 rfl ?_
  refine bx_iconst (v := 0) dX9_bakers_10 (by decide) ?_
  refine bx_bipush (v := 99) dX9_bakers_11 (by decide) ?_
  by_cases q1 : (0 ≤ a2 ∧ a2 ≤ 99)
  rotate_left
  · exact bx_callX (z := mX9_needWithin) (ci := 9) dX9_bakers_13 lX9_172 qX9_needWithin (by rfl) (by rfl) (by rfl) (by rfl) (Nat.le_of_ble_eq_true rfl) (x_needW (Classical.byContradiction (fun n => q1 ⟨Int32.not_lt.mp (fun y => n (.inl y)), Classical.byContradiction (fun y => n (.inr y))⟩)))
  refine bx_callV (z := mX9_needWithin) (ci := 9) dX9_bakers_13 lX9_172 qX9_needWithin (by rfl) (by rfl) (by rfl) (by rfl) (Nat.le_of_ble_eq_true rfl) (s_needW (Int32.not_lt.mpr q1.1) q1.2) (fun r13 μ13 e13 => ?_)
  obtain ⟨rfl, e13⟩ := e13
  obtain rfl := e13.symm
  refine bx_aload_n dX9_bakers_16 rfl ?_
  refine bx_iload_n dX9_bakers_17 rfl ?_
  refine bx_iconst (v := 0) dX9_bakers_18 (by decide) ?_
  refine bx_iconst (v := 2) dX9_bakers_19 (by decide) ?_
  by_cases q2 : (0 ≤ a3 ∧ a3 ≤ 2)
  rotate_left
  · exact bx_callX (z := mX9_needWithin) (ci := 9) dX9_bakers_20 lX9_172 qX9_needWithin (by rfl) (by rfl) (by rfl) (by rfl) (Nat.le_of_ble_eq_true rfl) (x_needW (Classical.byContradiction (fun n => q2 ⟨Int32.not_lt.mp (fun y => n (.inl y)), Classical.byContradiction (fun y => n (.inr y))⟩)))
  refine bx_callV (z := mX9_needWithin) (ci := 9) dX9_bakers_20 lX9_172 qX9_needWithin (by rfl) (by rfl) (by rfl) (by rfl) (Nat.le_of_ble_eq_true rfl) (s_needW (Int32.not_lt.mpr q2.1) q2.2) (fun r20 μ20 e20 => ?_)
  obtain ⟨rfl, e20⟩ := e20
  obtain rfl := e20.symm
  exact absurd ⟨q0, q1, q2⟩ g
theorem x_keyT {a1 : Int32} (g : ¬ ((0 ≤ a1 ∧ a1 < μ 3 0))) : bc_CX (d + 7) LC mX9_key [.ref 0, .int a1] μ eNS (rfC μ 0) := by
  refine bx_enter (by decide) (Nat.le_of_ble_eq_true rfl) rfl ?_
  refine bx_aload_n dX9_key_0 rfl ?_
  refine bx_iload_n dX9_key_1 rfl ?_
  refine bx_aload_n dX9_key_2 rfl ?_
  refine bx_getr dX9_key_3 fX9_19 (rfl) rfl ?_
  refine bx_geti dX9_key_6 fX9_176 (rfl) rfl ?_
  by_cases q0 : (0 ≤ a1 ∧ a1 < μ 3 0)
  rotate_left
  · exact bx_callX (z := mX9_needThere) (ci := 9) dX9_key_9 lX9_204 qX9_needThere (by rfl) (by rfl) (by rfl) (by rfl) (Nat.le_of_ble_eq_true rfl) (x_needT (Classical.byContradiction (fun n => q0 ⟨Int32.not_lt.mp (fun y => n (.inl y)), Classical.byContradiction (fun y => n (.inr y))⟩)))
  refine bx_callV (z := mX9_needThere) (ci := 9) dX9_key_9 lX9_204 qX9_needThere (by rfl) (by rfl) (by rfl) (by rfl) (Nat.le_of_ble_eq_true rfl) (s_needT (Int32.not_lt.mpr q0.1) q0.2) (fun r9 μ9 e9 => ?_)
  obtain ⟨rfl, e9⟩ := e9
  obtain rfl := e9.symm
  exact absurd q0 g
theorem x_nearest {a1 : Int32} (g : ¬ ((0 ≤ a1 ∧ a1 ≤ 1))) : bc_CX (d + 7) LC mX9_nearest [.ref 0, .int a1] μ eIA (rfC μ 1) := by
  refine bx_enter (by decide) (Nat.le_of_ble_eq_true rfl) rfl ?_
  refine bx_aload_n dX9_nearest_0 rfl ?_
  refine bx_iload_n dX9_nearest_1 rfl ?_
  refine bx_iconst (v := 0) dX9_nearest_2 (by decide) ?_
  refine bx_iconst (v := 1) dX9_nearest_3 (by decide) ?_
  by_cases q0 : (0 ≤ a1 ∧ a1 ≤ 1)
  rotate_left
  · exact bx_callX (z := mX9_needWithin) (ci := 9) dX9_nearest_4 lX9_172 qX9_needWithin (by rfl) (by rfl) (by rfl) (by rfl) (Nat.le_of_ble_eq_true rfl) (x_needW (Classical.byContradiction (fun n => q0 ⟨Int32.not_lt.mp (fun y => n (.inl y)), Classical.byContradiction (fun y => n (.inr y))⟩)))
  refine bx_callV (z := mX9_needWithin) (ci := 9) dX9_nearest_4 lX9_172 qX9_needWithin (by rfl) (by rfl) (by rfl) (by rfl) (Nat.le_of_ble_eq_true rfl) (s_needW (Int32.not_lt.mpr q0.1) q0.2) (fun r4 μ4 e4 => ?_)
  obtain ⟨rfl, e4⟩ := e4
  obtain rfl := e4.symm
  exact absurd q0 g
theorem x_sweetest {a1 : Int32} (g : ¬ ((0 ≤ a1 ∧ a1 ≤ 1))) : bc_CX (d + 7) LC mX9_sweetest [.ref 0, .int a1] μ eIA (rfC μ 1) := by
  refine bx_enter (by decide) (Nat.le_of_ble_eq_true rfl) rfl ?_
  refine bx_aload_n dX9_sweetest_0 rfl ?_
  refine bx_iload_n dX9_sweetest_1 rfl ?_
  refine bx_iconst (v := 0) dX9_sweetest_2 (by decide) ?_
  refine bx_iconst (v := 1) dX9_sweetest_3 (by decide) ?_
  by_cases q0 : (0 ≤ a1 ∧ a1 ≤ 1)
  rotate_left
  · exact bx_callX (z := mX9_needWithin) (ci := 9) dX9_sweetest_4 lX9_172 qX9_needWithin (by rfl) (by rfl) (by rfl) (by rfl) (Nat.le_of_ble_eq_true rfl) (x_needW (Classical.byContradiction (fun n => q0 ⟨Int32.not_lt.mp (fun y => n (.inl y)), Classical.byContradiction (fun y => n (.inr y))⟩)))
  refine bx_callV (z := mX9_needWithin) (ci := 9) dX9_sweetest_4 lX9_172 qX9_needWithin (by rfl) (by rfl) (by rfl) (by rfl) (Nat.le_of_ble_eq_true rfl) (s_needW (Int32.not_lt.mpr q0.1) q0.2) (fun r4 μ4 e4 => ?_)
  obtain ⟨rfl, e4⟩ := e4
  obtain rfl := e4.symm
  exact absurd q0 g
theorem x_heaviest {a1 : Int32} (g : ¬ ((0 ≤ a1 ∧ a1 ≤ 1))) : bc_CX (d + 7) LC mX9_heaviest [.ref 0, .int a1] μ eIA (rfC μ 1) := by
  refine bx_enter (by decide) (Nat.le_of_ble_eq_true rfl) rfl ?_
  refine bx_aload_n dX9_heaviest_0 rfl ?_
  refine bx_iload_n dX9_heaviest_1 rfl ?_
  refine bx_iconst (v := 0) dX9_heaviest_2 (by decide) ?_
  refine bx_iconst (v := 1) dX9_heaviest_3 (by decide) ?_
  by_cases q0 : (0 ≤ a1 ∧ a1 ≤ 1)
  rotate_left
  · exact bx_callX (z := mX9_needWithin) (ci := 9) dX9_heaviest_4 lX9_172 qX9_needWithin (by rfl) (by rfl) (by rfl) (by rfl) (Nat.le_of_ble_eq_true rfl) (x_needW (Classical.byContradiction (fun n => q0 ⟨Int32.not_lt.mp (fun y => n (.inl y)), Classical.byContradiction (fun y => n (.inr y))⟩)))
  refine bx_callV (z := mX9_needWithin) (ci := 9) dX9_heaviest_4 lX9_172 qX9_needWithin (by rfl) (by rfl) (by rfl) (by rfl) (Nat.le_of_ble_eq_true rfl) (s_needW (Int32.not_lt.mpr q0.1) q0.2) (fun r4 μ4 e4 => ?_)
  obtain ⟨rfl, e4⟩ := e4
  obtain rfl := e4.symm
  exact absurd q0 g
theorem x_side {a1 : Int32} (g : ¬ ((0 ≤ a1 ∧ a1 ≤ 3))) : bc_CX (d + 7) LC mX9_side [.ref 0, .int a1] μ eIA (rfC μ 1) := by
  refine bx_enter (by decide) (Nat.le_of_ble_eq_true rfl) rfl ?_
  refine bx_aload_n dX9_side_0 rfl ?_
  refine bx_iload_n dX9_side_1 rfl ?_
  refine bx_iconst (v := 0) dX9_side_2 (by decide) ?_
  refine bx_iconst (v := 3) dX9_side_3 (by decide) ?_
  by_cases q0 : (0 ≤ a1 ∧ a1 ≤ 3)
  rotate_left
  · exact bx_callX (z := mX9_needWithin) (ci := 9) dX9_side_4 lX9_172 qX9_needWithin (by rfl) (by rfl) (by rfl) (by rfl) (Nat.le_of_ble_eq_true rfl) (x_needW (Classical.byContradiction (fun n => q0 ⟨Int32.not_lt.mp (fun y => n (.inl y)), Classical.byContradiction (fun y => n (.inr y))⟩)))
  refine bx_callV (z := mX9_needWithin) (ci := 9) dX9_side_4 lX9_172 qX9_needWithin (by rfl) (by rfl) (by rfl) (by rfl) (Nat.le_of_ble_eq_true rfl) (s_needW (Int32.not_lt.mpr q0.1) q0.2) (fun r4 μ4 e4 => ?_)
  obtain ⟨rfl, e4⟩ := e4
  obtain rfl := e4.symm
  exact absurd q0 g
theorem x_room {a1 : Int32} (g : ¬ ((0 ≤ a1 ∧ a1 ≤ 3))) : bc_CX (d + 7) LC mX9_room [.ref 0, .int a1] μ eIA (rfC μ 1) := by
  refine bx_enter (by decide) (Nat.le_of_ble_eq_true rfl) rfl ?_
  refine bx_aload_n dX9_room_0 rfl ?_
  refine bx_iload_n dX9_room_1 rfl ?_
  refine bx_iconst (v := 0) dX9_room_2 (by decide) ?_
  refine bx_iconst (v := 3) dX9_room_3 (by decide) ?_
  by_cases q0 : (0 ≤ a1 ∧ a1 ≤ 3)
  rotate_left
  · exact bx_callX (z := mX9_needWithin) (ci := 9) dX9_room_4 lX9_172 qX9_needWithin (by rfl) (by rfl) (by rfl) (by rfl) (Nat.le_of_ble_eq_true rfl) (x_needW (Classical.byContradiction (fun n => q0 ⟨Int32.not_lt.mp (fun y => n (.inl y)), Classical.byContradiction (fun y => n (.inr y))⟩)))
  refine bx_callV (z := mX9_needWithin) (ci := 9) dX9_room_4 lX9_172 qX9_needWithin (by rfl) (by rfl) (by rfl) (by rfl) (Nat.le_of_ble_eq_true rfl) (s_needW (Int32.not_lt.mpr q0.1) q0.2) (fun r4 μ4 e4 => ?_)
  obtain ⟨rfl, e4⟩ := e4
  obtain rfl := e4.symm
  exact absurd q0 g
theorem x_cool {a1 : Int32} (g : ¬ ((0 ≤ a1 ∧ a1 ≤ 1))) : bc_CX (d + 7) LC mX9_cool [.ref 0, .int a1] μ eIA (rfC μ 1) := by
  refine bx_enter (by decide) (Nat.le_of_ble_eq_true rfl) rfl ?_
  refine bx_aload_n dX9_cool_0 rfl ?_
  refine bx_iload_n dX9_cool_1 rfl ?_
  refine bx_iconst (v := 0) dX9_cool_2 (by decide) ?_
  refine bx_iconst (v := 1) dX9_cool_3 (by decide) ?_
  by_cases q0 : (0 ≤ a1 ∧ a1 ≤ 1)
  rotate_left
  · exact bx_callX (z := mX9_needWithin) (ci := 9) dX9_cool_4 lX9_172 qX9_needWithin (by rfl) (by rfl) (by rfl) (by rfl) (Nat.le_of_ble_eq_true rfl) (x_needW (Classical.byContradiction (fun n => q0 ⟨Int32.not_lt.mp (fun y => n (.inl y)), Classical.byContradiction (fun y => n (.inr y))⟩)))
  refine bx_callV (z := mX9_needWithin) (ci := 9) dX9_cool_4 lX9_172 qX9_needWithin (by rfl) (by rfl) (by rfl) (by rfl) (Nat.le_of_ble_eq_true rfl) (s_needW (Int32.not_lt.mpr q0.1) q0.2) (fun r4 μ4 e4 => ?_)
  obtain ⟨rfl, e4⟩ := e4
  obtain rfl := e4.symm
  exact absurd q0 g
theorem x_season {a1 a2 a3 a4 : Int32} (g : ¬ ((0 ≤ a2 ∧ a2 ≤ 16) ∧ (1 ≤ a3 ∧ a3 ≤ 96) ∧ (0 ≤ a4 ∧ a4 ≤ 3))) : bc_CX (d + 7) LC mX9_season [.ref 0, .int a1, .int a2, .int a3, .int a4] μ eIA (rfC μ 1) := by
  refine bx_enter (by decide) (Nat.le_of_ble_eq_true rfl) rfl ?_
  refine bx_aload_n dX9_season_0 rfl ?_
  refine bx_iload_n dX9_season_1 rfl ?_
  refine bx_iconst (v := 0) dX9_season_2 (by decide) ?_
  refine bx_bipush (v := 16) dX9_season_3 (by decide) ?_
  by_cases q0 : (0 ≤ a2 ∧ a2 ≤ 16)
  rotate_left
  · exact bx_callX (z := mX9_needWithin) (ci := 9) dX9_season_5 lX9_172 qX9_needWithin (by rfl) (by rfl) (by rfl) (by rfl) (Nat.le_of_ble_eq_true rfl) (x_needW (Classical.byContradiction (fun n => q0 ⟨Int32.not_lt.mp (fun y => n (.inl y)), Classical.byContradiction (fun y => n (.inr y))⟩)))
  refine bx_callV (z := mX9_needWithin) (ci := 9) dX9_season_5 lX9_172 qX9_needWithin (by rfl) (by rfl) (by rfl) (by rfl) (Nat.le_of_ble_eq_true rfl) (s_needW (Int32.not_lt.mpr q0.1) q0.2) (fun r5 μ5 e5 => ?_)
  obtain ⟨rfl, e5⟩ := e5
  obtain rfl := e5.symm
  refine bx_aload_n dX9_season_8 rfl ?_
  refine bx_iload_n dX9_season_9 rfl ?_
  refine bx_iconst (v := 1) dX9_season_10 (by decide) ?_
  refine bx_bipush (v := 96) dX9_season_11 (by decide) ?_
  by_cases q1 : (1 ≤ a3 ∧ a3 ≤ 96)
  rotate_left
  · exact bx_callX (z := mX9_needWithin) (ci := 9) dX9_season_13 lX9_172 qX9_needWithin (by rfl) (by rfl) (by rfl) (by rfl) (Nat.le_of_ble_eq_true rfl) (x_needW (Classical.byContradiction (fun n => q1 ⟨Int32.not_lt.mp (fun y => n (.inl y)), Classical.byContradiction (fun y => n (.inr y))⟩)))
  refine bx_callV (z := mX9_needWithin) (ci := 9) dX9_season_13 lX9_172 qX9_needWithin (by rfl) (by rfl) (by rfl) (by rfl) (Nat.le_of_ble_eq_true rfl) (s_needW (Int32.not_lt.mpr q1.1) q1.2) (fun r13 μ13 e13 => ?_)
  obtain ⟨rfl, e13⟩ := e13
  obtain rfl := e13.symm
  refine bx_aload_n dX9_season_16 rfl ?_
  refine bx_iload dX9_season_17 rfl ?_
  refine bx_iconst (v := 0) dX9_season_19 (by decide) ?_
  refine bx_iconst (v := 3) dX9_season_20 (by decide) ?_
  by_cases q2 : (0 ≤ a4 ∧ a4 ≤ 3)
  rotate_left
  · exact bx_callX (z := mX9_needWithin) (ci := 9) dX9_season_21 lX9_172 qX9_needWithin (by rfl) (by rfl) (by rfl) (by rfl) (Nat.le_of_ble_eq_true rfl) (x_needW (Classical.byContradiction (fun n => q2 ⟨Int32.not_lt.mp (fun y => n (.inl y)), Classical.byContradiction (fun y => n (.inr y))⟩)))
  refine bx_callV (z := mX9_needWithin) (ci := 9) dX9_season_21 lX9_172 qX9_needWithin (by rfl) (by rfl) (by rfl) (by rfl) (Nat.le_of_ble_eq_true rfl) (s_needW (Int32.not_lt.mpr q2.1) q2.2) (fun r21 μ21 e21 => ?_)
  obtain ⟨rfl, e21⟩ := e21
  obtain rfl := e21.symm
  exact absurd ⟨q0, q1, q2⟩ g
theorem x_span {a1 a2 a3 a4 a5 : Int32} (g : ¬ ((1 ≤ a2 ∧ a2 ≤ 20) ∧ (0 ≤ a3 ∧ a3 ≤ 16) ∧ (1 ≤ a4 ∧ a4 ≤ 96) ∧ (0 ≤ a5 ∧ a5 ≤ 2))) : bc_CX (d + 7) LC mX9_span [.ref 0, .int a1, .int a2, .int a3, .int a4, .int a5] μ eIA (rfC μ 1) := by
  refine bx_enter (by decide) (Nat.le_of_ble_eq_true rfl) rfl ?_
  refine bx_aload_n dX9_span_0 rfl ?_
  refine bx_iload_n dX9_span_1 rfl ?_
  refine bx_iconst (v := 1) dX9_span_2 (by decide) ?_
  refine bx_bipush (v := 20) dX9_span_3 (by decide) ?_
  by_cases q0 : (1 ≤ a2 ∧ a2 ≤ 20)
  rotate_left
  · exact bx_callX (z := mX9_needWithin) (ci := 9) dX9_span_5 lX9_172 qX9_needWithin (by rfl) (by rfl) (by rfl) (by rfl) (Nat.le_of_ble_eq_true rfl) (x_needW (Classical.byContradiction (fun n => q0 ⟨Int32.not_lt.mp (fun y => n (.inl y)), Classical.byContradiction (fun y => n (.inr y))⟩)))
  refine bx_callV (z := mX9_needWithin) (ci := 9) dX9_span_5 lX9_172 qX9_needWithin (by rfl) (by rfl) (by rfl) (by rfl) (Nat.le_of_ble_eq_true rfl) (s_needW (Int32.not_lt.mpr q0.1) q0.2) (fun r5 μ5 e5 => ?_)
  obtain ⟨rfl, e5⟩ := e5
  obtain rfl := e5.symm
  refine bx_aload_n dX9_span_8 rfl ?_
  refine bx_iload_n dX9_span_9 rfl ?_
  refine bx_iconst (v := 0) dX9_span_10 (by decide) ?_
  refine bx_bipush (v := 16) dX9_span_11 (by decide) ?_
  by_cases q1 : (0 ≤ a3 ∧ a3 ≤ 16)
  rotate_left
  · exact bx_callX (z := mX9_needWithin) (ci := 9) dX9_span_13 lX9_172 qX9_needWithin (by rfl) (by rfl) (by rfl) (by rfl) (Nat.le_of_ble_eq_true rfl) (x_needW (Classical.byContradiction (fun n => q1 ⟨Int32.not_lt.mp (fun y => n (.inl y)), Classical.byContradiction (fun y => n (.inr y))⟩)))
  refine bx_callV (z := mX9_needWithin) (ci := 9) dX9_span_13 lX9_172 qX9_needWithin (by rfl) (by rfl) (by rfl) (by rfl) (Nat.le_of_ble_eq_true rfl) (s_needW (Int32.not_lt.mpr q1.1) q1.2) (fun r13 μ13 e13 => ?_)
  obtain ⟨rfl, e13⟩ := e13
  obtain rfl := e13.symm
  refine bx_aload_n dX9_span_16 rfl ?_
  refine bx_iload dX9_span_17 rfl ?_
  refine bx_iconst (v := 1) dX9_span_19 (by decide) ?_
  refine bx_bipush (v := 96) dX9_span_20 (by decide) ?_
  by_cases q2 : (1 ≤ a4 ∧ a4 ≤ 96)
  rotate_left
  · exact bx_callX (z := mX9_needWithin) (ci := 9) dX9_span_22 lX9_172 qX9_needWithin (by rfl) (by rfl) (by rfl) (by rfl) (Nat.le_of_ble_eq_true rfl) (x_needW (Classical.byContradiction (fun n => q2 ⟨Int32.not_lt.mp (fun y => n (.inl y)), Classical.byContradiction (fun y => n (.inr y))⟩)))
  refine bx_callV (z := mX9_needWithin) (ci := 9) dX9_span_22 lX9_172 qX9_needWithin (by rfl) (by rfl) (by rfl) (by rfl) (Nat.le_of_ble_eq_true rfl) (s_needW (Int32.not_lt.mpr q2.1) q2.2) (fun r22 μ22 e22 => ?_)
  obtain ⟨rfl, e22⟩ := e22
  obtain rfl := e22.symm
  refine bx_aload_n dX9_span_25 rfl ?_
  refine bx_iload dX9_span_26 rfl ?_
  refine bx_iconst (v := 0) dX9_span_28 (by decide) ?_
  refine bx_iconst (v := 2) dX9_span_29 (by decide) ?_
  by_cases q3 : (0 ≤ a5 ∧ a5 ≤ 2)
  rotate_left
  · exact bx_callX (z := mX9_needWithin) (ci := 9) dX9_span_30 lX9_172 qX9_needWithin (by rfl) (by rfl) (by rfl) (by rfl) (Nat.le_of_ble_eq_true rfl) (x_needW (Classical.byContradiction (fun n => q3 ⟨Int32.not_lt.mp (fun y => n (.inl y)), Classical.byContradiction (fun y => n (.inr y))⟩)))
  refine bx_callV (z := mX9_needWithin) (ci := 9) dX9_span_30 lX9_172 qX9_needWithin (by rfl) (by rfl) (by rfl) (by rfl) (Nat.le_of_ble_eq_true rfl) (s_needW (Int32.not_lt.mpr q3.1) q3.2) (fun r30 μ30 e30 => ?_)
  obtain ⟨rfl, e30⟩ := e30
  obtain rfl := e30.symm
  exact absurd ⟨q0, q1, q2, q3⟩ g
end T91
