/-! each constructor of the class's parts, and the reference's -/
theorem bn_rs {rs : List (Option Nat)} {N n : Nat} (h : ∀ j, j < N → rs.getD j none = some (n + 1 + j)) (hl : rs.length ≤ N) : ∀ j, rs.getD j none = if j < N then some (n + 1 + j) else none := by
  intro j
  by_cases hj : j < N
  · rw [if_pos hj]; exact h j hj
  · rw [if_neg hj, List.getD_eq_getElem?_getD, List.getElem?_eq_none (by omega)]
    rfl
theorem bn_to {y : bc_Y} {ci : Nat} {L : bc_L} {Z : bn_Z} {pc n slots : Nat} {lv : List (Nat × Value)} {st fs : List Value} {μ : bc_M} (pc' n' slots' : Nat) (fs' : List Value) (h1 : pc = pc') (h2 : n = n') (h3 : slots = slots') (h4 : fs = fs') (kk : bn y ci L Z pc' lv st n' fs' μ slots') : bn y ci L Z pc lv st n fs μ slots := by
  subst h1; subst h2; subst h3; subst h4
  exact kk
def m00 : bc_M := fun _ _ => 0
theorem LBg_b : bc_isB LBg 0 := ⟨rfl, rfl, rfl, rfl, rfl, rfl, rfl, rfl⟩
theorem LCb_g : bc_isG LCb 0 7 15 := ⟨rfl, rfl, rfl, rfl, rfl⟩
theorem c_X7 : bn_C 41 mX7_init 7 [] fs0_7 (fun _ => 0) LTx.length LTx 600 (fun _ _ => True) (fun ν => ν = bc_u m00 0 6 (-1)) := by
  refine bn_enter (μ := bc_u m00 0 6 (-1)) rfl (by decide) rfl (fun _ => Nat.le_of_ble_eq_true rfl) ?_
  intro p l e s m args below meth c Y S0 S hS hi hA hK hE C
  refine bn_obj C rfl dX7_init_0 dX7_init_1 oX7_3 oI1 oI2 (Nat.le_of_ble_eq_true rfl) (Nat.le_of_ble_eq_true rfl) ?_
  refine bn_to 4 1 0 [.null, .int 0, .int 0, .int 0, .int 0, .int 0, .int 0] rfl rfl rfl rfl ?_
  refine bn_arr (N := 600) C rfl dX7_init_4 (.inr (.inl ⟨_, dX7_init_5, rfl, rfl⟩)) dX7_init_8 dX7_init_10 kd_byte fX7_9 ftX7 ffX7_0 rfl rfl (by decide) (by decide) (Nat.le_of_ble_eq_true rfl) (Nat.le_of_ble_eq_true rfl) (Nat.le_of_ble_eq_true rfl) ?_
  refine bn_to 13 2 600 [.ref (S + 1), .int 0, .int 0, .int 0, .int 0, .int 0, .int 0] rfl rfl rfl rfl ?_
  refine bn_puti (q := 0) (v := -1) C rfl dX7_init_13 dX7_init_14 rfl dX7_init_15 fX7_15 ftX7 fpX7_6 (Nat.le_of_ble_eq_true rfl) (by decide) ?_
  refine bn_to 18 2 600 [.ref (S + 1), .int 0, .int 0, .int 0, .int 0, .int 0, .int (-1)] rfl rfl rfl rfl ?_
  refine bn_q (L := LTx) (n0 := 0) rfl rfl ?_
  exact bq_ret C dX7_init_18 rfl
theorem c_X0 : bn_C 41 mX0_init 0 [] fs0_0 (fun _ => 0) LBg.length LBg 71 (fun _ _ => True) (fun ν => emS 0 m00 ν) := by
  refine bn_enter (μ := m00) rfl (by decide) rfl (fun _ => Nat.le_of_ble_eq_true rfl) ?_
  intro p l e s m args below meth c Y S0 S hS hi hA hK hE C
  refine bn_obj C rfl dX0_init_0 dX0_init_1 oX0_3 oI1 oI2 (Nat.le_of_ble_eq_true rfl) (Nat.le_of_ble_eq_true rfl) ?_
  refine bn_to 4 1 0 [.int 0, .int 0, .int 0, .int 0, .int 0, .int 0, .int 0, .null, .null, .null, .null, .null, .null, .null] rfl rfl rfl rfl ?_
  refine bn_arr (N := 6) C rfl dX0_init_4 (.inl ⟨_, dX0_init_5, rfl, rfl⟩) dX0_init_7 dX0_init_9 kd_int fX0_9 ftX0 ffX0_7 rfl rfl (by decide) (by decide) (Nat.le_of_ble_eq_true rfl) (Nat.le_of_ble_eq_true rfl) (Nat.le_of_ble_eq_true rfl) ?_
  refine bn_to 12 2 6 [.int 0, .int 0, .int 0, .int 0, .int 0, .int 0, .int 0, .ref (S + 1), .null, .null, .null, .null, .null, .null] rfl rfl rfl rfl ?_
  refine bn_arr (N := 6) C rfl dX0_init_12 (.inl ⟨_, dX0_init_13, rfl, rfl⟩) dX0_init_15 dX0_init_17 kd_int fX0_15 ftX0 ffX0_8 rfl rfl (by decide) (by decide) (Nat.le_of_ble_eq_true rfl) (Nat.le_of_ble_eq_true rfl) (Nat.le_of_ble_eq_true rfl) ?_
  refine bn_to 20 3 12 [.int 0, .int 0, .int 0, .int 0, .int 0, .int 0, .int 0, .ref (S + 1), .ref (S + 2), .null, .null, .null, .null, .null] rfl rfl rfl rfl ?_
  refine bn_arr (N := 8) C rfl dX0_init_20 (.inl ⟨_, dX0_init_21, rfl, rfl⟩) dX0_init_23 dX0_init_25 kd_int fX0_18 ftX0 ffX0_9 rfl rfl (by decide) (by decide) (Nat.le_of_ble_eq_true rfl) (Nat.le_of_ble_eq_true rfl) (Nat.le_of_ble_eq_true rfl) ?_
  refine bn_to 28 4 20 [.int 0, .int 0, .int 0, .int 0, .int 0, .int 0, .int 0, .ref (S + 1), .ref (S + 2), .ref (S + 3), .null, .null, .null, .null] rfl rfl rfl rfl ?_
  refine bn_arr (N := 8) C rfl dX0_init_28 (.inl ⟨_, dX0_init_29, rfl, rfl⟩) dX0_init_31 dX0_init_33 kd_int fX0_21 ftX0 ffX0_10 rfl rfl (by decide) (by decide) (Nat.le_of_ble_eq_true rfl) (Nat.le_of_ble_eq_true rfl) (Nat.le_of_ble_eq_true rfl) ?_
  refine bn_to 36 5 28 [.int 0, .int 0, .int 0, .int 0, .int 0, .int 0, .int 0, .ref (S + 1), .ref (S + 2), .ref (S + 3), .ref (S + 4), .null, .null, .null] rfl rfl rfl rfl ?_
  refine bn_arr (N := 6) C rfl dX0_init_36 (.inl ⟨_, dX0_init_37, rfl, rfl⟩) dX0_init_39 dX0_init_41 kd_int fX0_24 ftX0 ffX0_11 rfl rfl (by decide) (by decide) (Nat.le_of_ble_eq_true rfl) (Nat.le_of_ble_eq_true rfl) (Nat.le_of_ble_eq_true rfl) ?_
  refine bn_to 44 6 34 [.int 0, .int 0, .int 0, .int 0, .int 0, .int 0, .int 0, .ref (S + 1), .ref (S + 2), .ref (S + 3), .ref (S + 4), .ref (S + 5), .null, .null] rfl rfl rfl rfl ?_
  refine bn_arr (N := 6) C rfl dX0_init_44 (.inl ⟨_, dX0_init_45, rfl, rfl⟩) dX0_init_47 dX0_init_49 kd_int fX0_27 ftX0 ffX0_12 rfl rfl (by decide) (by decide) (Nat.le_of_ble_eq_true rfl) (Nat.le_of_ble_eq_true rfl) (Nat.le_of_ble_eq_true rfl) ?_
  refine bn_to 52 7 40 [.int 0, .int 0, .int 0, .int 0, .int 0, .int 0, .int 0, .ref (S + 1), .ref (S + 2), .ref (S + 3), .ref (S + 4), .ref (S + 5), .ref (S + 6), .null] rfl rfl rfl rfl ?_
  refine bn_arr (N := 31) C rfl dX0_init_52 (.inl ⟨_, dX0_init_53, rfl, rfl⟩) dX0_init_55 dX0_init_57 kd_int fX0_30 ftX0 ffX0_13 rfl rfl (by decide) (by decide) (Nat.le_of_ble_eq_true rfl) (Nat.le_of_ble_eq_true rfl) (Nat.le_of_ble_eq_true rfl) ?_
  refine bn_to 60 8 71 [.int 0, .int 0, .int 0, .int 0, .int 0, .int 0, .int 0, .ref (S + 1), .ref (S + 2), .ref (S + 3), .ref (S + 4), .ref (S + 5), .ref (S + 6), .ref (S + 7)] rfl rfl rfl rfl ?_
  refine bn_q (L := LBg) (n0 := 0) rfl rfl ?_
  refine bq_call (z := mX0_empty) (d := 40) (ci := 0) C (hK.bc (X := bn_X S LBg.length _ Y) rfl (fun _ h => bn_X.far (by decide) h) hi hA) rfl rfl dX0_init_60 dX0_init_61 lX0_33 qX0_empty rfl rfl (Nat.le_of_ble_eq_true rfl) (Nat.le_of_ble_eq_true rfl) (Nat.le_of_ble_eq_true rfl) (Nat.le_of_ble_eq_true rfl) (by decide) (s_empty LBg_b) (fun ν hq => ?_)
  exact bq_ret C dX0_init_64 hq
theorem c_X2 : bn_C 41 mX2_init 2 [] fs0_2 (fun _ => 0) LLw.length LLw 457 (fun _ _ => True) (fun ν => ν 0 1 = nI 7 ∧ ∀ i x, fstL[i]? = some x → ν 1 i = nI x) := by
  refine bn_enter (μ := m00) rfl (by decide) rfl (fun _ => Nat.le_of_ble_eq_true rfl) ?_
  intro p l e s m args below meth c Y S0 S hS hi hA hK hE C
  refine bn_obj C rfl dX2_init_0 dX2_init_1 oX2_5 oI1 oI2 (Nat.le_of_ble_eq_true rfl) (Nat.le_of_ble_eq_true rfl) ?_
  refine bn_to 4 1 0 [.null, .int 0, .null, .int 0, .null, .null] rfl rfl rfl rfl ?_
  refine bn_arr (N := 150) C rfl dX2_init_4 (.inr (.inl ⟨_, dX2_init_5, rfl, rfl⟩)) dX2_init_8 dX2_init_10 kd_int fX2_11 ftX2 ffX2_0 rfl rfl (by decide) (by decide) (Nat.le_of_ble_eq_true rfl) (Nat.le_of_ble_eq_true rfl) (Nat.le_of_ble_eq_true rfl) ?_
  refine bn_to 13 2 150 [.ref (S + 1), .int 0, .null, .int 0, .null, .null] rfl rfl rfl rfl ?_
  refine bn_arr (N := 150) C rfl dX2_init_13 (.inr (.inl ⟨_, dX2_init_14, rfl, rfl⟩)) dX2_init_17 dX2_init_19 kd_int fX2_15 ftX2 ffX2_2 rfl rfl (by decide) (by decide) (Nat.le_of_ble_eq_true rfl) (Nat.le_of_ble_eq_true rfl) (Nat.le_of_ble_eq_true rfl) ?_
  refine bn_to 22 3 300 [.ref (S + 1), .int 0, .ref (S + 2), .int 0, .null, .null] rfl rfl rfl rfl ?_
  refine bn_arr (N := 150) C rfl dX2_init_22 (.inr (.inl ⟨_, dX2_init_23, rfl, rfl⟩)) dX2_init_26 dX2_init_28 kd_int fX2_18 ftX2 ffX2_4 rfl rfl (by decide) (by decide) (Nat.le_of_ble_eq_true rfl) (Nat.le_of_ble_eq_true rfl) (Nat.le_of_ble_eq_true rfl) ?_
  refine bn_to 31 4 450 [.ref (S + 1), .int 0, .ref (S + 2), .int 0, .ref (S + 3), .null] rfl rfl rfl rfl ?_
  refine bn_arr (N := 7) C rfl dX2_init_31 (.inl ⟨_, dX2_init_32, rfl, rfl⟩) dX2_init_34 dX2_init_36 kd_int fX2_21 ftX2 ffX2_5 rfl rfl (by decide) (by decide) (Nat.le_of_ble_eq_true rfl) (Nat.le_of_ble_eq_true rfl) (Nat.le_of_ble_eq_true rfl) ?_
  refine bn_to 39 5 457 [.ref (S + 1), .int 0, .ref (S + 2), .int 0, .ref (S + 3), .ref (S + 4)] rfl rfl rfl rfl ?_
  refine bn_q (L := LLw) (n0 := 0) rfl rfl ?_
  refine bq_call (z := mX2_becomeFirst) (d := 40) (ci := 2) C (hK.bc (X := bn_X S LLw.length _ Y) rfl (fun _ h => bn_X.far (by decide) h) hi hA) rfl rfl dX2_init_39 dX2_init_40 lX2_24 qX2_becomeFirst rfl rfl (Nat.le_of_ble_eq_true rfl) (Nat.le_of_ble_eq_true rfl) (Nat.le_of_ble_eq_true rfl) (Nat.le_of_ble_eq_true rfl) (by decide) (u_becomeFirst (d := 37)) (fun ν hq => ?_)
  exact bq_ret C dX2_init_43 hq
theorem c_X5 : bn_C 41 mX5_init 5 [] fs0_5 (fun _ => 0) LPl.length LPl 450 (fun _ _ => True) (fun ν => ν = m00) := by
  refine bn_enter (μ := m00) rfl (by decide) rfl (fun _ => Nat.le_of_ble_eq_true rfl) ?_
  intro p l e s m args below meth c Y S0 S hS hi hA hK hE C
  refine bn_obj C rfl dX5_init_0 dX5_init_1 oX5_3 oI1 oI2 (Nat.le_of_ble_eq_true rfl) (Nat.le_of_ble_eq_true rfl) ?_
  refine bn_to 4 1 0 [.null, .null, .null, .int 0, .int 0, .int 0, .int 0] rfl rfl rfl rfl ?_
  refine bn_arr (N := 150) C rfl dX5_init_4 (.inr (.inl ⟨_, dX5_init_5, rfl, rfl⟩)) dX5_init_8 dX5_init_10 kd_int fX5_9 ftX5 ffX5_0 rfl rfl (by decide) (by decide) (Nat.le_of_ble_eq_true rfl) (Nat.le_of_ble_eq_true rfl) (Nat.le_of_ble_eq_true rfl) ?_
  refine bn_to 13 2 150 [.ref (S + 1), .null, .null, .int 0, .int 0, .int 0, .int 0] rfl rfl rfl rfl ?_
  refine bn_arr (N := 150) C rfl dX5_init_13 (.inr (.inl ⟨_, dX5_init_14, rfl, rfl⟩)) dX5_init_17 dX5_init_19 kd_int fX5_15 ftX5 ffX5_1 rfl rfl (by decide) (by decide) (Nat.le_of_ble_eq_true rfl) (Nat.le_of_ble_eq_true rfl) (Nat.le_of_ble_eq_true rfl) ?_
  refine bn_to 22 3 300 [.ref (S + 1), .ref (S + 2), .null, .int 0, .int 0, .int 0, .int 0] rfl rfl rfl rfl ?_
  refine bn_arr (N := 150) C rfl dX5_init_22 (.inr (.inl ⟨_, dX5_init_23, rfl, rfl⟩)) dX5_init_26 dX5_init_28 kd_int fX5_18 ftX5 ffX5_2 rfl rfl (by decide) (by decide) (Nat.le_of_ble_eq_true rfl) (Nat.le_of_ble_eq_true rfl) (Nat.le_of_ble_eq_true rfl) ?_
  refine bn_to 31 4 450 [.ref (S + 1), .ref (S + 2), .ref (S + 3), .int 0, .int 0, .int 0, .int 0] rfl rfl rfl rfl ?_
  refine bn_q (L := LPl) (n0 := 0) rfl rfl ?_
  exact bq_ret C dX5_init_31 rfl
theorem c_X3 : bn_C 41 mX3_init 3 [] fs0_3 (fun _ => 0) LLn.length LLn 26 (fun _ _ => True) (fun ν => ν 0 1 = 0 ∧ ∀ h, h < 13 → ν 1 h = -1) := by
  refine bn_enter (μ := m00) rfl (by decide) rfl (fun _ => Nat.le_of_ble_eq_true rfl) ?_
  intro p l e s m args below meth c Y S0 S hS hi hA hK hE C
  refine bn_obj C rfl dX3_init_0 dX3_init_1 oX3_3 oI1 oI2 (Nat.le_of_ble_eq_true rfl) (Nat.le_of_ble_eq_true rfl) ?_
  refine bn_to 4 1 0 [.null, .int 0, .null, .int 0] rfl rfl rfl rfl ?_
  refine bn_arr (N := 13) C rfl dX3_init_4 (.inl ⟨_, dX3_init_5, rfl, rfl⟩) dX3_init_7 dX3_init_9 kd_int fX3_9 ftX3 ffX3_0 rfl rfl (by decide) (by decide) (Nat.le_of_ble_eq_true rfl) (Nat.le_of_ble_eq_true rfl) (Nat.le_of_ble_eq_true rfl) ?_
  refine bn_to 12 2 13 [.ref (S + 1), .int 0, .null, .int 0] rfl rfl rfl rfl ?_
  refine bn_arr (N := 13) C rfl dX3_init_12 (.inl ⟨_, dX3_init_13, rfl, rfl⟩) dX3_init_15 dX3_init_17 kd_int fX3_15 ftX3 ffX3_2 rfl rfl (by decide) (by decide) (Nat.le_of_ble_eq_true rfl) (Nat.le_of_ble_eq_true rfl) (Nat.le_of_ble_eq_true rfl) ?_
  refine bn_to 20 3 26 [.ref (S + 1), .int 0, .ref (S + 2), .int 0] rfl rfl rfl rfl ?_
  refine bn_q (L := LLn) (n0 := 0) rfl rfl ?_
  refine bq_call (z := mX3_forget) (d := 40) (ci := 3) C (hK.bc (X := bn_X S LLn.length _ Y) rfl (fun _ h => bn_X.far (by decide) h) hi hA) rfl rfl dX3_init_20 dX3_init_21 lX3_18 qX3_forget rfl rfl (Nat.le_of_ble_eq_true rfl) (Nat.le_of_ble_eq_true rfl) (Nat.le_of_ble_eq_true rfl) (Nat.le_of_ble_eq_true rfl) (by decide) (u_kForget (d := 37)) (fun ν hq => ?_)
  exact bq_ret C dX3_init_24 hq
theorem c_X4 : bn_C 41 mX4_init 4 [] fs0_4 (fun _ => 0) LPs.length LPs 1946 (fun _ _ => True) (fun ν => ν = m00) := by
  refine bn_enter (μ := m00) rfl (by decide) rfl (fun _ => Nat.le_of_ble_eq_true rfl) ?_
  intro p l e s m args below meth c Y S0 S hS hi hA hK hE C
  refine bn_obj C rfl dX4_init_0 dX4_init_1 oX4_3 oI1 oI2 (Nat.le_of_ble_eq_true rfl) (Nat.le_of_ble_eq_true rfl) ?_
  refine bn_to 4 1 0 [.null, .int 0, .null, .null, .null, .int 0] rfl rfl rfl rfl ?_
  refine bn_mna (N := 16) (K := 28) C rfl dX4_init_4 (.inl ⟨_, dX4_init_5, rfl, rfl⟩) (.inl ⟨_, dX4_init_7, rfl, rfl⟩) dX4_init_9 dX4_init_13 hX4_11 aI fX4_13 ftX4 ffX4_0 rfl (by decide +kernel) (bn_rs (by decide +kernel) (by decide +kernel)) (fun _ _ _ => rfl) (by decide) (by decide) (by decide) (by decide) (Nat.le_of_ble_eq_true rfl) (Nat.le_of_ble_eq_true rfl) (Nat.le_of_ble_eq_true rfl) ?_
  refine bn_to 16 18 464 [.ref (S + 1), .int 0, .null, .null, .null, .int 0] rfl rfl rfl rfl ?_
  refine bn_mna (N := 3) (K := 28) C rfl dX4_init_16 (.inr (.inr ⟨_, dX4_init_17, rfl, rfl⟩)) (.inl ⟨_, dX4_init_18, rfl, rfl⟩) dX4_init_20 dX4_init_24 hX4_11 aI fX4_18 ftX4 ffX4_2 rfl (by decide +kernel) (bn_rs (by decide +kernel) (by decide +kernel)) (fun _ _ _ => rfl) (by decide) (by decide) (by decide) (by decide) (Nat.le_of_ble_eq_true rfl) (Nat.le_of_ble_eq_true rfl) (Nat.le_of_ble_eq_true rfl) ?_
  refine bn_to 27 22 551 [.ref (S + 1), .int 0, .ref (S + 18), .null, .null, .int 0] rfl rfl rfl rfl ?_
  refine bn_mna (N := 48) (K := 28) C rfl dX4_init_27 (.inl ⟨_, dX4_init_28, rfl, rfl⟩) (.inl ⟨_, dX4_init_30, rfl, rfl⟩) dX4_init_32 dX4_init_36 hX4_11 aI fX4_21 ftX4 ffX4_3 rfl (by decide +kernel) (bn_rs (by decide +kernel) (by decide +kernel)) (fun _ _ _ => rfl) (by decide) (by decide) (by decide) (by decide) (Nat.le_of_ble_eq_true rfl) (Nat.le_of_ble_eq_true rfl) (Nat.le_of_ble_eq_true rfl) ?_
  refine bn_to 39 71 1943 [.ref (S + 1), .int 0, .ref (S + 18), .ref (S + 22), .null, .int 0] rfl rfl rfl rfl ?_
  refine bn_arr (N := 3) C rfl dX4_init_39 (.inr (.inr ⟨_, dX4_init_40, rfl, rfl⟩)) dX4_init_41 dX4_init_43 kd_int fX4_24 ftX4 ffX4_4 rfl rfl (by decide) (by decide) (Nat.le_of_ble_eq_true rfl) (Nat.le_of_ble_eq_true rfl) (Nat.le_of_ble_eq_true rfl) ?_
  refine bn_to 46 72 1946 [.ref (S + 1), .int 0, .ref (S + 18), .ref (S + 22), .ref (S + 71), .int 0] rfl rfl rfl rfl ?_
  refine bn_q (L := LPs) (n0 := 0) rfl rfl ?_
  exact bq_ret C dX4_init_46 rfl
theorem c_X8 {ex : Nat → Nat} : bn_C 41 mX8_init 8 [.ref (ex 17), .ref (ex 18), .ref (ex 19), .ref (ex 20)] fs0_8 ex LTr.length LTr 4558 (fun _ _ => True) (fun ν => ν = m00) := by
  refine bn_enter (μ := m00) rfl (by decide) rfl (fun _ => Nat.le_of_ble_eq_true rfl) ?_
  intro p l e s m args below meth c Y S0 S hS hi hA hK hE C
  refine bn_obj C rfl dX8_init_0 dX8_init_1 oX8_3 oI1 oI2 (Nat.le_of_ble_eq_true rfl) (Nat.le_of_ble_eq_true rfl) ?_
  refine bn_to 4 1 0 [.null, .null, .null, .null, .null, .null, .null, .int 0, .int 0, .int 0, .int 0, .int 0, .int 0, .int 0] rfl rfl rfl rfl ?_
  refine bn_mna (N := 13) (K := 256) C rfl dX8_init_4 (.inl ⟨_, dX8_init_5, rfl, rfl⟩) (.inr (.inl ⟨_, dX8_init_7, rfl, rfl⟩)) dX8_init_10 dX8_init_14 hX8_9 aI fX8_11 ftX8 ffX8_4 rfl (by decide +kernel) (bn_rs (by decide +kernel) (by decide +kernel)) (fun _ _ _ => rfl) (by decide) (by decide) (by decide) (by decide) (Nat.le_of_ble_eq_true rfl) (Nat.le_of_ble_eq_true rfl) (Nat.le_of_ble_eq_true rfl) ?_
  refine bn_to 17 15 3341 [.null, .null, .null, .null, .ref (S + 1), .null, .null, .int 0, .int 0, .int 0, .int 0, .int 0, .int 0, .int 0] rfl rfl rfl rfl ?_
  refine bn_arr (N := 256) C rfl dX8_init_17 (.inr (.inl ⟨_, dX8_init_18, rfl, rfl⟩)) dX8_init_21 dX8_init_23 kd_boolean fX8_16 ftX8 ffX8_5 rfl rfl (by decide) (by decide) (Nat.le_of_ble_eq_true rfl) (Nat.le_of_ble_eq_true rfl) (Nat.le_of_ble_eq_true rfl) ?_
  refine bn_to 26 16 3597 [.null, .null, .null, .null, .ref (S + 1), .ref (S + 15), .null, .int 0, .int 0, .int 0, .int 0, .int 0, .int 0, .int 0] rfl rfl rfl rfl ?_
  refine bn_arr (N := 961) C rfl dX8_init_26 (.inr (.inl ⟨_, dX8_init_27, rfl, rfl⟩)) dX8_init_30 dX8_init_32 kd_int fX8_20 ftX8 ffX8_6 rfl rfl (by decide) (by decide) (Nat.le_of_ble_eq_true rfl) (Nat.le_of_ble_eq_true rfl) (Nat.le_of_ble_eq_true rfl) ?_
  refine bn_to 35 17 4558 [.null, .null, .null, .null, .ref (S + 1), .ref (S + 15), .ref (S + 16), .int 0, .int 0, .int 0, .int 0, .int 0, .int 0, .int 0] rfl rfl rfl rfl ?_
  refine bn_putr (i := 1) C rfl dX8_init_35 (.inl ⟨_, dX8_init_36, rfl, rfl⟩) dX8_init_37 fX8_24 ftX8 ffX8_0 (Nat.le_of_ble_eq_true rfl) (by decide) ?_
  refine bn_to 40 17 4558 [.ref (ex 17), .null, .null, .null, .ref (S + 1), .ref (S + 15), .ref (S + 16), .int 0, .int 0, .int 0, .int 0, .int 0, .int 0, .int 0] rfl rfl rfl rfl ?_
  refine bn_putr (i := 2) C rfl dX8_init_40 (.inl ⟨_, dX8_init_41, rfl, rfl⟩) dX8_init_42 fX8_28 ftX8 ffX8_1 (Nat.le_of_ble_eq_true rfl) (by decide) ?_
  refine bn_to 45 17 4558 [.ref (ex 17), .ref (ex 18), .null, .null, .ref (S + 1), .ref (S + 15), .ref (S + 16), .int 0, .int 0, .int 0, .int 0, .int 0, .int 0, .int 0] rfl rfl rfl rfl ?_
  refine bn_putr (i := 3) C rfl dX8_init_45 (.inl ⟨_, dX8_init_46, rfl, rfl⟩) dX8_init_47 fX8_32 ftX8 ffX8_2 (Nat.le_of_ble_eq_true rfl) (by decide) ?_
  refine bn_to 50 17 4558 [.ref (ex 17), .ref (ex 18), .ref (ex 19), .null, .ref (S + 1), .ref (S + 15), .ref (S + 16), .int 0, .int 0, .int 0, .int 0, .int 0, .int 0, .int 0] rfl rfl rfl rfl ?_
  refine bn_putr (i := 4) C rfl dX8_init_50 (.inr ⟨_, dX8_init_51, rfl, rfl⟩) dX8_init_53 fX8_36 ftX8 ffX8_3 (Nat.le_of_ble_eq_true rfl) (by decide) ?_
  refine bn_to 56 17 4558 [.ref (ex 17), .ref (ex 18), .ref (ex 19), .ref (ex 20), .ref (S + 1), .ref (S + 15), .ref (S + 16), .int 0, .int 0, .int 0, .int 0, .int 0, .int 0, .int 0] rfl rfl rfl rfl ?_
  refine bn_q (L := LTr) (n0 := 0) rfl rfl ?_
  exact bq_ret C dX8_init_56 rfl
theorem c_X6 {ex : Nat → Nat} : bn_C 41 mX6_init 6 [.ref (ex 3)] fs0_6 ex LRc.length LRc 62 (fun _ _ => True) (fun ν => ν = m00) := by
  refine bn_enter (μ := m00) rfl (by decide) rfl (fun _ => Nat.le_of_ble_eq_true rfl) ?_
  intro p l e s m args below meth c Y S0 S hS hi hA hK hE C
  refine bn_obj C rfl dX6_init_0 dX6_init_1 oX6_3 oI1 oI2 (Nat.le_of_ble_eq_true rfl) (Nat.le_of_ble_eq_true rfl) ?_
  refine bn_to 4 1 0 [.null, .null, .null] rfl rfl rfl rfl ?_
  refine bn_arr (N := 31) C rfl dX6_init_4 (.inl ⟨_, dX6_init_5, rfl, rfl⟩) dX6_init_7 dX6_init_9 kd_int fX6_9 ftX6 ffX6_1 rfl rfl (by decide) (by decide) (Nat.le_of_ble_eq_true rfl) (Nat.le_of_ble_eq_true rfl) (Nat.le_of_ble_eq_true rfl) ?_
  refine bn_to 12 2 31 [.null, .ref (S + 1), .null] rfl rfl rfl rfl ?_
  refine bn_arr (N := 31) C rfl dX6_init_12 (.inl ⟨_, dX6_init_13, rfl, rfl⟩) dX6_init_15 dX6_init_17 kd_int fX6_15 ftX6 ffX6_2 rfl rfl (by decide) (by decide) (Nat.le_of_ble_eq_true rfl) (Nat.le_of_ble_eq_true rfl) (Nat.le_of_ble_eq_true rfl) ?_
  refine bn_to 20 3 62 [.null, .ref (S + 1), .ref (S + 2)] rfl rfl rfl rfl ?_
  refine bn_putr (i := 1) C rfl dX6_init_20 (.inl ⟨_, dX6_init_21, rfl, rfl⟩) dX6_init_22 fX6_18 ftX6 ffX6_0 (Nat.le_of_ble_eq_true rfl) (by decide) ?_
  refine bn_to 25 3 62 [.ref (ex 3), .ref (S + 1), .ref (S + 2)] rfl rfl rfl rfl ?_
  refine bn_q (L := LRc) (n0 := 0) rfl rfl ?_
  exact bq_ret C dX6_init_25 rfl
def ctMb (fb : Nat → Int32) : bc_M := fun i => if i = 7 then fb else fun _ => 0
theorem bn_qC {y : bc_Y} {Z : bn_Z} {pc slots : Nat} {lv : List (Nat × Value)} {st fs : List Value} {μ : bc_M} {rs : List (Option Nat)} (C : bn_H y Z) (hi : bc_inj (bn_XZ Z 7) LCb) (h0 : LCt[0]? = some (1 + 5, 0, rs)) (hfs : fs = bc_fs (bn_XZ Z 7).1 (μ 0) rs) (hE : va_at (bn_Y Z).2.1 vwCl ((bn_XZ Z 7).1 7, bc_e (bn_XZ Z 7).1 (bn_Y Z).2.2.1 (μ 7) (5, 0, bc_bogR 7)) (bn_s Z).heap) (kk : bq y LCb 7 Z (bn_XZ Z 7) pc lv st μ slots) : bn y 1 LCt Z pc lv st 7 fs μ slots := by
  obtain ⟨p, l, e, R, s, m, args, below, meth, c, Q, Y, ex, S⟩ := Z
  have hsz : s.heap.size = S + 1 := C.2.2
  have hE : va_at Y.2.1 vwCl ((bn_X S 7 ex Y).1 7, bc_e (bn_X S 7 ex Y).1 Y.2.2.1 (μ 7) (5, 0, bc_bogR 7)) s.heap := hE
  have hi : bc_inj (bn_X S 7 ex Y) LCb := hi
  have hlt : (bn_X S 7 ex Y).1 7 < S := by
    have h1 : (bn_X S 7 ex Y).1 7 < s.heap.size := hE.lt
    have h2 : (bn_X S 7 ex Y).1 7 ≠ S := fun q => by
      have := hi 7 0 (by decide) (by decide) q
      omega
    omega
  intro H locs sl hP hlow hlocs hlv
  refine kk H locs sl hP.1 ?_ (fun q hq _ => hlow q hq) (fun z hz => Or.inl (Nat.le_of_eq (hlocs z hz).symm)) hlv
  intro k q hq
  obtain ⟨o, ho, rfl⟩ := bc_of hq
  have hk : k < 8 := (List.getElem?_eq_some_iff.mp ho).1
  by_cases h7 : k < 7
  · have ho2 : LCt[k]? = some o := by
      rw [← ho]
      exact (List.getElem?_append_left h7).symm
    exact bn_full (L := LCt) (X := bn_X S 7 ex Y) (fun i hi => bn_X.own hi) h0 hfs hP k _ (bc_at ho2)
  · have hk7 : k = 7 := by omega
    subst hk7
    cases ho
    exact hE.kept (hlow _ hlt)
theorem c_X1 {ex : Nat → Nat} {fb : Nat → Int32} : bn_C 41 mX1_init 1 [.ref (ex 7), .ref (ex 15)] fs0_1 ex LCt.length LCb 38 (fun X U => va_at X.2.1 vwCl (X.1 7, bc_e X.1 X.2.2.1 fb (5, 0, bc_bogR 7)) U.heap) (fun ν => bnS 0 7 (ctMb fb) ν) := by
  refine bn_enter (μ := ctMb fb) rfl (by decide) rfl (fun _ => Nat.le_of_ble_eq_true rfl) ?_
  intro p l e s m args below meth c Y S0 S hS hi hA hK hE C
  refine bn_obj C rfl dX1_init_0 dX1_init_1 oX1_3 oI1 oI2 (Nat.le_of_ble_eq_true rfl) (Nat.le_of_ble_eq_true rfl) ?_
  refine bn_to 4 1 0 [.null, .null, .int 0, .int 0, .int 0, .int 0, .int 0, .int 0, .null, .null, .null, .null, .null, .int 0, .null, .int 0, .int 0, .int 0] rfl rfl rfl rfl ?_
  refine bn_arr (N := 8) C rfl dX1_init_4 (.inl ⟨_, dX1_init_5, rfl, rfl⟩) dX1_init_7 dX1_init_9 kd_int fX1_9 ftX1 ffX1_8 rfl rfl (by decide) (by decide) (Nat.le_of_ble_eq_true rfl) (Nat.le_of_ble_eq_true rfl) (Nat.le_of_ble_eq_true rfl) ?_
  refine bn_to 12 2 8 [.null, .null, .int 0, .int 0, .int 0, .int 0, .int 0, .int 0, .ref (S + 1), .null, .null, .null, .null, .int 0, .null, .int 0, .int 0, .int 0] rfl rfl rfl rfl ?_
  refine bn_arr (N := 8) C rfl dX1_init_12 (.inl ⟨_, dX1_init_13, rfl, rfl⟩) dX1_init_15 dX1_init_17 kd_int fX1_15 ftX1 ffX1_9 rfl rfl (by decide) (by decide) (Nat.le_of_ble_eq_true rfl) (Nat.le_of_ble_eq_true rfl) (Nat.le_of_ble_eq_true rfl) ?_
  refine bn_to 20 3 16 [.null, .null, .int 0, .int 0, .int 0, .int 0, .int 0, .int 0, .ref (S + 1), .ref (S + 2), .null, .null, .null, .int 0, .null, .int 0, .int 0, .int 0] rfl rfl rfl rfl ?_
  refine bn_arr (N := 6) C rfl dX1_init_20 (.inl ⟨_, dX1_init_21, rfl, rfl⟩) dX1_init_23 dX1_init_25 kd_int fX1_18 ftX1 ffX1_10 rfl rfl (by decide) (by decide) (Nat.le_of_ble_eq_true rfl) (Nat.le_of_ble_eq_true rfl) (Nat.le_of_ble_eq_true rfl) ?_
  refine bn_to 28 4 22 [.null, .null, .int 0, .int 0, .int 0, .int 0, .int 0, .int 0, .ref (S + 1), .ref (S + 2), .ref (S + 3), .null, .null, .int 0, .null, .int 0, .int 0, .int 0] rfl rfl rfl rfl ?_
  refine bn_arr (N := 6) C rfl dX1_init_28 (.inl ⟨_, dX1_init_29, rfl, rfl⟩) dX1_init_31 dX1_init_33 kd_int fX1_21 ftX1 ffX1_11 rfl rfl (by decide) (by decide) (Nat.le_of_ble_eq_true rfl) (Nat.le_of_ble_eq_true rfl) (Nat.le_of_ble_eq_true rfl) ?_
  refine bn_to 36 5 28 [.null, .null, .int 0, .int 0, .int 0, .int 0, .int 0, .int 0, .ref (S + 1), .ref (S + 2), .ref (S + 3), .ref (S + 4), .null, .int 0, .null, .int 0, .int 0, .int 0] rfl rfl rfl rfl ?_
  refine bn_arr (N := 6) C rfl dX1_init_36 (.inl ⟨_, dX1_init_37, rfl, rfl⟩) dX1_init_39 dX1_init_41 kd_int fX1_24 ftX1 ffX1_12 rfl rfl (by decide) (by decide) (Nat.le_of_ble_eq_true rfl) (Nat.le_of_ble_eq_true rfl) (Nat.le_of_ble_eq_true rfl) ?_
  refine bn_to 44 6 34 [.null, .null, .int 0, .int 0, .int 0, .int 0, .int 0, .int 0, .ref (S + 1), .ref (S + 2), .ref (S + 3), .ref (S + 4), .ref (S + 5), .int 0, .null, .int 0, .int 0, .int 0] rfl rfl rfl rfl ?_
  refine bn_arr (N := 4) C rfl dX1_init_44 (.inr (.inr ⟨_, dX1_init_45, rfl, rfl⟩)) dX1_init_46 dX1_init_48 kd_int fX1_27 ftX1 ffX1_14 rfl rfl (by decide) (by decide) (Nat.le_of_ble_eq_true rfl) (Nat.le_of_ble_eq_true rfl) (Nat.le_of_ble_eq_true rfl) ?_
  refine bn_to 51 7 38 [.null, .null, .int 0, .int 0, .int 0, .int 0, .int 0, .int 0, .ref (S + 1), .ref (S + 2), .ref (S + 3), .ref (S + 4), .ref (S + 5), .int 0, .ref (S + 6), .int 0, .int 0, .int 0] rfl rfl rfl rfl ?_
  refine bn_putr (i := 1) C rfl dX1_init_51 (.inl ⟨_, dX1_init_52, rfl, rfl⟩) dX1_init_53 fX1_30 ftX1 ffX1_0 (Nat.le_of_ble_eq_true rfl) (by decide) ?_
  refine bn_to 56 7 38 [.ref (ex 7), .null, .int 0, .int 0, .int 0, .int 0, .int 0, .int 0, .ref (S + 1), .ref (S + 2), .ref (S + 3), .ref (S + 4), .ref (S + 5), .int 0, .ref (S + 6), .int 0, .int 0, .int 0] rfl rfl rfl rfl ?_
  refine bn_putr (i := 2) C rfl dX1_init_56 (.inl ⟨_, dX1_init_57, rfl, rfl⟩) dX1_init_58 fX1_34 ftX1 ffX1_1 (Nat.le_of_ble_eq_true rfl) (by decide) ?_
  refine bn_to 61 7 38 [.ref (ex 7), .ref (ex 15), .int 0, .int 0, .int 0, .int 0, .int 0, .int 0, .ref (S + 1), .ref (S + 2), .ref (S + 3), .ref (S + 4), .ref (S + 5), .int 0, .ref (S + 6), .int 0, .int 0, .int 0] rfl rfl rfl rfl ?_
  refine bn_qC C hi rfl rfl hE ?_
  refine bq_call (z := mX1_beginNight) (d := 40) (ci := 1) C (hK.bc (X := bn_X S LCt.length _ Y) rfl (fun _ h => bn_X.far (by decide) h) hi hA) rfl rfl dX1_init_61 dX1_init_62 lX1_38 qX1_beginNight rfl rfl (Nat.le_of_ble_eq_true rfl) (Nat.le_of_ble_eq_true rfl) (Nat.le_of_ble_eq_true rfl) (Nat.le_of_ble_eq_true rfl) (by decide) (s_beginNight LCb_g (by decide)) (fun ν hq => ?_)
  exact bq_ret C dX1_init_65 hq
