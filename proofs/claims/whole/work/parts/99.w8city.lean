/-! BreadCity(): a fresh city -/
theorem bn_sub2 {y : bc_Y} {ci : Nat} {L : bc_L} {Z : bn_Z} {pc n slots nn : Nat} {lv : List (Nat × Value)} {fs : List Value} {μ : bc_M} {q k sl N9 : Nat} {Q9 : bc_M → Prop} (h : (∀ ν, Q9 ν → bn y ci L Z (q + 6) lv [] (n + nn) (fs.set k (.ref (bn_S Z + n))) (fun i => if n ≤ i ∧ i < n + nn then ν (i - n) else μ i) (slots + N9 + sl)) → bn y ci L Z pc lv [] n fs μ slots)
    (kk : ∀ ν μ9, Q9 ν → (∀ i, i < n → μ9 i = μ i) → (∀ j, j < nn → μ9 (n + j) = ν j) → bn y ci L Z (q + 6) lv [] (n + nn) (fs.set k (.ref (bn_S Z + n))) μ9 (slots + N9 + sl)) : bn y ci L Z pc lv [] n fs μ slots :=
  h (fun ν hν => kk ν _ hν (fun i hi => if_neg (fun q => by omega)) (fun j hj => by
    show (if n ≤ n + j ∧ n + j < n + nn then ν (n + j - n) else μ (n + j)) = ν j
    rw [if_pos ⟨by omega, by omega⟩, Nat.add_sub_cancel_left]))
def frsh (M : bc_M) : Prop := (M 0 = fun _ => 0) ∧ (M 1 1 = 0 ∧ M 1 6 = -1) ∧ (M 3 0 = 0 ∧ M 3 1 = 0 ∧ M 3 2 = 0 ∧ M 3 3 = 0 ∧ M 3 4 = 15 ∧ M 3 5 = 15 ∧ M 3 6 = 9 ∧ ∀ k, k < 31 → M 10 k = 0) ∧ (M 19 1 = nI 7 ∧ ∀ i x, fstL[i]? = some x → M 20 i = nI x) ∧ (M 28 1 = 0 ∧ ∀ h, h < 13 → M 29 h = -1) ∧ (M 31 2 = 15 ∧ M 31 3 = 15 ∧ M 31 5 = 9 ∧ M 31 4 = 0 ∧ M 31 6 = 0 ∧ M 31 7 = 0 ∧ (∀ j, j < 8 → M 32 j = 0) ∧ (∀ j, j < 8 → M 33 j = 0) ∧ ∀ j, j < 6 → M 34 j = 0) ∧ (M 45 1 = 0 ∧ M 45 5 = 0) ∧ M 117 7 = 0
theorem c_X1s {S : Nat} {ρ : Nat → Nat} {fb : Nat → Int32} (h7 : ρ 7 = 3) (h15 : ρ 15 = 19) : bn_C 41 mX1_init 1 [.ref (S + 3), .ref (S + 19)] fs0_1 (fun j => S + ρ j) 7 LCb 38 (fun X U => va_at X.2.1 vwCl (X.1 7, bc_e X.1 X.2.2.1 fb (5, 0, bc_bogR 7)) U.heap) (fun ν => bnS 0 7 (ctMb fb) ν) := by
  have h := c_X1 (ex := fun j => S + ρ j) (fb := fb)
  rw [h7, h15] at h
  exact h
theorem c_X8s {S : Nat} {ρ : Nat → Nat} (h1 : ρ 17 = 3) (h2 : ρ 18 = 28) (h3 : ρ 19 = 31) (h4 : ρ 20 = 38) : bn_C 41 mX8_init 8 [.ref (S + 3), .ref (S + 28), .ref (S + 31), .ref (S + 38)] fs0_8 (fun j => S + ρ j) 17 LTr 4558 (fun _ _ => True) (fun ν => ν = m00) := by
  have h := c_X8 (ex := fun j => S + ρ j)
  rw [h1, h2, h3, h4] at h
  exact h
theorem c_X6s {S : Nat} {ρ : Nat → Nat} (h1 : ρ 3 = 3) : bn_C 41 mX6_init 6 [.ref (S + 3)] fs0_6 (fun j => S + ρ j) 3 LRc 62 (fun _ _ => True) (fun ν => ν = m00) := by
  have h := c_X6 (ex := fun j => S + ρ j)
  rw [h1] at h
  exact h
theorem bnS_7 {fb : Nat → Int32} {ν : bc_M} (h : bnS 0 7 (ctMb fb) ν) : ν 7 = fb := by
  funext k
  rw [h.1 7 k (by omega) (by omega) (by omega) (by omega)]
  rfl
theorem dv_0 : ∀ j, j < 14 → defaultValue (tyX0 j) = vp_V fs0_0 j := by
  intro j hj
  have h : j = 0 ∨ j = 1 ∨ j = 2 ∨ j = 3 ∨ j = 4 ∨ j = 5 ∨ j = 6 ∨ j = 7 ∨ j = 8 ∨ j = 9 ∨ j = 10 ∨ j = 11 ∨ j = 12 ∨ j = 13 := by omega
  rcases h with rfl | rfl | rfl | rfl | rfl | rfl | rfl | rfl | rfl | rfl | rfl | rfl | rfl | rfl <;> rfl
theorem dv_1 : ∀ j, j < 18 → defaultValue (tyX1 j) = vp_V fs0_1 j := by
  intro j hj
  have h : j = 0 ∨ j = 1 ∨ j = 2 ∨ j = 3 ∨ j = 4 ∨ j = 5 ∨ j = 6 ∨ j = 7 ∨ j = 8 ∨ j = 9 ∨ j = 10 ∨ j = 11 ∨ j = 12 ∨ j = 13 ∨ j = 14 ∨ j = 15 ∨ j = 16 ∨ j = 17 := by omega
  rcases h with rfl | rfl | rfl | rfl | rfl | rfl | rfl | rfl | rfl | rfl | rfl | rfl | rfl | rfl | rfl | rfl | rfl | rfl <;> rfl
theorem dv_2 : ∀ j, j < 6 → defaultValue (tyX2 j) = vp_V fs0_2 j := by
  intro j hj
  have h : j = 0 ∨ j = 1 ∨ j = 2 ∨ j = 3 ∨ j = 4 ∨ j = 5 := by omega
  rcases h with rfl | rfl | rfl | rfl | rfl | rfl <;> rfl
theorem dv_3 : ∀ j, j < 4 → defaultValue (tyX3 j) = vp_V fs0_3 j := by
  intro j hj
  have h : j = 0 ∨ j = 1 ∨ j = 2 ∨ j = 3 := by omega
  rcases h with rfl | rfl | rfl | rfl <;> rfl
theorem dv_4 : ∀ j, j < 6 → defaultValue (tyX4 j) = vp_V fs0_4 j := by
  intro j hj
  have h : j = 0 ∨ j = 1 ∨ j = 2 ∨ j = 3 ∨ j = 4 ∨ j = 5 := by omega
  rcases h with rfl | rfl | rfl | rfl | rfl | rfl <;> rfl
theorem dv_5 : ∀ j, j < 7 → defaultValue (tyX5 j) = vp_V fs0_5 j := by
  intro j hj
  have h : j = 0 ∨ j = 1 ∨ j = 2 ∨ j = 3 ∨ j = 4 ∨ j = 5 ∨ j = 6 := by omega
  rcases h with rfl | rfl | rfl | rfl | rfl | rfl | rfl <;> rfl
theorem dv_6 : ∀ j, j < 3 → defaultValue (tyX6 j) = vp_V fs0_6 j := by
  intro j hj
  have h : j = 0 ∨ j = 1 ∨ j = 2 := by omega
  rcases h with rfl | rfl | rfl <;> rfl
theorem dv_7 : ∀ j, j < 7 → defaultValue (tyX7 j) = vp_V fs0_7 j := by
  intro j hj
  have h : j = 0 ∨ j = 1 ∨ j = 2 ∨ j = 3 ∨ j = 4 ∨ j = 5 ∨ j = 6 := by omega
  rcases h with rfl | rfl | rfl | rfl | rfl | rfl | rfl <;> rfl
theorem dv_8 : ∀ j, j < 14 → defaultValue (tyX8 j) = vp_V fs0_8 j := by
  intro j hj
  have h : j = 0 ∨ j = 1 ∨ j = 2 ∨ j = 3 ∨ j = 4 ∨ j = 5 ∨ j = 6 ∨ j = 7 ∨ j = 8 ∨ j = 9 ∨ j = 10 ∨ j = 11 ∨ j = 12 ∨ j = 13 := by omega
  rcases h with rfl | rfl | rfl | rfl | rfl | rfl | rfl | rfl | rfl | rfl | rfl | rfl | rfl | rfl <;> rfl
def LCr : List (Option Nat) := [some 1, some 3, some 11, some 19, some 24, some 28, some 31, some 38, some 45, some 117, some 134, none, none, none]
/-- what lies outside counts for nothing where a layout has no such references -/
theorem bn_exC {d : Nat} {y : bc_Y} {ci sl : Nat} {as fs0 : List Value} {ex9 ex : Nat → Nat} {L : bc_L} {Q : bc_M → Prop} (hr : L.all (fun o => o.2.2.all (bn_rlt L.length)) = true) (h : bn_C d y ci as fs0 ex9 L.length L sl (fun _ _ => True) Q) : bn_C d y ci as fs0 ex L.length L sl (fun _ _ => True) Q := by
  intro l Y S0 S hS hi hA
  have h9 := h l Y S0 S hS bn_inj (bn_ge hS)
  have hA1 : ∀ q, bc_A (bn_X S L.length ex9 Y) L q ↔ bc_A (bn_X S L.length ex Y) L q := fun q => ⟨fun ⟨i, h1, h2⟩ => ⟨i, h1, by rw [h2, bn_X.own h1, bn_X.own h1]⟩, fun ⟨i, h1, h2⟩ => ⟨i, h1, by rw [h2, bn_X.own h1, bn_X.own h1]⟩⟩
  have hws : ∀ ν, bc_ws (bn_X S L.length ex9 Y) L ν = bc_ws (bn_X S L.length ex Y) L ν := fun ν => by
    apply List.ext_getElem?
    intro k
    cases hk : L[k]? with
    | none => simp [bc_ws, hk]
    | some o =>
      have hkl : k < L.length := (List.getElem?_eq_some_iff.mp hk).1
      rw [bc_at hk, bc_at hk, bn_X.own hkl, bn_X.own hkl]
      have e : bc_e (bn_X S L.length ex9 Y).1 Y.2.2.1 (ν k) o = bc_e (bn_X S L.length ex Y).1 Y.2.2.1 (ν k) o := by
        have h1 := bn_rn_e (ad := (bn_X S L.length ex9 Y).1) (ad9 := (bn_X S L.length ex Y).1) (cA := Y.2.2.1) (f := ν k) (ρ := id) o (fun j hj => by
          have h2 := List.all_eq_true.mp (List.all_eq_true.mp hr o (List.mem_of_getElem? hk)) _ hj
          have h3 : j < L.length := of_decide_eq_true h2
          show (bn_X S L.length ex9 Y).1 j = _
          rw [bn_X.own h3, bn_X.own h3])
        have h4 : bn_rn id o = o := by
          obtain ⟨a, b, c⟩ := o
          simp [bn_rn]
        rw [h4] at h1
        exact h1
      show some (S + k, bc_e (bn_X S L.length ex9 Y).1 Y.2.2.1 (ν k) o) = some (S + k, bc_e (bn_X S L.length ex Y).1 Y.2.2.1 (ν k) o)
      rw [e]
  intro p e a1 a2 a3 s m args below hf ha hP hK
  obtain ⟨n, o, g1, g2, g3, ⟨g4, g5, ⟨ν, g6, g7⟩, g8⟩, ⟨L9, g9, g10⟩⟩ := h9 p e a1 a2 a3 s m args below hf ha hP hK
  exact ⟨n, o, g1, g2, g3, ⟨g4, g5, ⟨ν, g6, by rw [← hws]; exact g7⟩, fun q q1 q2 => g8 q q1 (fun q3 => q2 ((hA1 q).mp q3))⟩, ⟨L9, g9, fun z hz => (g10 z hz).imp id (fun q3 => (hA1 _).mp q3)⟩⟩
set_option maxHeartbeats 20000000 in
set_option maxRecDepth 100000 in
theorem c_X9 : bn_C 42 mX9_init 9 [] fs0_9 (fun _ => 0) LC.length LC 8428 (fun _ _ => True) frsh := by
  refine bn_enter (μ := m00) rfl (by decide) rfl (fun _ => Nat.le_of_ble_eq_true rfl) ?_
  intro p l e s m args below meth c Y S0 S hS hi hA hK hE C
  refine bn_obj C rfl dX9_init_0 dX9_init_1 oX9_1 oI1 oI2 (Nat.le_of_ble_eq_true rfl) (Nat.le_of_ble_eq_true rfl) ?_
  refine bn_to 4 1 0 [.null, .null, .null, .null, .null, .null, .null, .null, .null, .null, .null, .int 0, .int 0, .int 0] rfl rfl rfl rfl ?_
  refine bn_sub2 (bn_sub (z := mX7_init) (cj := 7) (nn := 2) (Lw := LTx) (sl := 600) (N9 := 7) (as := []) (n9 := 0) (fs9 := fs0_7) (ρ := fun j => 1 + j) C rfl (bn_em.of (by decide +kernel)) (by decide) (by decide) dX9_init_4 dX9_init_5 dX9_init_8 dX9_init_9 dX9_init_12 hX9_7 nX7 iX7 uX7 rfl tyX7 tyX7_ok dv_7 bn_a0 (.inr ⟨_, lX9_9⟩) jX7 kX7_init rfl rfl (by decide) (by decide +kernel) rfl ⟨by decide +kernel, by decide +kernel⟩ fX9_10 ftX9 ffX9_0 (Nat.le_of_ble_eq_true rfl) (bn_exC (by decide +kernel) c_X7) (fun _ _ => trivial) (fun _ _ _ _ _ h => h) (fun _ _ j h1 h2 => absurd h2 (Nat.not_lt.mpr h1)) (Nat.le_of_ble_eq_true rfl) (Nat.le_of_ble_eq_true rfl) (Nat.le_of_ble_eq_true rfl) (Nat.le_of_ble_eq_true rfl)) (fun ν0 μ0 q0 a0 b0 => ?_)
  refine bn_to 15 3 607 [.ref (S + 1), .null, .null, .null, .null, .null, .null, .null, .null, .null, .null, .int 0, .int 0, .int 0] rfl rfl rfl rfl ?_
  refine bn_sub2 (bn_sub (z := mX0_init) (cj := 0) (nn := 8) (Lw := LBg) (sl := 71) (N9 := 14) (as := []) (n9 := 0) (fs9 := fs0_0) (ρ := fun j => 3 + j) C rfl (bn_em.of (by decide +kernel)) (by decide) (by decide) dX9_init_15 dX9_init_16 dX9_init_19 dX9_init_20 dX9_init_23 hX9_16 nX0 iX0 uX0 rfl tyX0 tyX0_ok dv_0 bn_a0 (.inl lX9_18) jX0 kX0_init rfl rfl (by decide) (by decide +kernel) rfl ⟨by decide +kernel, by decide +kernel⟩ fX9_19 ftX9 ffX9_1 (Nat.le_of_ble_eq_true rfl) (bn_exC (by decide +kernel) c_X0) (fun _ _ => trivial) (fun _ _ _ _ _ h => h) (fun _ _ j h1 h2 => absurd h2 (Nat.not_lt.mpr h1)) (Nat.le_of_ble_eq_true rfl) (Nat.le_of_ble_eq_true rfl) (Nat.le_of_ble_eq_true rfl) (Nat.le_of_ble_eq_true rfl)) (fun ν1 μ1 q1 a1 b1 => ?_)
  refine bn_to 26 11 692 [.ref (S + 1), .ref (S + 3), .null, .null, .null, .null, .null, .null, .null, .null, .null, .int 0, .int 0, .int 0] rfl rfl rfl rfl ?_
  refine bn_sub2 (bn_sub (z := mX0_init) (cj := 0) (nn := 8) (Lw := LBg) (sl := 71) (N9 := 14) (as := []) (n9 := 0) (fs9 := fs0_0) (ρ := fun j => 11 + j) C rfl (bn_em.of (by decide +kernel)) (by decide) (by decide) dX9_init_26 dX9_init_27 dX9_init_30 dX9_init_31 dX9_init_34 hX9_16 nX0 iX0 uX0 rfl tyX0 tyX0_ok dv_0 bn_a0 (.inl lX9_18) jX0 kX0_init rfl rfl (by decide) (by decide +kernel) rfl ⟨by decide +kernel, by decide +kernel⟩ fX9_23 ftX9 ffX9_2 (Nat.le_of_ble_eq_true rfl) (bn_exC (by decide +kernel) c_X0) (fun _ _ => trivial) (fun _ _ _ _ _ h => h) (fun _ _ j h1 h2 => absurd h2 (Nat.not_lt.mpr h1)) (Nat.le_of_ble_eq_true rfl) (Nat.le_of_ble_eq_true rfl) (Nat.le_of_ble_eq_true rfl) (Nat.le_of_ble_eq_true rfl)) (fun ν2 μ2 q2 a2 b2 => ?_)
  refine bn_to 37 19 777 [.ref (S + 1), .ref (S + 3), .ref (S + 11), .null, .null, .null, .null, .null, .null, .null, .null, .int 0, .int 0, .int 0] rfl rfl rfl rfl ?_
  refine bn_sub2 (bn_sub (z := mX2_init) (cj := 2) (nn := 5) (Lw := LLw) (sl := 457) (N9 := 6) (as := []) (n9 := 0) (fs9 := fs0_2) (ρ := fun j => 19 + j) C rfl (bn_em.of (by decide +kernel)) (by decide) (by decide) dX9_init_37 dX9_init_38 dX9_init_41 dX9_init_42 dX9_init_45 hX9_26 nX2 iX2 uX2 rfl tyX2 tyX2_ok dv_2 bn_a0 (.inl lX9_28) jX2 kX2_init rfl rfl (by decide) (by decide +kernel) rfl ⟨by decide +kernel, by decide +kernel⟩ fX9_29 ftX9 ffX9_3 (Nat.le_of_ble_eq_true rfl) (bn_exC (by decide +kernel) c_X2) (fun _ _ => trivial) (fun _ _ _ _ _ h => h) (fun _ _ j h1 h2 => absurd h2 (Nat.not_lt.mpr h1)) (Nat.le_of_ble_eq_true rfl) (Nat.le_of_ble_eq_true rfl) (Nat.le_of_ble_eq_true rfl) (Nat.le_of_ble_eq_true rfl)) (fun ν3 μ3 q3 a3 b3 => ?_)
  refine bn_to 48 24 1240 [.ref (S + 1), .ref (S + 3), .ref (S + 11), .ref (S + 19), .null, .null, .null, .null, .null, .null, .null, .int 0, .int 0, .int 0] rfl rfl rfl rfl ?_
  refine bn_sub2 (bn_sub (z := mX5_init) (cj := 5) (nn := 4) (Lw := LPl) (sl := 450) (N9 := 7) (as := []) (n9 := 0) (fs9 := fs0_5) (ρ := fun j => 24 + j) C rfl (bn_em.of (by decide +kernel)) (by decide) (by decide) dX9_init_48 dX9_init_49 dX9_init_52 dX9_init_53 dX9_init_56 hX9_33 nX5 iX5 uX5 rfl tyX5 tyX5_ok dv_5 bn_a0 (.inr ⟨_, lX9_35⟩) jX5 kX5_init rfl rfl (by decide) (by decide +kernel) rfl ⟨by decide +kernel, by decide +kernel⟩ fX9_36 ftX9 ffX9_4 (Nat.le_of_ble_eq_true rfl) (bn_exC (by decide +kernel) c_X5) (fun _ _ => trivial) (fun _ _ _ _ _ h => h) (fun _ _ j h1 h2 => absurd h2 (Nat.not_lt.mpr h1)) (Nat.le_of_ble_eq_true rfl) (Nat.le_of_ble_eq_true rfl) (Nat.le_of_ble_eq_true rfl) (Nat.le_of_ble_eq_true rfl)) (fun ν4 μ4 q4 a4 b4 => ?_)
  refine bn_to 59 28 1697 [.ref (S + 1), .ref (S + 3), .ref (S + 11), .ref (S + 19), .ref (S + 24), .null, .null, .null, .null, .null, .null, .int 0, .int 0, .int 0] rfl rfl rfl rfl ?_
  refine bn_sub2 (bn_sub (z := mX3_init) (cj := 3) (nn := 3) (Lw := LLn) (sl := 26) (N9 := 4) (as := []) (n9 := 0) (fs9 := fs0_3) (ρ := fun j => 28 + j) C rfl (bn_em.of (by decide +kernel)) (by decide) (by decide) dX9_init_59 dX9_init_60 dX9_init_63 dX9_init_64 dX9_init_67 hX9_40 nX3 iX3 uX3 rfl tyX3 tyX3_ok dv_3 bn_a0 (.inl lX9_42) jX3 kX3_init rfl rfl (by decide) (by decide +kernel) rfl ⟨by decide +kernel, by decide +kernel⟩ fX9_43 ftX9 ffX9_5 (Nat.le_of_ble_eq_true rfl) (bn_exC (by decide +kernel) c_X3) (fun _ _ => trivial) (fun _ _ _ _ _ h => h) (fun _ _ j h1 h2 => absurd h2 (Nat.not_lt.mpr h1)) (Nat.le_of_ble_eq_true rfl) (Nat.le_of_ble_eq_true rfl) (Nat.le_of_ble_eq_true rfl) (Nat.le_of_ble_eq_true rfl)) (fun ν5 μ5 q5 a5 b5 => ?_)
  refine bn_to 70 31 1727 [.ref (S + 1), .ref (S + 3), .ref (S + 11), .ref (S + 19), .ref (S + 24), .ref (S + 28), .null, .null, .null, .null, .null, .int 0, .int 0, .int 0] rfl rfl rfl rfl ?_
  refine bn_sub2 (bn_sub (z := mX1_init) (cj := 1) (nn := 7) (Lw := LCb) (sl := 38) (N9 := 18) (as := [.ref (S + 3), .ref (S + 19)]) (n9 := 2) (fs9 := fs0_1) (ρ := fun j => if j < 7 then 31 + j else if j < 15 then 3 + (j - 7) else 19) C rfl (bn_em.of (by decide +kernel)) (by decide) (by decide) dX9_init_70 dX9_init_71 dX9_init_74 dX9_init_83 dX9_init_86 hX9_47 nX1 iX1 uX1 rfl tyX1 tyX1_ok dv_1 (bn_a1 C rfl dX9_init_75 dX9_init_76 fX9_19 rfl (bn_a1 C rfl dX9_init_79 dX9_init_80 fX9_29 rfl bn_a0)) (.inl lX9_49) jX1 kX1_init rfl rfl (by decide) (by decide +kernel) rfl ⟨by decide +kernel, by decide +kernel⟩ fX9_52 ftX9 ffX9_6 (Nat.le_of_ble_eq_true rfl) (c_X1s (fb := μ5 3) (by decide) (by decide)) (fun U h => h 7 _ (by decide) rfl) (fun _ _ _ _ _ h => h) (fun ν hν j h1 h2 => by
    have e : j = 7 := by have h3 : j < 8 := h2; omega
    subst e
    exact bnS_7 hν) (Nat.le_of_ble_eq_true rfl) (Nat.le_of_ble_eq_true rfl) (Nat.le_of_ble_eq_true rfl) (Nat.le_of_ble_eq_true rfl)) (fun ν6 μ6 q6 a6 b6 => ?_)
  refine bn_to 89 38 1783 [.ref (S + 1), .ref (S + 3), .ref (S + 11), .ref (S + 19), .ref (S + 24), .ref (S + 28), .ref (S + 31), .null, .null, .null, .null, .int 0, .int 0, .int 0] rfl rfl rfl rfl ?_
  refine bn_sub2 (bn_sub (z := mX1_init) (cj := 1) (nn := 7) (Lw := LCb) (sl := 38) (N9 := 18) (as := [.ref (S + 3), .ref (S + 19)]) (n9 := 2) (fs9 := fs0_1) (ρ := fun j => if j < 7 then 38 + j else if j < 15 then 3 + (j - 7) else 19) C rfl (bn_em.of (by decide +kernel)) (by decide) (by decide) dX9_init_89 dX9_init_90 dX9_init_93 dX9_init_102 dX9_init_105 hX9_47 nX1 iX1 uX1 rfl tyX1 tyX1_ok dv_1 (bn_a1 C rfl dX9_init_94 dX9_init_95 fX9_19 rfl (bn_a1 C rfl dX9_init_98 dX9_init_99 fX9_29 rfl bn_a0)) (.inl lX9_49) jX1 kX1_init rfl rfl (by decide) (by decide +kernel) rfl ⟨by decide +kernel, by decide +kernel⟩ fX9_56 ftX9 ffX9_7 (Nat.le_of_ble_eq_true rfl) (c_X1s (fb := μ6 3) (by decide) (by decide)) (fun U h => h 7 _ (by decide) rfl) (fun _ _ _ _ _ h => h) (fun ν hν j h1 h2 => by
    have e : j = 7 := by have h3 : j < 8 := h2; omega
    subst e
    exact bnS_7 hν) (Nat.le_of_ble_eq_true rfl) (Nat.le_of_ble_eq_true rfl) (Nat.le_of_ble_eq_true rfl) (Nat.le_of_ble_eq_true rfl)) (fun ν7 μ7 q7 a7 b7 => ?_)
  refine bn_to 108 45 1839 [.ref (S + 1), .ref (S + 3), .ref (S + 11), .ref (S + 19), .ref (S + 24), .ref (S + 28), .ref (S + 31), .ref (S + 38), .null, .null, .null, .int 0, .int 0, .int 0] rfl rfl rfl rfl ?_
  refine bn_sub2 (bn_sub (z := mX4_init) (cj := 4) (nn := 72) (Lw := LPs) (sl := 1946) (N9 := 6) (as := []) (n9 := 0) (fs9 := fs0_4) (ρ := fun j => 45 + j) C rfl (bn_em.of (by decide +kernel)) (by decide) (by decide) dX9_init_108 dX9_init_109 dX9_init_112 dX9_init_113 dX9_init_116 hX9_59 nX4 iX4 uX4 rfl tyX4 tyX4_ok dv_4 bn_a0 (.inr ⟨_, lX9_61⟩) jX4 kX4_init rfl rfl (by decide) (by decide +kernel) rfl ⟨by decide +kernel, by decide +kernel⟩ fX9_62 ftX9 ffX9_8 (Nat.le_of_ble_eq_true rfl) (bn_exC (by decide +kernel) c_X4) (fun _ _ => trivial) (fun _ _ _ _ _ h => h) (fun _ _ j h1 h2 => absurd h2 (Nat.not_lt.mpr h1)) (Nat.le_of_ble_eq_true rfl) (Nat.le_of_ble_eq_true rfl) (Nat.le_of_ble_eq_true rfl) (Nat.le_of_ble_eq_true rfl)) (fun ν8 μ8 q8 a8 b8 => ?_)
  refine bn_to 119 117 3791 [.ref (S + 1), .ref (S + 3), .ref (S + 11), .ref (S + 19), .ref (S + 24), .ref (S + 28), .ref (S + 31), .ref (S + 38), .ref (S + 45), .null, .null, .int 0, .int 0, .int 0] rfl rfl rfl rfl ?_
  refine bn_sub2 (bn_sub (z := mX8_init) (cj := 8) (nn := 17) (Lw := LTr) (sl := 4558) (N9 := 14) (as := [.ref (S + 3), .ref (S + 28), .ref (S + 31), .ref (S + 38)]) (n9 := 4) (fs9 := fs0_8) (ρ := fun j => if j < 17 then 117 + j else if j = 17 then 3 else if j = 18 then 28 else if j = 19 then 31 else 38) C rfl (bn_em.of (by decide +kernel)) (by decide) (by decide) dX9_init_119 dX9_init_120 dX9_init_123 dX9_init_140 dX9_init_143 hX9_66 nX8 iX8 uX8 rfl tyX8 tyX8_ok dv_8 (bn_a1 C rfl dX9_init_124 dX9_init_125 fX9_19 rfl (bn_a1 C rfl dX9_init_128 dX9_init_129 fX9_43 rfl (bn_a1 C rfl dX9_init_132 dX9_init_133 fX9_52 rfl (bn_a1 C rfl dX9_init_136 dX9_init_137 fX9_56 rfl bn_a0)))) (.inl lX9_68) jX8 kX8_init rfl rfl (by decide) (by decide +kernel) rfl ⟨by decide +kernel, by decide +kernel⟩ fX9_71 ftX9 ffX9_9 (Nat.le_of_ble_eq_true rfl) (c_X8s (by decide) (by decide) (by decide) (by decide)) (fun _ _ => trivial) (fun _ _ _ _ _ h => h) (fun _ _ j h1 h2 => absurd h2 (Nat.not_lt.mpr h1)) (Nat.le_of_ble_eq_true rfl) (Nat.le_of_ble_eq_true rfl) (Nat.le_of_ble_eq_true rfl) (Nat.le_of_ble_eq_true rfl)) (fun ν9 μ9 q9 a9 b9 => ?_)
  refine bn_to 146 134 8363 [.ref (S + 1), .ref (S + 3), .ref (S + 11), .ref (S + 19), .ref (S + 24), .ref (S + 28), .ref (S + 31), .ref (S + 38), .ref (S + 45), .ref (S + 117), .null, .int 0, .int 0, .int 0] rfl rfl rfl rfl ?_
  refine bn_sub2 (bn_sub (z := mX6_init) (cj := 6) (nn := 3) (Lw := LRc) (sl := 62) (N9 := 3) (as := [.ref (S + 3)]) (n9 := 1) (fs9 := fs0_6) (ρ := fun j => if j < 3 then 134 + j else 3) C rfl (bn_em.of (by decide +kernel)) (by decide) (by decide) dX9_init_146 dX9_init_147 dX9_init_150 dX9_init_155 dX9_init_158 hX9_75 nX6 iX6 uX6 rfl tyX6 tyX6_ok dv_6 (bn_a1 C rfl dX9_init_151 dX9_init_152 fX9_19 rfl bn_a0) (.inl lX9_77) jX6 kX6_init rfl rfl (by decide) (by decide +kernel) rfl ⟨by decide +kernel, by decide +kernel⟩ fX9_80 ftX9 ffX9_10 (Nat.le_of_ble_eq_true rfl) (c_X6s (by decide)) (fun _ _ => trivial) (fun _ _ _ _ _ h => h) (fun _ _ j h1 h2 => absurd h2 (Nat.not_lt.mpr h1)) (Nat.le_of_ble_eq_true rfl) (Nat.le_of_ble_eq_true rfl) (Nat.le_of_ble_eq_true rfl) (Nat.le_of_ble_eq_true rfl)) (fun ν10 μ10 q10 a10 b10 => ?_)
  refine bn_to 161 137 8428 [.ref (S + 1), .ref (S + 3), .ref (S + 11), .ref (S + 19), .ref (S + 24), .ref (S + 28), .ref (S + 31), .ref (S + 38), .ref (S + 45), .ref (S + 117), .ref (S + 134), .int 0, .int 0, .int 0] rfl rfl rfl rfl ?_
  have z0 : μ10 0 = fun _ => 0 := by
    rw [a10 0 (by decide), a9 0 (by decide), a8 0 (by decide), a7 0 (by decide), a6 0 (by decide), a5 0 (by decide), a4 0 (by decide), a3 0 (by decide), a2 0 (by decide), a1 0 (by decide), a0 0 (by decide)]
    rfl
  have w1 : μ10 1 = ν0 0 := by
    rw [a10 1 (by decide), a9 1 (by decide), a8 1 (by decide), a7 1 (by decide), a6 1 (by decide), a5 1 (by decide), a4 1 (by decide), a3 1 (by decide), a2 1 (by decide), a1 1 (by decide)]
    exact b0 0 (by decide)
  have w3 : μ10 3 = ν1 0 := by
    rw [a10 3 (by decide), a9 3 (by decide), a8 3 (by decide), a7 3 (by decide), a6 3 (by decide), a5 3 (by decide), a4 3 (by decide), a3 3 (by decide), a2 3 (by decide)]
    exact b1 0 (by decide)
  have w10 : μ10 10 = ν1 7 := by
    rw [a10 10 (by decide), a9 10 (by decide), a8 10 (by decide), a7 10 (by decide), a6 10 (by decide), a5 10 (by decide), a4 10 (by decide), a3 10 (by decide), a2 10 (by decide)]
    exact b1 7 (by decide)
  have w19 : μ10 19 = ν3 0 := by
    rw [a10 19 (by decide), a9 19 (by decide), a8 19 (by decide), a7 19 (by decide), a6 19 (by decide), a5 19 (by decide), a4 19 (by decide)]
    exact b3 0 (by decide)
  have w20 : μ10 20 = ν3 1 := by
    rw [a10 20 (by decide), a9 20 (by decide), a8 20 (by decide), a7 20 (by decide), a6 20 (by decide), a5 20 (by decide), a4 20 (by decide)]
    exact b3 1 (by decide)
  have w28 : μ10 28 = ν5 0 := by
    rw [a10 28 (by decide), a9 28 (by decide), a8 28 (by decide), a7 28 (by decide), a6 28 (by decide)]
    exact b5 0 (by decide)
  have w29 : μ10 29 = ν5 1 := by
    rw [a10 29 (by decide), a9 29 (by decide), a8 29 (by decide), a7 29 (by decide), a6 29 (by decide)]
    exact b5 1 (by decide)
  have w31 : μ10 31 = ν6 0 := by
    rw [a10 31 (by decide), a9 31 (by decide), a8 31 (by decide), a7 31 (by decide)]
    exact b6 0 (by decide)
  have w32 : μ10 32 = ν6 1 := by
    rw [a10 32 (by decide), a9 32 (by decide), a8 32 (by decide), a7 32 (by decide)]
    exact b6 1 (by decide)
  have w33 : μ10 33 = ν6 2 := by
    rw [a10 33 (by decide), a9 33 (by decide), a8 33 (by decide), a7 33 (by decide)]
    exact b6 2 (by decide)
  have w34 : μ10 34 = ν6 3 := by
    rw [a10 34 (by decide), a9 34 (by decide), a8 34 (by decide), a7 34 (by decide)]
    exact b6 3 (by decide)
  have w45 : μ10 45 = ν8 0 := by
    rw [a10 45 (by decide), a9 45 (by decide)]
    exact b8 0 (by decide)
  have w117 : μ10 117 = ν9 0 := by
    rw [a10 117 (by decide)]
    exact b9 0 (by decide)
  have w3c : μ5 3 = ν1 0 := by
    rw [a5 3 (by decide), a4 3 (by decide), a3 3 (by decide), a2 3 (by decide)]
    exact b1 0 (by decide)
  refine bn_q2 (L := LC) (n0 := 0) (rs := LCr) rfl (by decide +kernel) (by rw [z0]; rfl) ?_
  refine bq_ret C dX9_init_161 ?_
  rw [w3c] at q6
  refine ⟨z0, ⟨by rw [w1, q0]; rfl, by rw [w1, q0]; rfl⟩, ⟨by rw [w3]; exact q1.2.1, by rw [w3]; exact q1.2.2.1, by rw [w3]; exact q1.2.2.2.1, by rw [w3]; exact q1.2.2.2.2.1, by rw [w3]; exact q1.2.2.2.2.2.1, by rw [w3]; exact q1.2.2.2.2.2.2.1, by rw [w3]; exact q1.2.2.2.2.2.2.2.1, fun k hk => by rw [w10]; exact q1.2.2.2.2.2.2.2.2 k hk⟩, ⟨by rw [w19]; exact q3.1, fun i x hx => by rw [w20]; exact q3.2 i x hx⟩, ⟨by rw [w28]; exact q5.1, fun h hh => by rw [w29]; exact q5.2 h hh⟩, ⟨?_, ?_, ?_, by rw [w31]; exact q6.2.2.2.2.1, by rw [w31]; exact q6.2.2.2.2.2.1, by rw [w31]; exact q6.2.2.2.2.2.2.1, fun j hj => by rw [w32]; exact q6.2.2.2.2.2.2.2.1 j hj, fun j hj => by rw [w33]; exact q6.2.2.2.2.2.2.2.2.1 j hj, fun j hj => by rw [w34]; exact q6.2.2.2.2.2.2.2.2.2 j hj⟩, ⟨by rw [w45, q8]; rfl, by rw [w45, q8]; rfl⟩, by rw [w117, q9]; rfl⟩
  · rw [w31, q6.2.1]; exact q1.2.2.2.2.2.1
  · rw [w31, q6.2.2.1]; exact q1.2.2.2.2.2.2.1
  · rw [w31, q6.2.2.2.1]; exact q1.2.2.2.2.2.2.2.1
