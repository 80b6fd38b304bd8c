/-! saved rows, Past; Bog, Law and Lines as they are laid anew -/
/-- a city's row -/
def svR (μ : bc_M) (k : Nat) : Int32 := if k < 6 then μ 31 (if k = 2 then 4 else if k = 3 then 5 else if k = 4 then 6 else if k = 5 then 7 else k + 2) else if k < 14 then μ 32 (k - 6) else if k < 22 then μ 33 (k - 14) else μ 34 (k - 22)
def svS (w : Nat) (μ ν : bc_M) : Prop := (∀ i k, i ≠ w → ν i k = μ i k) ∧ ∀ k, k < 28 → ν w k = svR μ k
theorem s_saveTo {d : Nat} {μ : bc_M} {w : Nat} (hw : LC[w]? = some (0, 28, [])) (hw2 : 45 ≤ w) : bc_C (d + 1) LC mX1_saveTo [.ref 31, .ref w] μ (fun r ν => r = none ∧ svS w μ ν) := by
  refine bc_enter (by decide) (Nat.le_of_ble_eq_true rfl) rfl ?_
  refine bc_aload_n dX1_saveTo_0 rfl ?_
  refine bc_len0 dX1_saveTo_1 (hw) ?_
  refine bc_bipush (v := 28) dX1_saveTo_2 (by decide) ?_
  refine bc_icmp_ge (tgt := 8) dX1_saveTo_4 (by decide) (fun h4 => ?_) (fun h4 => absurd h4 (fun q => q (by decide)))
  refine bc_aload_n dX1_saveTo_8 rfl ?_
  refine bc_iconst (v := 0) dX1_saveTo_9 (by decide) ?_
  refine bc_aload_n dX1_saveTo_10 rfl ?_
  refine bc_geti dX1_saveTo_11 fX1_47 (rfl) rfl ?_
  refine bc_iastE dX1_saveTo_14 (hw) ((rfl : (0 : Int32) = nI 0)) (⟨by decide, by decide⟩) ?_
  refine bc_aload_n dX1_saveTo_15 rfl ?_
  refine bc_iconst (v := 1) dX1_saveTo_16 (by decide) ?_
  refine bc_aload_n dX1_saveTo_17 rfl ?_
  refine bc_geti dX1_saveTo_18 fX1_53 (rfl) rfl ?_
  refine bc_iastE dX1_saveTo_21 (hw) ((rfl : (1 : Int32) = nI 1)) (⟨by decide, by decide⟩) ?_
  refine bc_aload_n dX1_saveTo_22 rfl ?_
  refine bc_iconst (v := 2) dX1_saveTo_23 (by decide) ?_
  refine bc_aload_n dX1_saveTo_24 rfl ?_
  refine bc_geti dX1_saveTo_25 fX1_62 (rfl) rfl ?_
  refine bc_iastE dX1_saveTo_28 (hw) ((rfl : (2 : Int32) = nI 2)) (⟨by decide, by decide⟩) ?_
  refine bc_aload_n dX1_saveTo_29 rfl ?_
  refine bc_iconst (v := 3) dX1_saveTo_30 (by decide) ?_
  refine bc_aload_n dX1_saveTo_31 rfl ?_
  refine bc_geti dX1_saveTo_32 fX1_59 (rfl) rfl ?_
  refine bc_iastE dX1_saveTo_35 (hw) ((rfl : (3 : Int32) = nI 3)) (⟨by decide, by decide⟩) ?_
  refine bc_aload_n dX1_saveTo_36 rfl ?_
  refine bc_iconst (v := 4) dX1_saveTo_37 (by decide) ?_
  refine bc_aload_n dX1_saveTo_38 rfl ?_
  refine bc_geti dX1_saveTo_39 fX1_65 (rfl) rfl ?_
  refine bc_iastE dX1_saveTo_42 (hw) ((rfl : (4 : Int32) = nI 4)) (⟨by decide, by decide⟩) ?_
  refine bc_aload_n dX1_saveTo_43 rfl ?_
  refine bc_iconst (v := 5) dX1_saveTo_44 (by decide) ?_
  refine bc_aload_n dX1_saveTo_45 rfl ?_
  refine bc_geti dX1_saveTo_46 fX1_68 (rfl) rfl ?_
  refine bc_iastE dX1_saveTo_49 (hw) ((rfl : (5 : Int32) = nI 5)) (⟨by decide, by decide⟩) ?_
  refine bc_aload_n dX1_saveTo_50 rfl ?_
  refine bc_getr dX1_saveTo_51 fX1_9 (rfl) rfl ?_
  refine bc_iconst (v := 0) dX1_saveTo_54 (by decide) ?_
  refine bc_aload_n dX1_saveTo_55 rfl ?_
  refine bc_bipush (v := 6) dX1_saveTo_56 (by decide) ?_
  refine bc_bipush (v := 8) dX1_saveTo_58 (by decide) ?_
  refine bc_acopy dX1_saveTo_60 wX1_79 (rfl) (hw) (a := 0) (b := 6) (n := 8) rfl rfl rfl (by decide) (by decide) (by decide) (Nat.le_of_ble_eq_true rfl) ?_
  refine bc_aload_n dX1_saveTo_63 rfl ?_
  refine bc_getr dX1_saveTo_64 fX1_15 (rfl) rfl ?_
  refine bc_iconst (v := 0) dX1_saveTo_67 (by decide) ?_
  refine bc_aload_n dX1_saveTo_68 rfl ?_
  refine bc_bipush (v := 14) dX1_saveTo_69 (by decide) ?_
  refine bc_bipush (v := 8) dX1_saveTo_71 (by decide) ?_
  refine bc_acopy dX1_saveTo_73 wX1_79 (rfl) (hw) (a := 0) (b := 14) (n := 8) rfl rfl rfl (by decide) (by decide) (by decide) (Nat.le_of_ble_eq_true rfl) ?_
  refine bc_aload_n dX1_saveTo_76 rfl ?_
  refine bc_getr dX1_saveTo_77 fX1_18 (rfl) rfl ?_
  refine bc_iconst (v := 0) dX1_saveTo_80 (by decide) ?_
  refine bc_aload_n dX1_saveTo_81 rfl ?_
  refine bc_bipush (v := 22) dX1_saveTo_82 (by decide) ?_
  refine bc_bipush (v := 6) dX1_saveTo_84 (by decide) ?_
  refine bc_acopy dX1_saveTo_86 wX1_79 (rfl) (hw) (a := 0) (b := 22) (n := 6) rfl rfl rfl (by decide) (by decide) (by decide) (Nat.le_of_ble_eq_true rfl) ?_
  skip
  refine bc_return dX1_saveTo_89 rfl ⟨rfl, fun i k hi => ?_, fun k hk => ?_⟩
  · simp only [bc_us_r, bc_u_r]
    simp [hi]
  · have n1 : ¬ 31 = w := by omega
    have n2 : ¬ 32 = w := by omega
    have n3 : ¬ 33 = w := by omega
    have n4 : ¬ 34 = w := by omega
    simp only [bc_us_r, bc_u_r, if_true, n1, n2, n3, n4, if_false, false_and, true_and, va_cpy]
    unfold svR
    have hc : k = 0 ∨ k = 1 ∨ k = 2 ∨ k = 3 ∨ k = 4 ∨ k = 5 ∨ (6 ≤ k ∧ k < 14) ∨ (14 ≤ k ∧ k < 22) ∨ (22 ≤ k ∧ k < 28) := by omega
    rcases hc with rfl | rfl | rfl | rfl | rfl | rfl | ⟨h1, h2⟩ | ⟨h1, h2⟩ | ⟨h1, h2⟩
    · simp
    · simp
    · simp
    · simp
    · simp
    · simp
    · rw [if_neg (by omega), if_neg (by omega), if_pos (by omega), if_neg (by omega), if_pos h2]; congr 1; omega
    · rw [if_neg (by omega), if_pos (by omega), if_neg (by omega), if_neg (by omega), if_pos h2]; congr 1; omega
    · rw [if_pos (by omega), if_neg (by omega), if_neg (by omega), if_neg (by omega)]; congr 1; omega
/-- the city out of a row -/
def ldS (w : Nat) (μ ν : bc_M) : Prop := (∀ i k, ¬ (i = 31 ∧ 2 ≤ k ∧ k ≤ 7) → i ≠ 32 → i ≠ 33 → i ≠ 34 → ν i k = μ i k) ∧ ∀ k, k < 28 → svR ν k = μ w k
theorem s_loadFrom {d : Nat} {μ : bc_M} {w : Nat} (hw : LC[w]? = some (0, 28, [])) (hw2 : 45 ≤ w) : bc_C (d + 1) LC mX1_loadFrom [.ref 31, .ref w] μ (fun r ν => r = none ∧ ldS w μ ν) := by
  refine bc_enter (by decide) (Nat.le_of_ble_eq_true rfl) rfl ?_
  refine bc_aload_n dX1_loadFrom_0 rfl ?_
  refine bc_len0 dX1_loadFrom_1 (hw) ?_
  refine bc_bipush (v := 28) dX1_loadFrom_2 (by decide) ?_
  refine bc_icmp_ge (tgt := 8) dX1_loadFrom_4 (by decide) (fun h4 => ?_) (fun h4 => absurd h4 (fun q => q (by decide)))
  refine bc_aload_n dX1_loadFrom_8 rfl ?_
  refine bc_aload_n dX1_loadFrom_9 rfl ?_
  refine bc_iconst (v := 0) dX1_loadFrom_10 (by decide) ?_
  refine bc_ialdE dX1_loadFrom_11 (hw) ((rfl : (0 : Int32) = nI 0)) (⟨by decide, by decide⟩) ?_
  refine bc_put dX1_loadFrom_12 fX1_47 ftX1 fpX1_2 rfl rfl (rfl) rfl ?_
  refine bc_aload_n dX1_loadFrom_15 rfl ?_
  refine bc_aload_n dX1_loadFrom_16 rfl ?_
  refine bc_iconst (v := 1) dX1_loadFrom_17 (by decide) ?_
  refine bc_ialdE dX1_loadFrom_18 (hw) ((rfl : (1 : Int32) = nI 1)) (⟨by decide, by decide⟩) ?_
  refine bc_put dX1_loadFrom_19 fX1_53 ftX1 fpX1_3 rfl rfl (rfl) rfl ?_
  refine bc_aload_n dX1_loadFrom_22 rfl ?_
  refine bc_aload_n dX1_loadFrom_23 rfl ?_
  refine bc_iconst (v := 2) dX1_loadFrom_24 (by decide) ?_
  refine bc_ialdE dX1_loadFrom_25 (hw) ((rfl : (2 : Int32) = nI 2)) (⟨by decide, by decide⟩) ?_
  refine bc_put dX1_loadFrom_26 fX1_62 ftX1 fpX1_4 rfl rfl (rfl) rfl ?_
  refine bc_aload_n dX1_loadFrom_29 rfl ?_
  refine bc_aload_n dX1_loadFrom_30 rfl ?_
  refine bc_iconst (v := 3) dX1_loadFrom_31 (by decide) ?_
  refine bc_ialdE dX1_loadFrom_32 (hw) ((rfl : (3 : Int32) = nI 3)) (⟨by decide, by decide⟩) ?_
  refine bc_put dX1_loadFrom_33 fX1_59 ftX1 fpX1_5 rfl rfl (rfl) rfl ?_
  refine bc_aload_n dX1_loadFrom_36 rfl ?_
  refine bc_aload_n dX1_loadFrom_37 rfl ?_
  refine bc_iconst (v := 4) dX1_loadFrom_38 (by decide) ?_
  refine bc_ialdE dX1_loadFrom_39 (hw) ((rfl : (4 : Int32) = nI 4)) (⟨by decide, by decide⟩) ?_
  refine bc_put dX1_loadFrom_40 fX1_65 ftX1 fpX1_6 rfl rfl (rfl) rfl ?_
  refine bc_aload_n dX1_loadFrom_43 rfl ?_
  refine bc_aload_n dX1_loadFrom_44 rfl ?_
  refine bc_iconst (v := 5) dX1_loadFrom_45 (by decide) ?_
  refine bc_ialdE dX1_loadFrom_46 (hw) ((rfl : (5 : Int32) = nI 5)) (⟨by decide, by decide⟩) ?_
  refine bc_put dX1_loadFrom_47 fX1_68 ftX1 fpX1_7 rfl rfl (rfl) rfl ?_
  refine bc_aload_n dX1_loadFrom_50 rfl ?_
  refine bc_bipush (v := 6) dX1_loadFrom_51 (by decide) ?_
  refine bc_aload_n dX1_loadFrom_53 rfl ?_
  refine bc_getr dX1_loadFrom_54 fX1_9 (rfl) rfl ?_
  refine bc_iconst (v := 0) dX1_loadFrom_57 (by decide) ?_
  refine bc_bipush (v := 8) dX1_loadFrom_58 (by decide) ?_
  refine bc_acopy dX1_loadFrom_60 wX1_79 (hw) (rfl) (a := 6) (b := 0) (n := 8) rfl rfl rfl (by decide) (by decide) (by decide) (Nat.le_of_ble_eq_true rfl) ?_
  refine bc_aload_n dX1_loadFrom_63 rfl ?_
  refine bc_bipush (v := 14) dX1_loadFrom_64 (by decide) ?_
  refine bc_aload_n dX1_loadFrom_66 rfl ?_
  refine bc_getr dX1_loadFrom_67 fX1_15 (rfl) rfl ?_
  refine bc_iconst (v := 0) dX1_loadFrom_70 (by decide) ?_
  refine bc_bipush (v := 8) dX1_loadFrom_71 (by decide) ?_
  refine bc_acopy dX1_loadFrom_73 wX1_79 (hw) (rfl) (a := 14) (b := 0) (n := 8) rfl rfl rfl (by decide) (by decide) (by decide) (Nat.le_of_ble_eq_true rfl) ?_
  refine bc_aload_n dX1_loadFrom_76 rfl ?_
  refine bc_bipush (v := 22) dX1_loadFrom_77 (by decide) ?_
  refine bc_aload_n dX1_loadFrom_79 rfl ?_
  refine bc_getr dX1_loadFrom_80 fX1_18 (rfl) rfl ?_
  refine bc_iconst (v := 0) dX1_loadFrom_83 (by decide) ?_
  refine bc_bipush (v := 6) dX1_loadFrom_84 (by decide) ?_
  refine bc_acopy dX1_loadFrom_86 wX1_79 (hw) (rfl) (a := 22) (b := 0) (n := 6) rfl rfl rfl (by decide) (by decide) (by decide) (Nat.le_of_ble_eq_true rfl) ?_
  skip
  have n1 : ¬ w = 31 := by omega
  have n2 : ¬ w = 32 := by omega
  have n3 : ¬ w = 33 := by omega
  have n4 : ¬ w = 34 := by omega
  refine bc_return dX1_loadFrom_89 rfl ⟨rfl, fun i k h1 h2 h3 h4 => ?_, fun k hk => ?_⟩
  · simp only [bc_us_r, bc_u_r]
    rw [if_neg h4, if_neg h3, if_neg h2, if_neg (by omega), if_neg (by omega), if_neg (by omega), if_neg (by omega), if_neg (by omega), if_neg (by omega)]
  · unfold svR
    have hc : k = 0 ∨ k = 1 ∨ k = 2 ∨ k = 3 ∨ k = 4 ∨ k = 5 ∨ (6 ≤ k ∧ k < 14) ∨ (14 ≤ k ∧ k < 22) ∨ (22 ≤ k ∧ k < 28) := by omega
    rcases hc with rfl | rfl | rfl | rfl | rfl | rfl | ⟨h1, h2⟩ | ⟨h1, h2⟩ | ⟨h1, h2⟩
    · simp [bc_us_r, bc_u_r, n1, n2, n3, n4]
    · simp [bc_us_r, bc_u_r, n1, n2, n3, n4]
    · simp [bc_us_r, bc_u_r, n1, n2, n3, n4]
    · simp [bc_us_r, bc_u_r, n1, n2, n3, n4]
    · simp [bc_us_r, bc_u_r, n1, n2, n3, n4]
    · simp [bc_us_r, bc_u_r, n1, n2, n3, n4]
    · rw [if_neg (by omega), if_pos h2]
      have e : 6 + (k - 6) = k := by omega
      have e2 : k - 6 < 8 := by omega
      simp [bc_us_r, bc_u_r, n1, n2, n3, n4, va_cpy, e, e2]
    · rw [if_neg (by omega), if_neg (by omega), if_pos h2]
      have e : 14 + (k - 14) = k := by omega
      have e2 : k - 14 < 8 := by omega
      simp [bc_us_r, bc_u_r, n1, n2, n3, n4, va_cpy, e, e2]
    · rw [if_neg (by omega), if_neg (by omega), if_neg (by omega)]
      have e : 22 + (k - 22) = k := by omega
      have e2 : k - 22 < 6 := by omega
      simp [bc_us_r, bc_u_r, n1, n2, n3, n4, va_cpy, e, e2]
theorem s_pastForget {d : Nat} {μ : bc_M} : bc_C d LC mX4_forget [.ref 45] μ (fun r ν => r = none ∧ ν = bc_u (bc_u μ 45 1 0) 45 5 0) := by
  refine bc_enter (by decide) (Nat.le_of_ble_eq_true rfl) rfl ?_
  refine bc_aload_n dX4_forget_0 rfl ?_
  refine bc_iconst (v := 0) dX4_forget_1 (by decide) ?_
  refine bc_put dX4_forget_2 fX4_28 ftX4 fpX4_1 rfl rfl (rfl) rfl ?_
  refine bc_aload_n dX4_forget_5 rfl ?_
  refine bc_iconst (v := 0) dX4_forget_6 (by decide) ?_
  refine bc_put dX4_forget_7 fX4_32 ftX4 fpX4_5 rfl rfl (rfl) rfl ?_
  exact bc_return dX4_forget_10 rfl (⟨rfl, rfl⟩)
theorem s_keepWork {d : Nat} {μ : bc_M} {k : Nat} (hk : k < 16) (hw : μ 45 1 = nI k) : bc_C (d + 2) LC mX4_keepWork [.ref 45, .ref 31] μ (fun r ν => r = none ∧ (∀ i j, i ≠ 47 + k → ¬ (i = 45 ∧ j = 1) → ν i j = μ i j) ∧ ν 45 1 = nI (k + 1) ∧ ∀ j, j < 28 → ν (47 + k) j = svR μ j) := by
  refine bc_enter (by decide) (Nat.le_of_ble_eq_true rfl) rfl ?_
  refine bc_aload_n dX4_keepWork_0 rfl ?_
  refine bc_geti dX4_keepWork_1 fX4_28 (rfl) rfl ?_
  refine bc_if_lt (tgt := 42) dX4_keepWork_4 (by decide) (fun h4 => absurd h4 (by rw [hw]; exact bn_nn (by omega))) (fun h4 => ?_)
  refine bc_aload_n dX4_keepWork_7 rfl ?_
  refine bc_geti dX4_keepWork_8 fX4_28 (rfl) rfl ?_
  refine bc_aload_n dX4_keepWork_11 rfl ?_
  refine bc_getr dX4_keepWork_12 fX4_13 (rfl) rfl ?_
  refine bc_len4 dX4_keepWork_15 (rfl) ?_
  refine bc_icmp_ge (tgt := 42) dX4_keepWork_16 (by decide) (fun h16 => absurd h16 (by rw [hw, bn_leN (by omega) (by omega)]; omega)) (fun h16 => ?_)
  refine bc_aload_n dX4_keepWork_19 rfl ?_
  refine bc_aload_n dX4_keepWork_20 rfl ?_
  refine bc_getr dX4_keepWork_21 fX4_13 (rfl) rfl ?_
  refine bc_aload_n dX4_keepWork_24 rfl ?_
  refine bc_geti dX4_keepWork_25 fX4_28 (rfl) rfl ?_
  refine bc_aaldE dX4_keepWork_28 (rfl) (hw) (⟨hk, by decide⟩) (LC_g46 k hk) ?_
  refine bc_callV (z := mX1_saveTo) (ci := 1) dX4_keepWork_29 lX4_35 qX1_saveTo (by rfl) (by rfl) (by rfl) (by rfl) (Nat.le_of_ble_eq_true rfl) (s_saveTo (LC_r46 k hk) (by omega)) (fun r29 μ29 e29 => ?_)
  obtain ⟨rfl, h1, h2⟩ := e29
  refine bc_aload_n dX4_keepWork_32 rfl ?_
  refine bc_dup dX4_keepWork_33 rfl ?_
  refine bc_geti dX4_keepWork_34 fX4_28 (rfl) rfl ?_
  refine bc_iconst (v := 1) dX4_keepWork_37 (by decide) ?_
  refine bc_iadd dX4_keepWork_38 ?_
  refine bc_put dX4_keepWork_39 fX4_28 ftX4 fpX4_1 rfl rfl (rfl) rfl ?_
  exact bc_return dX4_keepWork_42 rfl (⟨rfl, fun i j a1 a2 => by rw [bc_u_r, if_neg (by omega)]; exact h1 i j a1, by rw [bc_u_r, if_pos ⟨rfl, rfl⟩, h1 45 1 (by omega), hw, bn_add1], fun j hj => by rw [bc_u_r, if_neg (by omega)]; exact h2 j hj⟩)
theorem s_undoWork {d : Nat} {μ : bc_M} {k : Nat} (hk : k < 16) (hw : μ 45 1 = nI (k + 1)) : bc_C (d + 2) LC mX4_undoWork [.ref 45, .ref 31] μ (fun r ν => r = none ∧ ldS (47 + k) (bc_u μ 45 1 (nI k)) ν) := by
  refine bc_enter (by decide) (Nat.le_of_ble_eq_true rfl) rfl ?_
  refine bc_aload_n dX4_undoWork_0 rfl ?_
  refine bc_geti dX4_undoWork_1 fX4_28 (rfl) rfl ?_
  refine bc_if_le (tgt := 42) dX4_undoWork_4 (by decide) (fun h4 => absurd h4 (by rw [hw, show (0 : Int32) = nI 0 from rfl, bn_leN (by omega) (by omega)]; omega)) (fun h4 => ?_)
  refine bc_aload_n dX4_undoWork_7 rfl ?_
  refine bc_geti dX4_undoWork_8 fX4_28 (rfl) rfl ?_
  refine bc_aload_n dX4_undoWork_11 rfl ?_
  refine bc_getr dX4_undoWork_12 fX4_13 (rfl) rfl ?_
  refine bc_len4 dX4_undoWork_15 (rfl) ?_
  refine bc_icmp_gt (tgt := 42) dX4_undoWork_16 (by decide) (fun h16 => absurd h16 (by rw [hw, bn_ltN (by omega) (by omega)]; omega)) (fun h16 => ?_)
  refine bc_aload_n dX4_undoWork_19 rfl ?_
  refine bc_dup dX4_undoWork_20 rfl ?_
  refine bc_geti dX4_undoWork_21 fX4_28 (rfl) rfl ?_
  refine bc_iconst (v := 1) dX4_undoWork_24 (by decide) ?_
  refine bc_isub dX4_undoWork_25 ?_
  refine bc_put dX4_undoWork_26 fX4_28 ftX4 fpX4_1 rfl rfl (rfl) rfl ?_
  rw [hw, show nI (k + 1) - 1 = nI k from nI_pred k]
  refine bc_aload_n dX4_undoWork_29 rfl ?_
  refine bc_aload_n dX4_undoWork_30 rfl ?_
  refine bc_getr dX4_undoWork_31 fX4_13 (rfl) rfl ?_
  refine bc_aload_n dX4_undoWork_34 rfl ?_
  refine bc_geti dX4_undoWork_35 fX4_28 (rfl) rfl ?_
  refine bc_aaldE dX4_undoWork_38 (rfl) ((by rw [bc_u_r, if_pos ⟨rfl, rfl⟩])) (⟨hk, by decide⟩) (LC_g46 k hk) ?_
  refine bc_callV (z := mX1_loadFrom) (ci := 1) dX4_undoWork_39 lX4_39 qX1_loadFrom (by rfl) (by rfl) (by rfl) (by rfl) (Nat.le_of_ble_eq_true rfl) (s_loadFrom (LC_r46 k hk) (by omega)) (fun r39 μ39 e39 => ?_)
  obtain ⟨rfl, h1⟩ := e39
  exact bc_return dX4_undoWork_42 rfl (⟨rfl, h1⟩)
/-- sixteen rows copied -/
def cpS (a b : Nat) (μ ν : bc_M) : Prop := (∀ i k, (i < b ∨ b + 16 ≤ i) → ν i k = μ i k) ∧ ∀ r, r < 16 → ∀ k, k < 28 → ν (b + r) k = μ (a + r) k
theorem s_copyRows {d : Nat} {μ : bc_M} {A B a b f t nA nB : Nat} {ra rb : List (Option Nat)} (hA : LC[A]? = some (4, nA, ra)) (hB : LC[B]? = some (4, nB, rb)) (hga : ∀ k, k < nA → ra.getD k none = some (a + k)) (hgb : ∀ k, k < nB → rb.getD k none = some (b + k)) (hra : ∀ k, k < nA → LC[a + k]? = some (0, 28, [])) (hrb : ∀ k, k < nB → LC[b + k]? = some (0, 28, [])) (hf : f + 16 ≤ nA) (ht : t + 16 ≤ nB) (hn : nA < 1000 ∧ nB < 1000) (hap : a + nA ≤ b ∨ b + nB ≤ a) : bc_C (d + 2) LC mX4_copyRows [.ref A, .int (nI f), .ref B, .int (nI t)] μ (fun r ν => r = none ∧ cpS (a + f) (b + t) μ ν) := by
  refine bc_enter (by decide) (Nat.le_of_ble_eq_true rfl) rfl ?_
  have loop : ∀ (m i : Nat) (v w : Value) (ν : bc_M), i + m = 16 → (v.category = 1) → (∀ j k, (j < b + t ∨ b + t + i ≤ j) → ν j k = μ j k) → (∀ r, r < i → ∀ k, k < 28 → ν (b + t + r) k = μ (a + f + r) k) → bc_W (d + 2) LC mX4_copyRows 3 [.ref A, .int (nI f), .ref B, .int (nI t), .int (nI i), v, w] [] ν (fun r ν => r = none ∧ cpS (a + f) (b + t) μ ν) := by
    intro m
    induction m with
    | zero =>
      intro i v w ν hi hv q1 q2
      have hi : i = 16 := by omega
      subst hi
      refine bc_iload dX4_copyRows_3 rfl ?_
      refine bc_bipush (v := 16) dX4_copyRows_5 (by decide) ?_
      refine bc_icmp_ge (tgt := 63) dX4_copyRows_7 (by decide) (fun h7 => ?_) (fun h7 => absurd h7 (fun q => q (Int32.le_refl _)))
      exact bc_return dX4_copyRows_63 rfl (⟨rfl, q1, q2⟩)
    | succ m ih =>
      intro i v w ν hi hv q1 q2
      refine bc_iload dX4_copyRows_3 rfl ?_
      refine bc_bipush (v := 16) dX4_copyRows_5 (by decide) ?_
      refine bc_icmp_ge (tgt := 63) dX4_copyRows_7 (by decide) (fun h7 => absurd h7 (by rw [show (16 : Int32) = nI 16 from rfl, bn_leN (by omega) (by omega)]; omega)) (fun h7 => ?_)
      refine bc_iload_n dX4_copyRows_10 rfl ?_
      refine bc_iload dX4_copyRows_11 rfl ?_
      refine bc_iadd dX4_copyRows_13 ?_
      rw [bn_add]
      refine bc_istore dX4_copyRows_14 (by decide) rfl ?_
      refine bc_iload_n dX4_copyRows_16 rfl ?_
      refine bc_iload dX4_copyRows_17 rfl ?_
      refine bc_iadd dX4_copyRows_19 ?_
      rw [bn_add]
      refine bc_istore dX4_copyRows_20 (by decide) rfl ?_
      refine bc_iload dX4_copyRows_22 rfl ?_
      refine bc_if_lt (tgt := 57) dX4_copyRows_24 (by decide) (fun h24 => absurd h24 (bn_nn (by omega))) (fun h24 => ?_)
      refine bc_iload dX4_copyRows_27 rfl ?_
      refine bc_aload_n dX4_copyRows_29 rfl ?_
      refine bc_len4 dX4_copyRows_30 (hA) ?_
      refine bc_icmp_ge (tgt := 57) dX4_copyRows_31 (by decide) (fun h31 => absurd h31 (by rw [bn_leN (by omega) (by omega)]; omega)) (fun h31 => ?_)
      refine bc_iload dX4_copyRows_34 rfl ?_
      refine bc_if_lt (tgt := 57) dX4_copyRows_36 (by decide) (fun h36 => absurd h36 (bn_nn (by omega))) (fun h36 => ?_)
      refine bc_iload dX4_copyRows_39 rfl ?_
      refine bc_aload_n dX4_copyRows_41 rfl ?_
      refine bc_len4 dX4_copyRows_42 (hB) ?_
      refine bc_icmp_ge (tgt := 57) dX4_copyRows_43 (by decide) (fun h43 => absurd h43 (by rw [bn_leN (by omega) (by omega)]; omega)) (fun h43 => ?_)
      refine bc_aload_n dX4_copyRows_46 rfl ?_
      refine bc_iload dX4_copyRows_47 rfl ?_
      refine bc_aaldE dX4_copyRows_49 (hA) (rfl) (⟨by omega, by omega⟩) (hga (f + i) (by omega)) ?_
      refine bc_aload_n dX4_copyRows_50 rfl ?_
      refine bc_iload dX4_copyRows_51 rfl ?_
      refine bc_aaldE dX4_copyRows_53 (hB) (rfl) (⟨by omega, by omega⟩) (hgb (t + i) (by omega)) ?_
      refine bc_callSN (z := mX9_copyRow) dX4_copyRows_54 lX4_46 qX9_copyRow (by rfl) (by rfl) (Nat.le_of_ble_eq_true rfl) (s_copyRow (n := 28) (n' := 28) (hra (f + i) (by omega)) (hrb (t + i) (by omega)) (by decide) (by decide)) (fun r54 μ54 e54 => ?_)
      obtain ⟨rfl, q54⟩ := e54
      obtain rfl := q54.symm
      refine bc_iinc1 dX4_copyRows_57 rfl (by decide) rfl ?_
      refine bc_goto (tgt := 3) dX4_copyRows_60 (by decide) ?_
      rw [bn_add1]
      refine ih (i + 1) _ _ _ (by omega) rfl (fun j k hj => ?_) (fun r hr k hk => ?_)
      · rw [bc_us_r, if_neg (by omega)]; exact q1 j k (by omega)
      · rw [bc_us_r]
        by_cases e : r = i
        · subst e
          rw [if_pos (by omega), va_cpy, if_pos (by simp; exact hk)]
          rw [q1 _ _ (by omega), show a + (f + r) = a + f + r by omega]
          congr 1
          omega
        · rw [if_neg (by omega)]; exact q2 r (by omega) k hk
  refine bc_iconst (v := 0) dX4_copyRows_0 (by decide) ?_
  refine bc_istore dX4_copyRows_1 (by decide) rfl ?_
  exact loop 16 0 .null .null μ rfl rfl (fun _ _ _ => rfl) (fun r hr => absurd hr (by omega))
