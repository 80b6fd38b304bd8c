/-! images; Bog, Law and Lines laid anew -/
/-- behind image(): the k-th image holds the city, the works and their rows -/
def kiS (k : Nat) (μ ν : bc_M) : Prop := (∀ i j, i ≠ 64 + k → i ≠ 116 → (i < 68 + 16 * k ∨ 68 + 16 * k + 16 ≤ i) → ¬ (i = 45 ∧ j = 5) → ν i j = μ i j) ∧ (∀ j, j ≠ k → ν 116 j = μ 116 j) ∧ ν 116 k = μ 45 1 ∧ ν 45 5 = nI (k + 1) ∧ (∀ j, j < 28 → ν (64 + k) j = svR μ j) ∧ ∀ r, r < 16 → ∀ j, j < 28 → ν (68 + 16 * k + r) j = μ (47 + r) j
theorem s_keepImage {d : Nat} {μ : bc_M} {k : Nat} (hk : k < 3) (hw : μ 45 5 = nI k) : bc_C (d + 3) LC mX4_keepImage [.ref 45, .ref 31] μ (fun r ν => r = none ∧ kiS k μ ν) := by
  refine bc_enter (by decide) (Nat.le_of_ble_eq_true rfl) rfl ?_
  refine bc_aload_n dX4_keepImage_0 rfl ?_
  refine bc_geti dX4_keepImage_1 fX4_32 (rfl) rfl ?_
  refine bc_if_lt (tgt := 31) dX4_keepImage_4 (by decide) (fun h4 => absurd h4 (by rw [hw]; exact bn_nn (by omega))) (fun h4 => ?_)
  refine bc_aload_n dX4_keepImage_7 rfl ?_
  refine bc_geti dX4_keepImage_8 fX4_32 (rfl) rfl ?_
  refine bc_aload_n dX4_keepImage_11 rfl ?_
  refine bc_getr dX4_keepImage_12 fX4_18 (rfl) rfl ?_
  refine bc_len4 dX4_keepImage_15 (rfl) ?_
  refine bc_icmp_ge (tgt := 31) dX4_keepImage_16 (by decide) (fun h16 => absurd h16 (by rw [hw, bn_leN (by omega) (by omega)]; omega)) (fun h16 => ?_)
  refine bc_aload_n dX4_keepImage_19 rfl ?_
  refine bc_geti dX4_keepImage_20 fX4_32 (rfl) rfl ?_
  refine bc_aload_n dX4_keepImage_23 rfl ?_
  refine bc_getr dX4_keepImage_24 fX4_24 (rfl) rfl ?_
  refine bc_len0 dX4_keepImage_27 (rfl) ?_
  refine bc_icmp_lt (tgt := 32) dX4_keepImage_28 (by decide) (fun h28 => ?_) (fun h28 => absurd h28 (fun q => q (by rw [hw, bn_ltN (by omega) (by omega)]; omega)))
  refine bc_aload_n dX4_keepImage_32 rfl ?_
  refine bc_aload_n dX4_keepImage_33 rfl ?_
  refine bc_getr dX4_keepImage_34 fX4_18 (rfl) rfl ?_
  refine bc_aload_n dX4_keepImage_37 rfl ?_
  refine bc_geti dX4_keepImage_38 fX4_32 (rfl) rfl ?_
  refine bc_aaldE dX4_keepImage_41 (rfl) (hw) (⟨hk, by decide⟩) (LC_g63 k hk) ?_
  refine bc_callV (z := mX1_saveTo) (ci := 1) dX4_keepImage_42 lX4_35 qX1_saveTo (by rfl) (by rfl) (by rfl) (by rfl) (Nat.le_of_ble_eq_true rfl) (s_saveTo (LC_r63 k hk) (by omega)) (fun r42 μ42 e42 => ?_)
  obtain ⟨rfl, h1, h2⟩ := e42
  refine bc_aload_n dX4_keepImage_45 rfl ?_
  refine bc_getr dX4_keepImage_46 fX4_24 (rfl) rfl ?_
  refine bc_aload_n dX4_keepImage_49 rfl ?_
  refine bc_geti dX4_keepImage_50 fX4_32 (rfl) rfl ?_
  refine bc_aload_n dX4_keepImage_53 rfl ?_
  refine bc_geti dX4_keepImage_54 fX4_28 (rfl) rfl ?_
  refine bc_iastE dX4_keepImage_57 (rfl) (((h1 45 5 (by omega)).trans hw)) (⟨hk, by decide⟩) ?_
  refine bc_aload_n dX4_keepImage_58 rfl ?_
  refine bc_getr dX4_keepImage_59 fX4_13 (rfl) rfl ?_
  refine bc_iconst (v := 0) dX4_keepImage_62 (by decide) ?_
  refine bc_aload_n dX4_keepImage_63 rfl ?_
  refine bc_getr dX4_keepImage_64 fX4_21 (rfl) rfl ?_
  refine bc_aload_n dX4_keepImage_67 rfl ?_
  refine bc_geti dX4_keepImage_68 fX4_32 (rfl) rfl ?_
  refine bc_bipush (v := 16) dX4_keepImage_71 (by decide) ?_
  refine bc_imul dX4_keepImage_73 ?_
  have e5 : bc_u μ42 116 k (μ42 45 1) 45 5 = nI k := by rw [bc_u_r, if_neg (by omega)]; exact (h1 45 5 (by omega)).trans hw
  rw [e5, show (16 : Int32) = nI 16 from rfl, bn_mul]
  refine bc_callS (z := mX4_copyRows) dX4_keepImage_74 lX4_42 qX4_copyRows (by rfl) (by rfl) (Nat.le_of_ble_eq_true rfl) (s_copyRows (A := 46) (B := 67) (a := 47) (b := 68) (f := 0) (t := k * 16) rfl rfl LC_g46 LC_g67 LC_r46 LC_r67 (by omega) (by omega) (by decide) (by omega)) (fun r74 μ74 e74 => ?_)
  obtain ⟨rfl, h3, h4⟩ := e74
  refine bc_aload_n dX4_keepImage_77 rfl ?_
  refine bc_dup dX4_keepImage_78 rfl ?_
  refine bc_geti dX4_keepImage_79 fX4_32 (rfl) rfl ?_
  refine bc_iconst (v := 1) dX4_keepImage_82 (by decide) ?_
  refine bc_iadd dX4_keepImage_83 ?_
  refine bc_put dX4_keepImage_84 fX4_32 ftX4 fpX4_5 rfl rfl (rfl) rfl ?_
  exact bc_return dX4_keepImage_87 rfl (⟨rfl, fun i j a1 a2 a3 a4 => by rw [bc_u_r, if_neg (by omega), h3 i j (by omega), bc_u_r, if_neg (by omega)]; exact h1 i j a1, fun j hj => by rw [bc_u_r, if_neg (by omega), h3 116 j (by omega), bc_u_r, if_neg (by omega)]; exact h1 116 j (by omega), by rw [bc_u_r, if_neg (by omega), h3 116 k (by omega), bc_u_r, if_pos ⟨rfl, rfl⟩]; exact h1 45 1 (by omega), by rw [bc_u_r, if_pos ⟨rfl, rfl⟩, h3 45 5 (by omega), e5, bn_add1], fun j hj => by rw [bc_u_r, if_neg (by omega), h3 _ j (by omega), bc_u_r, if_neg (by omega)]; exact h2 j hj, fun r hr j hj => by rw [bc_u_r, if_neg (by omega), show 68 + 16 * k + r = 68 + k * 16 + r by omega, h4 r hr j hj, bc_u_r, if_neg (by omega)]; exact (h1 _ j (by omega)).trans (by congr 1)⟩)
/-- behind restore(): the city, the works and their rows are the k-th image's -/
def riS (k : Nat) (μ ν : bc_M) : Prop := (∀ i j, ¬ (i = 31 ∧ 2 ≤ j ∧ j ≤ 7) → i ≠ 32 → i ≠ 33 → i ≠ 34 → (i < 47 ∨ 63 ≤ i) → ¬ (i = 45 ∧ (j = 1 ∨ j = 5)) → ν i j = μ i j) ∧ ν 45 5 = nI k ∧ ν 45 1 = μ 116 k ∧ (∀ j, j < 28 → svR ν j = μ (64 + k) j) ∧ ∀ r, r < 16 → ∀ j, j < 28 → ν (47 + r) j = μ (68 + 16 * k + r) j
theorem svR_eq {μ ν : bc_M} (h : ∀ i j, (i = 31 ∧ 2 ≤ j ∧ j ≤ 7) ∨ i = 32 ∨ i = 33 ∨ i = 34 → ν i j = μ i j) (k : Nat) : svR ν k = svR μ k := by
  unfold svR
  by_cases h1 : k < 6
  · rw [if_pos h1, if_pos h1]
    apply h
    left
    refine ⟨rfl, ?_⟩
    have hc : k = 0 ∨ k = 1 ∨ k = 2 ∨ k = 3 ∨ k = 4 ∨ k = 5 := by omega
    rcases hc with rfl | rfl | rfl | rfl | rfl | rfl <;> decide
  · rw [if_neg h1, if_neg h1]
    split
    · exact h _ _ (by omega)
    · split
      · exact h _ _ (by omega)
      · exact h _ _ (by omega)
theorem s_restoreImage {d : Nat} {μ : bc_M} {k : Nat} (hk : k < 3) (hw : μ 45 5 = nI (k + 1)) : bc_C (d + 3) LC mX4_restoreImage [.ref 45, .ref 31] μ (fun r ν => r = none ∧ riS k μ ν) := by
  refine bc_enter (by decide) (Nat.le_of_ble_eq_true rfl) rfl ?_
  refine bc_aload_n dX4_restoreImage_0 rfl ?_
  refine bc_geti dX4_restoreImage_1 fX4_32 (rfl) rfl ?_
  refine bc_if_le (tgt := 31) dX4_restoreImage_4 (by decide) (fun h4 => absurd h4 (by rw [hw, show (0 : Int32) = nI 0 from rfl, bn_leN (by omega) (by omega)]; omega)) (fun h4 => ?_)
  refine bc_aload_n dX4_restoreImage_7 rfl ?_
  refine bc_geti dX4_restoreImage_8 fX4_32 (rfl) rfl ?_
  refine bc_aload_n dX4_restoreImage_11 rfl ?_
  refine bc_getr dX4_restoreImage_12 fX4_18 (rfl) rfl ?_
  refine bc_len4 dX4_restoreImage_15 (rfl) ?_
  refine bc_icmp_gt (tgt := 31) dX4_restoreImage_16 (by decide) (fun h16 => absurd h16 (by rw [hw, bn_ltN (by omega) (by omega)]; omega)) (fun h16 => ?_)
  refine bc_aload_n dX4_restoreImage_19 rfl ?_
  refine bc_geti dX4_restoreImage_20 fX4_32 (rfl) rfl ?_
  refine bc_aload_n dX4_restoreImage_23 rfl ?_
  refine bc_getr dX4_restoreImage_24 fX4_24 (rfl) rfl ?_
  refine bc_len0 dX4_restoreImage_27 (rfl) ?_
  refine bc_icmp_le (tgt := 32) dX4_restoreImage_28 (by decide) (fun h28 => ?_) (fun h28 => absurd h28 (fun q => q (by rw [hw, bn_leN (by omega) (by omega)]; omega)))
  refine bc_aload_n dX4_restoreImage_32 rfl ?_
  refine bc_dup dX4_restoreImage_33 rfl ?_
  refine bc_geti dX4_restoreImage_34 fX4_32 (rfl) rfl ?_
  refine bc_iconst (v := 1) dX4_restoreImage_37 (by decide) ?_
  refine bc_isub dX4_restoreImage_38 ?_
  refine bc_put dX4_restoreImage_39 fX4_32 ftX4 fpX4_5 rfl rfl (rfl) rfl ?_
  rw [hw, show nI (k + 1) - 1 = nI k from nI_pred k]
  refine bc_aload_n dX4_restoreImage_42 rfl ?_
  refine bc_aload_n dX4_restoreImage_43 rfl ?_
  refine bc_getr dX4_restoreImage_44 fX4_18 (rfl) rfl ?_
  refine bc_aload_n dX4_restoreImage_47 rfl ?_
  refine bc_geti dX4_restoreImage_48 fX4_32 (rfl) rfl ?_
  refine bc_aaldE dX4_restoreImage_51 (rfl) ((by rw [bc_u_r, if_pos ⟨rfl, rfl⟩])) (⟨hk, by decide⟩) (LC_g63 k hk) ?_
  refine bc_callV (z := mX1_loadFrom) (ci := 1) dX4_restoreImage_52 lX4_39 qX1_loadFrom (by rfl) (by rfl) (by rfl) (by rfl) (Nat.le_of_ble_eq_true rfl) (s_loadFrom (LC_r63 k hk) (by omega)) (fun r52 μ52 e52 => ?_)
  obtain ⟨rfl, h1, h2⟩ := e52
  refine bc_aload_n dX4_restoreImage_55 rfl ?_
  refine bc_aload_n dX4_restoreImage_56 rfl ?_
  refine bc_getr dX4_restoreImage_57 fX4_24 (rfl) rfl ?_
  refine bc_aload_n dX4_restoreImage_60 rfl ?_
  refine bc_geti dX4_restoreImage_61 fX4_32 (rfl) rfl ?_
  have e5 : μ52 45 5 = nI k := by rw [h1 45 5 (by omega) (by omega) (by omega) (by omega), bc_u_r, if_pos ⟨rfl, rfl⟩]
  refine bc_ialdE dX4_restoreImage_64 (rfl) (e5) (⟨hk, by decide⟩) ?_
  refine bc_put dX4_restoreImage_65 fX4_28 ftX4 fpX4_1 rfl rfl (rfl) rfl ?_
  refine bc_aload_n dX4_restoreImage_68 rfl ?_
  refine bc_getr dX4_restoreImage_69 fX4_21 (rfl) rfl ?_
  refine bc_aload_n dX4_restoreImage_72 rfl ?_
  refine bc_geti dX4_restoreImage_73 fX4_32 (rfl) rfl ?_
  refine bc_bipush (v := 16) dX4_restoreImage_76 (by decide) ?_
  refine bc_imul dX4_restoreImage_78 ?_
  refine bc_aload_n dX4_restoreImage_79 rfl ?_
  refine bc_getr dX4_restoreImage_80 fX4_13 (rfl) rfl ?_
  refine bc_iconst (v := 0) dX4_restoreImage_83 (by decide) ?_
  have e6 : bc_u μ52 45 1 (μ52 116 k) 45 5 = nI k := by rw [bc_u_r, if_neg (by omega)]; exact e5
  rw [e6, show (16 : Int32) = nI 16 from rfl, bn_mul]
  refine bc_callS (z := mX4_copyRows) dX4_restoreImage_84 lX4_42 qX4_copyRows (by rfl) (by rfl) (Nat.le_of_ble_eq_true rfl) (s_copyRows (A := 67) (B := 46) (a := 68) (b := 47) (f := k * 16) (t := 0) rfl rfl LC_g67 LC_g46 LC_r67 LC_r46 (by omega) (by omega) (by decide) (by omega)) (fun r84 μ84 e84 => ?_)
  obtain ⟨rfl, h3, h4⟩ := e84
  exact bc_return dX4_restoreImage_87 rfl (⟨rfl, fun i j a1 a2 a3 a4 a5 a6 => by rw [h3 i j (by omega), bc_u_r, if_neg (by omega), h1 i j a1 a2 a3 a4, bc_u_r, if_neg (by omega)], by rw [h3 45 5 (by omega)]; exact e6, by rw [h3 45 1 (by omega), bc_u_r, if_pos ⟨rfl, rfl⟩, h1 116 k (by omega) (by omega) (by omega) (by omega), bc_u_r, if_neg (by omega)], fun j hj => by rw [svR_eq (μ := μ52) (fun i j q => by rw [h3 i j (by omega), bc_u_r, if_neg (by omega)]), h2 j hj, bc_u_r, if_neg (by omega)], fun r hr j hj => by rw [show 47 + r = 47 + 0 + r by omega, h4 r hr j hj, bc_u_r, if_neg (by omega), h1 _ j (by omega) (by omega) (by omega) (by omega), bc_u_r, if_neg (by omega)]; congr 1; omega⟩)
/-- an empty bog -/
def emS (b : Nat) (μ ν : bc_M) : Prop := (∀ i k, ¬ (i = b ∧ k ≤ 6) → i ≠ b + 7 → ν i k = μ i k) ∧ ν b 0 = 0 ∧ ν b 1 = 0 ∧ ν b 2 = 0 ∧ ν b 3 = 0 ∧ ν b 4 = 15 ∧ ν b 5 = 15 ∧ ν b 6 = 9 ∧ ∀ k, k < 31 → ν (b + 7) k = 0
theorem s_empty {d : Nat} {L : bc_L} {μ : bc_M} {b : Nat} (hb : bc_isB L b) : bc_C d L mX0_empty [.ref b] μ (fun r ν => r = none ∧ emS b μ ν) := by
  refine bc_enter (by decide) (Nat.le_of_ble_eq_true rfl) rfl ?_
  have loop : ∀ (μ0 : bc_M) (m k : Nat), k + m = 31 → bc_W d L mX0_empty 40 [.ref b, .int (nI k)] [] (bc_us μ0 (b + 7) (clr (μ0 (b + 7)) k)) (fun r ν => r = none ∧ ν = bc_us μ0 (b + 7) (clr (μ0 (b + 7)) 31)) := by
    intro μ0 m
    induction m with
    | zero =>
      intro k hk
      have hk : k = 31 := by omega
      subst hk
      refine bc_iload_n dX0_empty_40 rfl ?_
      refine bc_aload_n dX0_empty_41 rfl ?_
      refine bc_getr dX0_empty_42 fX0_30 (hb.1) rfl ?_
      refine bc_len0 dX0_empty_45 (hb.2.2.2.2.2.2.2) ?_
      refine bc_icmp_ge (tgt := 62) dX0_empty_46 (by decide) (fun h46 => ?_) (fun h46 => absurd h46 (fun h => h (Int32.le_refl _)))
      exact bc_return dX0_empty_62 rfl (⟨rfl, rfl⟩)
    | succ m ih =>
      intro k hk
      refine bc_iload_n dX0_empty_40 rfl ?_
      refine bc_aload_n dX0_empty_41 rfl ?_
      refine bc_getr dX0_empty_42 fX0_30 (hb.1) rfl ?_
      refine bc_len0 dX0_empty_45 (hb.2.2.2.2.2.2.2) ?_
      refine bc_icmp_ge (tgt := 62) dX0_empty_46 (by decide) (fun h46 => absurd h46 (by rw [bn_leN (by omega) (by omega)]; omega)) (fun h46 => ?_)
      refine bc_aload_n dX0_empty_49 rfl ?_
      refine bc_getr dX0_empty_50 fX0_30 (hb.1) rfl ?_
      refine bc_iload_n dX0_empty_53 rfl ?_
      refine bc_iconst (v := 0) dX0_empty_54 (by decide) ?_
      refine bc_iastE dX0_empty_55 (hb.2.2.2.2.2.2.2) (rfl) (⟨by omega, by decide⟩) ?_
      refine bc_iinc1 dX0_empty_56 rfl (by decide) rfl ?_
      refine bc_goto (tgt := 40) dX0_empty_59 (by decide) ?_
      rw [bc_us_u, clr_s, bn_add1]
      exact ih (k + 1) (by omega)
  refine bc_aload_n dX0_empty_0 rfl ?_
  refine bc_iconst (v := 0) dX0_empty_1 (by decide) ?_
  refine bc_put dX0_empty_2 fX0_36 ftX0 fpX0_0 rfl rfl (hb.1) rfl ?_
  refine bc_aload_n dX0_empty_5 rfl ?_
  refine bc_iconst (v := 0) dX0_empty_6 (by decide) ?_
  refine bc_put dX0_empty_7 fX0_40 ftX0 fpX0_1 rfl rfl (hb.1) rfl ?_
  refine bc_aload_n dX0_empty_10 rfl ?_
  refine bc_iconst (v := 0) dX0_empty_11 (by decide) ?_
  refine bc_put dX0_empty_12 fX0_43 ftX0 fpX0_2 rfl rfl (hb.1) rfl ?_
  refine bc_aload_n dX0_empty_15 rfl ?_
  refine bc_iconst (v := 0) dX0_empty_16 (by decide) ?_
  refine bc_put dX0_empty_17 fX0_46 ftX0 fpX0_3 rfl rfl (hb.1) rfl ?_
  refine bc_aload_n dX0_empty_20 rfl ?_
  refine bc_bipush (v := 15) dX0_empty_21 (by decide) ?_
  refine bc_put dX0_empty_23 fX0_49 ftX0 fpX0_4 rfl rfl (hb.1) rfl ?_
  refine bc_aload_n dX0_empty_26 rfl ?_
  refine bc_bipush (v := 15) dX0_empty_27 (by decide) ?_
  refine bc_put dX0_empty_29 fX0_52 ftX0 fpX0_5 rfl rfl (hb.1) rfl ?_
  refine bc_aload_n dX0_empty_32 rfl ?_
  refine bc_bipush (v := 9) dX0_empty_33 (by decide) ?_
  refine bc_put dX0_empty_35 fX0_55 ftX0 fpX0_6 rfl rfl (hb.1) rfl ?_
  refine bc_iconst (v := 0) dX0_empty_38 (by decide) ?_
  refine bc_istore_n dX0_empty_39 (by decide) rfl ?_
  obtain ⟨μ0, hμ0⟩ : ∃ z, z = bc_u (bc_u (bc_u (bc_u (bc_u (bc_u (bc_u μ b 0 0) b 1 0) b 2 0) b 3 0) b 4 15) b 5 15) b 6 9 := ⟨_, rfl⟩
  refine bc_W.weaken (Q := fun r ν => r = none ∧ ν = bc_us μ0 (b + 7) (clr (μ0 (b + 7)) 31)) ?_ ?_
  rotate_left
  · have h := loop μ0 31 0 (by omega)
    rw [clr_0, bc_us_self, hμ0] at h
    rw [hμ0]
    exact h
  · rintro r ν ⟨rfl, rfl⟩
    subst hμ0
    refine ⟨rfl, fun i k a1 a2 => ?_, ?_, ?_, ?_, ?_, ?_, ?_, ?_, fun k hk => ?_⟩
    · rw [bc_us_r, if_neg a2]
      simp only [bc_u_r]
      rw [if_neg (by omega), if_neg (by omega), if_neg (by omega), if_neg (by omega), if_neg (by omega), if_neg (by omega), if_neg (by omega)]
    all_goals simp [bc_us_r, bc_u_r, clr, *]
/-- the bog becomes what was drafted -/
def boS (μ ν : bc_M) : Prop := (∀ i k, ¬ (i = 3 ∧ k ≤ 6) → (i < 4 ∨ 10 < i) → ν i k = μ i k) ∧ (∀ k, k ≤ 6 → ν 3 k = μ 11 k) ∧ (∀ k, k < 6 → ν 4 k = μ 12 k ∧ ν 5 k = μ 13 k ∧ ν 8 k = μ 16 k ∧ ν 9 k = μ 17 k) ∧ (∀ k, k < 8 → ν 6 k = μ 14 k ∧ ν 7 k = μ 15 k) ∧ ∀ k, k < 31 → ν 10 k = μ 18 k
theorem s_bogBecome {d : Nat} {μ : bc_M} : bc_C (d + 2) LC mX0_become [.ref 3, .ref 11] μ (fun r ν => r = none ∧ boS μ ν) := by
  refine bc_enter (by decide) (Nat.le_of_ble_eq_true rfl) rfl ?_
  refine bc_aload_n dX0_become_0 rfl ?_
  refine bc_aload_n dX0_become_1 rfl ?_
  refine bc_geti dX0_become_2 fX0_36 (rfl) rfl ?_
  refine bc_put dX0_become_5 fX0_36 ftX0 fpX0_0 rfl rfl (rfl) rfl ?_
  refine bc_aload_n dX0_become_8 rfl ?_
  refine bc_aload_n dX0_become_9 rfl ?_
  refine bc_geti dX0_become_10 fX0_40 (rfl) rfl ?_
  refine bc_put dX0_become_13 fX0_40 ftX0 fpX0_1 rfl rfl (rfl) rfl ?_
  refine bc_aload_n dX0_become_16 rfl ?_
  refine bc_aload_n dX0_become_17 rfl ?_
  refine bc_geti dX0_become_18 fX0_43 (rfl) rfl ?_
  refine bc_put dX0_become_21 fX0_43 ftX0 fpX0_2 rfl rfl (rfl) rfl ?_
  refine bc_aload_n dX0_become_24 rfl ?_
  refine bc_aload_n dX0_become_25 rfl ?_
  refine bc_geti dX0_become_26 fX0_46 (rfl) rfl ?_
  refine bc_put dX0_become_29 fX0_46 ftX0 fpX0_3 rfl rfl (rfl) rfl ?_
  refine bc_aload_n dX0_become_32 rfl ?_
  refine bc_aload_n dX0_become_33 rfl ?_
  refine bc_geti dX0_become_34 fX0_49 (rfl) rfl ?_
  refine bc_put dX0_become_37 fX0_49 ftX0 fpX0_4 rfl rfl (rfl) rfl ?_
  refine bc_aload_n dX0_become_40 rfl ?_
  refine bc_aload_n dX0_become_41 rfl ?_
  refine bc_geti dX0_become_42 fX0_52 (rfl) rfl ?_
  refine bc_put dX0_become_45 fX0_52 ftX0 fpX0_5 rfl rfl (rfl) rfl ?_
  refine bc_aload_n dX0_become_48 rfl ?_
  refine bc_aload_n dX0_become_49 rfl ?_
  refine bc_geti dX0_become_50 fX0_55 (rfl) rfl ?_
  refine bc_put dX0_become_53 fX0_55 ftX0 fpX0_6 rfl rfl (rfl) rfl ?_
  refine bc_aload_n dX0_become_56 rfl ?_
  refine bc_getr dX0_become_57 fX0_9 (rfl) rfl ?_
  refine bc_aload_n dX0_become_60 rfl ?_
  refine bc_getr dX0_become_61 fX0_9 (rfl) rfl ?_
  refine bc_callSN (z := mX9_copyRow) dX0_become_64 lX0_58 qX9_copyRow (by rfl) (by rfl) (Nat.le_of_ble_eq_true rfl) (s_copyRow (n := 6) (n' := 6) rfl rfl (by decide) (by decide)) (fun r64 μ64 e64 => ?_)
  obtain ⟨rfl, q64⟩ := e64
  obtain rfl := q64.symm
  refine bc_aload_n dX0_become_67 rfl ?_
  refine bc_getr dX0_become_68 fX0_15 (rfl) rfl ?_
  refine bc_aload_n dX0_become_71 rfl ?_
  refine bc_getr dX0_become_72 fX0_15 (rfl) rfl ?_
  refine bc_callSN (z := mX9_copyRow) dX0_become_75 lX0_58 qX9_copyRow (by rfl) (by rfl) (Nat.le_of_ble_eq_true rfl) (s_copyRow (n := 6) (n' := 6) rfl rfl (by decide) (by decide)) (fun r75 μ75 e75 => ?_)
  obtain ⟨rfl, q75⟩ := e75
  obtain rfl := q75.symm
  refine bc_aload_n dX0_become_78 rfl ?_
  refine bc_getr dX0_become_79 fX0_18 (rfl) rfl ?_
  refine bc_aload_n dX0_become_82 rfl ?_
  refine bc_getr dX0_become_83 fX0_18 (rfl) rfl ?_
  refine bc_callSN (z := mX9_copyRow) dX0_become_86 lX0_58 qX9_copyRow (by rfl) (by rfl) (Nat.le_of_ble_eq_true rfl) (s_copyRow (n := 8) (n' := 8) rfl rfl (by decide) (by decide)) (fun r86 μ86 e86 => ?_)
  obtain ⟨rfl, q86⟩ := e86
  obtain rfl := q86.symm
  refine bc_aload_n dX0_become_89 rfl ?_
  refine bc_getr dX0_become_90 fX0_21 (rfl) rfl ?_
  refine bc_aload_n dX0_become_93 rfl ?_
  refine bc_getr dX0_become_94 fX0_21 (rfl) rfl ?_
  refine bc_callSN (z := mX9_copyRow) dX0_become_97 lX0_58 qX9_copyRow (by rfl) (by rfl) (Nat.le_of_ble_eq_true rfl) (s_copyRow (n := 8) (n' := 8) rfl rfl (by decide) (by decide)) (fun r97 μ97 e97 => ?_)
  obtain ⟨rfl, q97⟩ := e97
  obtain rfl := q97.symm
  refine bc_aload_n dX0_become_100 rfl ?_
  refine bc_getr dX0_become_101 fX0_24 (rfl) rfl ?_
  refine bc_aload_n dX0_become_104 rfl ?_
  refine bc_getr dX0_become_105 fX0_24 (rfl) rfl ?_
  refine bc_callSN (z := mX9_copyRow) dX0_become_108 lX0_58 qX9_copyRow (by rfl) (by rfl) (Nat.le_of_ble_eq_true rfl) (s_copyRow (n := 6) (n' := 6) rfl rfl (by decide) (by decide)) (fun r108 μ108 e108 => ?_)
  obtain ⟨rfl, q108⟩ := e108
  obtain rfl := q108.symm
  refine bc_aload_n dX0_become_111 rfl ?_
  refine bc_getr dX0_become_112 fX0_27 (rfl) rfl ?_
  refine bc_aload_n dX0_become_115 rfl ?_
  refine bc_getr dX0_become_116 fX0_27 (rfl) rfl ?_
  refine bc_callSN (z := mX9_copyRow) dX0_become_119 lX0_58 qX9_copyRow (by rfl) (by rfl) (Nat.le_of_ble_eq_true rfl) (s_copyRow (n := 6) (n' := 6) rfl rfl (by decide) (by decide)) (fun r119 μ119 e119 => ?_)
  obtain ⟨rfl, q119⟩ := e119
  obtain rfl := q119.symm
  refine bc_aload_n dX0_become_122 rfl ?_
  refine bc_getr dX0_become_123 fX0_30 (rfl) rfl ?_
  refine bc_aload_n dX0_become_126 rfl ?_
  refine bc_getr dX0_become_127 fX0_30 (rfl) rfl ?_
  refine bc_callSN (z := mX9_copyRow) dX0_become_130 lX0_58 qX9_copyRow (by rfl) (by rfl) (Nat.le_of_ble_eq_true rfl) (s_copyRow (n := 31) (n' := 31) rfl rfl (by decide) (by decide)) (fun r130 μ130 e130 => ?_)
  obtain ⟨rfl, q130⟩ := e130
  obtain rfl := q130.symm
  skip
  refine bc_return dX0_become_133 rfl ⟨rfl, fun i k a1 a2 => ?_, fun k hk => ?_, fun k hk => ?_, fun k hk => ?_, fun k hk => ?_⟩
  · simp only [bc_us_r, bc_u_r]
    rw [if_neg (by omega), if_neg (by omega), if_neg (by omega), if_neg (by omega), if_neg (by omega), if_neg (by omega), if_neg (by omega), if_neg (by omega), if_neg (by omega), if_neg (by omega), if_neg (by omega), if_neg (by omega), if_neg (by omega), if_neg (by omega)]
  · have : k = 0 ∨ k = 1 ∨ k = 2 ∨ k = 3 ∨ k = 4 ∨ k = 5 ∨ k = 6 := by omega
    rcases this with rfl | rfl | rfl | rfl | rfl | rfl | rfl <;> simp [bc_us_r, bc_u_r]
  · simp [bc_us_r, bc_u_r, va_cpy, hk]
  · simp [bc_us_r, bc_u_r, va_cpy, hk]
  · simp [bc_us_r, bc_u_r, va_cpy, hk]
theorem s_put {d : Nat} {L : bc_L} {μ : bc_M} {w : Nat} (hw : bc_isW L w) (s : Int32) : bc_C d L mX2_put [.ref w, .int s] μ (fun r ν => r = none ∧ ((¬ vp_in (μ w 3) 150 ∧ ν = μ) ∨ (vp_in (μ w 3) 150 ∧ ν = bc_u (bc_u μ (w + 2) (μ w 3).toNatClampNeg s) w 3 (μ w 3 + 1)))) := by
  refine bc_enter (by decide) (Nat.le_of_ble_eq_true rfl) rfl ?_
  refine bc_aload_n dX2_put_0 rfl ?_
  refine bc_geti dX2_put_1 fX2_27 (hw.1) rfl ?_
  refine bc_if_lt (tgt := 39) dX2_put_4 (by decide) (fun h4 => ?_) (fun h4 => ?_)
  · exact bc_return dX2_put_39 rfl (⟨rfl, Or.inl ⟨bn_neg h4, rfl⟩⟩)
  · refine bc_aload_n dX2_put_7 rfl ?_
    refine bc_geti dX2_put_8 fX2_27 (hw.1) rfl ?_
    refine bc_aload_n dX2_put_11 rfl ?_
    refine bc_getr dX2_put_12 fX2_15 (hw.1) rfl ?_
    refine bc_len0 dX2_put_15 (hw.2.2.1) ?_
    refine bc_icmp_ge (tgt := 39) dX2_put_16 (by decide) (fun h16 => ?_) (fun h16 => ?_)
    · exact bc_return dX2_put_39 rfl (⟨rfl, Or.inl ⟨bn_out (by decide) h16, rfl⟩⟩)
    · refine bc_aload_n dX2_put_19 rfl ?_
      refine bc_getr dX2_put_20 fX2_15 (hw.1) rfl ?_
      refine bc_aload_n dX2_put_23 rfl ?_
      refine bc_geti dX2_put_24 fX2_27 (hw.1) rfl ?_
      refine bc_iload_n dX2_put_27 rfl ?_
      refine bc_iast dX2_put_28 (hw.2.2.1) (bn_in (by decide) h4 h16) ?_
      refine bc_aload_n dX2_put_29 rfl ?_
      refine bc_dup dX2_put_30 rfl ?_
      refine bc_geti dX2_put_31 fX2_27 (hw.1) rfl ?_
      refine bc_iconst (v := 1) dX2_put_34 (by decide) ?_
      refine bc_iadd dX2_put_35 ?_
      refine bc_put dX2_put_36 fX2_27 ftX2 fpX2_3 rfl rfl (hw.1) rfl ?_
      exact bc_return dX2_put_39 rfl (⟨rfl, Or.inr ⟨bn_in (by decide) h4 h16, by rw [show bc_u μ (w + 2) (μ w 3).toNatClampNeg s w 3 = μ w 3 by rw [bc_u_r, if_neg (by omega)]]⟩⟩)
theorem s_putN {d : Nat} {L : bc_L} {μ : bc_M} {w k : Nat} (hw : bc_isW L w) (hk : k < 150) (e : μ w 3 = nI k) (s : Int32) : bc_C d L mX2_put [.ref w, .int s] μ (fun r ν => r = none ∧ ν = bc_u (bc_u μ (w + 2) k s) w 3 (nI (k + 1))) := by
  refine bc_C.weaken (s_put hw s) (fun r ν q => ⟨q.1, ?_⟩)
  have hin : vp_in (μ w 3) 150 := by rw [e]; exact vp_in_nI hk (by decide)
  rcases q.2 with ⟨h, -⟩ | ⟨-, h⟩
  · exact absurd hin h
  · rw [h, e, nI_clamp (by omega), bn_add1]
theorem s_adopt {d : Nat} {L : bc_L} {μ : bc_M} {w : Nat} (hw : bc_isW L w) : bc_C (d + 2) L mX2_adopt [.ref w] μ (fun r ν => r = none ∧ ν = bc_u (bc_us μ (w + 1) (va_cpy (μ (w + 2)) (μ (w + 1)) 0 0 150)) w 1 (μ w 3)) := by
  refine bc_enter (by decide) (Nat.le_of_ble_eq_true rfl) rfl ?_
  refine bc_aload_n dX2_adopt_0 rfl ?_
  refine bc_getr dX2_adopt_1 fX2_15 (hw.1) rfl ?_
  refine bc_aload_n dX2_adopt_4 rfl ?_
  refine bc_getr dX2_adopt_5 fX2_11 (hw.1) rfl ?_
  refine bc_callSN (z := mX9_copyRow) dX2_adopt_8 lX2_38 qX9_copyRow (by rfl) (by rfl) (Nat.le_of_ble_eq_true rfl) (s_copyRow hw.2.2.1 hw.2.1 (by decide) (by decide)) (fun r8 μ8 e8 => ?_)
  obtain ⟨rfl, q8⟩ := e8
  obtain rfl := q8.symm
  refine bc_aload_n dX2_adopt_11 rfl ?_
  refine bc_aload_n dX2_adopt_12 rfl ?_
  refine bc_geti dX2_adopt_13 fX2_27 (hw.1) rfl ?_
  refine bc_put dX2_adopt_16 fX2_42 ftX2 fpX2_1 rfl rfl (hw.1) rfl ?_
  exact bc_return dX2_adopt_19 rfl (⟨rfl, by rw [show bc_us μ (w + 1) (va_cpy (μ (w + 2)) (μ (w + 1)) 0 0 (min 150 150)) w 3 = μ w 3 by rw [bc_us_r, if_neg (by omega)]]; rfl⟩)
