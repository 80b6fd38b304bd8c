/-! Lines; which sets fit, where to look -/
theorem s_placeAt {d : Nat} {μ : bc_M} {h : Nat} (hh : h < 13) : bc_C (d + 1) LC mX3_placeAt [.ref 28, .int (nI h)] μ (fun r ν => r = some (.int (μ 29 h)) ∧ ν = μ) := by
  refine bc_enter (by decide) (Nat.le_of_ble_eq_true rfl) rfl ?_
  refine bc_aload_n dX3_placeAt_0 rfl ?_
  refine bc_getr dX3_placeAt_1 fX3_9 (rfl) rfl ?_
  refine bc_iload_n dX3_placeAt_4 rfl ?_
  refine bc_callSN (z := mX9_entry) dX3_placeAt_5 lX3_59 qX9_entry (by rfl) (by rfl) (Nat.le_of_ble_eq_true rfl) (s_entryN (n := 13) rfl (by decide) hh) (fun r5 μ5 e5 => ?_)
  obtain ⟨rfl, q5⟩ := e5
  obtain rfl := q5.symm
  exact bc_ireturn dX3_placeAt_8 rfl rfl (⟨rfl, rfl⟩)
/-- the lines 1 to k are right by the set s -/
def lnB (μ : bc_M) (s : Nat) : Nat → Bool
  | 0 => true
  | k + 1 => lnB μ s k && (decide (μ 29 (k + 1) = -1) || decide (μ 29 (k + 1) = μ (119 + (k + 1)) s))
def fitB (μ : bc_M) (s : Nat) : Bool := offB μ s && lnB μ s 12
theorem lnB_false {μ : bc_M} {s k : Nat} (h : lnB μ s k = false) : ∀ m, lnB μ s (k + m) = false
  | 0 => h
  | m + 1 => by
    rw [show k + (m + 1) = (k + m) + 1 by omega, lnB, lnB_false h m]
    rfl
theorem s_isFit {d : Nat} {μ : bc_M} {s : Nat} (hs : s < 256) : bc_C (d + 2) LC mX8_isFit [.ref 117, .int (nI s)] μ (fun r ν => r = some (.int (if fitB μ s = true then 1 else 0)) ∧ ν = μ) := by
  refine bc_enter (by decide) (Nat.le_of_ble_eq_true rfl) rfl ?_
  have loop : offB μ s = true → ∀ (m k : Nat) (v : Value), k + m = 12 → lnB μ s k = true → bc_W (d + 2) LC mX8_isFit 12 [.ref 117, .int (nI s), .int (nI (k + 1)), v] [] μ (fun r ν => r = some (.int (if fitB μ s = true then 1 else 0)) ∧ ν = μ) := by
    intro ho m
    induction m with
    | zero =>
      intro k v hk hl
      have hk : k = 12 := by omega
      subst hk
      refine bc_iload_n dX8_isFit_12 rfl ?_
      refine bc_bipush (v := 12) dX8_isFit_13 (by decide) ?_
      refine bc_icmp_gt (tgt := 50) dX8_isFit_15 (by decide) (fun h15 => ?_) (fun h15 => absurd h15 (fun q => q (by decide)))
      refine bc_iconst (v := 1) dX8_isFit_50 (by decide) ?_
      exact bc_ireturn dX8_isFit_51 rfl rfl (⟨by rw [if_pos (by unfold fitB; rw [ho, hl]; rfl)], rfl⟩)
    | succ m ih =>
      intro k v hk hl
      refine bc_iload_n dX8_isFit_12 rfl ?_
      refine bc_bipush (v := 12) dX8_isFit_13 (by decide) ?_
      refine bc_icmp_gt (tgt := 50) dX8_isFit_15 (by decide) (fun h15 => absurd h15 (by rw [show (12 : Int32) = nI 12 from rfl, bn_ltN (by omega) (by omega)]; omega)) (fun h15 => ?_)
      refine bc_aload_n dX8_isFit_18 rfl ?_
      refine bc_getr dX8_isFit_19 fX8_28 (rfl) rfl ?_
      refine bc_iload_n dX8_isFit_22 rfl ?_
      refine bc_callV (z := mX3_placeAt) (ci := 3) dX8_isFit_23 lX8_125 qX3_placeAt (by rfl) (by rfl) (by rfl) (by rfl) (Nat.le_of_ble_eq_true rfl) (s_placeAt (h := k + 1) (by omega)) (fun r23 μ23 e23 => ?_)
      obtain ⟨rfl, q23⟩ := e23
      obtain rfl := q23.symm
      refine bc_istore_n dX8_isFit_26 (by decide) rfl ?_
      refine bc_iload_n dX8_isFit_27 rfl ?_
      refine bc_iconst (v := (-1)) dX8_isFit_28 (by decide) ?_
      refine bc_icmp_eq (tgt := 44) dX8_isFit_29 (by decide) (fun h29 => ?_) (fun h29 => ?_)
      · refine bc_iinc1 dX8_isFit_44 rfl (by decide) rfl ?_
        refine bc_goto (tgt := 12) dX8_isFit_47 (by decide) ?_
        rw [bn_add1]
        exact ih (k + 1) (.int (μ 29 (k + 1))) (by omega) (by rw [lnB, hl]; simp; exact Or.inl h29)
      · refine bc_iload_n dX8_isFit_32 rfl ?_
        refine bc_aload_n dX8_isFit_33 rfl ?_
        refine bc_iload_n dX8_isFit_34 rfl ?_
        refine bc_iload_n dX8_isFit_35 rfl ?_
        refine bc_callV (z := mX8_cellAt) (ci := 8) dX8_isFit_36 lX8_95 qX8_cellAt (by rfl) (by rfl) (by rfl) (by rfl) (Nat.le_of_ble_eq_true rfl) (s_cellAt (h := k + 1) (by omega) hs) (fun r36 μ36 e36 => ?_)
        obtain ⟨rfl, q36⟩ := e36
        obtain rfl := q36.symm
        refine bc_icmp_eq (tgt := 44) dX8_isFit_39 (by decide) (fun h39 => ?_) (fun h39 => ?_)
        · refine bc_iinc1 dX8_isFit_44 rfl (by decide) rfl ?_
          refine bc_goto (tgt := 12) dX8_isFit_47 (by decide) ?_
          rw [bn_add1]
          exact ih (k + 1) (.int (μ 29 (k + 1))) (by omega) (by rw [lnB, hl]; simp; exact Or.inr h39)
        · refine bc_iconst (v := 0) dX8_isFit_42 (by decide) ?_
          exact bc_ireturn dX8_isFit_43 rfl rfl (⟨by
  have h9 : lnB μ s (k + 1) = false := by rw [lnB, hl]; simp; exact ⟨h29, h39⟩
  rw [if_neg (by unfold fitB; rw [show lnB μ s 12 = false from (show 12 = k + 1 + m by omega) ▸ lnB_false h9 m]; simp)], rfl⟩)
  refine bc_aload_n dX8_isFit_0 rfl ?_
  refine bc_iload_n dX8_isFit_1 rfl ?_
  refine bc_callV (z := mX8_isOffered) (ci := 8) dX8_isFit_2 lX8_84 qX8_isOffered (by rfl) (by rfl) (by rfl) (by rfl) (Nat.le_of_ble_eq_true rfl) (s_isOffered (nI s)) (fun r2 μ2 e2 => ?_)
  obtain ⟨ho, q2⟩ := e2
  obtain rfl := q2.symm
  rcases ho with ⟨ho, rfl⟩ | ⟨ho, rfl⟩
  · have ho := offB_P.mp ho
    refine bc_if_ne (tgt := 10) dX8_isFit_5 (by decide) (fun h5 => ?_) (fun h5 => absurd h5 (fun q => absurd q (by decide)))
    refine bc_iconst (v := 1) dX8_isFit_10 (by decide) ?_
    refine bc_istore_n dX8_isFit_11 (by decide) rfl ?_
    exact loop ho 12 0 .null rfl rfl
  · have ho : ¬ offB μ s = true := fun q => ho (offB_P.mpr q)
    refine bc_if_ne (tgt := 10) dX8_isFit_5 (by decide) (fun h5 => absurd h5 (fun q => q rfl)) (fun h5 => ?_)
    refine bc_iconst (v := 0) dX8_isFit_8 (by decide) ?_
    exact bc_ireturn dX8_isFit_9 rfl rfl (⟨by rw [if_neg (by unfold fitB; simp [ho])], rfl⟩)
/-- how many, the first, what is in all -/
def ctM (F : Nat → Bool) : Nat → Nat
  | 0 => 0
  | k + 1 => if F k = true then ctM F k + 1 else ctM F k
def fsM (F : Nat → Bool) : Nat → Int32
  | 0 => -1
  | k + 1 => if F k = true then (if ctM F k = 0 then nI k else fsM F k) else fsM F k
def suM (F : Nat → Bool) : Nat → Int32
  | 0 => 0
  | k + 1 => if F k = true then (if ctM F k = 0 then nI k else suM F k &&& nI k) else suM F k
theorem ctM_le (F : Nat → Bool) : ∀ k, ctM F k ≤ k
  | 0 => Nat.le_refl 0
  | k + 1 => by have := ctM_le F k; unfold ctM; split <;> omega
/-- the sets below k have been asked -/
def ftI (μ : bc_M) (k : Nat) (ν : bc_M) : Prop := (∀ i j, i ≠ 132 → ¬ (i = 117 ∧ (j = 9 ∨ j = 10 ∨ j = 11)) → ν i j = μ i j) ∧ ν 117 9 = nI (ctM (fitB μ) k) ∧ ν 117 10 = fsM (fitB μ) k ∧ ν 117 11 = suM (fitB μ) k ∧ ∀ s, s < k → ν 132 s = if fitB μ s = true then 1 else 0
theorem lnB_same {μ ν : bc_M} (h : ∀ i j, i ≠ 132 → i ≠ 117 → ν i j = μ i j) (s : Nat) : ∀ k, k ≤ 12 → lnB ν s k = lnB μ s k
  | 0, _ => rfl
  | k + 1, hk => by
    rw [lnB, lnB, lnB_same h s k (by omega), h 29 (k + 1) (by omega) (by omega), h (119 + (k + 1)) s (by omega) (by omega)]
theorem ftI.same {μ ν : bc_M} {k : Nat} (h : ftI μ k ν) (s : Nat) : fitB ν s = fitB μ s := by
  unfold fitB
  rw [lnB_same (fun i j a b => h.1 i j a (by omega)) s 12 (Nat.le_refl _)]
  unfold offB
  rw [h.1 117 8 (by omega) (by omega), h.1 31 5 (by omega) (by omega)]
theorem s_reckonFits {d : Nat} {μ : bc_M} {no : Nat} (hno : μ 3 1 = nI no) (hno8 : no ≤ 8) : bc_C (d + 3) LC mX8_reckonFits [.ref 117] μ (fun r ν => r = none ∧ ftI μ (2 ^ no) ν) := by
  have hov := ovs no hno8
  refine bc_enter (by decide) (Nat.le_of_ble_eq_true rfl) rfl ?_
  have loop : ∀ (m k : Nat) (ν : bc_M), k + m = 2 ^ no → ftI μ k ν → bc_W (d + 3) LC mX8_reckonFits 17 [.ref 117, .int (nI k)] [] ν (fun r ν => r = none ∧ ftI μ (2 ^ no) ν) := by
    intro m
    induction m with
    | zero =>
      intro k ν hk hI
      have hk : k = 2 ^ no := by omega
      subst hk
      have e1 : ν 3 1 = nI no := (hI.1 3 1 (by omega) (by omega)).trans hno
      refine bc_iload_n dX8_reckonFits_17 rfl ?_
      refine bc_aload_n dX8_reckonFits_18 rfl ?_
      refine bc_getr dX8_reckonFits_19 fX8_24 (rfl) rfl ?_
      refine bc_callV (z := mX0_ovenSets) (ci := 0) dX8_reckonFits_22 lX8_57 qX0_ovenSets (by rfl) (by rfl) (by rfl) (by rfl) (Nat.le_of_ble_eq_true rfl) (s_ovenSets LC_b3) (fun r22 μ22 e22 => ?_)
      obtain ⟨rfl, q22⟩ := e22
      obtain rfl := q22.symm
      refine bc_icmp_ge (tgt := 113) dX8_reckonFits_25 (by decide) (fun h25 => ?_) (fun h25 => absurd h25 (fun q => q (by rw [e1, hov.1]; exact Int32.le_refl _)))
      exact bc_return dX8_reckonFits_113 rfl (⟨rfl, hI⟩)
    | succ m ih =>
      intro k ν hk hI
      have e1 : ν 3 1 = nI no := (hI.1 3 1 (by omega) (by omega)).trans hno
      have hcl := ctM_le (fitB μ) k
      obtain ⟨i1, i2, i3, i4, i5⟩ := id hI
      by_cases hf : fitB μ k = true
      · have e9 : (if fitB ν k = true then (1 : Int32) else 0) = 1 := by rw [hI.same, if_pos hf]
        have e10 : vp_nar .boolean 1 = 1 := by decide
        have fin : ∀ (a b : Int32), a = suM (fitB μ) (k + 1) → b = fsM (fitB μ) (k + 1) → bc_W (d + 3) LC mX8_reckonFits 17 [.ref 117, .int (nI (k + 1))] [] (bc_u (bc_u (bc_u (bc_u ν 132 k 1) 117 11 a) 117 10 b) 117 9 (nI (ctM (fitB μ) k + 1))) (fun r ν => r = none ∧ ftI μ (2 ^ no) ν) := by
          intro a b ha hb
          refine ih (k + 1) _ (by omega) ⟨fun i j a1 a2 => ?_, ?_, ?_, ?_, fun s hs => ?_⟩
          · rw [bc_u_r, if_neg (by omega), bc_u_r, if_neg (by omega), bc_u_r, if_neg (by omega), bc_u_r, if_neg (by omega)]; exact i1 i j a1 a2
          · rw [bc_u_r, if_pos ⟨rfl, rfl⟩, ctM, if_pos hf]
          · rw [bc_u_r, if_neg (by omega), bc_u_r, if_pos ⟨rfl, rfl⟩, hb]
          · rw [bc_u_r, if_neg (by omega), bc_u_r, if_neg (by omega), bc_u_r, if_pos ⟨rfl, rfl⟩, ha]
          · rw [bc_u_r, if_neg (by omega), bc_u_r, if_neg (by omega), bc_u_r, if_neg (by omega), bc_u_r]
            by_cases e : s = k
            · subst e; rw [if_pos ⟨rfl, rfl⟩, if_pos hf]
            · rw [if_neg (by omega)]; exact i5 s (by omega)
        have r9 : ∀ (v a b : Int32), bc_u (bc_u (bc_u ν 132 k v) 117 11 a) 117 10 b 117 9 = nI (ctM (fitB μ) k) := fun v a b => by rw [bc_u_r, if_neg (by omega), bc_u_r, if_neg (by omega), bc_u_r, if_neg (by omega)]; exact i2
        have r9b : ∀ (v a : Int32), bc_u (bc_u ν 132 k v) 117 11 a 117 9 = nI (ctM (fitB μ) k) := fun v a => by rw [bc_u_r, if_neg (by omega), bc_u_r, if_neg (by omega)]; exact i2
        have r9c : ∀ (v : Int32), bc_u ν 132 k v 117 9 = nI (ctM (fitB μ) k) := fun v => by rw [bc_u_r, if_neg (by omega)]; exact i2
        have z0 : nI (ctM (fitB μ) k) = 0 ↔ ctM (fitB μ) k = 0 := by rw [show (0 : Int32) = nI 0 from rfl, bn_eqN (by omega) (by omega)]
        refine bc_iload_n dX8_reckonFits_17 rfl ?_
        refine bc_aload_n dX8_reckonFits_18 rfl ?_
        refine bc_getr dX8_reckonFits_19 fX8_24 (rfl) rfl ?_
        refine bc_callV (z := mX0_ovenSets) (ci := 0) dX8_reckonFits_22 lX8_57 qX0_ovenSets (by rfl) (by rfl) (by rfl) (by rfl) (Nat.le_of_ble_eq_true rfl) (s_ovenSets LC_b3) (fun r22 μ22 e22 => ?_)
        obtain ⟨rfl, q22⟩ := e22
        obtain rfl := q22.symm
        refine bc_icmp_ge (tgt := 113) dX8_reckonFits_25 (by decide) (fun h25 => absurd h25 (by rw [e1, hov.1, bn_leN (by omega) (by omega)]; omega)) (fun h25 => ?_)
        refine bc_iload_n dX8_reckonFits_28 rfl ?_
        refine bc_aload_n dX8_reckonFits_29 rfl ?_
        refine bc_getr dX8_reckonFits_30 fX8_16 (rfl) rfl ?_
        refine bc_len2 dX8_reckonFits_33 (rfl) ?_
        refine bc_icmp_ge (tgt := 113) dX8_reckonFits_34 (by decide) (fun h34 => absurd h34 (by rw [bn_leN (by omega) (by omega)]; omega)) (fun h34 => ?_)
        refine bc_aload_n dX8_reckonFits_37 rfl ?_
        refine bc_getr dX8_reckonFits_38 fX8_16 (rfl) rfl ?_
        refine bc_iload_n dX8_reckonFits_41 rfl ?_
        refine bc_aload_n dX8_reckonFits_42 rfl ?_
        refine bc_iload_n dX8_reckonFits_43 rfl ?_
        refine bc_callV (z := mX8_isFit) (ci := 8) dX8_reckonFits_44 lX8_122 qX8_isFit (by rfl) (by rfl) (by rfl) (by rfl) (Nat.le_of_ble_eq_true rfl) (s_isFit (by omega)) (fun r44 μ44 e44 => ?_)
        obtain ⟨rfl, q44⟩ := e44
        obtain rfl := q44.symm
        rw [e9]
        refine bc_zastE dX8_reckonFits_47 (rfl) (rfl) (⟨by omega, by decide⟩) ?_
        rw [e10]
        refine bc_aload_n dX8_reckonFits_48 rfl ?_
        refine bc_getr dX8_reckonFits_49 fX8_16 (rfl) rfl ?_
        refine bc_iload_n dX8_reckonFits_52 rfl ?_
        refine bc_zaldE dX8_reckonFits_53 (rfl) (rfl) (⟨by omega, by decide⟩) ?_
        refine bc_if_eq (tgt := 107) dX8_reckonFits_54 (by decide) (fun h54 => absurd h54 (by rw [bc_u_r, if_pos ⟨rfl, rfl⟩]; decide)) (fun h54 => ?_)
        refine bc_aload_n dX8_reckonFits_57 rfl ?_
        refine bc_aload_n dX8_reckonFits_58 rfl ?_
        refine bc_geti dX8_reckonFits_59 fX8_113 (rfl) rfl ?_
        rw [r9c]
        refine bc_if_ne (tgt := 69) dX8_reckonFits_62 (by decide) (fun h62 => ?_) (fun h62 => ?_)
        · refine bc_aload_n dX8_reckonFits_69 rfl ?_
          refine bc_geti dX8_reckonFits_70 fX8_119 (rfl) rfl ?_
          refine bc_iload_n dX8_reckonFits_73 rfl ?_
          refine bc_iand dX8_reckonFits_74 ?_
          refine bc_put dX8_reckonFits_75 fX8_119 ftX8 fpX8_11 rfl rfl (rfl) rfl ?_
          refine bc_aload_n dX8_reckonFits_78 rfl ?_
          refine bc_aload_n dX8_reckonFits_79 rfl ?_
          refine bc_geti dX8_reckonFits_80 fX8_113 (rfl) rfl ?_
          rw [r9b]
          refine bc_if_ne (tgt := 90) dX8_reckonFits_83 (by decide) (fun h83 => ?_) (fun h83 => absurd h83 (h62))
          refine bc_aload_n dX8_reckonFits_90 rfl ?_
          refine bc_geti dX8_reckonFits_91 fX8_116 (rfl) rfl ?_
          refine bc_put dX8_reckonFits_94 fX8_116 ftX8 fpX8_10 rfl rfl (rfl) rfl ?_
          refine bc_aload_n dX8_reckonFits_97 rfl ?_
          refine bc_dup dX8_reckonFits_98 rfl ?_
          refine bc_geti dX8_reckonFits_99 fX8_113 (rfl) rfl ?_
          rw [r9]
          refine bc_iconst (v := 1) dX8_reckonFits_102 (by decide) ?_
          refine bc_iadd dX8_reckonFits_103 ?_
          rw [bn_add1]
          refine bc_put dX8_reckonFits_104 fX8_113 ftX8 fpX8_9 rfl rfl (rfl) rfl ?_
          refine bc_iinc1 dX8_reckonFits_107 rfl (by decide) rfl ?_
          refine bc_goto (tgt := 17) dX8_reckonFits_110 (by decide) ?_
          rw [bn_add1]
          exact fin _ _ (by rw [suM, if_pos hf, if_neg (fun q => h62 (z0.mpr q)), ← i4]; rfl) (by rw [fsM, if_pos hf, if_neg (fun q => h62 (z0.mpr q)), ← i3]; rfl)
        · refine bc_iload_n dX8_reckonFits_65 rfl ?_
          refine bc_goto (tgt := 75) dX8_reckonFits_66 (by decide) ?_
          refine bc_put dX8_reckonFits_75 fX8_119 ftX8 fpX8_11 rfl rfl (rfl) rfl ?_
          refine bc_aload_n dX8_reckonFits_78 rfl ?_
          refine bc_aload_n dX8_reckonFits_79 rfl ?_
          refine bc_geti dX8_reckonFits_80 fX8_113 (rfl) rfl ?_
          rw [r9b]
          refine bc_if_ne (tgt := 90) dX8_reckonFits_83 (by decide) (fun h83 => absurd h83 (fun q => q h62)) (fun h83 => ?_)
          refine bc_iload_n dX8_reckonFits_86 rfl ?_
          refine bc_goto (tgt := 94) dX8_reckonFits_87 (by decide) ?_
          refine bc_put dX8_reckonFits_94 fX8_116 ftX8 fpX8_10 rfl rfl (rfl) rfl ?_
          refine bc_aload_n dX8_reckonFits_97 rfl ?_
          refine bc_dup dX8_reckonFits_98 rfl ?_
          refine bc_geti dX8_reckonFits_99 fX8_113 (rfl) rfl ?_
          rw [r9]
          refine bc_iconst (v := 1) dX8_reckonFits_102 (by decide) ?_
          refine bc_iadd dX8_reckonFits_103 ?_
          rw [bn_add1]
          refine bc_put dX8_reckonFits_104 fX8_113 ftX8 fpX8_9 rfl rfl (rfl) rfl ?_
          refine bc_iinc1 dX8_reckonFits_107 rfl (by decide) rfl ?_
          refine bc_goto (tgt := 17) dX8_reckonFits_110 (by decide) ?_
          rw [bn_add1]
          exact fin _ _ (by rw [suM, if_pos hf, if_pos (z0.mp h62)]) (by rw [fsM, if_pos hf, if_pos (z0.mp h62)])
      · have e9 : (if fitB ν k = true then (1 : Int32) else 0) = 0 := by rw [hI.same, if_neg hf]
        have e10 : vp_nar .boolean 0 = 0 := by decide
        refine bc_iload_n dX8_reckonFits_17 rfl ?_
        refine bc_aload_n dX8_reckonFits_18 rfl ?_
        refine bc_getr dX8_reckonFits_19 fX8_24 (rfl) rfl ?_
        refine bc_callV (z := mX0_ovenSets) (ci := 0) dX8_reckonFits_22 lX8_57 qX0_ovenSets (by rfl) (by rfl) (by rfl) (by rfl) (Nat.le_of_ble_eq_true rfl) (s_ovenSets LC_b3) (fun r22 μ22 e22 => ?_)
        obtain ⟨rfl, q22⟩ := e22
        obtain rfl := q22.symm
        refine bc_icmp_ge (tgt := 113) dX8_reckonFits_25 (by decide) (fun h25 => absurd h25 (by rw [e1, hov.1, bn_leN (by omega) (by omega)]; omega)) (fun h25 => ?_)
        refine bc_iload_n dX8_reckonFits_28 rfl ?_
        refine bc_aload_n dX8_reckonFits_29 rfl ?_
        refine bc_getr dX8_reckonFits_30 fX8_16 (rfl) rfl ?_
        refine bc_len2 dX8_reckonFits_33 (rfl) ?_
        refine bc_icmp_ge (tgt := 113) dX8_reckonFits_34 (by decide) (fun h34 => absurd h34 (by rw [bn_leN (by omega) (by omega)]; omega)) (fun h34 => ?_)
        refine bc_aload_n dX8_reckonFits_37 rfl ?_
        refine bc_getr dX8_reckonFits_38 fX8_16 (rfl) rfl ?_
        refine bc_iload_n dX8_reckonFits_41 rfl ?_
        refine bc_aload_n dX8_reckonFits_42 rfl ?_
        refine bc_iload_n dX8_reckonFits_43 rfl ?_
        refine bc_callV (z := mX8_isFit) (ci := 8) dX8_reckonFits_44 lX8_122 qX8_isFit (by rfl) (by rfl) (by rfl) (by rfl) (Nat.le_of_ble_eq_true rfl) (s_isFit (by omega)) (fun r44 μ44 e44 => ?_)
        obtain ⟨rfl, q44⟩ := e44
        obtain rfl := q44.symm
        rw [e9]
        refine bc_zastE dX8_reckonFits_47 (rfl) (rfl) (⟨by omega, by decide⟩) ?_
        rw [e10]
        refine bc_aload_n dX8_reckonFits_48 rfl ?_
        refine bc_getr dX8_reckonFits_49 fX8_16 (rfl) rfl ?_
        refine bc_iload_n dX8_reckonFits_52 rfl ?_
        refine bc_zaldE dX8_reckonFits_53 (rfl) (rfl) (⟨by omega, by decide⟩) ?_
        refine bc_if_eq (tgt := 107) dX8_reckonFits_54 (by decide) (fun h54 => ?_) (fun h54 => absurd h54 (fun q => q (by rw [bc_u_r, if_pos ⟨rfl, rfl⟩])))
        refine bc_iinc1 dX8_reckonFits_107 rfl (by decide) rfl ?_
        refine bc_goto (tgt := 17) dX8_reckonFits_110 (by decide) ?_
        rw [bn_add1]
        refine ih (k + 1) _ (by omega) ⟨fun i j a1 a2 => ?_, ?_, ?_, ?_, fun s hs => ?_⟩
        · rw [bc_u_r, if_neg (by omega)]; exact i1 i j a1 a2
        · rw [bc_u_r, if_neg (by omega), ctM, if_neg hf]; exact i2
        · rw [bc_u_r, if_neg (by omega), fsM, if_neg hf]; exact i3
        · rw [bc_u_r, if_neg (by omega), suM, if_neg hf]; exact i4
        · rw [bc_u_r]
          by_cases e : s = k
          · subst e; rw [if_pos ⟨rfl, rfl⟩, if_neg hf]
          · rw [if_neg (by omega)]; exact i5 s (by omega)
  refine bc_aload_n dX8_reckonFits_0 rfl ?_
  refine bc_iconst (v := 0) dX8_reckonFits_1 (by decide) ?_
  refine bc_put dX8_reckonFits_2 fX8_113 ftX8 fpX8_9 rfl rfl (rfl) rfl ?_
  refine bc_aload_n dX8_reckonFits_5 rfl ?_
  refine bc_iconst (v := (-1)) dX8_reckonFits_6 (by decide) ?_
  refine bc_put dX8_reckonFits_7 fX8_116 ftX8 fpX8_10 rfl rfl (rfl) rfl ?_
  refine bc_aload_n dX8_reckonFits_10 rfl ?_
  refine bc_iconst (v := 0) dX8_reckonFits_11 (by decide) ?_
  refine bc_put dX8_reckonFits_12 fX8_119 ftX8 fpX8_11 rfl rfl (rfl) rfl ?_
  refine bc_iconst (v := 0) dX8_reckonFits_15 (by decide) ?_
  refine bc_istore_n dX8_reckonFits_16 (by decide) rfl ?_
  refine loop (2 ^ no) 0 _ (by omega) ⟨fun i j a1 a2 => ?_, ?_, ?_, ?_, fun s hs => absurd hs (by omega)⟩
  · rw [bc_u_r, if_neg (by omega), bc_u_r, if_neg (by omega), bc_u_r, if_neg (by omega)]
  · rw [bc_u_r, if_neg (by omega), bc_u_r, if_neg (by omega), bc_u_r, if_pos ⟨rfl, rfl⟩]; rfl
  · rw [bc_u_r, if_neg (by omega), bc_u_r, if_pos ⟨rfl, rfl⟩]; rfl
  · rw [bc_u_r, if_pos ⟨rfl, rfl⟩]; rfl
/-! the worst crowd at an hour -/
def crM (F : Nat → Bool) (C : Nat → Int32) : Nat → Nat → Int32
  | 0 => fun _ => 0
  | k + 1 => if F k = true then upd (crM F C k) (C k).toNatClampNeg (crM F C k (C k).toNatClampNeg + 1) else crM F C k
def woM (F : Nat → Bool) (C : Nat → Int32) : Nat → Int32
  | 0 => 0
  | k + 1 => if F k = true then (if woM F C k < crM F C k (C k).toNatClampNeg + 1 then crM F C k (C k).toNatClampNeg + 1 else woM F C k) else woM F C k
/-- the fits are known -/
def fkI (μ : bc_M) (F : Nat → Bool) (no : Nat) : Prop := ∀ s, s < 2 ^ no → μ 132 s = if F s = true then 1 else 0
theorem s_worstAt {d : Nat} {μ : bc_M} {no h : Nat} {F : Nat → Bool} (hh : h < 13) (hno : μ 3 1 = nI no) (hno8 : no ≤ 8) (hF : fkI μ F no) (hC : ∀ s, s < 2 ^ no → F s = true → ∃ j, j < 961 ∧ μ (119 + h) s = nI j) : bc_C (d + 2) LC mX8_worstAt [.ref 117, .int (nI h)] μ (fun r ν => r = some (.int (woM F (μ (119 + h)) (2 ^ no))) ∧ ∃ f, ν = bc_us μ 133 f) := by
  have hov := ovs no hno8
  refine bc_enter (by decide) (Nat.le_of_ble_eq_true rfl) rfl ?_
  have loop : ∀ (m k : Nat) (v : Value) (ν : bc_M), k + m = 2 ^ no → (∃ f, ν = bc_us μ 133 f) → (∀ j, j < 961 → ν 133 j = crM F (μ (119 + h)) k j) → bc_W (d + 2) LC mX8_worstAt 11 [.ref 117, .int (nI h), .int (woM F (μ (119 + h)) k), .int (nI k), v] [] ν (fun r ν => r = some (.int (woM F (μ (119 + h)) (2 ^ no))) ∧ ∃ f, ν = bc_us μ 133 f) := by
    intro m
    induction m with
    | zero =>
      intro k v ν hk hν hc
      have hk : k = 2 ^ no := by omega
      subst hk
      obtain ⟨f, rfl⟩ := hν
      refine bc_iload_n dX8_worstAt_11 rfl ?_
      refine bc_aload_n dX8_worstAt_12 rfl ?_
      refine bc_getr dX8_worstAt_13 fX8_24 (rfl) rfl ?_
      refine bc_callV (z := mX0_ovenSets) (ci := 0) dX8_worstAt_16 lX8_57 qX0_ovenSets (by rfl) (by rfl) (by rfl) (by rfl) (Nat.le_of_ble_eq_true rfl) (s_ovenSets LC_b3) (fun r16 μ16 e16 => ?_)
      obtain ⟨rfl, q16⟩ := e16
      obtain rfl := q16.symm
      refine bc_icmp_ge (tgt := 92) dX8_worstAt_19 (by decide) (fun h19 => ?_) (fun h19 => absurd h19 (fun q => q (by show 1 <<< (μ 3 1 &&& 31) ≤ _; rw [hno, hov.1]; exact Int32.le_refl _)))
      refine bc_iload_n dX8_worstAt_92 rfl ?_
      exact bc_ireturn dX8_worstAt_93 rfl rfl (⟨rfl, f, rfl⟩)
    | succ m ih =>
      intro k v ν hk hν hc
      obtain ⟨f, rfl⟩ := hν
      have e2 : bc_us μ 133 f (119 + h) k = μ (119 + h) k := by rw [bc_us_r, if_neg (by omega)]
      have e3 : bc_us μ 133 f 132 k = if F k = true then 1 else 0 := hF k (by omega)
      by_cases hf : F k = true
      · obtain ⟨j, hj, ej⟩ := hC k (by omega) hf
        have ejc : (μ (119 + h) k).toNatClampNeg = j := by rw [ej, nI_clamp (by omega)]
        refine bc_iload_n dX8_worstAt_11 rfl ?_
        refine bc_aload_n dX8_worstAt_12 rfl ?_
        refine bc_getr dX8_worstAt_13 fX8_24 (rfl) rfl ?_
        refine bc_callV (z := mX0_ovenSets) (ci := 0) dX8_worstAt_16 lX8_57 qX0_ovenSets (by rfl) (by rfl) (by rfl) (by rfl) (Nat.le_of_ble_eq_true rfl) (s_ovenSets LC_b3) (fun r16 μ16 e16 => ?_)
        obtain ⟨rfl, q16⟩ := e16
        obtain rfl := q16.symm
        refine bc_icmp_ge (tgt := 92) dX8_worstAt_19 (by decide) (fun h19 => absurd h19 (by show ¬ 1 <<< (μ 3 1 &&& 31) ≤ _; rw [hno, hov.1, bn_leN (by omega) (by omega)]; omega)) (fun h19 => ?_)
        refine bc_iload_n dX8_worstAt_22 rfl ?_
        refine bc_aload_n dX8_worstAt_23 rfl ?_
        refine bc_getr dX8_worstAt_24 fX8_16 (rfl) rfl ?_
        refine bc_len2 dX8_worstAt_27 (rfl) ?_
        refine bc_icmp_ge (tgt := 92) dX8_worstAt_28 (by decide) (fun h28 => absurd h28 (by rw [bn_leN (by omega) (by omega)]; omega)) (fun h28 => ?_)
        refine bc_aload_n dX8_worstAt_31 rfl ?_
        refine bc_iload_n dX8_worstAt_32 rfl ?_
        refine bc_iload_n dX8_worstAt_33 rfl ?_
        refine bc_callV (z := mX8_cellAt) (ci := 8) dX8_worstAt_34 lX8_95 qX8_cellAt (by rfl) (by rfl) (by rfl) (by rfl) (Nat.le_of_ble_eq_true rfl) (s_cellAt hh (by omega)) (fun r34 μ34 e34 => ?_)
        obtain ⟨rfl, q34⟩ := e34
        obtain rfl := q34.symm
        rw [e2, ej]
        refine bc_istore dX8_worstAt_37 (by decide) rfl ?_
        refine bc_aload_n dX8_worstAt_39 rfl ?_
        refine bc_getr dX8_worstAt_40 fX8_16 (rfl) rfl ?_
        refine bc_iload_n dX8_worstAt_43 rfl ?_
        refine bc_zaldE dX8_worstAt_44 (rfl) (rfl) (⟨by omega, by decide⟩) ?_
        refine bc_if_eq (tgt := 86) dX8_worstAt_45 (by decide) (fun h45 => absurd h45 (by rw [e3, if_pos hf]; decide)) (fun h45 => ?_)
        refine bc_iload dX8_worstAt_48 rfl ?_
        refine bc_if_lt (tgt := 86) dX8_worstAt_50 (by decide) (fun h50 => absurd h50 (bn_nn (by omega))) (fun h50 => ?_)
        refine bc_iload dX8_worstAt_53 rfl ?_
        refine bc_aload_n dX8_worstAt_55 rfl ?_
        refine bc_getr dX8_worstAt_56 fX8_20 (rfl) rfl ?_
        refine bc_len0 dX8_worstAt_59 (rfl) ?_
        refine bc_icmp_ge (tgt := 86) dX8_worstAt_60 (by decide) (fun h60 => absurd h60 (by rw [bn_leN (by omega) (by omega)]; omega)) (fun h60 => ?_)
        refine bc_aload_n dX8_worstAt_63 rfl ?_
        refine bc_getr dX8_worstAt_64 fX8_20 (rfl) rfl ?_
        refine bc_iload dX8_worstAt_67 rfl ?_
        refine bc_dup2 dX8_worstAt_69 rfl rfl ?_
        refine bc_ialdE dX8_worstAt_70 (rfl) (rfl) (⟨hj, by decide⟩) ?_
        refine bc_iconst (v := 1) dX8_worstAt_71 (by decide) ?_
        refine bc_iadd dX8_worstAt_72 ?_
        refine bc_iastE dX8_worstAt_73 (rfl) (rfl) (⟨hj, by decide⟩) ?_
        refine bc_iload_n dX8_worstAt_74 rfl ?_
        refine bc_aload_n dX8_worstAt_75 rfl ?_
        refine bc_getr dX8_worstAt_76 fX8_20 (rfl) rfl ?_
        refine bc_iload dX8_worstAt_79 rfl ?_
        refine bc_ialdE dX8_worstAt_81 (rfl) (rfl) (⟨hj, by decide⟩) ?_
        refine bc_max dX8_worstAt_82 wX8_143 (Nat.le_of_ble_eq_true rfl) ?_
        refine bc_istore_n dX8_worstAt_85 (by decide) rfl ?_
        refine bc_iinc1 dX8_worstAt_86 rfl (by decide) rfl ?_
        refine bc_goto (tgt := 11) dX8_worstAt_89 (by decide) ?_
        have h2 := ih (k + 1) (.int (nI j)) (bc_u (bc_us μ 133 f) 133 j (bc_us μ 133 f 133 j + 1)) (by omega) ⟨_, bc_us_u μ 133 j f _⟩ (fun i hi => by
          rw [bc_u_r, crM, if_pos hf, ejc, hc j hj]
          by_cases e : i = j
          · subst e; rw [if_pos ⟨rfl, rfl⟩]; simp [upd]
          · rw [if_neg (by omega), hc i hi]; simp [upd, e])
        rw [show woM F (μ (119 + h)) (k + 1) = if woM F (μ (119 + h)) k < crM F (μ (119 + h)) k j + 1 then crM F (μ (119 + h)) k j + 1 else woM F (μ (119 + h)) k by rw [woM, if_pos hf, ejc]] at h2
        rw [bn_add1, show bc_u (bc_us μ 133 f) 133 j (bc_us μ 133 f 133 j + 1) 133 j = crM F (μ (119 + h)) k j + 1 by rw [bc_u_r, if_pos ⟨rfl, rfl⟩, hc j hj]]
        exact h2
      · skip
        refine bc_iload_n dX8_worstAt_11 rfl ?_
        refine bc_aload_n dX8_worstAt_12 rfl ?_
        refine bc_getr dX8_worstAt_13 fX8_24 (rfl) rfl ?_
        refine bc_callV (z := mX0_ovenSets) (ci := 0) dX8_worstAt_16 lX8_57 qX0_ovenSets (by rfl) (by rfl) (by rfl) (by rfl) (Nat.le_of_ble_eq_true rfl) (s_ovenSets LC_b3) (fun r16 μ16 e16 => ?_)
        obtain ⟨rfl, q16⟩ := e16
        obtain rfl := q16.symm
        refine bc_icmp_ge (tgt := 92) dX8_worstAt_19 (by decide) (fun h19 => absurd h19 (by show ¬ 1 <<< (μ 3 1 &&& 31) ≤ _; rw [hno, hov.1, bn_leN (by omega) (by omega)]; omega)) (fun h19 => ?_)
        refine bc_iload_n dX8_worstAt_22 rfl ?_
        refine bc_aload_n dX8_worstAt_23 rfl ?_
        refine bc_getr dX8_worstAt_24 fX8_16 (rfl) rfl ?_
        refine bc_len2 dX8_worstAt_27 (rfl) ?_
        refine bc_icmp_ge (tgt := 92) dX8_worstAt_28 (by decide) (fun h28 => absurd h28 (by rw [bn_leN (by omega) (by omega)]; omega)) (fun h28 => ?_)
        refine bc_aload_n dX8_worstAt_31 rfl ?_
        refine bc_iload_n dX8_worstAt_32 rfl ?_
        refine bc_iload_n dX8_worstAt_33 rfl ?_
        refine bc_callV (z := mX8_cellAt) (ci := 8) dX8_worstAt_34 lX8_95 qX8_cellAt (by rfl) (by rfl) (by rfl) (by rfl) (Nat.le_of_ble_eq_true rfl) (s_cellAt hh (by omega)) (fun r34 μ34 e34 => ?_)
        obtain ⟨rfl, q34⟩ := e34
        obtain rfl := q34.symm
        refine bc_istore dX8_worstAt_37 (by decide) rfl ?_
        refine bc_aload_n dX8_worstAt_39 rfl ?_
        refine bc_getr dX8_worstAt_40 fX8_16 (rfl) rfl ?_
        refine bc_iload_n dX8_worstAt_43 rfl ?_
        refine bc_zaldE dX8_worstAt_44 (rfl) (rfl) (⟨by omega, by decide⟩) ?_
        refine bc_if_eq (tgt := 86) dX8_worstAt_45 (by decide) (fun h45 => ?_) (fun h45 => absurd h45 (fun q => q (by rw [e3, if_neg hf])))
        refine bc_iinc1 dX8_worstAt_86 rfl (by decide) rfl ?_
        refine bc_goto (tgt := 11) dX8_worstAt_89 (by decide) ?_
        have h2 := ih (k + 1) (.int (bc_us μ 133 f (119 + h) k)) _ (by omega) ⟨f, rfl⟩ (fun i hi => by rw [hc i hi, crM, if_neg hf])
        rw [show woM F (μ (119 + h)) (k + 1) = woM F (μ (119 + h)) k by rw [woM, if_neg hf]] at h2
        rw [bn_add1]
        exact h2
  refine bc_aload_n dX8_worstAt_0 rfl ?_
  refine bc_getr dX8_worstAt_1 fX8_20 (rfl) rfl ?_
  refine bc_callSN (z := mX9_clearRow) dX8_worstAt_4 lX8_139 qX9_clearRow (by rfl) (by rfl) (Nat.le_of_ble_eq_true rfl) (s_clearRow (n := 961) rfl (by decide)) (fun r4 μ4 e4 => ?_)
  obtain ⟨rfl, q4⟩ := e4
  obtain rfl := q4.symm
  refine bc_iconst (v := 0) dX8_worstAt_7 (by decide) ?_
  refine bc_istore_n dX8_worstAt_8 (by decide) rfl ?_
  refine bc_iconst (v := 0) dX8_worstAt_9 (by decide) ?_
  refine bc_istore_n dX8_worstAt_10 (by decide) rfl ?_
  exact loop (2 ^ no) 0 .null _ (by omega) ⟨_, rfl⟩ (fun j hj => by rw [bc_us_r, if_pos rfl, clr, if_pos hj]; rfl)
/-- the hour to look at, below k; how many sets are left then -/
def lkM (μ : bc_M) (F : Nat → Bool) (no : Nat) : Nat → Int32 × Int32
  | 0 => (-1, -1)
  | k + 1 => if μ 29 (k + 1) = -1 ∧ ((lkM μ F no k).1 = -1 ∨ woM F (μ (119 + (k + 1))) (2 ^ no) < (lkM μ F no k).2) then (nI (k + 1), woM F (μ (119 + (k + 1))) (2 ^ no)) else lkM μ F no k
def lkI (μ : bc_M) (F : Nat → Bool) (no k : Nat) (ν : bc_M) : Prop := (∀ i j, i ≠ 133 → ¬ (i = 117 ∧ (j = 12 ∨ j = 13)) → ν i j = μ i j) ∧ ν 117 12 = (lkM μ F no k).1 ∧ ν 117 13 = (lkM μ F no k).2
theorem s_reckonLook {d : Nat} {μ : bc_M} {no : Nat} {F : Nat → Bool} (hno : μ 3 1 = nI no) (hno8 : no ≤ 8) (hF : fkI μ F no) (hC : ∀ h, h < 13 → ∀ s, s < 2 ^ no → F s = true → ∃ j, j < 961 ∧ μ (119 + h) s = nI j) : bc_C (d + 3) LC mX8_reckonLook [.ref 117] μ (fun r ν => r = none ∧ lkI μ F no 12 ν) := by
  refine bc_enter (by decide) (Nat.le_of_ble_eq_true rfl) rfl ?_
  have loop : ∀ (m k : Nat) (v : Value) (ν : bc_M), k + m = 12 → lkI μ F no k ν → bc_W (d + 3) LC mX8_reckonLook 12 [.ref 117, .int (nI (k + 1)), v] [] ν (fun r ν => r = none ∧ lkI μ F no 12 ν) := by
    intro m
    induction m with
    | zero =>
      intro k v ν hk hI
      have hk : k = 12 := by omega
      subst hk
      refine bc_iload_n dX8_reckonLook_12 rfl ?_
      refine bc_bipush (v := 12) dX8_reckonLook_13 (by decide) ?_
      refine bc_icmp_gt (tgt := 68) dX8_reckonLook_15 (by decide) (fun h15 => ?_) (fun h15 => absurd h15 (fun q => q (by decide)))
      exact bc_return dX8_reckonLook_68 rfl (⟨rfl, hI⟩)
    | succ m ih =>
      intro k v ν hk hI
      obtain ⟨i1, i2, i3⟩ := id hI
      have g29 : ν 29 (k + 1) = μ 29 (k + 1) := i1 29 (k + 1) (by omega) (by omega)
      have gr : ν (119 + (k + 1)) = μ (119 + (k + 1)) := funext fun q => i1 _ q (by omega) (by omega)
      refine bc_iload_n dX8_reckonLook_12 rfl ?_
      refine bc_bipush (v := 12) dX8_reckonLook_13 (by decide) ?_
      refine bc_icmp_gt (tgt := 68) dX8_reckonLook_15 (by decide) (fun h15 => absurd h15 (by rw [show (12 : Int32) = nI 12 from rfl, bn_ltN (by omega) (by omega)]; omega)) (fun h15 => ?_)
      refine bc_aload_n dX8_reckonLook_18 rfl ?_
      refine bc_getr dX8_reckonLook_19 fX8_28 (rfl) rfl ?_
      refine bc_iload_n dX8_reckonLook_22 rfl ?_
      refine bc_callV (z := mX3_placeAt) (ci := 3) dX8_reckonLook_23 lX8_125 qX3_placeAt (by rfl) (by rfl) (by rfl) (by rfl) (Nat.le_of_ble_eq_true rfl) (s_placeAt (h := k + 1) (by omega)) (fun r23 μ23 e23 => ?_)
      obtain ⟨rfl, q23⟩ := e23
      obtain rfl := q23.symm
      refine bc_iconst (v := (-1)) dX8_reckonLook_26 (by decide) ?_
      refine bc_icmp_ne (tgt := 62) dX8_reckonLook_27 (by decide) (fun h27 => ?_) (fun h27 => ?_)
      · refine bc_iinc1 dX8_reckonLook_62 rfl (by decide) rfl ?_
        refine bc_goto (tgt := 12) dX8_reckonLook_65 (by decide) ?_
        rw [bn_add1]
        refine ih (k + 1) v ν (by omega) ⟨i1, ?_, ?_⟩
        · rw [lkM, if_neg (fun q => h27 (g29.trans q.1))]; exact i2
        · rw [lkM, if_neg (fun q => h27 (g29.trans q.1))]; exact i3
      · refine bc_aload_n dX8_reckonLook_30 rfl ?_
        refine bc_iload_n dX8_reckonLook_31 rfl ?_
        refine bc_callV (z := mX8_worstAt) (ci := 8) dX8_reckonLook_32 lX8_136 qX8_worstAt (by rfl) (by rfl) (by rfl) (by rfl) (Nat.le_of_ble_eq_true rfl) (s_worstAt (F := F) (no := no) (h := k + 1) (by omega) ((i1 3 1 (by omega) (by omega)).trans hno) hno8 (fun s hs => (i1 132 s (by omega) (by omega)).trans (hF s hs)) (fun s hs hf => by rw [gr]; exact hC (k + 1) (by omega) s hs hf)) (fun r32 μ32 e32 => ?_)
        obtain ⟨rfl, f9, rfl⟩ := e32
        rw [gr]
        refine bc_istore_n dX8_reckonLook_35 (by decide) rfl ?_
        refine bc_aload_n dX8_reckonLook_36 rfl ?_
        refine bc_geti dX8_reckonLook_37 fX8_130 (rfl) rfl ?_
        refine bc_iconst (v := (-1)) dX8_reckonLook_40 (by decide) ?_
        refine bc_icmp_eq (tgt := 52) dX8_reckonLook_41 (by decide) (fun h41 => ?_) (fun h41 => ?_)
        · refine bc_aload_n dX8_reckonLook_52 rfl ?_
          refine bc_iload_n dX8_reckonLook_53 rfl ?_
          refine bc_put dX8_reckonLook_54 fX8_130 ftX8 fpX8_12 rfl rfl (rfl) rfl ?_
          refine bc_aload_n dX8_reckonLook_57 rfl ?_
          refine bc_iload_n dX8_reckonLook_58 rfl ?_
          refine bc_put dX8_reckonLook_59 fX8_133 ftX8 fpX8_13 rfl rfl (rfl) rfl ?_
          refine bc_iinc1 dX8_reckonLook_62 rfl (by decide) rfl ?_
          refine bc_goto (tgt := 12) dX8_reckonLook_65 (by decide) ?_
          rw [bn_add1]
          have hc : μ 29 (k + 1) = -1 ∧ ((lkM μ F no k).1 = -1 ∨ woM F (μ (119 + (k + 1))) (2 ^ no) < (lkM μ F no k).2) := ⟨g29.symm.trans h27, Or.inl (i2.symm.trans h41)⟩
          refine ih (k + 1) _ _ (by omega) ⟨fun i j a1 a2 => ?_, ?_, ?_⟩
          · rw [bc_u_r, if_neg (by omega), bc_u_r, if_neg (by omega), bc_us_r, if_neg a1]; exact i1 i j a1 a2
          · rw [bc_u_r, if_neg (by omega), bc_u_r, if_pos ⟨rfl, rfl⟩, lkM, if_pos hc]
          · rw [bc_u_r, if_pos ⟨rfl, rfl⟩, lkM, if_pos hc]
        · refine bc_iload_n dX8_reckonLook_44 rfl ?_
          refine bc_aload_n dX8_reckonLook_45 rfl ?_
          refine bc_geti dX8_reckonLook_46 fX8_133 (rfl) rfl ?_
          refine bc_icmp_ge (tgt := 62) dX8_reckonLook_49 (by decide) (fun h49 => ?_) (fun h49 => ?_)
          · refine bc_iinc1 dX8_reckonLook_62 rfl (by decide) rfl ?_
            refine bc_goto (tgt := 12) dX8_reckonLook_65 (by decide) ?_
            rw [bn_add1]
            have hc : ¬ (μ 29 (k + 1) = -1 ∧ ((lkM μ F no k).1 = -1 ∨ woM F (μ (119 + (k + 1))) (2 ^ no) < (lkM μ F no k).2)) := fun q => by
              rcases q.2 with q | q
              · exact h41 (i2.trans q)
              · have z : (lkM μ F no k).2 ≤ woM F (μ (119 + (k + 1))) (2 ^ no) := by rw [← i3]; exact h49
                rw [bn_le] at z
                rw [bn_lt] at q
                omega
            refine ih (k + 1) _ _ (by omega) ⟨fun i j a1 a2 => ?_, ?_, ?_⟩
            · rw [bc_us_r, if_neg a1]; exact i1 i j a1 a2
            · rw [bc_us_r, if_neg (by omega), lkM, if_neg hc]; exact i2
            · rw [bc_us_r, if_neg (by omega), lkM, if_neg hc]; exact i3
          · refine bc_aload_n dX8_reckonLook_52 rfl ?_
            refine bc_iload_n dX8_reckonLook_53 rfl ?_
            refine bc_put dX8_reckonLook_54 fX8_130 ftX8 fpX8_12 rfl rfl (rfl) rfl ?_
            refine bc_aload_n dX8_reckonLook_57 rfl ?_
            refine bc_iload_n dX8_reckonLook_58 rfl ?_
            refine bc_put dX8_reckonLook_59 fX8_133 ftX8 fpX8_13 rfl rfl (rfl) rfl ?_
            refine bc_iinc1 dX8_reckonLook_62 rfl (by decide) rfl ?_
            refine bc_goto (tgt := 12) dX8_reckonLook_65 (by decide) ?_
            rw [bn_add1]
            have hc : μ 29 (k + 1) = -1 ∧ ((lkM μ F no k).1 = -1 ∨ woM F (μ (119 + (k + 1))) (2 ^ no) < (lkM μ F no k).2) := ⟨g29.symm.trans h27, Or.inr (by rw [← i3]; exact bn_nle h49)⟩
            refine ih (k + 1) _ _ (by omega) ⟨fun i j a1 a2 => ?_, ?_, ?_⟩
            · rw [bc_u_r, if_neg (by omega), bc_u_r, if_neg (by omega), bc_us_r, if_neg a1]; exact i1 i j a1 a2
            · rw [bc_u_r, if_neg (by omega), bc_u_r, if_pos ⟨rfl, rfl⟩, lkM, if_pos hc]
            · rw [bc_u_r, if_pos ⟨rfl, rfl⟩, lkM, if_pos hc]
  refine bc_aload_n dX8_reckonLook_0 rfl ?_
  refine bc_iconst (v := (-1)) dX8_reckonLook_1 (by decide) ?_
  refine bc_put dX8_reckonLook_2 fX8_130 ftX8 fpX8_12 rfl rfl (rfl) rfl ?_
  refine bc_aload_n dX8_reckonLook_5 rfl ?_
  refine bc_iconst (v := (-1)) dX8_reckonLook_6 (by decide) ?_
  refine bc_put dX8_reckonLook_7 fX8_133 ftX8 fpX8_13 rfl rfl (rfl) rfl ?_
  refine bc_iconst (v := 1) dX8_reckonLook_10 (by decide) ?_
  refine bc_istore_n dX8_reckonLook_11 (by decide) rfl ?_
  refine loop 12 0 .null _ rfl ⟨fun i j a1 a2 => ?_, ?_, ?_⟩
  · rw [bc_u_r, if_neg (by omega), bc_u_r, if_neg (by omega)]
  · rw [bc_u_r, if_neg (by omega), bc_u_r, if_pos ⟨rfl, rfl⟩]; rfl
  · rw [bc_u_r, if_pos ⟨rfl, rfl⟩]; rfl
